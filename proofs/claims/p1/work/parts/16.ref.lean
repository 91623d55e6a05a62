set_option maxHeartbeats 4000000 in
set_option maxRecDepth 100000 in
/-- the reference: its rows -/
theorem c_X7_init (l : Launch) (D : va_G) (g : Nat → ClassId) (sz : Nat) (m_ : Nat) : Met l yX7_init wsX7_init ({ frames := 1, cells := 13, slots := 3753, locals := 20 }) (va_Pc [.ref m_] (pre D g sz [(m_, .inr (7, [.int 0, .null, .int 0, .int 0, .int 0, .null, .null, .null, .int 0, .int 0, .null, .null, .null, .null, .int 0, .int 0, .null, .null, .null, .null, .null]))])) (va_Qv (fun (u : va_W) => ∃ (mt : Nat) (mrr : Nat) (mrh : Nat) (mrc : Nat) (mn : Nat) (mf : Nat) (mr : Nat) (mh : Nat) (ma : Nat) (mas : Nat) (msn : Nat) (mac : Nat) (mat : Nat), u = [(m_, .inr (7, [.int 0, .ref mt, .int 0, .int 0, .int 0, .ref mrr, .ref mrh, .ref mrc, .int 0, .int 0, .ref mn, .ref mf, .ref mr, .ref mh, .int 0, .int 0, .ref ma, .ref mas, .ref msn, .ref mac, .ref mat])), (mt, .inl (g 0, 160, .inl (fun _ => 0))), (mrr, .inl (g 0, 3, .inl (fun _ => 0))), (mrh, .inl (g 0, 9, .inl (fun _ => 0))), (mrc, .inl (g 0, 9, .inl (fun _ => 0))), (mn, .inl (g 0, 1767, .inl (fun _ => 0))), (mf, .inl (g 0, 4, .inl (fun _ => 0))), (mr, .inl (g 0, 3, .inl (fun _ => 0))), (mh, .inl (g 0, 9, .inl (fun _ => 0))), (ma, .inl (g 0, 3, .inl (fun _ => 0))), (mas, .inl (g 0, 1767, .inl (fun _ => 0))), (msn, .inl (g 0, 3, .inl (fun _ => 0))), (mac, .inl (g 0, 8, .inl (fun _ => 0))), (mat, .inl (g 0, 8, .inl (fun _ => 0)))]) (wd D (va_A [(m_, .inr (7, [.int 0, .null, .int 0, .int 0, .int 0, .null, .null, .null, .int 0, .int 0, .null, .null, .null, .null, .int 0, .int 0, .null, .null, .null, .null, .null]))] sz)) (va_A [(m_, .inr (7, [.int 0, .null, .int 0, .int 0, .int 0, .null, .null, .null, .int 0, .int 0, .null, .null, .null, .null, .int 0, .int 0, .null, .null, .null, .null, .null]))] sz)) 13 3753 (va_A [(m_, .inr (7, [.int 0, .null, .int 0, .int 0, .int 0, .null, .null, .null, .int 0, .int 0, .null, .null, .null, .null, .int 0, .int 0, .null, .null, .null, .null, .null]))] sz) := by
  refine Met.ofW (cc := cX7_init) (maxL := 1) (ret := none) (by decide) rfl ?_
  intro p e s m args below meth c s₁ B hml hv
  obtain ⟨rfl, hsz, hP, ⟨hK, hN⟩, hD0, hZ⟩ := hv
  have hx := B.exec
  have hb := B.bytes
  have hr := B.returns
  have hts := atoms_spec (ws := wsX7_init) B.pre
  have hown : s.vm.findClass RX7 = some m.cls := findClass_of_methodNamed B.named
  have hlocks := B.notSynchronized
  have hin : meth.name = "<init>" := (name_of_methodNamed B.named B.method).1
  clear B
  subst hsz
  have hD := hD0.self (sz := s.heap.size)
  clear hD0
  generalize hAe : va_A [(m_, .inr (7, [.int 0, .null, .int 0, .int 0, .int 0, .null, .null, .null, .int 0, .int 0, .null, .null, .null, .null, .int 0, .int 0, .null, .null, .null, .null, .null]))] s.heap.size = A at hD hZ ⊢
  have hA : ∀ q : Nat, s.heap.size ≤ q → A q := fun q h => by rw [← hAe]; exact Or.inr h
  have hS : va_S A s.heap s.heap [] := va_S.rf
  have ac_int := hts (.arrayClass .int) (by decide +kernel)
  have f13 := hts (.fieldLink RX7 13 "HopCreditsModel" "readRule" "[I") (by decide +kernel)
  have f16 := hts (.fieldLink RX7 16 "HopCreditsModel" "readHop" "[I") (by decide +kernel)
  have f19 := hts (.fieldLink RX7 19 "HopCreditsModel" "readCircuit" "[I") (by decide +kernel)
  have f22 := hts (.fieldLink RX7 22 "HopCreditsModel" "now" "[I") (by decide +kernel)
  have f25 := hts (.fieldLink RX7 25 "HopCreditsModel" "refused" "[I") (by decide +kernel)
  have f28 := hts (.fieldLink RX7 28 "HopCreditsModel" "rule" "[I") (by decide +kernel)
  have f31 := hts (.fieldLink RX7 31 "HopCreditsModel" "hop" "[I") (by decide +kernel)
  have f34 := hts (.fieldLink RX7 34 "HopCreditsModel" "aims" "[I") (by decide +kernel)
  have f37 := hts (.fieldLink RX7 37 "HopCreditsModel" "aside" "[I") (by decide +kernel)
  have f40 := hts (.fieldLink RX7 40 "HopCreditsModel" "sentNow" "[I") (by decide +kernel)
  have f43 := hts (.fieldLink RX7 43 "HopCreditsModel" "aloneCell" "[I") (by decide +kernel)
  have f46 := hts (.fieldLink RX7 46 "HopCreditsModel" "aloneTold" "[I") (by decide +kernel)
  have f9 := hts (.fieldLink RX7 9 "HopCreditsModel" "tape" "[I") (by decide +kernel)
  have oi := hts (.methodLink RX7 3 objectInit) (by decide +kernel)
  have oj := hts (.instanceMethod objectInit) (by decide +kernel)
  have ok := hts (.code objectInit ⟨#[0xb1]⟩ 1 none) (by decide +kernel)
  have iX7 : ∀ w ∈ u_ws RX7 TX7 21, w ∈ wsX7_init := by decide +kernel
  have hl := lv_entry ([.ref m_]) (n := 1) (Nat.le_of_ble_eq_true rfl)
  rw [lg_entry_eq]
  generalize (lg_sl ([.ref m_]) ++ List.replicate (1 - (lg_sl ([.ref m_])).length) Slot.unset).toArray = ls at hl ⊢
  have hl : lv_has ls 1 [(0, .ref m_)] := hl
  generalize hQ : MQ below _ _ s _ _ _ = Q
  generalize hH : s.heap = H at hP ⊢
  have hS : va_S A s.heap H [] := by rw [← hH]; exact hS
  clear hH
  refine lv_aload_n hx hb dX7_init_0 rfl (lv_at hl 0 rfl) ?_
  refine W.objInit hx hb hown oi oj ok rfl (by rw [hml]; exact hl.1) rfl dX7_init_1 (Nat.le_of_ble_eq_true rfl) (Nat.le_of_ble_eq_true rfl) ?_
  refine W.eq (g2 := F0 m 4 ls []) rfl ?_
  refine lv_aload_n hx hb dX7_init_4 rfl (lv_at hl 0 rfl) ?_
  refine lv_sipush (v := 160) hx hb dX7_init_5 (by decide) ?_
  refine ky_newa hx hb ac_int hK hP hD hS hA (N := 160) (by decide) (by decide) (by decide) (Nat.le_of_ble_eq_true rfl) (Nat.le_of_ble_eq_true rfl) dX7_init_8 (fun qa_1 H hP hD hS => ?_)
  have hP : va_P D vwCl [(m_, .inr (7, [.int 0, .null, .int 0, .int 0, .int 0, .null, .null, .null, .int 0, .int 0, .null, .null, .null, .null, .int 0, .int 0, .null, .null, .null, .null, .null])), (qa_1, .inl (g 0, 160, .inl (fun _ => 0)))] H := hP
  have hD : va_D A [(m_, .inr (7, [.int 0, .null, .int 0, .int 0, .int 0, .null, .null, .null, .int 0, .int 0, .null, .null, .null, .null, .int 0, .int 0, .null, .null, .null, .null, .null])), (qa_1, .inl (g 0, 160, .inl (fun _ => 0)))] := hD
  refine W.widen (k := 1) (n := 160) (Nat.le_of_ble_eq_true rfl) (Nat.le_of_ble_eq_true rfl) ?_
  refine va_putF (D := D) (ci := 7) (v := .ref qa_1) (ty := (.array .int)) (C := RX7) (T := TX7) (N := 21) hx hb hts iX7 tyX7 tyX7_ok nmX7 hown hK hP hD hS 0 rfl rfl 1 (by decide) f9 (fun _ h9 => h9) rfl hin rfl (by decide +kernel) (rfl) (rfl) (Nat.le_of_ble_eq_true rfl) dX7_init_10 (fun H locs hP hD hS => ?_)
  have hP : va_P D vwCl [(m_, .inr (7, [.int 0, .ref qa_1, .int 0, .int 0, .int 0, .null, .null, .null, .int 0, .int 0, .null, .null, .null, .null, .int 0, .int 0, .null, .null, .null, .null, .null])), (qa_1, .inl (g 0, 160, .inl (fun _ => 0)))] H := hP
  have hD : va_D A [(m_, .inr (7, [.int 0, .ref qa_1, .int 0, .int 0, .int 0, .null, .null, .null, .int 0, .int 0, .null, .null, .null, .null, .int 0, .int 0, .null, .null, .null, .null, .null])), (qa_1, .inl (g 0, 160, .inl (fun _ => 0)))] := hD
  refine lv_aload_n hx hb dX7_init_13 rfl (lv_at hl 0 rfl) ?_
  refine lv_iconst (v := 3) hx hb dX7_init_14 (by decide) ?_
  refine ky_newa hx hb ac_int hK hP hD hS hA (N := 3) (by decide) (by decide) (by decide) (Nat.le_of_ble_eq_true rfl) (Nat.le_of_ble_eq_true rfl) dX7_init_15 (fun qa_2 H hP hD hS => ?_)
  have hP : va_P D vwCl [(m_, .inr (7, [.int 0, .ref qa_1, .int 0, .int 0, .int 0, .null, .null, .null, .int 0, .int 0, .null, .null, .null, .null, .int 0, .int 0, .null, .null, .null, .null, .null])), (qa_1, .inl (g 0, 160, .inl (fun _ => 0))), (qa_2, .inl (g 0, 3, .inl (fun _ => 0)))] H := hP
  have hD : va_D A [(m_, .inr (7, [.int 0, .ref qa_1, .int 0, .int 0, .int 0, .null, .null, .null, .int 0, .int 0, .null, .null, .null, .null, .int 0, .int 0, .null, .null, .null, .null, .null])), (qa_1, .inl (g 0, 160, .inl (fun _ => 0))), (qa_2, .inl (g 0, 3, .inl (fun _ => 0)))] := hD
  refine W.widen (k := 2) (n := 163) (Nat.le_of_ble_eq_true rfl) (Nat.le_of_ble_eq_true rfl) ?_
  refine va_putF (D := D) (ci := 7) (v := .ref qa_2) (ty := (.array .int)) (C := RX7) (T := TX7) (N := 21) hx hb hts iX7 tyX7 tyX7_ok nmX7 hown hK hP hD hS 0 rfl rfl 5 (by decide) f13 (fun _ h9 => h9) rfl hin rfl (by decide +kernel) (rfl) (rfl) (Nat.le_of_ble_eq_true rfl) dX7_init_17 (fun H locs hP hD hS => ?_)
  have hP : va_P D vwCl [(m_, .inr (7, [.int 0, .ref qa_1, .int 0, .int 0, .int 0, .ref qa_2, .null, .null, .int 0, .int 0, .null, .null, .null, .null, .int 0, .int 0, .null, .null, .null, .null, .null])), (qa_1, .inl (g 0, 160, .inl (fun _ => 0))), (qa_2, .inl (g 0, 3, .inl (fun _ => 0)))] H := hP
  have hD : va_D A [(m_, .inr (7, [.int 0, .ref qa_1, .int 0, .int 0, .int 0, .ref qa_2, .null, .null, .int 0, .int 0, .null, .null, .null, .null, .int 0, .int 0, .null, .null, .null, .null, .null])), (qa_1, .inl (g 0, 160, .inl (fun _ => 0))), (qa_2, .inl (g 0, 3, .inl (fun _ => 0)))] := hD
  refine lv_aload_n hx hb dX7_init_20 rfl (lv_at hl 0 rfl) ?_
  refine lv_bipush (v := 9) hx hb dX7_init_21 (by decide) ?_
  refine ky_newa hx hb ac_int hK hP hD hS hA (N := 9) (by decide) (by decide) (by decide) (Nat.le_of_ble_eq_true rfl) (Nat.le_of_ble_eq_true rfl) dX7_init_23 (fun qa_3 H hP hD hS => ?_)
  have hP : va_P D vwCl [(m_, .inr (7, [.int 0, .ref qa_1, .int 0, .int 0, .int 0, .ref qa_2, .null, .null, .int 0, .int 0, .null, .null, .null, .null, .int 0, .int 0, .null, .null, .null, .null, .null])), (qa_1, .inl (g 0, 160, .inl (fun _ => 0))), (qa_2, .inl (g 0, 3, .inl (fun _ => 0))), (qa_3, .inl (g 0, 9, .inl (fun _ => 0)))] H := hP
  have hD : va_D A [(m_, .inr (7, [.int 0, .ref qa_1, .int 0, .int 0, .int 0, .ref qa_2, .null, .null, .int 0, .int 0, .null, .null, .null, .null, .int 0, .int 0, .null, .null, .null, .null, .null])), (qa_1, .inl (g 0, 160, .inl (fun _ => 0))), (qa_2, .inl (g 0, 3, .inl (fun _ => 0))), (qa_3, .inl (g 0, 9, .inl (fun _ => 0)))] := hD
  refine W.widen (k := 3) (n := 172) (Nat.le_of_ble_eq_true rfl) (Nat.le_of_ble_eq_true rfl) ?_
  refine va_putF (D := D) (ci := 7) (v := .ref qa_3) (ty := (.array .int)) (C := RX7) (T := TX7) (N := 21) hx hb hts iX7 tyX7 tyX7_ok nmX7 hown hK hP hD hS 0 rfl rfl 6 (by decide) f16 (fun _ h9 => h9) rfl hin rfl (by decide +kernel) (rfl) (rfl) (Nat.le_of_ble_eq_true rfl) dX7_init_25 (fun H locs hP hD hS => ?_)
  have hP : va_P D vwCl [(m_, .inr (7, [.int 0, .ref qa_1, .int 0, .int 0, .int 0, .ref qa_2, .ref qa_3, .null, .int 0, .int 0, .null, .null, .null, .null, .int 0, .int 0, .null, .null, .null, .null, .null])), (qa_1, .inl (g 0, 160, .inl (fun _ => 0))), (qa_2, .inl (g 0, 3, .inl (fun _ => 0))), (qa_3, .inl (g 0, 9, .inl (fun _ => 0)))] H := hP
  have hD : va_D A [(m_, .inr (7, [.int 0, .ref qa_1, .int 0, .int 0, .int 0, .ref qa_2, .ref qa_3, .null, .int 0, .int 0, .null, .null, .null, .null, .int 0, .int 0, .null, .null, .null, .null, .null])), (qa_1, .inl (g 0, 160, .inl (fun _ => 0))), (qa_2, .inl (g 0, 3, .inl (fun _ => 0))), (qa_3, .inl (g 0, 9, .inl (fun _ => 0)))] := hD
  refine lv_aload_n hx hb dX7_init_28 rfl (lv_at hl 0 rfl) ?_
  refine lv_bipush (v := 9) hx hb dX7_init_29 (by decide) ?_
  refine ky_newa hx hb ac_int hK hP hD hS hA (N := 9) (by decide) (by decide) (by decide) (Nat.le_of_ble_eq_true rfl) (Nat.le_of_ble_eq_true rfl) dX7_init_31 (fun qa_4 H hP hD hS => ?_)
  have hP : va_P D vwCl [(m_, .inr (7, [.int 0, .ref qa_1, .int 0, .int 0, .int 0, .ref qa_2, .ref qa_3, .null, .int 0, .int 0, .null, .null, .null, .null, .int 0, .int 0, .null, .null, .null, .null, .null])), (qa_1, .inl (g 0, 160, .inl (fun _ => 0))), (qa_2, .inl (g 0, 3, .inl (fun _ => 0))), (qa_3, .inl (g 0, 9, .inl (fun _ => 0))), (qa_4, .inl (g 0, 9, .inl (fun _ => 0)))] H := hP
  have hD : va_D A [(m_, .inr (7, [.int 0, .ref qa_1, .int 0, .int 0, .int 0, .ref qa_2, .ref qa_3, .null, .int 0, .int 0, .null, .null, .null, .null, .int 0, .int 0, .null, .null, .null, .null, .null])), (qa_1, .inl (g 0, 160, .inl (fun _ => 0))), (qa_2, .inl (g 0, 3, .inl (fun _ => 0))), (qa_3, .inl (g 0, 9, .inl (fun _ => 0))), (qa_4, .inl (g 0, 9, .inl (fun _ => 0)))] := hD
  refine W.widen (k := 4) (n := 181) (Nat.le_of_ble_eq_true rfl) (Nat.le_of_ble_eq_true rfl) ?_
  refine va_putF (D := D) (ci := 7) (v := .ref qa_4) (ty := (.array .int)) (C := RX7) (T := TX7) (N := 21) hx hb hts iX7 tyX7 tyX7_ok nmX7 hown hK hP hD hS 0 rfl rfl 7 (by decide) f19 (fun _ h9 => h9) rfl hin rfl (by decide +kernel) (rfl) (rfl) (Nat.le_of_ble_eq_true rfl) dX7_init_33 (fun H locs hP hD hS => ?_)
  have hP : va_P D vwCl [(m_, .inr (7, [.int 0, .ref qa_1, .int 0, .int 0, .int 0, .ref qa_2, .ref qa_3, .ref qa_4, .int 0, .int 0, .null, .null, .null, .null, .int 0, .int 0, .null, .null, .null, .null, .null])), (qa_1, .inl (g 0, 160, .inl (fun _ => 0))), (qa_2, .inl (g 0, 3, .inl (fun _ => 0))), (qa_3, .inl (g 0, 9, .inl (fun _ => 0))), (qa_4, .inl (g 0, 9, .inl (fun _ => 0)))] H := hP
  have hD : va_D A [(m_, .inr (7, [.int 0, .ref qa_1, .int 0, .int 0, .int 0, .ref qa_2, .ref qa_3, .ref qa_4, .int 0, .int 0, .null, .null, .null, .null, .int 0, .int 0, .null, .null, .null, .null, .null])), (qa_1, .inl (g 0, 160, .inl (fun _ => 0))), (qa_2, .inl (g 0, 3, .inl (fun _ => 0))), (qa_3, .inl (g 0, 9, .inl (fun _ => 0))), (qa_4, .inl (g 0, 9, .inl (fun _ => 0)))] := hD
  refine lv_aload_n hx hb dX7_init_36 rfl (lv_at hl 0 rfl) ?_
  refine lv_sipush (v := 1767) hx hb dX7_init_37 (by decide) ?_
  refine ky_newa hx hb ac_int hK hP hD hS hA (N := 1767) (by decide) (by decide) (by decide) (Nat.le_of_ble_eq_true rfl) (Nat.le_of_ble_eq_true rfl) dX7_init_40 (fun qa_5 H hP hD hS => ?_)
  have hP : va_P D vwCl [(m_, .inr (7, [.int 0, .ref qa_1, .int 0, .int 0, .int 0, .ref qa_2, .ref qa_3, .ref qa_4, .int 0, .int 0, .null, .null, .null, .null, .int 0, .int 0, .null, .null, .null, .null, .null])), (qa_1, .inl (g 0, 160, .inl (fun _ => 0))), (qa_2, .inl (g 0, 3, .inl (fun _ => 0))), (qa_3, .inl (g 0, 9, .inl (fun _ => 0))), (qa_4, .inl (g 0, 9, .inl (fun _ => 0))), (qa_5, .inl (g 0, 1767, .inl (fun _ => 0)))] H := hP
  have hD : va_D A [(m_, .inr (7, [.int 0, .ref qa_1, .int 0, .int 0, .int 0, .ref qa_2, .ref qa_3, .ref qa_4, .int 0, .int 0, .null, .null, .null, .null, .int 0, .int 0, .null, .null, .null, .null, .null])), (qa_1, .inl (g 0, 160, .inl (fun _ => 0))), (qa_2, .inl (g 0, 3, .inl (fun _ => 0))), (qa_3, .inl (g 0, 9, .inl (fun _ => 0))), (qa_4, .inl (g 0, 9, .inl (fun _ => 0))), (qa_5, .inl (g 0, 1767, .inl (fun _ => 0)))] := hD
  refine W.widen (k := 5) (n := 1948) (Nat.le_of_ble_eq_true rfl) (Nat.le_of_ble_eq_true rfl) ?_
  refine va_putF (D := D) (ci := 7) (v := .ref qa_5) (ty := (.array .int)) (C := RX7) (T := TX7) (N := 21) hx hb hts iX7 tyX7 tyX7_ok nmX7 hown hK hP hD hS 0 rfl rfl 10 (by decide) f22 (fun _ h9 => h9) rfl hin rfl (by decide +kernel) (rfl) (rfl) (Nat.le_of_ble_eq_true rfl) dX7_init_42 (fun H locs hP hD hS => ?_)
  have hP : va_P D vwCl [(m_, .inr (7, [.int 0, .ref qa_1, .int 0, .int 0, .int 0, .ref qa_2, .ref qa_3, .ref qa_4, .int 0, .int 0, .ref qa_5, .null, .null, .null, .int 0, .int 0, .null, .null, .null, .null, .null])), (qa_1, .inl (g 0, 160, .inl (fun _ => 0))), (qa_2, .inl (g 0, 3, .inl (fun _ => 0))), (qa_3, .inl (g 0, 9, .inl (fun _ => 0))), (qa_4, .inl (g 0, 9, .inl (fun _ => 0))), (qa_5, .inl (g 0, 1767, .inl (fun _ => 0)))] H := hP
  have hD : va_D A [(m_, .inr (7, [.int 0, .ref qa_1, .int 0, .int 0, .int 0, .ref qa_2, .ref qa_3, .ref qa_4, .int 0, .int 0, .ref qa_5, .null, .null, .null, .int 0, .int 0, .null, .null, .null, .null, .null])), (qa_1, .inl (g 0, 160, .inl (fun _ => 0))), (qa_2, .inl (g 0, 3, .inl (fun _ => 0))), (qa_3, .inl (g 0, 9, .inl (fun _ => 0))), (qa_4, .inl (g 0, 9, .inl (fun _ => 0))), (qa_5, .inl (g 0, 1767, .inl (fun _ => 0)))] := hD
  refine lv_aload_n hx hb dX7_init_45 rfl (lv_at hl 0 rfl) ?_
  refine lv_iconst (v := 4) hx hb dX7_init_46 (by decide) ?_
  refine ky_newa hx hb ac_int hK hP hD hS hA (N := 4) (by decide) (by decide) (by decide) (Nat.le_of_ble_eq_true rfl) (Nat.le_of_ble_eq_true rfl) dX7_init_47 (fun qa_6 H hP hD hS => ?_)
  have hP : va_P D vwCl [(m_, .inr (7, [.int 0, .ref qa_1, .int 0, .int 0, .int 0, .ref qa_2, .ref qa_3, .ref qa_4, .int 0, .int 0, .ref qa_5, .null, .null, .null, .int 0, .int 0, .null, .null, .null, .null, .null])), (qa_1, .inl (g 0, 160, .inl (fun _ => 0))), (qa_2, .inl (g 0, 3, .inl (fun _ => 0))), (qa_3, .inl (g 0, 9, .inl (fun _ => 0))), (qa_4, .inl (g 0, 9, .inl (fun _ => 0))), (qa_5, .inl (g 0, 1767, .inl (fun _ => 0))), (qa_6, .inl (g 0, 4, .inl (fun _ => 0)))] H := hP
  have hD : va_D A [(m_, .inr (7, [.int 0, .ref qa_1, .int 0, .int 0, .int 0, .ref qa_2, .ref qa_3, .ref qa_4, .int 0, .int 0, .ref qa_5, .null, .null, .null, .int 0, .int 0, .null, .null, .null, .null, .null])), (qa_1, .inl (g 0, 160, .inl (fun _ => 0))), (qa_2, .inl (g 0, 3, .inl (fun _ => 0))), (qa_3, .inl (g 0, 9, .inl (fun _ => 0))), (qa_4, .inl (g 0, 9, .inl (fun _ => 0))), (qa_5, .inl (g 0, 1767, .inl (fun _ => 0))), (qa_6, .inl (g 0, 4, .inl (fun _ => 0)))] := hD
  refine W.widen (k := 6) (n := 1952) (Nat.le_of_ble_eq_true rfl) (Nat.le_of_ble_eq_true rfl) ?_
  refine va_putF (D := D) (ci := 7) (v := .ref qa_6) (ty := (.array .int)) (C := RX7) (T := TX7) (N := 21) hx hb hts iX7 tyX7 tyX7_ok nmX7 hown hK hP hD hS 0 rfl rfl 11 (by decide) f25 (fun _ h9 => h9) rfl hin rfl (by decide +kernel) (rfl) (rfl) (Nat.le_of_ble_eq_true rfl) dX7_init_49 (fun H locs hP hD hS => ?_)
  have hP : va_P D vwCl [(m_, .inr (7, [.int 0, .ref qa_1, .int 0, .int 0, .int 0, .ref qa_2, .ref qa_3, .ref qa_4, .int 0, .int 0, .ref qa_5, .ref qa_6, .null, .null, .int 0, .int 0, .null, .null, .null, .null, .null])), (qa_1, .inl (g 0, 160, .inl (fun _ => 0))), (qa_2, .inl (g 0, 3, .inl (fun _ => 0))), (qa_3, .inl (g 0, 9, .inl (fun _ => 0))), (qa_4, .inl (g 0, 9, .inl (fun _ => 0))), (qa_5, .inl (g 0, 1767, .inl (fun _ => 0))), (qa_6, .inl (g 0, 4, .inl (fun _ => 0)))] H := hP
  have hD : va_D A [(m_, .inr (7, [.int 0, .ref qa_1, .int 0, .int 0, .int 0, .ref qa_2, .ref qa_3, .ref qa_4, .int 0, .int 0, .ref qa_5, .ref qa_6, .null, .null, .int 0, .int 0, .null, .null, .null, .null, .null])), (qa_1, .inl (g 0, 160, .inl (fun _ => 0))), (qa_2, .inl (g 0, 3, .inl (fun _ => 0))), (qa_3, .inl (g 0, 9, .inl (fun _ => 0))), (qa_4, .inl (g 0, 9, .inl (fun _ => 0))), (qa_5, .inl (g 0, 1767, .inl (fun _ => 0))), (qa_6, .inl (g 0, 4, .inl (fun _ => 0)))] := hD
  refine lv_aload_n hx hb dX7_init_52 rfl (lv_at hl 0 rfl) ?_
  refine lv_iconst (v := 3) hx hb dX7_init_53 (by decide) ?_
  refine ky_newa hx hb ac_int hK hP hD hS hA (N := 3) (by decide) (by decide) (by decide) (Nat.le_of_ble_eq_true rfl) (Nat.le_of_ble_eq_true rfl) dX7_init_54 (fun qa_7 H hP hD hS => ?_)
  have hP : va_P D vwCl [(m_, .inr (7, [.int 0, .ref qa_1, .int 0, .int 0, .int 0, .ref qa_2, .ref qa_3, .ref qa_4, .int 0, .int 0, .ref qa_5, .ref qa_6, .null, .null, .int 0, .int 0, .null, .null, .null, .null, .null])), (qa_1, .inl (g 0, 160, .inl (fun _ => 0))), (qa_2, .inl (g 0, 3, .inl (fun _ => 0))), (qa_3, .inl (g 0, 9, .inl (fun _ => 0))), (qa_4, .inl (g 0, 9, .inl (fun _ => 0))), (qa_5, .inl (g 0, 1767, .inl (fun _ => 0))), (qa_6, .inl (g 0, 4, .inl (fun _ => 0))), (qa_7, .inl (g 0, 3, .inl (fun _ => 0)))] H := hP
  have hD : va_D A [(m_, .inr (7, [.int 0, .ref qa_1, .int 0, .int 0, .int 0, .ref qa_2, .ref qa_3, .ref qa_4, .int 0, .int 0, .ref qa_5, .ref qa_6, .null, .null, .int 0, .int 0, .null, .null, .null, .null, .null])), (qa_1, .inl (g 0, 160, .inl (fun _ => 0))), (qa_2, .inl (g 0, 3, .inl (fun _ => 0))), (qa_3, .inl (g 0, 9, .inl (fun _ => 0))), (qa_4, .inl (g 0, 9, .inl (fun _ => 0))), (qa_5, .inl (g 0, 1767, .inl (fun _ => 0))), (qa_6, .inl (g 0, 4, .inl (fun _ => 0))), (qa_7, .inl (g 0, 3, .inl (fun _ => 0)))] := hD
  refine W.widen (k := 7) (n := 1955) (Nat.le_of_ble_eq_true rfl) (Nat.le_of_ble_eq_true rfl) ?_
  refine va_putF (D := D) (ci := 7) (v := .ref qa_7) (ty := (.array .int)) (C := RX7) (T := TX7) (N := 21) hx hb hts iX7 tyX7 tyX7_ok nmX7 hown hK hP hD hS 0 rfl rfl 12 (by decide) f28 (fun _ h9 => h9) rfl hin rfl (by decide +kernel) (rfl) (rfl) (Nat.le_of_ble_eq_true rfl) dX7_init_56 (fun H locs hP hD hS => ?_)
  have hP : va_P D vwCl [(m_, .inr (7, [.int 0, .ref qa_1, .int 0, .int 0, .int 0, .ref qa_2, .ref qa_3, .ref qa_4, .int 0, .int 0, .ref qa_5, .ref qa_6, .ref qa_7, .null, .int 0, .int 0, .null, .null, .null, .null, .null])), (qa_1, .inl (g 0, 160, .inl (fun _ => 0))), (qa_2, .inl (g 0, 3, .inl (fun _ => 0))), (qa_3, .inl (g 0, 9, .inl (fun _ => 0))), (qa_4, .inl (g 0, 9, .inl (fun _ => 0))), (qa_5, .inl (g 0, 1767, .inl (fun _ => 0))), (qa_6, .inl (g 0, 4, .inl (fun _ => 0))), (qa_7, .inl (g 0, 3, .inl (fun _ => 0)))] H := hP
  have hD : va_D A [(m_, .inr (7, [.int 0, .ref qa_1, .int 0, .int 0, .int 0, .ref qa_2, .ref qa_3, .ref qa_4, .int 0, .int 0, .ref qa_5, .ref qa_6, .ref qa_7, .null, .int 0, .int 0, .null, .null, .null, .null, .null])), (qa_1, .inl (g 0, 160, .inl (fun _ => 0))), (qa_2, .inl (g 0, 3, .inl (fun _ => 0))), (qa_3, .inl (g 0, 9, .inl (fun _ => 0))), (qa_4, .inl (g 0, 9, .inl (fun _ => 0))), (qa_5, .inl (g 0, 1767, .inl (fun _ => 0))), (qa_6, .inl (g 0, 4, .inl (fun _ => 0))), (qa_7, .inl (g 0, 3, .inl (fun _ => 0)))] := hD
  refine lv_aload_n hx hb dX7_init_59 rfl (lv_at hl 0 rfl) ?_
  refine lv_bipush (v := 9) hx hb dX7_init_60 (by decide) ?_
  refine ky_newa hx hb ac_int hK hP hD hS hA (N := 9) (by decide) (by decide) (by decide) (Nat.le_of_ble_eq_true rfl) (Nat.le_of_ble_eq_true rfl) dX7_init_62 (fun qa_8 H hP hD hS => ?_)
  have hP : va_P D vwCl [(m_, .inr (7, [.int 0, .ref qa_1, .int 0, .int 0, .int 0, .ref qa_2, .ref qa_3, .ref qa_4, .int 0, .int 0, .ref qa_5, .ref qa_6, .ref qa_7, .null, .int 0, .int 0, .null, .null, .null, .null, .null])), (qa_1, .inl (g 0, 160, .inl (fun _ => 0))), (qa_2, .inl (g 0, 3, .inl (fun _ => 0))), (qa_3, .inl (g 0, 9, .inl (fun _ => 0))), (qa_4, .inl (g 0, 9, .inl (fun _ => 0))), (qa_5, .inl (g 0, 1767, .inl (fun _ => 0))), (qa_6, .inl (g 0, 4, .inl (fun _ => 0))), (qa_7, .inl (g 0, 3, .inl (fun _ => 0))), (qa_8, .inl (g 0, 9, .inl (fun _ => 0)))] H := hP
  have hD : va_D A [(m_, .inr (7, [.int 0, .ref qa_1, .int 0, .int 0, .int 0, .ref qa_2, .ref qa_3, .ref qa_4, .int 0, .int 0, .ref qa_5, .ref qa_6, .ref qa_7, .null, .int 0, .int 0, .null, .null, .null, .null, .null])), (qa_1, .inl (g 0, 160, .inl (fun _ => 0))), (qa_2, .inl (g 0, 3, .inl (fun _ => 0))), (qa_3, .inl (g 0, 9, .inl (fun _ => 0))), (qa_4, .inl (g 0, 9, .inl (fun _ => 0))), (qa_5, .inl (g 0, 1767, .inl (fun _ => 0))), (qa_6, .inl (g 0, 4, .inl (fun _ => 0))), (qa_7, .inl (g 0, 3, .inl (fun _ => 0))), (qa_8, .inl (g 0, 9, .inl (fun _ => 0)))] := hD
  refine W.widen (k := 8) (n := 1964) (Nat.le_of_ble_eq_true rfl) (Nat.le_of_ble_eq_true rfl) ?_
  refine va_putF (D := D) (ci := 7) (v := .ref qa_8) (ty := (.array .int)) (C := RX7) (T := TX7) (N := 21) hx hb hts iX7 tyX7 tyX7_ok nmX7 hown hK hP hD hS 0 rfl rfl 13 (by decide) f31 (fun _ h9 => h9) rfl hin rfl (by decide +kernel) (rfl) (rfl) (Nat.le_of_ble_eq_true rfl) dX7_init_64 (fun H locs hP hD hS => ?_)
  have hP : va_P D vwCl [(m_, .inr (7, [.int 0, .ref qa_1, .int 0, .int 0, .int 0, .ref qa_2, .ref qa_3, .ref qa_4, .int 0, .int 0, .ref qa_5, .ref qa_6, .ref qa_7, .ref qa_8, .int 0, .int 0, .null, .null, .null, .null, .null])), (qa_1, .inl (g 0, 160, .inl (fun _ => 0))), (qa_2, .inl (g 0, 3, .inl (fun _ => 0))), (qa_3, .inl (g 0, 9, .inl (fun _ => 0))), (qa_4, .inl (g 0, 9, .inl (fun _ => 0))), (qa_5, .inl (g 0, 1767, .inl (fun _ => 0))), (qa_6, .inl (g 0, 4, .inl (fun _ => 0))), (qa_7, .inl (g 0, 3, .inl (fun _ => 0))), (qa_8, .inl (g 0, 9, .inl (fun _ => 0)))] H := hP
  have hD : va_D A [(m_, .inr (7, [.int 0, .ref qa_1, .int 0, .int 0, .int 0, .ref qa_2, .ref qa_3, .ref qa_4, .int 0, .int 0, .ref qa_5, .ref qa_6, .ref qa_7, .ref qa_8, .int 0, .int 0, .null, .null, .null, .null, .null])), (qa_1, .inl (g 0, 160, .inl (fun _ => 0))), (qa_2, .inl (g 0, 3, .inl (fun _ => 0))), (qa_3, .inl (g 0, 9, .inl (fun _ => 0))), (qa_4, .inl (g 0, 9, .inl (fun _ => 0))), (qa_5, .inl (g 0, 1767, .inl (fun _ => 0))), (qa_6, .inl (g 0, 4, .inl (fun _ => 0))), (qa_7, .inl (g 0, 3, .inl (fun _ => 0))), (qa_8, .inl (g 0, 9, .inl (fun _ => 0)))] := hD
  refine lv_aload_n hx hb dX7_init_67 rfl (lv_at hl 0 rfl) ?_
  refine lv_iconst (v := 3) hx hb dX7_init_68 (by decide) ?_
  refine ky_newa hx hb ac_int hK hP hD hS hA (N := 3) (by decide) (by decide) (by decide) (Nat.le_of_ble_eq_true rfl) (Nat.le_of_ble_eq_true rfl) dX7_init_69 (fun qa_9 H hP hD hS => ?_)
  have hP : va_P D vwCl [(m_, .inr (7, [.int 0, .ref qa_1, .int 0, .int 0, .int 0, .ref qa_2, .ref qa_3, .ref qa_4, .int 0, .int 0, .ref qa_5, .ref qa_6, .ref qa_7, .ref qa_8, .int 0, .int 0, .null, .null, .null, .null, .null])), (qa_1, .inl (g 0, 160, .inl (fun _ => 0))), (qa_2, .inl (g 0, 3, .inl (fun _ => 0))), (qa_3, .inl (g 0, 9, .inl (fun _ => 0))), (qa_4, .inl (g 0, 9, .inl (fun _ => 0))), (qa_5, .inl (g 0, 1767, .inl (fun _ => 0))), (qa_6, .inl (g 0, 4, .inl (fun _ => 0))), (qa_7, .inl (g 0, 3, .inl (fun _ => 0))), (qa_8, .inl (g 0, 9, .inl (fun _ => 0))), (qa_9, .inl (g 0, 3, .inl (fun _ => 0)))] H := hP
  have hD : va_D A [(m_, .inr (7, [.int 0, .ref qa_1, .int 0, .int 0, .int 0, .ref qa_2, .ref qa_3, .ref qa_4, .int 0, .int 0, .ref qa_5, .ref qa_6, .ref qa_7, .ref qa_8, .int 0, .int 0, .null, .null, .null, .null, .null])), (qa_1, .inl (g 0, 160, .inl (fun _ => 0))), (qa_2, .inl (g 0, 3, .inl (fun _ => 0))), (qa_3, .inl (g 0, 9, .inl (fun _ => 0))), (qa_4, .inl (g 0, 9, .inl (fun _ => 0))), (qa_5, .inl (g 0, 1767, .inl (fun _ => 0))), (qa_6, .inl (g 0, 4, .inl (fun _ => 0))), (qa_7, .inl (g 0, 3, .inl (fun _ => 0))), (qa_8, .inl (g 0, 9, .inl (fun _ => 0))), (qa_9, .inl (g 0, 3, .inl (fun _ => 0)))] := hD
  refine W.widen (k := 9) (n := 1967) (Nat.le_of_ble_eq_true rfl) (Nat.le_of_ble_eq_true rfl) ?_
  refine va_putF (D := D) (ci := 7) (v := .ref qa_9) (ty := (.array .int)) (C := RX7) (T := TX7) (N := 21) hx hb hts iX7 tyX7 tyX7_ok nmX7 hown hK hP hD hS 0 rfl rfl 16 (by decide) f34 (fun _ h9 => h9) rfl hin rfl (by decide +kernel) (rfl) (rfl) (Nat.le_of_ble_eq_true rfl) dX7_init_71 (fun H locs hP hD hS => ?_)
  have hP : va_P D vwCl [(m_, .inr (7, [.int 0, .ref qa_1, .int 0, .int 0, .int 0, .ref qa_2, .ref qa_3, .ref qa_4, .int 0, .int 0, .ref qa_5, .ref qa_6, .ref qa_7, .ref qa_8, .int 0, .int 0, .ref qa_9, .null, .null, .null, .null])), (qa_1, .inl (g 0, 160, .inl (fun _ => 0))), (qa_2, .inl (g 0, 3, .inl (fun _ => 0))), (qa_3, .inl (g 0, 9, .inl (fun _ => 0))), (qa_4, .inl (g 0, 9, .inl (fun _ => 0))), (qa_5, .inl (g 0, 1767, .inl (fun _ => 0))), (qa_6, .inl (g 0, 4, .inl (fun _ => 0))), (qa_7, .inl (g 0, 3, .inl (fun _ => 0))), (qa_8, .inl (g 0, 9, .inl (fun _ => 0))), (qa_9, .inl (g 0, 3, .inl (fun _ => 0)))] H := hP
  have hD : va_D A [(m_, .inr (7, [.int 0, .ref qa_1, .int 0, .int 0, .int 0, .ref qa_2, .ref qa_3, .ref qa_4, .int 0, .int 0, .ref qa_5, .ref qa_6, .ref qa_7, .ref qa_8, .int 0, .int 0, .ref qa_9, .null, .null, .null, .null])), (qa_1, .inl (g 0, 160, .inl (fun _ => 0))), (qa_2, .inl (g 0, 3, .inl (fun _ => 0))), (qa_3, .inl (g 0, 9, .inl (fun _ => 0))), (qa_4, .inl (g 0, 9, .inl (fun _ => 0))), (qa_5, .inl (g 0, 1767, .inl (fun _ => 0))), (qa_6, .inl (g 0, 4, .inl (fun _ => 0))), (qa_7, .inl (g 0, 3, .inl (fun _ => 0))), (qa_8, .inl (g 0, 9, .inl (fun _ => 0))), (qa_9, .inl (g 0, 3, .inl (fun _ => 0)))] := hD
  refine lv_aload_n hx hb dX7_init_74 rfl (lv_at hl 0 rfl) ?_
  refine lv_sipush (v := 1767) hx hb dX7_init_75 (by decide) ?_
  refine ky_newa hx hb ac_int hK hP hD hS hA (N := 1767) (by decide) (by decide) (by decide) (Nat.le_of_ble_eq_true rfl) (Nat.le_of_ble_eq_true rfl) dX7_init_78 (fun qa_10 H hP hD hS => ?_)
  have hP : va_P D vwCl [(m_, .inr (7, [.int 0, .ref qa_1, .int 0, .int 0, .int 0, .ref qa_2, .ref qa_3, .ref qa_4, .int 0, .int 0, .ref qa_5, .ref qa_6, .ref qa_7, .ref qa_8, .int 0, .int 0, .ref qa_9, .null, .null, .null, .null])), (qa_1, .inl (g 0, 160, .inl (fun _ => 0))), (qa_2, .inl (g 0, 3, .inl (fun _ => 0))), (qa_3, .inl (g 0, 9, .inl (fun _ => 0))), (qa_4, .inl (g 0, 9, .inl (fun _ => 0))), (qa_5, .inl (g 0, 1767, .inl (fun _ => 0))), (qa_6, .inl (g 0, 4, .inl (fun _ => 0))), (qa_7, .inl (g 0, 3, .inl (fun _ => 0))), (qa_8, .inl (g 0, 9, .inl (fun _ => 0))), (qa_9, .inl (g 0, 3, .inl (fun _ => 0))), (qa_10, .inl (g 0, 1767, .inl (fun _ => 0)))] H := hP
  have hD : va_D A [(m_, .inr (7, [.int 0, .ref qa_1, .int 0, .int 0, .int 0, .ref qa_2, .ref qa_3, .ref qa_4, .int 0, .int 0, .ref qa_5, .ref qa_6, .ref qa_7, .ref qa_8, .int 0, .int 0, .ref qa_9, .null, .null, .null, .null])), (qa_1, .inl (g 0, 160, .inl (fun _ => 0))), (qa_2, .inl (g 0, 3, .inl (fun _ => 0))), (qa_3, .inl (g 0, 9, .inl (fun _ => 0))), (qa_4, .inl (g 0, 9, .inl (fun _ => 0))), (qa_5, .inl (g 0, 1767, .inl (fun _ => 0))), (qa_6, .inl (g 0, 4, .inl (fun _ => 0))), (qa_7, .inl (g 0, 3, .inl (fun _ => 0))), (qa_8, .inl (g 0, 9, .inl (fun _ => 0))), (qa_9, .inl (g 0, 3, .inl (fun _ => 0))), (qa_10, .inl (g 0, 1767, .inl (fun _ => 0)))] := hD
  refine W.widen (k := 10) (n := 3734) (Nat.le_of_ble_eq_true rfl) (Nat.le_of_ble_eq_true rfl) ?_
  refine va_putF (D := D) (ci := 7) (v := .ref qa_10) (ty := (.array .int)) (C := RX7) (T := TX7) (N := 21) hx hb hts iX7 tyX7 tyX7_ok nmX7 hown hK hP hD hS 0 rfl rfl 17 (by decide) f37 (fun _ h9 => h9) rfl hin rfl (by decide +kernel) (rfl) (rfl) (Nat.le_of_ble_eq_true rfl) dX7_init_80 (fun H locs hP hD hS => ?_)
  have hP : va_P D vwCl [(m_, .inr (7, [.int 0, .ref qa_1, .int 0, .int 0, .int 0, .ref qa_2, .ref qa_3, .ref qa_4, .int 0, .int 0, .ref qa_5, .ref qa_6, .ref qa_7, .ref qa_8, .int 0, .int 0, .ref qa_9, .ref qa_10, .null, .null, .null])), (qa_1, .inl (g 0, 160, .inl (fun _ => 0))), (qa_2, .inl (g 0, 3, .inl (fun _ => 0))), (qa_3, .inl (g 0, 9, .inl (fun _ => 0))), (qa_4, .inl (g 0, 9, .inl (fun _ => 0))), (qa_5, .inl (g 0, 1767, .inl (fun _ => 0))), (qa_6, .inl (g 0, 4, .inl (fun _ => 0))), (qa_7, .inl (g 0, 3, .inl (fun _ => 0))), (qa_8, .inl (g 0, 9, .inl (fun _ => 0))), (qa_9, .inl (g 0, 3, .inl (fun _ => 0))), (qa_10, .inl (g 0, 1767, .inl (fun _ => 0)))] H := hP
  have hD : va_D A [(m_, .inr (7, [.int 0, .ref qa_1, .int 0, .int 0, .int 0, .ref qa_2, .ref qa_3, .ref qa_4, .int 0, .int 0, .ref qa_5, .ref qa_6, .ref qa_7, .ref qa_8, .int 0, .int 0, .ref qa_9, .ref qa_10, .null, .null, .null])), (qa_1, .inl (g 0, 160, .inl (fun _ => 0))), (qa_2, .inl (g 0, 3, .inl (fun _ => 0))), (qa_3, .inl (g 0, 9, .inl (fun _ => 0))), (qa_4, .inl (g 0, 9, .inl (fun _ => 0))), (qa_5, .inl (g 0, 1767, .inl (fun _ => 0))), (qa_6, .inl (g 0, 4, .inl (fun _ => 0))), (qa_7, .inl (g 0, 3, .inl (fun _ => 0))), (qa_8, .inl (g 0, 9, .inl (fun _ => 0))), (qa_9, .inl (g 0, 3, .inl (fun _ => 0))), (qa_10, .inl (g 0, 1767, .inl (fun _ => 0)))] := hD
  refine lv_aload_n hx hb dX7_init_83 rfl (lv_at hl 0 rfl) ?_
  refine lv_iconst (v := 3) hx hb dX7_init_84 (by decide) ?_
  refine ky_newa hx hb ac_int hK hP hD hS hA (N := 3) (by decide) (by decide) (by decide) (Nat.le_of_ble_eq_true rfl) (Nat.le_of_ble_eq_true rfl) dX7_init_85 (fun qa_11 H hP hD hS => ?_)
  have hP : va_P D vwCl [(m_, .inr (7, [.int 0, .ref qa_1, .int 0, .int 0, .int 0, .ref qa_2, .ref qa_3, .ref qa_4, .int 0, .int 0, .ref qa_5, .ref qa_6, .ref qa_7, .ref qa_8, .int 0, .int 0, .ref qa_9, .ref qa_10, .null, .null, .null])), (qa_1, .inl (g 0, 160, .inl (fun _ => 0))), (qa_2, .inl (g 0, 3, .inl (fun _ => 0))), (qa_3, .inl (g 0, 9, .inl (fun _ => 0))), (qa_4, .inl (g 0, 9, .inl (fun _ => 0))), (qa_5, .inl (g 0, 1767, .inl (fun _ => 0))), (qa_6, .inl (g 0, 4, .inl (fun _ => 0))), (qa_7, .inl (g 0, 3, .inl (fun _ => 0))), (qa_8, .inl (g 0, 9, .inl (fun _ => 0))), (qa_9, .inl (g 0, 3, .inl (fun _ => 0))), (qa_10, .inl (g 0, 1767, .inl (fun _ => 0))), (qa_11, .inl (g 0, 3, .inl (fun _ => 0)))] H := hP
  have hD : va_D A [(m_, .inr (7, [.int 0, .ref qa_1, .int 0, .int 0, .int 0, .ref qa_2, .ref qa_3, .ref qa_4, .int 0, .int 0, .ref qa_5, .ref qa_6, .ref qa_7, .ref qa_8, .int 0, .int 0, .ref qa_9, .ref qa_10, .null, .null, .null])), (qa_1, .inl (g 0, 160, .inl (fun _ => 0))), (qa_2, .inl (g 0, 3, .inl (fun _ => 0))), (qa_3, .inl (g 0, 9, .inl (fun _ => 0))), (qa_4, .inl (g 0, 9, .inl (fun _ => 0))), (qa_5, .inl (g 0, 1767, .inl (fun _ => 0))), (qa_6, .inl (g 0, 4, .inl (fun _ => 0))), (qa_7, .inl (g 0, 3, .inl (fun _ => 0))), (qa_8, .inl (g 0, 9, .inl (fun _ => 0))), (qa_9, .inl (g 0, 3, .inl (fun _ => 0))), (qa_10, .inl (g 0, 1767, .inl (fun _ => 0))), (qa_11, .inl (g 0, 3, .inl (fun _ => 0)))] := hD
  refine W.widen (k := 11) (n := 3737) (Nat.le_of_ble_eq_true rfl) (Nat.le_of_ble_eq_true rfl) ?_
  refine va_putF (D := D) (ci := 7) (v := .ref qa_11) (ty := (.array .int)) (C := RX7) (T := TX7) (N := 21) hx hb hts iX7 tyX7 tyX7_ok nmX7 hown hK hP hD hS 0 rfl rfl 18 (by decide) f40 (fun _ h9 => h9) rfl hin rfl (by decide +kernel) (rfl) (rfl) (Nat.le_of_ble_eq_true rfl) dX7_init_87 (fun H locs hP hD hS => ?_)
  have hP : va_P D vwCl [(m_, .inr (7, [.int 0, .ref qa_1, .int 0, .int 0, .int 0, .ref qa_2, .ref qa_3, .ref qa_4, .int 0, .int 0, .ref qa_5, .ref qa_6, .ref qa_7, .ref qa_8, .int 0, .int 0, .ref qa_9, .ref qa_10, .ref qa_11, .null, .null])), (qa_1, .inl (g 0, 160, .inl (fun _ => 0))), (qa_2, .inl (g 0, 3, .inl (fun _ => 0))), (qa_3, .inl (g 0, 9, .inl (fun _ => 0))), (qa_4, .inl (g 0, 9, .inl (fun _ => 0))), (qa_5, .inl (g 0, 1767, .inl (fun _ => 0))), (qa_6, .inl (g 0, 4, .inl (fun _ => 0))), (qa_7, .inl (g 0, 3, .inl (fun _ => 0))), (qa_8, .inl (g 0, 9, .inl (fun _ => 0))), (qa_9, .inl (g 0, 3, .inl (fun _ => 0))), (qa_10, .inl (g 0, 1767, .inl (fun _ => 0))), (qa_11, .inl (g 0, 3, .inl (fun _ => 0)))] H := hP
  have hD : va_D A [(m_, .inr (7, [.int 0, .ref qa_1, .int 0, .int 0, .int 0, .ref qa_2, .ref qa_3, .ref qa_4, .int 0, .int 0, .ref qa_5, .ref qa_6, .ref qa_7, .ref qa_8, .int 0, .int 0, .ref qa_9, .ref qa_10, .ref qa_11, .null, .null])), (qa_1, .inl (g 0, 160, .inl (fun _ => 0))), (qa_2, .inl (g 0, 3, .inl (fun _ => 0))), (qa_3, .inl (g 0, 9, .inl (fun _ => 0))), (qa_4, .inl (g 0, 9, .inl (fun _ => 0))), (qa_5, .inl (g 0, 1767, .inl (fun _ => 0))), (qa_6, .inl (g 0, 4, .inl (fun _ => 0))), (qa_7, .inl (g 0, 3, .inl (fun _ => 0))), (qa_8, .inl (g 0, 9, .inl (fun _ => 0))), (qa_9, .inl (g 0, 3, .inl (fun _ => 0))), (qa_10, .inl (g 0, 1767, .inl (fun _ => 0))), (qa_11, .inl (g 0, 3, .inl (fun _ => 0)))] := hD
  refine lv_aload_n hx hb dX7_init_90 rfl (lv_at hl 0 rfl) ?_
  refine lv_bipush (v := 8) hx hb dX7_init_91 (by decide) ?_
  refine ky_newa hx hb ac_int hK hP hD hS hA (N := 8) (by decide) (by decide) (by decide) (Nat.le_of_ble_eq_true rfl) (Nat.le_of_ble_eq_true rfl) dX7_init_93 (fun qa_12 H hP hD hS => ?_)
  have hP : va_P D vwCl [(m_, .inr (7, [.int 0, .ref qa_1, .int 0, .int 0, .int 0, .ref qa_2, .ref qa_3, .ref qa_4, .int 0, .int 0, .ref qa_5, .ref qa_6, .ref qa_7, .ref qa_8, .int 0, .int 0, .ref qa_9, .ref qa_10, .ref qa_11, .null, .null])), (qa_1, .inl (g 0, 160, .inl (fun _ => 0))), (qa_2, .inl (g 0, 3, .inl (fun _ => 0))), (qa_3, .inl (g 0, 9, .inl (fun _ => 0))), (qa_4, .inl (g 0, 9, .inl (fun _ => 0))), (qa_5, .inl (g 0, 1767, .inl (fun _ => 0))), (qa_6, .inl (g 0, 4, .inl (fun _ => 0))), (qa_7, .inl (g 0, 3, .inl (fun _ => 0))), (qa_8, .inl (g 0, 9, .inl (fun _ => 0))), (qa_9, .inl (g 0, 3, .inl (fun _ => 0))), (qa_10, .inl (g 0, 1767, .inl (fun _ => 0))), (qa_11, .inl (g 0, 3, .inl (fun _ => 0))), (qa_12, .inl (g 0, 8, .inl (fun _ => 0)))] H := hP
  have hD : va_D A [(m_, .inr (7, [.int 0, .ref qa_1, .int 0, .int 0, .int 0, .ref qa_2, .ref qa_3, .ref qa_4, .int 0, .int 0, .ref qa_5, .ref qa_6, .ref qa_7, .ref qa_8, .int 0, .int 0, .ref qa_9, .ref qa_10, .ref qa_11, .null, .null])), (qa_1, .inl (g 0, 160, .inl (fun _ => 0))), (qa_2, .inl (g 0, 3, .inl (fun _ => 0))), (qa_3, .inl (g 0, 9, .inl (fun _ => 0))), (qa_4, .inl (g 0, 9, .inl (fun _ => 0))), (qa_5, .inl (g 0, 1767, .inl (fun _ => 0))), (qa_6, .inl (g 0, 4, .inl (fun _ => 0))), (qa_7, .inl (g 0, 3, .inl (fun _ => 0))), (qa_8, .inl (g 0, 9, .inl (fun _ => 0))), (qa_9, .inl (g 0, 3, .inl (fun _ => 0))), (qa_10, .inl (g 0, 1767, .inl (fun _ => 0))), (qa_11, .inl (g 0, 3, .inl (fun _ => 0))), (qa_12, .inl (g 0, 8, .inl (fun _ => 0)))] := hD
  refine W.widen (k := 12) (n := 3745) (Nat.le_of_ble_eq_true rfl) (Nat.le_of_ble_eq_true rfl) ?_
  refine va_putF (D := D) (ci := 7) (v := .ref qa_12) (ty := (.array .int)) (C := RX7) (T := TX7) (N := 21) hx hb hts iX7 tyX7 tyX7_ok nmX7 hown hK hP hD hS 0 rfl rfl 19 (by decide) f43 (fun _ h9 => h9) rfl hin rfl (by decide +kernel) (rfl) (rfl) (Nat.le_of_ble_eq_true rfl) dX7_init_95 (fun H locs hP hD hS => ?_)
  have hP : va_P D vwCl [(m_, .inr (7, [.int 0, .ref qa_1, .int 0, .int 0, .int 0, .ref qa_2, .ref qa_3, .ref qa_4, .int 0, .int 0, .ref qa_5, .ref qa_6, .ref qa_7, .ref qa_8, .int 0, .int 0, .ref qa_9, .ref qa_10, .ref qa_11, .ref qa_12, .null])), (qa_1, .inl (g 0, 160, .inl (fun _ => 0))), (qa_2, .inl (g 0, 3, .inl (fun _ => 0))), (qa_3, .inl (g 0, 9, .inl (fun _ => 0))), (qa_4, .inl (g 0, 9, .inl (fun _ => 0))), (qa_5, .inl (g 0, 1767, .inl (fun _ => 0))), (qa_6, .inl (g 0, 4, .inl (fun _ => 0))), (qa_7, .inl (g 0, 3, .inl (fun _ => 0))), (qa_8, .inl (g 0, 9, .inl (fun _ => 0))), (qa_9, .inl (g 0, 3, .inl (fun _ => 0))), (qa_10, .inl (g 0, 1767, .inl (fun _ => 0))), (qa_11, .inl (g 0, 3, .inl (fun _ => 0))), (qa_12, .inl (g 0, 8, .inl (fun _ => 0)))] H := hP
  have hD : va_D A [(m_, .inr (7, [.int 0, .ref qa_1, .int 0, .int 0, .int 0, .ref qa_2, .ref qa_3, .ref qa_4, .int 0, .int 0, .ref qa_5, .ref qa_6, .ref qa_7, .ref qa_8, .int 0, .int 0, .ref qa_9, .ref qa_10, .ref qa_11, .ref qa_12, .null])), (qa_1, .inl (g 0, 160, .inl (fun _ => 0))), (qa_2, .inl (g 0, 3, .inl (fun _ => 0))), (qa_3, .inl (g 0, 9, .inl (fun _ => 0))), (qa_4, .inl (g 0, 9, .inl (fun _ => 0))), (qa_5, .inl (g 0, 1767, .inl (fun _ => 0))), (qa_6, .inl (g 0, 4, .inl (fun _ => 0))), (qa_7, .inl (g 0, 3, .inl (fun _ => 0))), (qa_8, .inl (g 0, 9, .inl (fun _ => 0))), (qa_9, .inl (g 0, 3, .inl (fun _ => 0))), (qa_10, .inl (g 0, 1767, .inl (fun _ => 0))), (qa_11, .inl (g 0, 3, .inl (fun _ => 0))), (qa_12, .inl (g 0, 8, .inl (fun _ => 0)))] := hD
  refine lv_aload_n hx hb dX7_init_98 rfl (lv_at hl 0 rfl) ?_
  refine lv_bipush (v := 8) hx hb dX7_init_99 (by decide) ?_
  refine ky_newa hx hb ac_int hK hP hD hS hA (N := 8) (by decide) (by decide) (by decide) (Nat.le_of_ble_eq_true rfl) (Nat.le_of_ble_eq_true rfl) dX7_init_101 (fun qa_13 H hP hD hS => ?_)
  have hP : va_P D vwCl [(m_, .inr (7, [.int 0, .ref qa_1, .int 0, .int 0, .int 0, .ref qa_2, .ref qa_3, .ref qa_4, .int 0, .int 0, .ref qa_5, .ref qa_6, .ref qa_7, .ref qa_8, .int 0, .int 0, .ref qa_9, .ref qa_10, .ref qa_11, .ref qa_12, .null])), (qa_1, .inl (g 0, 160, .inl (fun _ => 0))), (qa_2, .inl (g 0, 3, .inl (fun _ => 0))), (qa_3, .inl (g 0, 9, .inl (fun _ => 0))), (qa_4, .inl (g 0, 9, .inl (fun _ => 0))), (qa_5, .inl (g 0, 1767, .inl (fun _ => 0))), (qa_6, .inl (g 0, 4, .inl (fun _ => 0))), (qa_7, .inl (g 0, 3, .inl (fun _ => 0))), (qa_8, .inl (g 0, 9, .inl (fun _ => 0))), (qa_9, .inl (g 0, 3, .inl (fun _ => 0))), (qa_10, .inl (g 0, 1767, .inl (fun _ => 0))), (qa_11, .inl (g 0, 3, .inl (fun _ => 0))), (qa_12, .inl (g 0, 8, .inl (fun _ => 0))), (qa_13, .inl (g 0, 8, .inl (fun _ => 0)))] H := hP
  have hD : va_D A [(m_, .inr (7, [.int 0, .ref qa_1, .int 0, .int 0, .int 0, .ref qa_2, .ref qa_3, .ref qa_4, .int 0, .int 0, .ref qa_5, .ref qa_6, .ref qa_7, .ref qa_8, .int 0, .int 0, .ref qa_9, .ref qa_10, .ref qa_11, .ref qa_12, .null])), (qa_1, .inl (g 0, 160, .inl (fun _ => 0))), (qa_2, .inl (g 0, 3, .inl (fun _ => 0))), (qa_3, .inl (g 0, 9, .inl (fun _ => 0))), (qa_4, .inl (g 0, 9, .inl (fun _ => 0))), (qa_5, .inl (g 0, 1767, .inl (fun _ => 0))), (qa_6, .inl (g 0, 4, .inl (fun _ => 0))), (qa_7, .inl (g 0, 3, .inl (fun _ => 0))), (qa_8, .inl (g 0, 9, .inl (fun _ => 0))), (qa_9, .inl (g 0, 3, .inl (fun _ => 0))), (qa_10, .inl (g 0, 1767, .inl (fun _ => 0))), (qa_11, .inl (g 0, 3, .inl (fun _ => 0))), (qa_12, .inl (g 0, 8, .inl (fun _ => 0))), (qa_13, .inl (g 0, 8, .inl (fun _ => 0)))] := hD
  refine W.widen (k := 13) (n := 3753) (Nat.le_of_ble_eq_true rfl) (Nat.le_of_ble_eq_true rfl) ?_
  refine va_putF (D := D) (ci := 7) (v := .ref qa_13) (ty := (.array .int)) (C := RX7) (T := TX7) (N := 21) hx hb hts iX7 tyX7 tyX7_ok nmX7 hown hK hP hD hS 0 rfl rfl 20 (by decide) f46 (fun _ h9 => h9) rfl hin rfl (by decide +kernel) (rfl) (rfl) (Nat.le_of_ble_eq_true rfl) dX7_init_103 (fun H locs hP hD hS => ?_)
  have hP : va_P D vwCl [(m_, .inr (7, [.int 0, .ref qa_1, .int 0, .int 0, .int 0, .ref qa_2, .ref qa_3, .ref qa_4, .int 0, .int 0, .ref qa_5, .ref qa_6, .ref qa_7, .ref qa_8, .int 0, .int 0, .ref qa_9, .ref qa_10, .ref qa_11, .ref qa_12, .ref qa_13])), (qa_1, .inl (g 0, 160, .inl (fun _ => 0))), (qa_2, .inl (g 0, 3, .inl (fun _ => 0))), (qa_3, .inl (g 0, 9, .inl (fun _ => 0))), (qa_4, .inl (g 0, 9, .inl (fun _ => 0))), (qa_5, .inl (g 0, 1767, .inl (fun _ => 0))), (qa_6, .inl (g 0, 4, .inl (fun _ => 0))), (qa_7, .inl (g 0, 3, .inl (fun _ => 0))), (qa_8, .inl (g 0, 9, .inl (fun _ => 0))), (qa_9, .inl (g 0, 3, .inl (fun _ => 0))), (qa_10, .inl (g 0, 1767, .inl (fun _ => 0))), (qa_11, .inl (g 0, 3, .inl (fun _ => 0))), (qa_12, .inl (g 0, 8, .inl (fun _ => 0))), (qa_13, .inl (g 0, 8, .inl (fun _ => 0)))] H := hP
  have hD : va_D A [(m_, .inr (7, [.int 0, .ref qa_1, .int 0, .int 0, .int 0, .ref qa_2, .ref qa_3, .ref qa_4, .int 0, .int 0, .ref qa_5, .ref qa_6, .ref qa_7, .ref qa_8, .int 0, .int 0, .ref qa_9, .ref qa_10, .ref qa_11, .ref qa_12, .ref qa_13])), (qa_1, .inl (g 0, 160, .inl (fun _ => 0))), (qa_2, .inl (g 0, 3, .inl (fun _ => 0))), (qa_3, .inl (g 0, 9, .inl (fun _ => 0))), (qa_4, .inl (g 0, 9, .inl (fun _ => 0))), (qa_5, .inl (g 0, 1767, .inl (fun _ => 0))), (qa_6, .inl (g 0, 4, .inl (fun _ => 0))), (qa_7, .inl (g 0, 3, .inl (fun _ => 0))), (qa_8, .inl (g 0, 9, .inl (fun _ => 0))), (qa_9, .inl (g 0, 3, .inl (fun _ => 0))), (qa_10, .inl (g 0, 1767, .inl (fun _ => 0))), (qa_11, .inl (g 0, 3, .inl (fun _ => 0))), (qa_12, .inl (g 0, 8, .inl (fun _ => 0))), (qa_13, .inl (g 0, 8, .inl (fun _ => 0)))] := hD
  have hP9 := hP.sub (ws' := [(m_, .inr (7, [.int 0, .ref qa_1, .int 0, .int 0, .int 0, .ref qa_2, .ref qa_3, .ref qa_4, .int 0, .int 0, .ref qa_5, .ref qa_6, .ref qa_7, .ref qa_8, .int 0, .int 0, .ref qa_9, .ref qa_10, .ref qa_11, .ref qa_12, .ref qa_13])), (qa_1, .inl (g 0, 160, .inl (fun _ => 0))), (qa_2, .inl (g 0, 3, .inl (fun _ => 0))), (qa_3, .inl (g 0, 9, .inl (fun _ => 0))), (qa_4, .inl (g 0, 9, .inl (fun _ => 0))), (qa_5, .inl (g 0, 1767, .inl (fun _ => 0))), (qa_6, .inl (g 0, 4, .inl (fun _ => 0))), (qa_7, .inl (g 0, 3, .inl (fun _ => 0))), (qa_8, .inl (g 0, 9, .inl (fun _ => 0))), (qa_9, .inl (g 0, 3, .inl (fun _ => 0))), (qa_10, .inl (g 0, 1767, .inl (fun _ => 0))), (qa_11, .inl (g 0, 3, .inl (fun _ => 0))), (qa_12, .inl (g 0, 8, .inl (fun _ => 0))), (qa_13, .inl (g 0, 8, .inl (fun _ => 0)))]) [0, 1, 2, 3, 4, 5, 6, 7, 8, 9, 10, 11, 12, 13] rfl
  have hD9 := hD.sub (ws' := [(m_, .inr (7, [.int 0, .ref qa_1, .int 0, .int 0, .int 0, .ref qa_2, .ref qa_3, .ref qa_4, .int 0, .int 0, .ref qa_5, .ref qa_6, .ref qa_7, .ref qa_8, .int 0, .int 0, .ref qa_9, .ref qa_10, .ref qa_11, .ref qa_12, .ref qa_13])), (qa_1, .inl (g 0, 160, .inl (fun _ => 0))), (qa_2, .inl (g 0, 3, .inl (fun _ => 0))), (qa_3, .inl (g 0, 9, .inl (fun _ => 0))), (qa_4, .inl (g 0, 9, .inl (fun _ => 0))), (qa_5, .inl (g 0, 1767, .inl (fun _ => 0))), (qa_6, .inl (g 0, 4, .inl (fun _ => 0))), (qa_7, .inl (g 0, 3, .inl (fun _ => 0))), (qa_8, .inl (g 0, 9, .inl (fun _ => 0))), (qa_9, .inl (g 0, 3, .inl (fun _ => 0))), (qa_10, .inl (g 0, 1767, .inl (fun _ => 0))), (qa_11, .inl (g 0, 3, .inl (fun _ => 0))), (qa_12, .inl (g 0, 8, .inl (fun _ => 0))), (qa_13, .inl (g 0, 8, .inl (fun _ => 0)))]) [0, 1, 2, 3, 4, 5, 6, 7, 8, 9, 10, 11, 12, 13] (by decide) rfl
  subst hQ
  refine W.widen (k := 13) (n := 3753) (Nat.le_of_ble_eq_true rfl) (Nat.le_of_ble_eq_true rfl) ?_
  exact W.vret hx hb hr (fun tS htS _ => ⟨⟨_, rfl, ⟨qa_1, qa_2, qa_3, qa_4, qa_5, qa_6, qa_7, qa_8, qa_9, qa_10, qa_11, qa_12, qa_13, rfl⟩, by rw [htS]; exact hP9, hD9⟩, hS.F htS⟩) hS.2.2 dX7_init_106
set_option maxHeartbeats 4000000 in
set_option maxRecDepth 100000 in
theorem c_X7_isNet (l : Launch) (D : va_G) (g : Nat → ClassId) (sz : Nat) (m_ : Nat) (th : Int32) (mt : Nat) (tp : Int32) (pa_ : Int32) (wr : Int32) (mrr : Nat) (mrh : Nat) (mrc : Nat) (rh : Int32) (rc : Int32) (mn : Nat) (mf : Nat) (mr : Nat) (mh : Nat) (ma : Nat) (mas : Nat) (msn : Nat) (mac : Nat) (mat : Nat) : Met l yX7_isNet wsX7_isNet ({ frames := 0, cells := 0, slots := 0, locals := 0 }) (va_Pc [.ref m_] (pre D g sz [(m_, .inr (7, [.int th, .ref mt, .int tp, .int pa_, .int wr, .ref mrr, .ref mrh, .ref mrc, .int rh, .int rc, .ref mn, .ref mf, .ref mr, .ref mh, .int 0, .int 0, .ref ma, .ref mas, .ref msn, .ref mac, .ref mat]))])) (va_Qi (fun (r : Int32) (u : va_W) => u = [(m_, .inr (7, [.int th, .ref mt, .int tp, .int pa_, .int wr, .ref mrr, .ref mrh, .ref mrc, .int rh, .int rc, .ref mn, .ref mf, .ref mr, .ref mh, .int 0, .int 0, .ref ma, .ref mas, .ref msn, .ref mac, .ref mat]))] ∧ r = 0) (wd D (va_A [(m_, .inr (7, [.int th, .ref mt, .int tp, .int pa_, .int wr, .ref mrr, .ref mrh, .ref mrc, .int rh, .int rc, .ref mn, .ref mf, .ref mr, .ref mh, .int 0, .int 0, .ref ma, .ref mas, .ref msn, .ref mac, .ref mat]))] sz)) (va_A [(m_, .inr (7, [.int th, .ref mt, .int tp, .int pa_, .int wr, .ref mrr, .ref mrh, .ref mrc, .int rh, .int rc, .ref mn, .ref mf, .ref mr, .ref mh, .int 0, .int 0, .ref ma, .ref mas, .ref msn, .ref mac, .ref mat]))] sz)) 0 0 (va_A [(m_, .inr (7, [.int th, .ref mt, .int tp, .int pa_, .int wr, .ref mrr, .ref mrh, .ref mrc, .int rh, .int rc, .ref mn, .ref mf, .ref mr, .ref mh, .int 0, .int 0, .ref ma, .ref mas, .ref msn, .ref mac, .ref mat]))] sz) := by
  refine Met.ofW (cc := cX7_isNet) (maxL := 1) (ret := (some .boolean)) (by decide) rfl ?_
  intro p e s m args below meth c s₁ B hml hv
  obtain ⟨rfl, hsz, hP, ⟨hK, hN⟩, hD0, hZ⟩ := hv
  have hx := B.exec
  have hb := B.bytes
  have hr := B.returns
  have hts := atoms_spec (ws := wsX7_isNet) B.pre
  have hown : s.vm.findClass RX7 = some m.cls := findClass_of_methodNamed B.named
  have hlocks := B.notSynchronized
  clear B
  subst hsz
  have hD := hD0.self (sz := s.heap.size)
  clear hD0
  generalize hAe : va_A [(m_, .inr (7, [.int th, .ref mt, .int tp, .int pa_, .int wr, .ref mrr, .ref mrh, .ref mrc, .int rh, .int rc, .ref mn, .ref mf, .ref mr, .ref mh, .int 0, .int 0, .ref ma, .ref mas, .ref msn, .ref mac, .ref mat]))] s.heap.size = A at hD hZ ⊢
  have hA : ∀ q : Nat, s.heap.size ≤ q → A q := fun q h => by rw [← hAe]; exact Or.inr h
  have hS : va_S A s.heap s.heap [] := va_S.rf
  have f124 := hts (.fieldLink RX7 124 "HopCreditsModel" "hops" "I") (by decide +kernel)
  have iX7 : ∀ w ∈ u_ws RX7 TX7 21, w ∈ wsX7_isNet := by decide +kernel
  have hl := lv_entry ([.ref m_]) (n := 1) (Nat.le_of_ble_eq_true rfl)
  rw [lg_entry_eq]
  generalize (lg_sl ([.ref m_]) ++ List.replicate (1 - (lg_sl ([.ref m_])).length) Slot.unset).toArray = ls at hl ⊢
  have hl : lv_has ls 1 [(0, .ref m_)] := hl
  generalize hQ : MQ below _ _ s _ _ _ = Q
  generalize hH : s.heap = H at hP ⊢
  have hS : va_S A s.heap H [] := by rw [← hH]; exact hS
  clear hH
  refine lv_aload_n hx hb dX7_isNet_0 rfl (lv_at hl 0 rfl) ?_
  refine va_get (D := D) (ci := 7) (v := .int 0) (C := RX7) (T := TX7) (N := 21) hx hb hts iX7 hown hK hP 0 rfl rfl 14 (by decide) f124 (fun _ h9 => h9) rfl dX7_isNet_1 ?_
  refine lv_if_le (tgt := 11) hx hb dX7_isNet_4 (by decide) (fun _ => ?_) (fun cb => absurd (by decide) cb)
  refine lv_iconst (v := 0) hx hb dX7_isNet_11 (by decide) ?_
  have hP9 := hP.sub (ws' := [(m_, .inr (7, [.int th, .ref mt, .int tp, .int pa_, .int wr, .ref mrr, .ref mrh, .ref mrc, .int rh, .int rc, .ref mn, .ref mf, .ref mr, .ref mh, .int 0, .int 0, .ref ma, .ref mas, .ref msn, .ref mac, .ref mat]))]) [0] rfl
  have hD9 := hD.sub (ws' := [(m_, .inr (7, [.int th, .ref mt, .int tp, .int pa_, .int wr, .ref mrr, .ref mrh, .ref mrc, .int rh, .int rc, .ref mn, .ref mf, .ref mr, .ref mh, .int 0, .int 0, .ref ma, .ref mas, .ref msn, .ref mac, .ref mat]))]) [0] (by decide) rfl
  subst hQ
  refine W.widen (k := 0) (n := 0) (Nat.le_of_ble_eq_true rfl) (Nat.le_of_ble_eq_true rfl) ?_
  exact W.zret (v := 0) (ty := .boolean) hx hb hr (rfl) (fun tS htS _ => ⟨⟨_, _, rfl, ⟨rfl, rfl⟩, by rw [htS]; exact hP9, hD9⟩, hS.F htS⟩) hS.2.2 dX7_isNet_12
set_option maxHeartbeats 4000000 in
set_option maxRecDepth 100000 in
theorem c_X7_isHop (l : Launch) (D : va_G) (g : Nat → ClassId) (sz : Nat) (m_ : Nat) (th : Int32) (mt : Nat) (tp : Int32) (pa_ : Int32) (wr : Int32) (mrr : Nat) (mrh : Nat) (mrc : Nat) (rh : Int32) (rc : Int32) (mn : Nat) (mf : Nat) (mr : Nat) (mh : Nat) (ma : Nat) (mas : Nat) (msn : Nat) (mac : Nat) (mat : Nat) (p0 : Int32) : Met l yX7_isHop wsX7_isHop ({ frames := 1, cells := 0, slots := 0, locals := 22 }) (va_Pc [.ref m_, .int p0] (pre D g sz [(m_, .inr (7, [.int th, .ref mt, .int tp, .int pa_, .int wr, .ref mrr, .ref mrh, .ref mrc, .int rh, .int rc, .ref mn, .ref mf, .ref mr, .ref mh, .int 0, .int 0, .ref ma, .ref mas, .ref msn, .ref mac, .ref mat]))])) (va_Qi (fun (r : Int32) (u : va_W) => u = [(m_, .inr (7, [.int th, .ref mt, .int tp, .int pa_, .int wr, .ref mrr, .ref mrh, .ref mrc, .int rh, .int rc, .ref mn, .ref mf, .ref mr, .ref mh, .int 0, .int 0, .ref ma, .ref mas, .ref msn, .ref mac, .ref mat]))] ∧ r = 0) (wd D (va_A [(m_, .inr (7, [.int th, .ref mt, .int tp, .int pa_, .int wr, .ref mrr, .ref mrh, .ref mrc, .int rh, .int rc, .ref mn, .ref mf, .ref mr, .ref mh, .int 0, .int 0, .ref ma, .ref mas, .ref msn, .ref mac, .ref mat]))] sz)) (va_A [(m_, .inr (7, [.int th, .ref mt, .int tp, .int pa_, .int wr, .ref mrr, .ref mrh, .ref mrc, .int rh, .int rc, .ref mn, .ref mf, .ref mr, .ref mh, .int 0, .int 0, .ref ma, .ref mas, .ref msn, .ref mac, .ref mat]))] sz)) 0 0 (va_A [(m_, .inr (7, [.int th, .ref mt, .int tp, .int pa_, .int wr, .ref mrr, .ref mrh, .ref mrc, .int rh, .int rc, .ref mn, .ref mf, .ref mr, .ref mh, .int 0, .int 0, .ref ma, .ref mas, .ref msn, .ref mac, .ref mat]))] sz) := by
  refine Met.ofW (cc := cX7_isHop) (maxL := 2) (ret := (some .boolean)) (by decide) rfl ?_
  intro p e s m args below meth c s₁ B hml hv
  obtain ⟨rfl, hsz, hP, ⟨hK, hN⟩, hD0, hZ⟩ := hv
  have hx := B.exec
  have hb := B.bytes
  have hr := B.returns
  have hts := atoms_spec (ws := wsX7_isHop) B.pre
  have hown : s.vm.findClass RX7 = some m.cls := findClass_of_methodNamed B.named
  have hlocks := B.notSynchronized
  clear B
  subst hsz
  have hD := hD0.self (sz := s.heap.size)
  clear hD0
  generalize hAe : va_A [(m_, .inr (7, [.int th, .ref mt, .int tp, .int pa_, .int wr, .ref mrr, .ref mrh, .ref mrc, .int rh, .int rc, .ref mn, .ref mf, .ref mr, .ref mh, .int 0, .int 0, .ref ma, .ref mas, .ref msn, .ref mac, .ref mat]))] s.heap.size = A at hD hZ ⊢
  have hA : ∀ q : Nat, s.heap.size ≤ q → A q := fun q h => by rw [← hAe]; exact Or.inr h
  have hS : va_S A s.heap s.heap [] := va_S.rf
  have f124 := hts (.fieldLink RX7 124 "HopCreditsModel" "hops" "I") (by decide +kernel)
  have iX7 : ∀ w ∈ u_ws RX7 TX7 21, w ∈ wsX7_isHop := by decide +kernel
  have hl := lv_entry ([.ref m_, .int p0]) (n := 2) (Nat.le_of_ble_eq_true rfl)
  rw [lg_entry_eq]
  generalize (lg_sl ([.ref m_, .int p0]) ++ List.replicate (2 - (lg_sl ([.ref m_, .int p0])).length) Slot.unset).toArray = ls at hl ⊢
  have hl : lv_has ls 2 [(0, .ref m_), (1, .int p0)] := hl
  generalize hQ : MQ below _ _ s _ _ _ = Q
  generalize hH : s.heap = H at hP ⊢
  have hS : va_S A s.heap H [] := by rw [← hH]; exact hS
  clear hH
  refine lv_iload_n hx hb dX7_isHop_0 rfl (lv_at hl 1 rfl) ?_
  refine lv_iconst (v := 0) hx hb dX7_isHop_1 (by decide) ?_
  refine lv_aload_n hx hb dX7_isHop_2 rfl (lv_at hl 0 rfl) ?_
  refine va_get (D := D) (ci := 7) (v := .int 0) (C := RX7) (T := TX7) (N := 21) hx hb hts iX7 hown hK hP 0 rfl rfl 14 (by decide) f124 (fun _ h9 => h9) rfl dX7_isHop_3 ?_
  refine lv_iconst (v := 1) hx hb dX7_isHop_6 (by decide) ?_
  refine lv_isub hx hb dX7_isHop_7 ?_
  refine lv_eqi (y := (-1)) (by decide) ?_
  refine ky_Si (As := [.int p0, .int 0, .int (-1)]) (rest := []) ⟨hx, hb, hml, hown, hts⟩ ⟨hK, hN⟩ hZ hP hD hS hA [] [0] (wc := []) (wr := [(m_, .inr (7, [.int th, .ref mt, .int tp, .int pa_, .int wr, .ref mrr, .ref mrh, .ref mrc, .int rh, .int rc, .ref mn, .ref mf, .ref mr, .ref mh, .int 0, .int 0, .ref ma, .ref mas, .ref msn, .ref mac, .ref mat]))]) rfl rfl rfl rfl (by decide) (c_X7_in l D g H.size p0 0 (-1)) (va_cwS 3 hts gX7_isHop_X7_in rfl rfl rfl (by decide +kernel) ⟨(Nat.le_of_ble_eq_true rfl), (Nat.le_of_ble_eq_true rfl)⟩) rfl hl.1 rfl (Nat.le_of_ble_eq_true rfl) dX7_isHop_8 ⟨(Nat.le_of_ble_eq_true rfl), (Nat.le_of_ble_eq_true rfl)⟩ (fun r_1 u H locs hw hP hD hS => ?_)
  obtain ⟨rfl, rfl⟩ := hw
  have hP : va_P D vwCl [(m_, .inr (7, [.int th, .ref mt, .int tp, .int pa_, .int wr, .ref mrr, .ref mrh, .ref mrc, .int rh, .int rc, .ref mn, .ref mf, .ref mr, .ref mh, .int 0, .int 0, .ref ma, .ref mas, .ref msn, .ref mac, .ref mat]))] H := hP
  have hD : va_D A [(m_, .inr (7, [.int th, .ref mt, .int tp, .int pa_, .int wr, .ref mrr, .ref mrh, .ref mrc, .int rh, .int rc, .ref mn, .ref mf, .ref mr, .ref mh, .int 0, .int 0, .ref ma, .ref mas, .ref msn, .ref mac, .ref mat]))] := hD
  refine W.widen (k := 0) (n := 0) (Nat.le_of_ble_eq_true rfl) (Nat.le_of_ble_eq_true rfl) ?_
  refine lv_eqi (y := 0) (in_none p0) ?_
  have hP9 := hP.sub (ws' := [(m_, .inr (7, [.int th, .ref mt, .int tp, .int pa_, .int wr, .ref mrr, .ref mrh, .ref mrc, .int rh, .int rc, .ref mn, .ref mf, .ref mr, .ref mh, .int 0, .int 0, .ref ma, .ref mas, .ref msn, .ref mac, .ref mat]))]) [0] rfl
  have hD9 := hD.sub (ws' := [(m_, .inr (7, [.int th, .ref mt, .int tp, .int pa_, .int wr, .ref mrr, .ref mrh, .ref mrc, .int rh, .int rc, .ref mn, .ref mf, .ref mr, .ref mh, .int 0, .int 0, .ref ma, .ref mas, .ref msn, .ref mac, .ref mat]))]) [0] (by decide) rfl
  subst hQ
  refine W.widen (k := 0) (n := 0) (Nat.le_of_ble_eq_true rfl) (Nat.le_of_ble_eq_true rfl) ?_
  exact W.zret (v := 0) (ty := .boolean) hx hb hr (rfl) (fun tS htS _ => ⟨⟨_, _, rfl, ⟨rfl, rfl⟩, by rw [htS]; exact hP9, hD9⟩, hS.F htS⟩) hS.2.2 dX7_isHop_11
set_option maxHeartbeats 4000000 in
set_option maxRecDepth 100000 in
theorem c_X7_isCircuit (l : Launch) (D : va_G) (g : Nat → ClassId) (sz : Nat) (m_ : Nat) (th : Int32) (mt : Nat) (tp : Int32) (pa_ : Int32) (wr : Int32) (mrr : Nat) (mrh : Nat) (mrc : Nat) (rh : Int32) (rc : Int32) (mn : Nat) (mf : Nat) (mr : Nat) (mh : Nat) (ma : Nat) (mas : Nat) (msn : Nat) (mac : Nat) (mat : Nat) (p0 : Int32) : Met l yX7_isCircuit wsX7_isCircuit ({ frames := 1, cells := 0, slots := 0, locals := 22 }) (va_Pc [.ref m_, .int p0] (pre D g sz [(m_, .inr (7, [.int th, .ref mt, .int tp, .int pa_, .int wr, .ref mrr, .ref mrh, .ref mrc, .int rh, .int rc, .ref mn, .ref mf, .ref mr, .ref mh, .int 0, .int 0, .ref ma, .ref mas, .ref msn, .ref mac, .ref mat]))])) (va_Qi (fun (r : Int32) (u : va_W) => u = [(m_, .inr (7, [.int th, .ref mt, .int tp, .int pa_, .int wr, .ref mrr, .ref mrh, .ref mrc, .int rh, .int rc, .ref mn, .ref mf, .ref mr, .ref mh, .int 0, .int 0, .ref ma, .ref mas, .ref msn, .ref mac, .ref mat]))] ∧ r = 0) (wd D (va_A [(m_, .inr (7, [.int th, .ref mt, .int tp, .int pa_, .int wr, .ref mrr, .ref mrh, .ref mrc, .int rh, .int rc, .ref mn, .ref mf, .ref mr, .ref mh, .int 0, .int 0, .ref ma, .ref mas, .ref msn, .ref mac, .ref mat]))] sz)) (va_A [(m_, .inr (7, [.int th, .ref mt, .int tp, .int pa_, .int wr, .ref mrr, .ref mrh, .ref mrc, .int rh, .int rc, .ref mn, .ref mf, .ref mr, .ref mh, .int 0, .int 0, .ref ma, .ref mas, .ref msn, .ref mac, .ref mat]))] sz)) 0 0 (va_A [(m_, .inr (7, [.int th, .ref mt, .int tp, .int pa_, .int wr, .ref mrr, .ref mrh, .ref mrc, .int rh, .int rc, .ref mn, .ref mf, .ref mr, .ref mh, .int 0, .int 0, .ref ma, .ref mas, .ref msn, .ref mac, .ref mat]))] sz) := by
  refine Met.ofW (cc := cX7_isCircuit) (maxL := 2) (ret := (some .boolean)) (by decide) rfl ?_
  intro p e s m args below meth c s₁ B hml hv
  obtain ⟨rfl, hsz, hP, ⟨hK, hN⟩, hD0, hZ⟩ := hv
  have hx := B.exec
  have hb := B.bytes
  have hr := B.returns
  have hts := atoms_spec (ws := wsX7_isCircuit) B.pre
  have hown : s.vm.findClass RX7 = some m.cls := findClass_of_methodNamed B.named
  have hlocks := B.notSynchronized
  clear B
  subst hsz
  have hD := hD0.self (sz := s.heap.size)
  clear hD0
  generalize hAe : va_A [(m_, .inr (7, [.int th, .ref mt, .int tp, .int pa_, .int wr, .ref mrr, .ref mrh, .ref mrc, .int rh, .int rc, .ref mn, .ref mf, .ref mr, .ref mh, .int 0, .int 0, .ref ma, .ref mas, .ref msn, .ref mac, .ref mat]))] s.heap.size = A at hD hZ ⊢
  have hA : ∀ q : Nat, s.heap.size ≤ q → A q := fun q h => by rw [← hAe]; exact Or.inr h
  have hS : va_S A s.heap s.heap [] := va_S.rf
  have f127 := hts (.fieldLink RX7 127 "HopCreditsModel" "circuits" "I") (by decide +kernel)
  have iX7 : ∀ w ∈ u_ws RX7 TX7 21, w ∈ wsX7_isCircuit := by decide +kernel
  have hl := lv_entry ([.ref m_, .int p0]) (n := 2) (Nat.le_of_ble_eq_true rfl)
  rw [lg_entry_eq]
  generalize (lg_sl ([.ref m_, .int p0]) ++ List.replicate (2 - (lg_sl ([.ref m_, .int p0])).length) Slot.unset).toArray = ls at hl ⊢
  have hl : lv_has ls 2 [(0, .ref m_), (1, .int p0)] := hl
  generalize hQ : MQ below _ _ s _ _ _ = Q
  generalize hH : s.heap = H at hP ⊢
  have hS : va_S A s.heap H [] := by rw [← hH]; exact hS
  clear hH
  refine lv_iload_n hx hb dX7_isCircuit_0 rfl (lv_at hl 1 rfl) ?_
  refine lv_iconst (v := 0) hx hb dX7_isCircuit_1 (by decide) ?_
  refine lv_aload_n hx hb dX7_isCircuit_2 rfl (lv_at hl 0 rfl) ?_
  refine va_get (D := D) (ci := 7) (v := .int 0) (C := RX7) (T := TX7) (N := 21) hx hb hts iX7 hown hK hP 0 rfl rfl 15 (by decide) f127 (fun _ h9 => h9) rfl dX7_isCircuit_3 ?_
  refine lv_iconst (v := 1) hx hb dX7_isCircuit_6 (by decide) ?_
  refine lv_isub hx hb dX7_isCircuit_7 ?_
  refine lv_eqi (y := (-1)) (by decide) ?_
  refine ky_Si (As := [.int p0, .int 0, .int (-1)]) (rest := []) ⟨hx, hb, hml, hown, hts⟩ ⟨hK, hN⟩ hZ hP hD hS hA [] [0] (wc := []) (wr := [(m_, .inr (7, [.int th, .ref mt, .int tp, .int pa_, .int wr, .ref mrr, .ref mrh, .ref mrc, .int rh, .int rc, .ref mn, .ref mf, .ref mr, .ref mh, .int 0, .int 0, .ref ma, .ref mas, .ref msn, .ref mac, .ref mat]))]) rfl rfl rfl rfl (by decide) (c_X7_in l D g H.size p0 0 (-1)) (va_cwS 3 hts gX7_isCircuit_X7_in rfl rfl rfl (by decide +kernel) ⟨(Nat.le_of_ble_eq_true rfl), (Nat.le_of_ble_eq_true rfl)⟩) rfl hl.1 rfl (Nat.le_of_ble_eq_true rfl) dX7_isCircuit_8 ⟨(Nat.le_of_ble_eq_true rfl), (Nat.le_of_ble_eq_true rfl)⟩ (fun r_1 u H locs hw hP hD hS => ?_)
  obtain ⟨rfl, rfl⟩ := hw
  have hP : va_P D vwCl [(m_, .inr (7, [.int th, .ref mt, .int tp, .int pa_, .int wr, .ref mrr, .ref mrh, .ref mrc, .int rh, .int rc, .ref mn, .ref mf, .ref mr, .ref mh, .int 0, .int 0, .ref ma, .ref mas, .ref msn, .ref mac, .ref mat]))] H := hP
  have hD : va_D A [(m_, .inr (7, [.int th, .ref mt, .int tp, .int pa_, .int wr, .ref mrr, .ref mrh, .ref mrc, .int rh, .int rc, .ref mn, .ref mf, .ref mr, .ref mh, .int 0, .int 0, .ref ma, .ref mas, .ref msn, .ref mac, .ref mat]))] := hD
  refine W.widen (k := 0) (n := 0) (Nat.le_of_ble_eq_true rfl) (Nat.le_of_ble_eq_true rfl) ?_
  refine lv_eqi (y := 0) (in_none p0) ?_
  have hP9 := hP.sub (ws' := [(m_, .inr (7, [.int th, .ref mt, .int tp, .int pa_, .int wr, .ref mrr, .ref mrh, .ref mrc, .int rh, .int rc, .ref mn, .ref mf, .ref mr, .ref mh, .int 0, .int 0, .ref ma, .ref mas, .ref msn, .ref mac, .ref mat]))]) [0] rfl
  have hD9 := hD.sub (ws' := [(m_, .inr (7, [.int th, .ref mt, .int tp, .int pa_, .int wr, .ref mrr, .ref mrh, .ref mrc, .int rh, .int rc, .ref mn, .ref mf, .ref mr, .ref mh, .int 0, .int 0, .ref ma, .ref mas, .ref msn, .ref mac, .ref mat]))]) [0] (by decide) rfl
  subst hQ
  refine W.widen (k := 0) (n := 0) (Nat.le_of_ble_eq_true rfl) (Nat.le_of_ble_eq_true rfl) ?_
  exact W.zret (v := 0) (ty := .boolean) hx hb hr (rfl) (fun tS htS _ => ⟨⟨_, _, rfl, ⟨rfl, rfl⟩, by rw [htS]; exact hP9, hD9⟩, hS.F htS⟩) hS.2.2 dX7_isCircuit_11
set_option maxHeartbeats 4000000 in
set_option maxRecDepth 100000 in
theorem c_X7_isNode (l : Launch) (D : va_G) (g : Nat → ClassId) (sz : Nat) (m_ : Nat) (th : Int32) (mt : Nat) (tp : Int32) (pa_ : Int32) (wr : Int32) (mrr : Nat) (mrh : Nat) (mrc : Nat) (rh : Int32) (rc : Int32) (mn : Nat) (mf : Nat) (mr : Nat) (mh : Nat) (ma : Nat) (mas : Nat) (msn : Nat) (mac : Nat) (mat : Nat) (p0 : Int32) : Met l yX7_isNode wsX7_isNode ({ frames := 1, cells := 0, slots := 0, locals := 20 }) (va_Pc [.ref m_, .int p0] (pre D g sz [(m_, .inr (7, [.int th, .ref mt, .int tp, .int pa_, .int wr, .ref mrr, .ref mrh, .ref mrc, .int rh, .int rc, .ref mn, .ref mf, .ref mr, .ref mh, .int 0, .int 0, .ref ma, .ref mas, .ref msn, .ref mac, .ref mat]))])) (va_Qi (fun (r : Int32) (u : va_W) => u = [(m_, .inr (7, [.int th, .ref mt, .int tp, .int pa_, .int wr, .ref mrr, .ref mrh, .ref mrc, .int rh, .int rc, .ref mn, .ref mf, .ref mr, .ref mh, .int 0, .int 0, .ref ma, .ref mas, .ref msn, .ref mac, .ref mat]))] ∧ r = 0) (wd D (va_A [(m_, .inr (7, [.int th, .ref mt, .int tp, .int pa_, .int wr, .ref mrr, .ref mrh, .ref mrc, .int rh, .int rc, .ref mn, .ref mf, .ref mr, .ref mh, .int 0, .int 0, .ref ma, .ref mas, .ref msn, .ref mac, .ref mat]))] sz)) (va_A [(m_, .inr (7, [.int th, .ref mt, .int tp, .int pa_, .int wr, .ref mrr, .ref mrh, .ref mrc, .int rh, .int rc, .ref mn, .ref mf, .ref mr, .ref mh, .int 0, .int 0, .ref ma, .ref mas, .ref msn, .ref mac, .ref mat]))] sz)) 0 0 (va_A [(m_, .inr (7, [.int th, .ref mt, .int tp, .int pa_, .int wr, .ref mrr, .ref mrh, .ref mrc, .int rh, .int rc, .ref mn, .ref mf, .ref mr, .ref mh, .int 0, .int 0, .ref ma, .ref mas, .ref msn, .ref mac, .ref mat]))] sz) := by
  refine Met.ofW (cc := cX7_isNode) (maxL := 2) (ret := (some .boolean)) (by decide) rfl ?_
  intro p e s m args below meth c s₁ B hml hv
  obtain ⟨rfl, hsz, hP, ⟨hK, hN⟩, hD0, hZ⟩ := hv
  have hx := B.exec
  have hb := B.bytes
  have hr := B.returns
  have hts := atoms_spec (ws := wsX7_isNode) B.pre
  have hown : s.vm.findClass RX7 = some m.cls := findClass_of_methodNamed B.named
  have hlocks := B.notSynchronized
  clear B
  subst hsz
  have hD := hD0.self (sz := s.heap.size)
  clear hD0
  generalize hAe : va_A [(m_, .inr (7, [.int th, .ref mt, .int tp, .int pa_, .int wr, .ref mrr, .ref mrh, .ref mrc, .int rh, .int rc, .ref mn, .ref mf, .ref mr, .ref mh, .int 0, .int 0, .ref ma, .ref mas, .ref msn, .ref mac, .ref mat]))] s.heap.size = A at hD hZ ⊢
  have hA : ∀ q : Nat, s.heap.size ≤ q → A q := fun q h => by rw [← hAe]; exact Or.inr h
  have hS : va_S A s.heap s.heap [] := va_S.rf
  have hl := lv_entry ([.ref m_, .int p0]) (n := 2) (Nat.le_of_ble_eq_true rfl)
  rw [lg_entry_eq]
  generalize (lg_sl ([.ref m_, .int p0]) ++ List.replicate (2 - (lg_sl ([.ref m_, .int p0])).length) Slot.unset).toArray = ls at hl ⊢
  have hl : lv_has ls 2 [(0, .ref m_), (1, .int p0)] := hl
  generalize hQ : MQ below _ _ s _ _ _ = Q
  generalize hH : s.heap = H at hP ⊢
  have hS : va_S A s.heap H [] := by rw [← hH]; exact hS
  clear hH
  refine lv_aload_n hx hb dX7_isNode_0 rfl (lv_at hl 0 rfl) ?_
  refine ky_Vi (As := []) (rest := []) ⟨hx, hb, hml, hown, hts⟩ ⟨hK, hN⟩ hZ hP hD hS hA [0] [] (wc := [(m_, .inr (7, [.int th, .ref mt, .int tp, .int pa_, .int wr, .ref mrr, .ref mrh, .ref mrc, .int rh, .int rc, .ref mn, .ref mf, .ref mr, .ref mh, .int 0, .int 0, .ref ma, .ref mas, .ref msn, .ref mac, .ref mat]))]) (wr := []) rfl rfl rfl rfl (by decide) (c_X7_isNet l D g H.size m_ th mt tp pa_ wr mrr mrh mrc rh rc mn mf mr mh ma mas msn mac mat) (cwV 0 hts gX7_isNode_X7_isNet rfl rfl rfl (by decide +kernel) ⟨(Nat.le_of_ble_eq_true rfl), (Nat.le_of_ble_eq_true rfl)⟩) 0 7 rfl rfl rfl rfl hl.1 rfl (Nat.le_of_ble_eq_true rfl) dX7_isNode_1 ⟨(Nat.le_of_ble_eq_true rfl), (Nat.le_of_ble_eq_true rfl)⟩ (fun r_1 u H locs hw hP hD hS => ?_)
  obtain ⟨rfl, rfl⟩ := hw
  have hP : va_P D vwCl [(m_, .inr (7, [.int th, .ref mt, .int tp, .int pa_, .int wr, .ref mrr, .ref mrh, .ref mrc, .int rh, .int rc, .ref mn, .ref mf, .ref mr, .ref mh, .int 0, .int 0, .ref ma, .ref mas, .ref msn, .ref mac, .ref mat]))] H := hP
  have hD : va_D A [(m_, .inr (7, [.int th, .ref mt, .int tp, .int pa_, .int wr, .ref mrr, .ref mrh, .ref mrc, .int rh, .int rc, .ref mn, .ref mf, .ref mr, .ref mh, .int 0, .int 0, .ref ma, .ref mas, .ref msn, .ref mac, .ref mat]))] := hD
  refine W.widen (k := 0) (n := 0) (Nat.le_of_ble_eq_true rfl) (Nat.le_of_ble_eq_true rfl) ?_
  refine lv_if_eq (tgt := 23) hx hb dX7_isNode_4 (by decide) (fun _ => ?_) (fun cb => absurd (by decide) cb)
  refine lv_iconst (v := 0) hx hb dX7_isNode_23 (by decide) ?_
  have hP9 := hP.sub (ws' := [(m_, .inr (7, [.int th, .ref mt, .int tp, .int pa_, .int wr, .ref mrr, .ref mrh, .ref mrc, .int rh, .int rc, .ref mn, .ref mf, .ref mr, .ref mh, .int 0, .int 0, .ref ma, .ref mas, .ref msn, .ref mac, .ref mat]))]) [0] rfl
  have hD9 := hD.sub (ws' := [(m_, .inr (7, [.int th, .ref mt, .int tp, .int pa_, .int wr, .ref mrr, .ref mrh, .ref mrc, .int rh, .int rc, .ref mn, .ref mf, .ref mr, .ref mh, .int 0, .int 0, .ref ma, .ref mas, .ref msn, .ref mac, .ref mat]))]) [0] (by decide) rfl
  subst hQ
  refine W.widen (k := 0) (n := 0) (Nat.le_of_ble_eq_true rfl) (Nat.le_of_ble_eq_true rfl) ?_
  exact W.zret (v := 0) (ty := .boolean) hx hb hr (rfl) (fun tS htS _ => ⟨⟨_, _, rfl, ⟨rfl, rfl⟩, by rw [htS]; exact hP9, hD9⟩, hS.F htS⟩) hS.2.2 dX7_isNode_24
set_option maxHeartbeats 4000000 in
set_option maxRecDepth 100000 in
theorem c_X7_isLane (l : Launch) (D : va_G) (g : Nat → ClassId) (sz : Nat) (m_ : Nat) (th : Int32) (mt : Nat) (tp : Int32) (pa_ : Int32) (wr : Int32) (mrr : Nat) (mrh : Nat) (mrc : Nat) (rh : Int32) (rc : Int32) (mn : Nat) (mf : Nat) (mr : Nat) (mh : Nat) (ma : Nat) (mas : Nat) (msn : Nat) (mac : Nat) (mat : Nat) (p0 : Int32) (p1 : Int32) : Met l yX7_isLane wsX7_isLane ({ frames := 2, cells := 0, slots := 0, locals := 43 }) (va_Pc [.ref m_, .int p0, .int p1] (pre D g sz [(m_, .inr (7, [.int th, .ref mt, .int tp, .int pa_, .int wr, .ref mrr, .ref mrh, .ref mrc, .int rh, .int rc, .ref mn, .ref mf, .ref mr, .ref mh, .int 0, .int 0, .ref ma, .ref mas, .ref msn, .ref mac, .ref mat]))])) (va_Qi (fun (r : Int32) (u : va_W) => u = [(m_, .inr (7, [.int th, .ref mt, .int tp, .int pa_, .int wr, .ref mrr, .ref mrh, .ref mrc, .int rh, .int rc, .ref mn, .ref mf, .ref mr, .ref mh, .int 0, .int 0, .ref ma, .ref mas, .ref msn, .ref mac, .ref mat]))] ∧ r = 0) (wd D (va_A [(m_, .inr (7, [.int th, .ref mt, .int tp, .int pa_, .int wr, .ref mrr, .ref mrh, .ref mrc, .int rh, .int rc, .ref mn, .ref mf, .ref mr, .ref mh, .int 0, .int 0, .ref ma, .ref mas, .ref msn, .ref mac, .ref mat]))] sz)) (va_A [(m_, .inr (7, [.int th, .ref mt, .int tp, .int pa_, .int wr, .ref mrr, .ref mrh, .ref mrc, .int rh, .int rc, .ref mn, .ref mf, .ref mr, .ref mh, .int 0, .int 0, .ref ma, .ref mas, .ref msn, .ref mac, .ref mat]))] sz)) 0 0 (va_A [(m_, .inr (7, [.int th, .ref mt, .int tp, .int pa_, .int wr, .ref mrr, .ref mrh, .ref mrc, .int rh, .int rc, .ref mn, .ref mf, .ref mr, .ref mh, .int 0, .int 0, .ref ma, .ref mas, .ref msn, .ref mac, .ref mat]))] sz) := by
  refine Met.ofW (cc := cX7_isLane) (maxL := 3) (ret := (some .boolean)) (by decide) rfl ?_
  intro p e s m args below meth c s₁ B hml hv
  obtain ⟨rfl, hsz, hP, ⟨hK, hN⟩, hD0, hZ⟩ := hv
  have hx := B.exec
  have hb := B.bytes
  have hr := B.returns
  have hts := atoms_spec (ws := wsX7_isLane) B.pre
  have hown : s.vm.findClass RX7 = some m.cls := findClass_of_methodNamed B.named
  have hlocks := B.notSynchronized
  clear B
  subst hsz
  have hD := hD0.self (sz := s.heap.size)
  clear hD0
  generalize hAe : va_A [(m_, .inr (7, [.int th, .ref mt, .int tp, .int pa_, .int wr, .ref mrr, .ref mrh, .ref mrc, .int rh, .int rc, .ref mn, .ref mf, .ref mr, .ref mh, .int 0, .int 0, .ref ma, .ref mas, .ref msn, .ref mac, .ref mat]))] s.heap.size = A at hD hZ ⊢
  have hA : ∀ q : Nat, s.heap.size ≤ q → A q := fun q h => by rw [← hAe]; exact Or.inr h
  have hS : va_S A s.heap s.heap [] := va_S.rf
  have hl := lv_entry ([.ref m_, .int p0, .int p1]) (n := 3) (Nat.le_of_ble_eq_true rfl)
  rw [lg_entry_eq]
  generalize (lg_sl ([.ref m_, .int p0, .int p1]) ++ List.replicate (3 - (lg_sl ([.ref m_, .int p0, .int p1])).length) Slot.unset).toArray = ls at hl ⊢
  have hl : lv_has ls 3 [(0, .ref m_), (1, .int p0), (2, .int p1)] := hl
  generalize hQ : MQ below _ _ s _ _ _ = Q
  generalize hH : s.heap = H at hP ⊢
  have hS : va_S A s.heap H [] := by rw [← hH]; exact hS
  clear hH
  refine lv_aload_n hx hb dX7_isLane_0 rfl (lv_at hl 0 rfl) ?_
  refine lv_iload_n hx hb dX7_isLane_1 rfl (lv_at hl 1 rfl) ?_
  refine ky_Vi (As := [.int p0]) (rest := []) ⟨hx, hb, hml, hown, hts⟩ ⟨hK, hN⟩ hZ hP hD hS hA [0] [] (wc := [(m_, .inr (7, [.int th, .ref mt, .int tp, .int pa_, .int wr, .ref mrr, .ref mrh, .ref mrc, .int rh, .int rc, .ref mn, .ref mf, .ref mr, .ref mh, .int 0, .int 0, .ref ma, .ref mas, .ref msn, .ref mac, .ref mat]))]) (wr := []) rfl rfl rfl rfl (by decide) (c_X7_isHop l D g H.size m_ th mt tp pa_ wr mrr mrh mrc rh rc mn mf mr mh ma mas msn mac mat p0) (cwV 1 hts gX7_isLane_X7_isHop rfl rfl rfl (by decide +kernel) ⟨(Nat.le_of_ble_eq_true rfl), (Nat.le_of_ble_eq_true rfl)⟩) 0 7 rfl rfl rfl rfl hl.1 rfl (Nat.le_of_ble_eq_true rfl) dX7_isLane_2 ⟨(Nat.le_of_ble_eq_true rfl), (Nat.le_of_ble_eq_true rfl)⟩ (fun r_1 u H locs hw hP hD hS => ?_)
  obtain ⟨rfl, rfl⟩ := hw
  have hP : va_P D vwCl [(m_, .inr (7, [.int th, .ref mt, .int tp, .int pa_, .int wr, .ref mrr, .ref mrh, .ref mrc, .int rh, .int rc, .ref mn, .ref mf, .ref mr, .ref mh, .int 0, .int 0, .ref ma, .ref mas, .ref msn, .ref mac, .ref mat]))] H := hP
  have hD : va_D A [(m_, .inr (7, [.int th, .ref mt, .int tp, .int pa_, .int wr, .ref mrr, .ref mrh, .ref mrc, .int rh, .int rc, .ref mn, .ref mf, .ref mr, .ref mh, .int 0, .int 0, .ref ma, .ref mas, .ref msn, .ref mac, .ref mat]))] := hD
  refine W.widen (k := 0) (n := 0) (Nat.le_of_ble_eq_true rfl) (Nat.le_of_ble_eq_true rfl) ?_
  refine lv_if_eq (tgt := 20) hx hb dX7_isLane_5 (by decide) (fun _ => ?_) (fun cb => absurd (by decide) cb)
  refine lv_iconst (v := 0) hx hb dX7_isLane_20 (by decide) ?_
  have hP9 := hP.sub (ws' := [(m_, .inr (7, [.int th, .ref mt, .int tp, .int pa_, .int wr, .ref mrr, .ref mrh, .ref mrc, .int rh, .int rc, .ref mn, .ref mf, .ref mr, .ref mh, .int 0, .int 0, .ref ma, .ref mas, .ref msn, .ref mac, .ref mat]))]) [0] rfl
  have hD9 := hD.sub (ws' := [(m_, .inr (7, [.int th, .ref mt, .int tp, .int pa_, .int wr, .ref mrr, .ref mrh, .ref mrc, .int rh, .int rc, .ref mn, .ref mf, .ref mr, .ref mh, .int 0, .int 0, .ref ma, .ref mas, .ref msn, .ref mac, .ref mat]))]) [0] (by decide) rfl
  subst hQ
  refine W.widen (k := 0) (n := 0) (Nat.le_of_ble_eq_true rfl) (Nat.le_of_ble_eq_true rfl) ?_
  exact W.zret (v := 0) (ty := .boolean) hx hb hr (rfl) (fun tS htS _ => ⟨⟨_, _, rfl, ⟨rfl, rfl⟩, by rw [htS]; exact hP9, hD9⟩, hS.F htS⟩) hS.2.2 dX7_isLane_21
set_option maxHeartbeats 4000000 in
set_option maxRecDepth 100000 in
theorem c_X7_refuses (l : Launch) (D : va_G) (g : Nat → ClassId) (sz : Nat) (m_ : Nat) (th : Int32) (mt : Nat) (tp : Int32) (pa_ : Int32) (wr : Int32) (mrr : Nat) (mrh : Nat) (mrc : Nat) (rh : Int32) (rc : Int32) (mn : Nat) (mf : Nat) (mr : Nat) (mh : Nat) (ma : Nat) (mas : Nat) (msn : Nat) (mac : Nat) (mat : Nat) (f : Nat → Int32) : Met l yX7_refuses wsX7_refuses ({ frames := 0, cells := 0, slots := 0, locals := 0 }) (va_Pc [.ref m_, .int 0] (pre D g sz [(m_, .inr (7, [.int th, .ref mt, .int tp, .int pa_, .int wr, .ref mrr, .ref mrh, .ref mrc, .int rh, .int rc, .ref mn, .ref mf, .ref mr, .ref mh, .int 0, .int 0, .ref ma, .ref mas, .ref msn, .ref mac, .ref mat])), (mf, .inl (g 0, 4, .inl f))])) (va_Qi (fun (r : Int32) (u : va_W) => u = [(m_, .inr (7, [.int th, .ref mt, .int tp, .int pa_, .int wr, .ref mrr, .ref mrh, .ref mrc, .int rh, .int rc, .ref mn, .ref mf, .ref mr, .ref mh, .int 0, .int 0, .ref ma, .ref mas, .ref msn, .ref mac, .ref mat])), (mf, .inl (g 0, 4, .inl (upd f 0 (f 0 + 1))))] ∧ r = (-1)) (wd D (va_A [(m_, .inr (7, [.int th, .ref mt, .int tp, .int pa_, .int wr, .ref mrr, .ref mrh, .ref mrc, .int rh, .int rc, .ref mn, .ref mf, .ref mr, .ref mh, .int 0, .int 0, .ref ma, .ref mas, .ref msn, .ref mac, .ref mat])), (mf, .inl (g 0, 4, .inl f))] sz)) (va_A [(m_, .inr (7, [.int th, .ref mt, .int tp, .int pa_, .int wr, .ref mrr, .ref mrh, .ref mrc, .int rh, .int rc, .ref mn, .ref mf, .ref mr, .ref mh, .int 0, .int 0, .ref ma, .ref mas, .ref msn, .ref mac, .ref mat])), (mf, .inl (g 0, 4, .inl f))] sz)) 0 0 (va_A [(m_, .inr (7, [.int th, .ref mt, .int tp, .int pa_, .int wr, .ref mrr, .ref mrh, .ref mrc, .int rh, .int rc, .ref mn, .ref mf, .ref mr, .ref mh, .int 0, .int 0, .ref ma, .ref mas, .ref msn, .ref mac, .ref mat])), (mf, .inl (g 0, 4, .inl f))] sz) := by
  refine Met.ofW (cc := cX7_refuses) (maxL := 2) (ret := (some .int)) (by decide) rfl ?_
  intro p e s m args below meth c s₁ B hml hv
  obtain ⟨rfl, hsz, hP, ⟨hK, hN⟩, hD0, hZ⟩ := hv
  have hx := B.exec
  have hb := B.bytes
  have hr := B.returns
  have hts := atoms_spec (ws := wsX7_refuses) B.pre
  have hown : s.vm.findClass RX7 = some m.cls := findClass_of_methodNamed B.named
  have hlocks := B.notSynchronized
  clear B
  subst hsz
  have hD := hD0.self (sz := s.heap.size)
  clear hD0
  generalize hAe : va_A [(m_, .inr (7, [.int th, .ref mt, .int tp, .int pa_, .int wr, .ref mrr, .ref mrh, .ref mrc, .int rh, .int rc, .ref mn, .ref mf, .ref mr, .ref mh, .int 0, .int 0, .ref ma, .ref mas, .ref msn, .ref mac, .ref mat])), (mf, .inl (g 0, 4, .inl f))] s.heap.size = A at hD hZ ⊢
  have hA : ∀ q : Nat, s.heap.size ≤ q → A q := fun q h => by rw [← hAe]; exact Or.inr h
  have hS : va_S A s.heap s.heap [] := va_S.rf
  have f25 := hts (.fieldLink RX7 25 "HopCreditsModel" "refused" "[I") (by decide +kernel)
  have iX7 : ∀ w ∈ u_ws RX7 TX7 21, w ∈ wsX7_refuses := by decide +kernel
  have hl := lv_entry ([.ref m_, .int 0]) (n := 2) (Nat.le_of_ble_eq_true rfl)
  rw [lg_entry_eq]
  generalize (lg_sl ([.ref m_, .int 0]) ++ List.replicate (2 - (lg_sl ([.ref m_, .int 0])).length) Slot.unset).toArray = ls at hl ⊢
  have hl : lv_has ls 2 [(0, .ref m_), (1, .int 0)] := hl
  generalize hQ : MQ below _ _ s _ _ _ = Q
  generalize hH : s.heap = H at hP ⊢
  have hS : va_S A s.heap H [] := by rw [← hH]; exact hS
  clear hH
  refine lv_aload_n hx hb dX7_refuses_0 rfl (lv_at hl 0 rfl) ?_
  refine va_get (D := D) (ci := 7) (v := .ref mf) (C := RX7) (T := TX7) (N := 21) hx hb hts iX7 hown hK hP 0 rfl rfl 11 (by decide) f25 (fun _ h9 => h9) rfl dX7_refuses_1 ?_
  refine lv_iload_n hx hb dX7_refuses_4 rfl (lv_at hl 1 rfl) ?_
  refine lv_dup2_11 hx hb dX7_refuses_5 rfl rfl ?_
  refine va_iald hx hb hK hP 1 0 rfl rfl (by unfold vp_in; decide) dX7_refuses_6 ?_
  refine lv_eqi (y := (f 0)) (rfl) ?_
  refine lv_iconst (v := 1) hx hb dX7_refuses_7 (by decide) ?_
  refine lv_iadd hx hb dX7_refuses_8 ?_
  refine va_iast hx hb hK hP hD hS 1 0 rfl rfl (by unfold vp_in; decide) dX7_refuses_9 (fun H locs hP hD hS => ?_)
  have hP : va_P D vwCl [(m_, .inr (7, [.int th, .ref mt, .int tp, .int pa_, .int wr, .ref mrr, .ref mrh, .ref mrc, .int rh, .int rc, .ref mn, .ref mf, .ref mr, .ref mh, .int 0, .int 0, .ref ma, .ref mas, .ref msn, .ref mac, .ref mat])), (mf, .inl (g 0, 4, .inl (upd f 0 ((f 0) + 1))))] H := hP
  have hD : va_D A [(m_, .inr (7, [.int th, .ref mt, .int tp, .int pa_, .int wr, .ref mrr, .ref mrh, .ref mrc, .int rh, .int rc, .ref mn, .ref mf, .ref mr, .ref mh, .int 0, .int 0, .ref ma, .ref mas, .ref msn, .ref mac, .ref mat])), (mf, .inl (g 0, 4, .inl (upd f 0 ((f 0) + 1))))] := hD
  refine lv_iconst (v := (-1)) hx hb dX7_refuses_10 (by decide) ?_
  have hP9 := hP.sub (ws' := [(m_, .inr (7, [.int th, .ref mt, .int tp, .int pa_, .int wr, .ref mrr, .ref mrh, .ref mrc, .int rh, .int rc, .ref mn, .ref mf, .ref mr, .ref mh, .int 0, .int 0, .ref ma, .ref mas, .ref msn, .ref mac, .ref mat])), (mf, .inl (g 0, 4, .inl (upd f 0 ((f 0) + 1))))]) [0, 1] rfl
  have hD9 := hD.sub (ws' := [(m_, .inr (7, [.int th, .ref mt, .int tp, .int pa_, .int wr, .ref mrr, .ref mrh, .ref mrc, .int rh, .int rc, .ref mn, .ref mf, .ref mr, .ref mh, .int 0, .int 0, .ref ma, .ref mas, .ref msn, .ref mac, .ref mat])), (mf, .inl (g 0, 4, .inl (upd f 0 ((f 0) + 1))))]) [0, 1] (by decide) rfl
  subst hQ
  refine W.widen (k := 0) (n := 0) (Nat.le_of_ble_eq_true rfl) (Nat.le_of_ble_eq_true rfl) ?_
  exact W.iret (v := (-1)) hx hb hr (fun tS htS _ => ⟨⟨_, _, rfl, ⟨rfl, rfl⟩, by rw [htS]; exact hP9, hD9⟩, hS.F htS⟩) hS.2.2 dX7_refuses_11
set_option maxHeartbeats 4000000 in
set_option maxRecDepth 100000 in
theorem c_X7_whyZone (l : Launch) (D : va_G) (g : Nat → ClassId) (sz : Nat) (m_ : Nat) (th : Int32) (mt : Nat) (tp : Int32) (pa_ : Int32) (wr : Int32) (mrr : Nat) (mrh : Nat) (mrc : Nat) (rh : Int32) (rc : Int32) (mn : Nat) (mf : Nat) (mr : Nat) (mh : Nat) (ma : Nat) (mas : Nat) (msn : Nat) (mac : Nat) (mat : Nat) (p0 : Int32) (p1 : Int32) (p2 : Int32) : Met l yX7_whyZone wsX7_whyZone ({ frames := 3, cells := 0, slots := 0, locals := 65 }) (va_Pc [.ref m_, .int p0, .int p1, .int p2] (pre D g sz [(m_, .inr (7, [.int th, .ref mt, .int tp, .int pa_, .int wr, .ref mrr, .ref mrh, .ref mrc, .int rh, .int rc, .ref mn, .ref mf, .ref mr, .ref mh, .int 0, .int 0, .ref ma, .ref mas, .ref msn, .ref mac, .ref mat]))])) (va_Qi (fun (r : Int32) (u : va_W) => u = [(m_, .inr (7, [.int th, .ref mt, .int tp, .int pa_, .int wr, .ref mrr, .ref mrh, .ref mrc, .int rh, .int rc, .ref mn, .ref mf, .ref mr, .ref mh, .int 0, .int 0, .ref ma, .ref mas, .ref msn, .ref mac, .ref mat]))] ∧ r = 0) (wd D (va_A [(m_, .inr (7, [.int th, .ref mt, .int tp, .int pa_, .int wr, .ref mrr, .ref mrh, .ref mrc, .int rh, .int rc, .ref mn, .ref mf, .ref mr, .ref mh, .int 0, .int 0, .ref ma, .ref mas, .ref msn, .ref mac, .ref mat]))] sz)) (va_A [(m_, .inr (7, [.int th, .ref mt, .int tp, .int pa_, .int wr, .ref mrr, .ref mrh, .ref mrc, .int rh, .int rc, .ref mn, .ref mf, .ref mr, .ref mh, .int 0, .int 0, .ref ma, .ref mas, .ref msn, .ref mac, .ref mat]))] sz)) 0 0 (va_A [(m_, .inr (7, [.int th, .ref mt, .int tp, .int pa_, .int wr, .ref mrr, .ref mrh, .ref mrc, .int rh, .int rc, .ref mn, .ref mf, .ref mr, .ref mh, .int 0, .int 0, .ref ma, .ref mas, .ref msn, .ref mac, .ref mat]))] sz) := by
  refine Met.ofW (cc := cX7_whyZone) (maxL := 5) (ret := (some .int)) (by decide) rfl ?_
  intro p e s m args below meth c s₁ B hml hv
  obtain ⟨rfl, hsz, hP, ⟨hK, hN⟩, hD0, hZ⟩ := hv
  have hx := B.exec
  have hb := B.bytes
  have hr := B.returns
  have hts := atoms_spec (ws := wsX7_whyZone) B.pre
  have hown : s.vm.findClass RX7 = some m.cls := findClass_of_methodNamed B.named
  have hlocks := B.notSynchronized
  clear B
  subst hsz
  have hD := hD0.self (sz := s.heap.size)
  clear hD0
  generalize hAe : va_A [(m_, .inr (7, [.int th, .ref mt, .int tp, .int pa_, .int wr, .ref mrr, .ref mrh, .ref mrc, .int rh, .int rc, .ref mn, .ref mf, .ref mr, .ref mh, .int 0, .int 0, .ref ma, .ref mas, .ref msn, .ref mac, .ref mat]))] s.heap.size = A at hD hZ ⊢
  have hA : ∀ q : Nat, s.heap.size ≤ q → A q := fun q h => by rw [← hAe]; exact Or.inr h
  have hS : va_S A s.heap s.heap [] := va_S.rf
  have hl := lv_entry ([.ref m_, .int p0, .int p1, .int p2]) (n := 5) (Nat.le_of_ble_eq_true rfl)
  rw [lg_entry_eq]
  generalize (lg_sl ([.ref m_, .int p0, .int p1, .int p2]) ++ List.replicate (5 - (lg_sl ([.ref m_, .int p0, .int p1, .int p2])).length) Slot.unset).toArray = ls at hl ⊢
  have hl : lv_has ls 5 [(0, .ref m_), (1, .int p0), (2, .int p1), (3, .int p2)] := hl
  generalize hQ : MQ below _ _ s _ _ _ = Q
  generalize hH : s.heap = H at hP ⊢
  have hS : va_S A s.heap H [] := by rw [← hH]; exact hS
  clear hH
  refine lv_aload_n hx hb dX7_whyZone_0 rfl (lv_at hl 0 rfl) ?_
  refine lv_iload_n hx hb dX7_whyZone_1 rfl (lv_at hl 1 rfl) ?_
  refine lv_iload_n hx hb dX7_whyZone_2 rfl (lv_at hl 2 rfl) ?_
  refine ky_Vi (As := [.int p0, .int p1]) (rest := []) ⟨hx, hb, hml, hown, hts⟩ ⟨hK, hN⟩ hZ hP hD hS hA [0] [] (wc := [(m_, .inr (7, [.int th, .ref mt, .int tp, .int pa_, .int wr, .ref mrr, .ref mrh, .ref mrc, .int rh, .int rc, .ref mn, .ref mf, .ref mr, .ref mh, .int 0, .int 0, .ref ma, .ref mas, .ref msn, .ref mac, .ref mat]))]) (wr := []) rfl rfl rfl rfl (by decide) (c_X7_isLane l D g H.size m_ th mt tp pa_ wr mrr mrh mrc rh rc mn mf mr mh ma mas msn mac mat p0 p1) (cwV 2 hts gX7_whyZone_X7_isLane rfl rfl rfl (by decide +kernel) ⟨(Nat.le_of_ble_eq_true rfl), (Nat.le_of_ble_eq_true rfl)⟩) 0 7 rfl rfl rfl rfl hl.1 rfl (Nat.le_of_ble_eq_true rfl) dX7_whyZone_3 ⟨(Nat.le_of_ble_eq_true rfl), (Nat.le_of_ble_eq_true rfl)⟩ (fun r_1 u H locs hw hP hD hS => ?_)
  obtain ⟨rfl, rfl⟩ := hw
  have hP : va_P D vwCl [(m_, .inr (7, [.int th, .ref mt, .int tp, .int pa_, .int wr, .ref mrr, .ref mrh, .ref mrc, .int rh, .int rc, .ref mn, .ref mf, .ref mr, .ref mh, .int 0, .int 0, .ref ma, .ref mas, .ref msn, .ref mac, .ref mat]))] H := hP
  have hD : va_D A [(m_, .inr (7, [.int th, .ref mt, .int tp, .int pa_, .int wr, .ref mrr, .ref mrh, .ref mrc, .int rh, .int rc, .ref mn, .ref mf, .ref mr, .ref mh, .int 0, .int 0, .ref ma, .ref mas, .ref msn, .ref mac, .ref mat]))] := hD
  refine W.widen (k := 0) (n := 0) (Nat.le_of_ble_eq_true rfl) (Nat.le_of_ble_eq_true rfl) ?_
  refine lv_if_ne (tgt := 11) hx hb dX7_whyZone_6 (by decide) (fun cb => absurd (by decide) cb) (fun _ => ?_)
  refine lv_iconst (v := 0) hx hb dX7_whyZone_9 (by decide) ?_
  have hP9 := hP.sub (ws' := [(m_, .inr (7, [.int th, .ref mt, .int tp, .int pa_, .int wr, .ref mrr, .ref mrh, .ref mrc, .int rh, .int rc, .ref mn, .ref mf, .ref mr, .ref mh, .int 0, .int 0, .ref ma, .ref mas, .ref msn, .ref mac, .ref mat]))]) [0] rfl
  have hD9 := hD.sub (ws' := [(m_, .inr (7, [.int th, .ref mt, .int tp, .int pa_, .int wr, .ref mrr, .ref mrh, .ref mrc, .int rh, .int rc, .ref mn, .ref mf, .ref mr, .ref mh, .int 0, .int 0, .ref ma, .ref mas, .ref msn, .ref mac, .ref mat]))]) [0] (by decide) rfl
  subst hQ
  refine W.widen (k := 0) (n := 0) (Nat.le_of_ble_eq_true rfl) (Nat.le_of_ble_eq_true rfl) ?_
  exact W.iret (v := 0) hx hb hr (fun tS htS _ => ⟨⟨_, _, rfl, ⟨rfl, rfl⟩, by rw [htS]; exact hP9, hD9⟩, hS.F htS⟩) hS.2.2 dX7_whyZone_10
set_option maxHeartbeats 4000000 in
set_option maxRecDepth 100000 in
theorem c_X7_thrown (l : Launch) (D : va_G) (g : Nat → ClassId) (sz : Nat) (m_ : Nat) (th : Int32) (mt : Nat) (tp : Int32) (pa_ : Int32) (wr : Int32) (mrr : Nat) (mrh : Nat) (mrc : Nat) (rh : Int32) (rc : Int32) (mn : Nat) (mf : Nat) (mr : Nat) (mh : Nat) (ma : Nat) (mas : Nat) (msn : Nat) (mac : Nat) (mat : Nat) : Met l yX7_thrown wsX7_thrown ({ frames := 0, cells := 0, slots := 0, locals := 0 }) (va_Pc [.ref m_] (pre D g sz [(m_, .inr (7, [.int th, .ref mt, .int tp, .int pa_, .int wr, .ref mrr, .ref mrh, .ref mrc, .int rh, .int rc, .ref mn, .ref mf, .ref mr, .ref mh, .int 0, .int 0, .ref ma, .ref mas, .ref msn, .ref mac, .ref mat]))])) (va_Qi (fun (r : Int32) (u : va_W) => u = [(m_, .inr (7, [.int th, .ref mt, .int tp, .int pa_, .int wr, .ref mrr, .ref mrh, .ref mrc, .int rh, .int rc, .ref mn, .ref mf, .ref mr, .ref mh, .int 0, .int 0, .ref ma, .ref mas, .ref msn, .ref mac, .ref mat]))] ∧ r = th) (wd D (va_A [(m_, .inr (7, [.int th, .ref mt, .int tp, .int pa_, .int wr, .ref mrr, .ref mrh, .ref mrc, .int rh, .int rc, .ref mn, .ref mf, .ref mr, .ref mh, .int 0, .int 0, .ref ma, .ref mas, .ref msn, .ref mac, .ref mat]))] sz)) (va_A [(m_, .inr (7, [.int th, .ref mt, .int tp, .int pa_, .int wr, .ref mrr, .ref mrh, .ref mrc, .int rh, .int rc, .ref mn, .ref mf, .ref mr, .ref mh, .int 0, .int 0, .ref ma, .ref mas, .ref msn, .ref mac, .ref mat]))] sz)) 0 0 (va_A [(m_, .inr (7, [.int th, .ref mt, .int tp, .int pa_, .int wr, .ref mrr, .ref mrh, .ref mrc, .int rh, .int rc, .ref mn, .ref mf, .ref mr, .ref mh, .int 0, .int 0, .ref ma, .ref mas, .ref msn, .ref mac, .ref mat]))] sz) := by
  refine Met.ofW (cc := cX7_thrown) (maxL := 1) (ret := (some .int)) (by decide) rfl ?_
  intro p e s m args below meth c s₁ B hml hv
  obtain ⟨rfl, hsz, hP, ⟨hK, hN⟩, hD0, hZ⟩ := hv
  have hx := B.exec
  have hb := B.bytes
  have hr := B.returns
  have hts := atoms_spec (ws := wsX7_thrown) B.pre
  have hown : s.vm.findClass RX7 = some m.cls := findClass_of_methodNamed B.named
  have hlocks := B.notSynchronized
  clear B
  subst hsz
  have hD := hD0.self (sz := s.heap.size)
  clear hD0
  generalize hAe : va_A [(m_, .inr (7, [.int th, .ref mt, .int tp, .int pa_, .int wr, .ref mrr, .ref mrh, .ref mrc, .int rh, .int rc, .ref mn, .ref mf, .ref mr, .ref mh, .int 0, .int 0, .ref ma, .ref mas, .ref msn, .ref mac, .ref mat]))] s.heap.size = A at hD hZ ⊢
  have hA : ∀ q : Nat, s.heap.size ≤ q → A q := fun q h => by rw [← hAe]; exact Or.inr h
  have hS : va_S A s.heap s.heap [] := va_S.rf
  have f49 := hts (.fieldLink RX7 49 "HopCreditsModel" "thrown" "I") (by decide +kernel)
  have iX7 : ∀ w ∈ u_ws RX7 TX7 21, w ∈ wsX7_thrown := by decide +kernel
  have hl := lv_entry ([.ref m_]) (n := 1) (Nat.le_of_ble_eq_true rfl)
  rw [lg_entry_eq]
  generalize (lg_sl ([.ref m_]) ++ List.replicate (1 - (lg_sl ([.ref m_])).length) Slot.unset).toArray = ls at hl ⊢
  have hl : lv_has ls 1 [(0, .ref m_)] := hl
  generalize hQ : MQ below _ _ s _ _ _ = Q
  generalize hH : s.heap = H at hP ⊢
  have hS : va_S A s.heap H [] := by rw [← hH]; exact hS
  clear hH
  refine lv_aload_n hx hb dX7_thrown_0 rfl (lv_at hl 0 rfl) ?_
  refine va_get (D := D) (ci := 7) (v := .int th) (C := RX7) (T := TX7) (N := 21) hx hb hts iX7 hown hK hP 0 rfl rfl 0 (by decide) f49 (fun _ h9 => h9) rfl dX7_thrown_1 ?_
  have hP9 := hP.sub (ws' := [(m_, .inr (7, [.int th, .ref mt, .int tp, .int pa_, .int wr, .ref mrr, .ref mrh, .ref mrc, .int rh, .int rc, .ref mn, .ref mf, .ref mr, .ref mh, .int 0, .int 0, .ref ma, .ref mas, .ref msn, .ref mac, .ref mat]))]) [0] rfl
  have hD9 := hD.sub (ws' := [(m_, .inr (7, [.int th, .ref mt, .int tp, .int pa_, .int wr, .ref mrr, .ref mrh, .ref mrc, .int rh, .int rc, .ref mn, .ref mf, .ref mr, .ref mh, .int 0, .int 0, .ref ma, .ref mas, .ref msn, .ref mac, .ref mat]))]) [0] (by decide) rfl
  subst hQ
  refine W.widen (k := 0) (n := 0) (Nat.le_of_ble_eq_true rfl) (Nat.le_of_ble_eq_true rfl) ?_
  exact W.iret (v := th) hx hb hr (fun tS htS _ => ⟨⟨_, _, rfl, ⟨rfl, rfl⟩, by rw [htS]; exact hP9, hD9⟩, hS.F htS⟩) hS.2.2 dX7_thrown_4
set_option maxHeartbeats 4000000 in
set_option maxRecDepth 100000 in
/-- rule without a NET -/
theorem c_X7_rule (l : Launch) (D : va_G) (g : Nat → ClassId) (sz : Nat) (m_ : Nat) (th : Int32) (mt : Nat) (tp : Int32) (pa_ : Int32) (wr : Int32) (mrr : Nat) (mrh : Nat) (mrc : Nat) (rh : Int32) (rc : Int32) (mn : Nat) (mf : Nat) (mr : Nat) (mh : Nat) (ma : Nat) (mas : Nat) (msn : Nat) (mac : Nat) (mat : Nat) (p0 : Int32) : Met l yX7_rule wsX7_rule ({ frames := 1, cells := 0, slots := 0, locals := 20 }) (va_Pc [.ref m_, .int p0] (pre D g sz [(m_, .inr (7, [.int th, .ref mt, .int tp, .int pa_, .int wr, .ref mrr, .ref mrh, .ref mrc, .int rh, .int rc, .ref mn, .ref mf, .ref mr, .ref mh, .int 0, .int 0, .ref ma, .ref mas, .ref msn, .ref mac, .ref mat]))])) (va_Qi (fun (r : Int32) (u : va_W) => u = [(m_, .inr (7, [.int 0, .ref mt, .int tp, .int pa_, .int wr, .ref mrr, .ref mrh, .ref mrc, .int rh, .int rc, .ref mn, .ref mf, .ref mr, .ref mh, .int 0, .int 0, .ref ma, .ref mas, .ref msn, .ref mac, .ref mat]))] ∧ r = (-1000000)) (wd D (va_A [(m_, .inr (7, [.int th, .ref mt, .int tp, .int pa_, .int wr, .ref mrr, .ref mrh, .ref mrc, .int rh, .int rc, .ref mn, .ref mf, .ref mr, .ref mh, .int 0, .int 0, .ref ma, .ref mas, .ref msn, .ref mac, .ref mat]))] sz)) (va_A [(m_, .inr (7, [.int th, .ref mt, .int tp, .int pa_, .int wr, .ref mrr, .ref mrh, .ref mrc, .int rh, .int rc, .ref mn, .ref mf, .ref mr, .ref mh, .int 0, .int 0, .ref ma, .ref mas, .ref msn, .ref mac, .ref mat]))] sz)) 0 0 (va_A [(m_, .inr (7, [.int th, .ref mt, .int tp, .int pa_, .int wr, .ref mrr, .ref mrh, .ref mrc, .int rh, .int rc, .ref mn, .ref mf, .ref mr, .ref mh, .int 0, .int 0, .ref ma, .ref mas, .ref msn, .ref mac, .ref mat]))] sz) := by
  refine Met.ofW (cc := cX7_rule) (maxL := 2) (ret := (some .int)) (by decide) rfl ?_
  intro p e s m args below meth c s₁ B hml hv
  obtain ⟨rfl, hsz, hP, ⟨hK, hN⟩, hD0, hZ⟩ := hv
  have hx := B.exec
  have hb := B.bytes
  have hr := B.returns
  have hts := atoms_spec (ws := wsX7_rule) B.pre
  have hown : s.vm.findClass RX7 = some m.cls := findClass_of_methodNamed B.named
  have hlocks := B.notSynchronized
  clear B
  subst hsz
  have hD := hD0.self (sz := s.heap.size)
  clear hD0
  generalize hAe : va_A [(m_, .inr (7, [.int th, .ref mt, .int tp, .int pa_, .int wr, .ref mrr, .ref mrh, .ref mrc, .int rh, .int rc, .ref mn, .ref mf, .ref mr, .ref mh, .int 0, .int 0, .ref ma, .ref mas, .ref msn, .ref mac, .ref mat]))] s.heap.size = A at hD hZ ⊢
  have hA : ∀ q : Nat, s.heap.size ≤ q → A q := fun q h => by rw [← hAe]; exact Or.inr h
  have hS : va_S A s.heap s.heap [] := va_S.rf
  have f49 := hts (.fieldLink RX7 49 "HopCreditsModel" "thrown" "I") (by decide +kernel)
  have k236 := hts (.constant RX7 236 (-1000000)) (by decide +kernel)
  have iX7 : ∀ w ∈ u_ws RX7 TX7 21, w ∈ wsX7_rule := by decide +kernel
  have hl := lv_entry ([.ref m_, .int p0]) (n := 2) (Nat.le_of_ble_eq_true rfl)
  rw [lg_entry_eq]
  generalize (lg_sl ([.ref m_, .int p0]) ++ List.replicate (2 - (lg_sl ([.ref m_, .int p0])).length) Slot.unset).toArray = ls at hl ⊢
  have hl : lv_has ls 2 [(0, .ref m_), (1, .int p0)] := hl
  generalize hQ : MQ below _ _ s _ _ _ = Q
  generalize hH : s.heap = H at hP ⊢
  have hS : va_S A s.heap H [] := by rw [← hH]; exact hS
  clear hH
  refine lv_aload_n hx hb dX7_rule_0 rfl (lv_at hl 0 rfl) ?_
  refine lv_iconst (v := 0) hx hb dX7_rule_1 (by decide) ?_
  refine va_put (D := D) (ci := 7) (v := .int 0) (ty := .int) (C := RX7) (T := TX7) (N := 21) hx hb hts iX7 tyX7 tyX7_ok nmX7 hown hK hP hD hS 0 rfl rfl 0 (by decide) f49 (fun _ h9 => h9) rfl (by decide +kernel) (rfl) (rfl) (Nat.le_of_ble_eq_true rfl) dX7_rule_2 (fun H locs hP hD hS => ?_)
  have hP : va_P D vwCl [(m_, .inr (7, [.int 0, .ref mt, .int tp, .int pa_, .int wr, .ref mrr, .ref mrh, .ref mrc, .int rh, .int rc, .ref mn, .ref mf, .ref mr, .ref mh, .int 0, .int 0, .ref ma, .ref mas, .ref msn, .ref mac, .ref mat]))] H := hP
  have hD : va_D A [(m_, .inr (7, [.int 0, .ref mt, .int tp, .int pa_, .int wr, .ref mrr, .ref mrh, .ref mrc, .int rh, .int rc, .ref mn, .ref mf, .ref mr, .ref mh, .int 0, .int 0, .ref ma, .ref mas, .ref msn, .ref mac, .ref mat]))] := hD
  refine lv_aload_n hx hb dX7_rule_5 rfl (lv_at hl 0 rfl) ?_
  refine ky_Vi (As := []) (rest := []) ⟨hx, hb, hml, hown, hts⟩ ⟨hK, hN⟩ hZ hP hD hS hA [0] [] (wc := [(m_, .inr (7, [.int 0, .ref mt, .int tp, .int pa_, .int wr, .ref mrr, .ref mrh, .ref mrc, .int rh, .int rc, .ref mn, .ref mf, .ref mr, .ref mh, .int 0, .int 0, .ref ma, .ref mas, .ref msn, .ref mac, .ref mat]))]) (wr := []) rfl rfl rfl rfl (by decide) (c_X7_isNet l D g H.size m_ 0 mt tp pa_ wr mrr mrh mrc rh rc mn mf mr mh ma mas msn mac mat) (cwV 0 hts gX7_rule_X7_isNet rfl rfl rfl (by decide +kernel) ⟨(Nat.le_of_ble_eq_true rfl), (Nat.le_of_ble_eq_true rfl)⟩) 0 7 rfl rfl rfl rfl hl.1 rfl (Nat.le_of_ble_eq_true rfl) dX7_rule_6 ⟨(Nat.le_of_ble_eq_true rfl), (Nat.le_of_ble_eq_true rfl)⟩ (fun r_1 u H locs hw hP hD hS => ?_)
  obtain ⟨rfl, rfl⟩ := hw
  have hP : va_P D vwCl [(m_, .inr (7, [.int 0, .ref mt, .int tp, .int pa_, .int wr, .ref mrr, .ref mrh, .ref mrc, .int rh, .int rc, .ref mn, .ref mf, .ref mr, .ref mh, .int 0, .int 0, .ref ma, .ref mas, .ref msn, .ref mac, .ref mat]))] H := hP
  have hD : va_D A [(m_, .inr (7, [.int 0, .ref mt, .int tp, .int pa_, .int wr, .ref mrr, .ref mrh, .ref mrc, .int rh, .int rc, .ref mn, .ref mf, .ref mr, .ref mh, .int 0, .int 0, .ref ma, .ref mas, .ref msn, .ref mac, .ref mat]))] := hD
  refine W.widen (k := 0) (n := 0) (Nat.le_of_ble_eq_true rfl) (Nat.le_of_ble_eq_true rfl) ?_
  refine lv_if_eq (tgt := 21) hx hb dX7_rule_9 (by decide) (fun _ => ?_) (fun cb => absurd (by decide) cb)
  refine lv_ldc (v := (-1000000)) hx hb hown k236 dX7_rule_21 ?_
  have hP9 := hP.sub (ws' := [(m_, .inr (7, [.int 0, .ref mt, .int tp, .int pa_, .int wr, .ref mrr, .ref mrh, .ref mrc, .int rh, .int rc, .ref mn, .ref mf, .ref mr, .ref mh, .int 0, .int 0, .ref ma, .ref mas, .ref msn, .ref mac, .ref mat]))]) [0] rfl
  have hD9 := hD.sub (ws' := [(m_, .inr (7, [.int 0, .ref mt, .int tp, .int pa_, .int wr, .ref mrr, .ref mrh, .ref mrc, .int rh, .int rc, .ref mn, .ref mf, .ref mr, .ref mh, .int 0, .int 0, .ref ma, .ref mas, .ref msn, .ref mac, .ref mat]))]) [0] (by decide) rfl
  subst hQ
  refine W.widen (k := 0) (n := 0) (Nat.le_of_ble_eq_true rfl) (Nat.le_of_ble_eq_true rfl) ?_
  exact W.iret (v := (-1000000)) hx hb hr (fun tS htS _ => ⟨⟨_, _, rfl, ⟨rfl, rfl⟩, by rw [htS]; exact hP9, hD9⟩, hS.F htS⟩) hS.2.2 dX7_rule_23
set_option maxHeartbeats 4000000 in
set_option maxRecDepth 100000 in
/-- lane_ without a NET -/
theorem c_X7_lane_ (l : Launch) (D : va_G) (g : Nat → ClassId) (sz : Nat) (m_ : Nat) (th : Int32) (mt : Nat) (tp : Int32) (pa_ : Int32) (wr : Int32) (mrr : Nat) (mrh : Nat) (mrc : Nat) (rh : Int32) (rc : Int32) (mn : Nat) (mf : Nat) (mr : Nat) (mh : Nat) (ma : Nat) (mas : Nat) (msn : Nat) (mac : Nat) (mat : Nat) (p0 : Int32) (p1 : Int32) (p2 : Int32) : Met l yX7_lane_ wsX7_lane_ ({ frames := 3, cells := 0, slots := 0, locals := 65 }) (va_Pc [.ref m_, .int p0, .int p1, .int p2] (pre D g sz [(m_, .inr (7, [.int th, .ref mt, .int tp, .int pa_, .int wr, .ref mrr, .ref mrh, .ref mrc, .int rh, .int rc, .ref mn, .ref mf, .ref mr, .ref mh, .int 0, .int 0, .ref ma, .ref mas, .ref msn, .ref mac, .ref mat]))])) (va_Qi (fun (r : Int32) (u : va_W) => u = [(m_, .inr (7, [.int 0, .ref mt, .int tp, .int pa_, .int wr, .ref mrr, .ref mrh, .ref mrc, .int rh, .int rc, .ref mn, .ref mf, .ref mr, .ref mh, .int 0, .int 0, .ref ma, .ref mas, .ref msn, .ref mac, .ref mat]))] ∧ r = (-1)) (wd D (va_A [(m_, .inr (7, [.int th, .ref mt, .int tp, .int pa_, .int wr, .ref mrr, .ref mrh, .ref mrc, .int rh, .int rc, .ref mn, .ref mf, .ref mr, .ref mh, .int 0, .int 0, .ref ma, .ref mas, .ref msn, .ref mac, .ref mat]))] sz)) (va_A [(m_, .inr (7, [.int th, .ref mt, .int tp, .int pa_, .int wr, .ref mrr, .ref mrh, .ref mrc, .int rh, .int rc, .ref mn, .ref mf, .ref mr, .ref mh, .int 0, .int 0, .ref ma, .ref mas, .ref msn, .ref mac, .ref mat]))] sz)) 0 0 (va_A [(m_, .inr (7, [.int th, .ref mt, .int tp, .int pa_, .int wr, .ref mrr, .ref mrh, .ref mrc, .int rh, .int rc, .ref mn, .ref mf, .ref mr, .ref mh, .int 0, .int 0, .ref ma, .ref mas, .ref msn, .ref mac, .ref mat]))] sz) := by
  refine Met.ofW (cc := cX7_lane_) (maxL := 4) (ret := (some .int)) (by decide) rfl ?_
  intro p e s m args below meth c s₁ B hml hv
  obtain ⟨rfl, hsz, hP, ⟨hK, hN⟩, hD0, hZ⟩ := hv
  have hx := B.exec
  have hb := B.bytes
  have hr := B.returns
  have hts := atoms_spec (ws := wsX7_lane_) B.pre
  have hown : s.vm.findClass RX7 = some m.cls := findClass_of_methodNamed B.named
  have hlocks := B.notSynchronized
  clear B
  subst hsz
  have hD := hD0.self (sz := s.heap.size)
  clear hD0
  generalize hAe : va_A [(m_, .inr (7, [.int th, .ref mt, .int tp, .int pa_, .int wr, .ref mrr, .ref mrh, .ref mrc, .int rh, .int rc, .ref mn, .ref mf, .ref mr, .ref mh, .int 0, .int 0, .ref ma, .ref mas, .ref msn, .ref mac, .ref mat]))] s.heap.size = A at hD hZ ⊢
  have hA : ∀ q : Nat, s.heap.size ≤ q → A q := fun q h => by rw [← hAe]; exact Or.inr h
  have hS : va_S A s.heap s.heap [] := va_S.rf
  have f49 := hts (.fieldLink RX7 49 "HopCreditsModel" "thrown" "I") (by decide +kernel)
  have iX7 : ∀ w ∈ u_ws RX7 TX7 21, w ∈ wsX7_lane_ := by decide +kernel
  have hl := lv_entry ([.ref m_, .int p0, .int p1, .int p2]) (n := 4) (Nat.le_of_ble_eq_true rfl)
  rw [lg_entry_eq]
  generalize (lg_sl ([.ref m_, .int p0, .int p1, .int p2]) ++ List.replicate (4 - (lg_sl ([.ref m_, .int p0, .int p1, .int p2])).length) Slot.unset).toArray = ls at hl ⊢
  have hl : lv_has ls 4 [(0, .ref m_), (1, .int p0), (2, .int p1), (3, .int p2)] := hl
  generalize hQ : MQ below _ _ s _ _ _ = Q
  generalize hH : s.heap = H at hP ⊢
  have hS : va_S A s.heap H [] := by rw [← hH]; exact hS
  clear hH
  refine lv_aload_n hx hb dX7_lane__0 rfl (lv_at hl 0 rfl) ?_
  refine lv_iconst (v := 0) hx hb dX7_lane__1 (by decide) ?_
  refine va_put (D := D) (ci := 7) (v := .int 0) (ty := .int) (C := RX7) (T := TX7) (N := 21) hx hb hts iX7 tyX7 tyX7_ok nmX7 hown hK hP hD hS 0 rfl rfl 0 (by decide) f49 (fun _ h9 => h9) rfl (by decide +kernel) (rfl) (rfl) (Nat.le_of_ble_eq_true rfl) dX7_lane__2 (fun H locs hP hD hS => ?_)
  have hP : va_P D vwCl [(m_, .inr (7, [.int 0, .ref mt, .int tp, .int pa_, .int wr, .ref mrr, .ref mrh, .ref mrc, .int rh, .int rc, .ref mn, .ref mf, .ref mr, .ref mh, .int 0, .int 0, .ref ma, .ref mas, .ref msn, .ref mac, .ref mat]))] H := hP
  have hD : va_D A [(m_, .inr (7, [.int 0, .ref mt, .int tp, .int pa_, .int wr, .ref mrr, .ref mrh, .ref mrc, .int rh, .int rc, .ref mn, .ref mf, .ref mr, .ref mh, .int 0, .int 0, .ref ma, .ref mas, .ref msn, .ref mac, .ref mat]))] := hD
  refine lv_aload_n hx hb dX7_lane__5 rfl (lv_at hl 0 rfl) ?_
  refine lv_iload_n hx hb dX7_lane__6 rfl (lv_at hl 1 rfl) ?_
  refine lv_iload_n hx hb dX7_lane__7 rfl (lv_at hl 2 rfl) ?_
  refine ky_Vi (As := [.int p0, .int p1]) (rest := []) ⟨hx, hb, hml, hown, hts⟩ ⟨hK, hN⟩ hZ hP hD hS hA [0] [] (wc := [(m_, .inr (7, [.int 0, .ref mt, .int tp, .int pa_, .int wr, .ref mrr, .ref mrh, .ref mrc, .int rh, .int rc, .ref mn, .ref mf, .ref mr, .ref mh, .int 0, .int 0, .ref ma, .ref mas, .ref msn, .ref mac, .ref mat]))]) (wr := []) rfl rfl rfl rfl (by decide) (c_X7_isLane l D g H.size m_ 0 mt tp pa_ wr mrr mrh mrc rh rc mn mf mr mh ma mas msn mac mat p0 p1) (cwV 2 hts gX7_lane__X7_isLane rfl rfl rfl (by decide +kernel) ⟨(Nat.le_of_ble_eq_true rfl), (Nat.le_of_ble_eq_true rfl)⟩) 0 7 rfl rfl rfl rfl hl.1 rfl (Nat.le_of_ble_eq_true rfl) dX7_lane__8 ⟨(Nat.le_of_ble_eq_true rfl), (Nat.le_of_ble_eq_true rfl)⟩ (fun r_1 u H locs hw hP hD hS => ?_)
  obtain ⟨rfl, rfl⟩ := hw
  have hP : va_P D vwCl [(m_, .inr (7, [.int 0, .ref mt, .int tp, .int pa_, .int wr, .ref mrr, .ref mrh, .ref mrc, .int rh, .int rc, .ref mn, .ref mf, .ref mr, .ref mh, .int 0, .int 0, .ref ma, .ref mas, .ref msn, .ref mac, .ref mat]))] H := hP
  have hD : va_D A [(m_, .inr (7, [.int 0, .ref mt, .int tp, .int pa_, .int wr, .ref mrr, .ref mrh, .ref mrc, .int rh, .int rc, .ref mn, .ref mf, .ref mr, .ref mh, .int 0, .int 0, .ref ma, .ref mas, .ref msn, .ref mac, .ref mat]))] := hD
  refine W.widen (k := 0) (n := 0) (Nat.le_of_ble_eq_true rfl) (Nat.le_of_ble_eq_true rfl) ?_
  refine lv_if_eq (tgt := 34) hx hb dX7_lane__11 (by decide) (fun _ => ?_) (fun cb => absurd (by decide) cb)
  refine lv_iconst (v := (-1)) hx hb dX7_lane__34 (by decide) ?_
  have hP9 := hP.sub (ws' := [(m_, .inr (7, [.int 0, .ref mt, .int tp, .int pa_, .int wr, .ref mrr, .ref mrh, .ref mrc, .int rh, .int rc, .ref mn, .ref mf, .ref mr, .ref mh, .int 0, .int 0, .ref ma, .ref mas, .ref msn, .ref mac, .ref mat]))]) [0] rfl
  have hD9 := hD.sub (ws' := [(m_, .inr (7, [.int 0, .ref mt, .int tp, .int pa_, .int wr, .ref mrr, .ref mrh, .ref mrc, .int rh, .int rc, .ref mn, .ref mf, .ref mr, .ref mh, .int 0, .int 0, .ref ma, .ref mas, .ref msn, .ref mac, .ref mat]))]) [0] (by decide) rfl
  subst hQ
  refine W.widen (k := 0) (n := 0) (Nat.le_of_ble_eq_true rfl) (Nat.le_of_ble_eq_true rfl) ?_
  exact W.iret (v := (-1)) hx hb hr (fun tS htS _ => ⟨⟨_, _, rfl, ⟨rfl, rfl⟩, by rw [htS]; exact hP9, hD9⟩, hS.F htS⟩) hS.2.2 dX7_lane__35
set_option maxHeartbeats 4000000 in
set_option maxRecDepth 100000 in
/-- buffer without a NET -/
theorem c_X7_buffer (l : Launch) (D : va_G) (g : Nat → ClassId) (sz : Nat) (m_ : Nat) (th : Int32) (mt : Nat) (tp : Int32) (pa_ : Int32) (wr : Int32) (mrr : Nat) (mrh : Nat) (mrc : Nat) (rh : Int32) (rc : Int32) (mn : Nat) (mf : Nat) (mr : Nat) (mh : Nat) (ma : Nat) (mas : Nat) (msn : Nat) (mac : Nat) (mat : Nat) (p0 : Int32) (p1 : Int32) : Met l yX7_buffer wsX7_buffer ({ frames := 2, cells := 0, slots := 0, locals := 41 }) (va_Pc [.ref m_, .int p0, .int p1] (pre D g sz [(m_, .inr (7, [.int th, .ref mt, .int tp, .int pa_, .int wr, .ref mrr, .ref mrh, .ref mrc, .int rh, .int rc, .ref mn, .ref mf, .ref mr, .ref mh, .int 0, .int 0, .ref ma, .ref mas, .ref msn, .ref mac, .ref mat]))])) (va_Qi (fun (r : Int32) (u : va_W) => u = [(m_, .inr (7, [.int 0, .ref mt, .int tp, .int pa_, .int wr, .ref mrr, .ref mrh, .ref mrc, .int rh, .int rc, .ref mn, .ref mf, .ref mr, .ref mh, .int 0, .int 0, .ref ma, .ref mas, .ref msn, .ref mac, .ref mat]))] ∧ r = (-1)) (wd D (va_A [(m_, .inr (7, [.int th, .ref mt, .int tp, .int pa_, .int wr, .ref mrr, .ref mrh, .ref mrc, .int rh, .int rc, .ref mn, .ref mf, .ref mr, .ref mh, .int 0, .int 0, .ref ma, .ref mas, .ref msn, .ref mac, .ref mat]))] sz)) (va_A [(m_, .inr (7, [.int th, .ref mt, .int tp, .int pa_, .int wr, .ref mrr, .ref mrh, .ref mrc, .int rh, .int rc, .ref mn, .ref mf, .ref mr, .ref mh, .int 0, .int 0, .ref ma, .ref mas, .ref msn, .ref mac, .ref mat]))] sz)) 0 0 (va_A [(m_, .inr (7, [.int th, .ref mt, .int tp, .int pa_, .int wr, .ref mrr, .ref mrh, .ref mrc, .int rh, .int rc, .ref mn, .ref mf, .ref mr, .ref mh, .int 0, .int 0, .ref ma, .ref mas, .ref msn, .ref mac, .ref mat]))] sz) := by
  refine Met.ofW (cc := cX7_buffer) (maxL := 3) (ret := (some .int)) (by decide) rfl ?_
  intro p e s m args below meth c s₁ B hml hv
  obtain ⟨rfl, hsz, hP, ⟨hK, hN⟩, hD0, hZ⟩ := hv
  have hx := B.exec
  have hb := B.bytes
  have hr := B.returns
  have hts := atoms_spec (ws := wsX7_buffer) B.pre
  have hown : s.vm.findClass RX7 = some m.cls := findClass_of_methodNamed B.named
  have hlocks := B.notSynchronized
  clear B
  subst hsz
  have hD := hD0.self (sz := s.heap.size)
  clear hD0
  generalize hAe : va_A [(m_, .inr (7, [.int th, .ref mt, .int tp, .int pa_, .int wr, .ref mrr, .ref mrh, .ref mrc, .int rh, .int rc, .ref mn, .ref mf, .ref mr, .ref mh, .int 0, .int 0, .ref ma, .ref mas, .ref msn, .ref mac, .ref mat]))] s.heap.size = A at hD hZ ⊢
  have hA : ∀ q : Nat, s.heap.size ≤ q → A q := fun q h => by rw [← hAe]; exact Or.inr h
  have hS : va_S A s.heap s.heap [] := va_S.rf
  have f49 := hts (.fieldLink RX7 49 "HopCreditsModel" "thrown" "I") (by decide +kernel)
  have iX7 : ∀ w ∈ u_ws RX7 TX7 21, w ∈ wsX7_buffer := by decide +kernel
  have hl := lv_entry ([.ref m_, .int p0, .int p1]) (n := 3) (Nat.le_of_ble_eq_true rfl)
  rw [lg_entry_eq]
  generalize (lg_sl ([.ref m_, .int p0, .int p1]) ++ List.replicate (3 - (lg_sl ([.ref m_, .int p0, .int p1])).length) Slot.unset).toArray = ls at hl ⊢
  have hl : lv_has ls 3 [(0, .ref m_), (1, .int p0), (2, .int p1)] := hl
  generalize hQ : MQ below _ _ s _ _ _ = Q
  generalize hH : s.heap = H at hP ⊢
  have hS : va_S A s.heap H [] := by rw [← hH]; exact hS
  clear hH
  refine lv_aload_n hx hb dX7_buffer_0 rfl (lv_at hl 0 rfl) ?_
  refine lv_iconst (v := 0) hx hb dX7_buffer_1 (by decide) ?_
  refine va_put (D := D) (ci := 7) (v := .int 0) (ty := .int) (C := RX7) (T := TX7) (N := 21) hx hb hts iX7 tyX7 tyX7_ok nmX7 hown hK hP hD hS 0 rfl rfl 0 (by decide) f49 (fun _ h9 => h9) rfl (by decide +kernel) (rfl) (rfl) (Nat.le_of_ble_eq_true rfl) dX7_buffer_2 (fun H locs hP hD hS => ?_)
  have hP : va_P D vwCl [(m_, .inr (7, [.int 0, .ref mt, .int tp, .int pa_, .int wr, .ref mrr, .ref mrh, .ref mrc, .int rh, .int rc, .ref mn, .ref mf, .ref mr, .ref mh, .int 0, .int 0, .ref ma, .ref mas, .ref msn, .ref mac, .ref mat]))] H := hP
  have hD : va_D A [(m_, .inr (7, [.int 0, .ref mt, .int tp, .int pa_, .int wr, .ref mrr, .ref mrh, .ref mrc, .int rh, .int rc, .ref mn, .ref mf, .ref mr, .ref mh, .int 0, .int 0, .ref ma, .ref mas, .ref msn, .ref mac, .ref mat]))] := hD
  refine lv_aload_n hx hb dX7_buffer_5 rfl (lv_at hl 0 rfl) ?_
  refine lv_iload_n hx hb dX7_buffer_6 rfl (lv_at hl 1 rfl) ?_
  refine ky_Vi (As := [.int p0]) (rest := []) ⟨hx, hb, hml, hown, hts⟩ ⟨hK, hN⟩ hZ hP hD hS hA [0] [] (wc := [(m_, .inr (7, [.int 0, .ref mt, .int tp, .int pa_, .int wr, .ref mrr, .ref mrh, .ref mrc, .int rh, .int rc, .ref mn, .ref mf, .ref mr, .ref mh, .int 0, .int 0, .ref ma, .ref mas, .ref msn, .ref mac, .ref mat]))]) (wr := []) rfl rfl rfl rfl (by decide) (c_X7_isNode l D g H.size m_ 0 mt tp pa_ wr mrr mrh mrc rh rc mn mf mr mh ma mas msn mac mat p0) (cwV 1 hts gX7_buffer_X7_isNode rfl rfl rfl (by decide +kernel) ⟨(Nat.le_of_ble_eq_true rfl), (Nat.le_of_ble_eq_true rfl)⟩) 0 7 rfl rfl rfl rfl hl.1 rfl (Nat.le_of_ble_eq_true rfl) dX7_buffer_7 ⟨(Nat.le_of_ble_eq_true rfl), (Nat.le_of_ble_eq_true rfl)⟩ (fun r_1 u H locs hw hP hD hS => ?_)
  obtain ⟨rfl, rfl⟩ := hw
  have hP : va_P D vwCl [(m_, .inr (7, [.int 0, .ref mt, .int tp, .int pa_, .int wr, .ref mrr, .ref mrh, .ref mrc, .int rh, .int rc, .ref mn, .ref mf, .ref mr, .ref mh, .int 0, .int 0, .ref ma, .ref mas, .ref msn, .ref mac, .ref mat]))] H := hP
  have hD : va_D A [(m_, .inr (7, [.int 0, .ref mt, .int tp, .int pa_, .int wr, .ref mrr, .ref mrh, .ref mrc, .int rh, .int rc, .ref mn, .ref mf, .ref mr, .ref mh, .int 0, .int 0, .ref ma, .ref mas, .ref msn, .ref mac, .ref mat]))] := hD
  refine W.widen (k := 0) (n := 0) (Nat.le_of_ble_eq_true rfl) (Nat.le_of_ble_eq_true rfl) ?_
  refine lv_if_eq (tgt := 34) hx hb dX7_buffer_10 (by decide) (fun _ => ?_) (fun cb => absurd (by decide) cb)
  refine lv_iconst (v := (-1)) hx hb dX7_buffer_34 (by decide) ?_
  have hP9 := hP.sub (ws' := [(m_, .inr (7, [.int 0, .ref mt, .int tp, .int pa_, .int wr, .ref mrr, .ref mrh, .ref mrc, .int rh, .int rc, .ref mn, .ref mf, .ref mr, .ref mh, .int 0, .int 0, .ref ma, .ref mas, .ref msn, .ref mac, .ref mat]))]) [0] rfl
  have hD9 := hD.sub (ws' := [(m_, .inr (7, [.int 0, .ref mt, .int tp, .int pa_, .int wr, .ref mrr, .ref mrh, .ref mrc, .int rh, .int rc, .ref mn, .ref mf, .ref mr, .ref mh, .int 0, .int 0, .ref ma, .ref mas, .ref msn, .ref mac, .ref mat]))]) [0] (by decide) rfl
  subst hQ
  refine W.widen (k := 0) (n := 0) (Nat.le_of_ble_eq_true rfl) (Nat.le_of_ble_eq_true rfl) ?_
  exact W.iret (v := (-1)) hx hb hr (fun tS htS _ => ⟨⟨_, _, rfl, ⟨rfl, rfl⟩, by rw [htS]; exact hP9, hD9⟩, hS.F htS⟩) hS.2.2 dX7_buffer_35
set_option maxHeartbeats 4000000 in
set_option maxRecDepth 100000 in
/-- way without a NET -/
theorem c_X7_way (l : Launch) (D : va_G) (g : Nat → ClassId) (sz : Nat) (m_ : Nat) (th : Int32) (mt : Nat) (tp : Int32) (pa_ : Int32) (wr : Int32) (mrr : Nat) (mrh : Nat) (mrc : Nat) (rh : Int32) (rc : Int32) (mn : Nat) (mf : Nat) (mr : Nat) (mh : Nat) (ma : Nat) (mas : Nat) (msn : Nat) (mac : Nat) (mat : Nat) (p0 : Int32) (p1 : Int32) (p2 : Int32) : Met l yX7_way wsX7_way ({ frames := 2, cells := 0, slots := 0, locals := 43 }) (va_Pc [.ref m_, .int p0, .int p1, .int p2] (pre D g sz [(m_, .inr (7, [.int th, .ref mt, .int tp, .int pa_, .int wr, .ref mrr, .ref mrh, .ref mrc, .int rh, .int rc, .ref mn, .ref mf, .ref mr, .ref mh, .int 0, .int 0, .ref ma, .ref mas, .ref msn, .ref mac, .ref mat]))])) (va_Qi (fun (r : Int32) (u : va_W) => u = [(m_, .inr (7, [.int 0, .ref mt, .int tp, .int pa_, .int wr, .ref mrr, .ref mrh, .ref mrc, .int rh, .int rc, .ref mn, .ref mf, .ref mr, .ref mh, .int 0, .int 0, .ref ma, .ref mas, .ref msn, .ref mac, .ref mat]))] ∧ r = (-1)) (wd D (va_A [(m_, .inr (7, [.int th, .ref mt, .int tp, .int pa_, .int wr, .ref mrr, .ref mrh, .ref mrc, .int rh, .int rc, .ref mn, .ref mf, .ref mr, .ref mh, .int 0, .int 0, .ref ma, .ref mas, .ref msn, .ref mac, .ref mat]))] sz)) (va_A [(m_, .inr (7, [.int th, .ref mt, .int tp, .int pa_, .int wr, .ref mrr, .ref mrh, .ref mrc, .int rh, .int rc, .ref mn, .ref mf, .ref mr, .ref mh, .int 0, .int 0, .ref ma, .ref mas, .ref msn, .ref mac, .ref mat]))] sz)) 0 0 (va_A [(m_, .inr (7, [.int th, .ref mt, .int tp, .int pa_, .int wr, .ref mrr, .ref mrh, .ref mrc, .int rh, .int rc, .ref mn, .ref mf, .ref mr, .ref mh, .int 0, .int 0, .ref ma, .ref mas, .ref msn, .ref mac, .ref mat]))] sz) := by
  refine Met.ofW (cc := cX7_way) (maxL := 5) (ret := (some .int)) (by decide) rfl ?_
  intro p e s m args below meth c s₁ B hml hv
  obtain ⟨rfl, hsz, hP, ⟨hK, hN⟩, hD0, hZ⟩ := hv
  have hx := B.exec
  have hb := B.bytes
  have hr := B.returns
  have hts := atoms_spec (ws := wsX7_way) B.pre
  have hown : s.vm.findClass RX7 = some m.cls := findClass_of_methodNamed B.named
  have hlocks := B.notSynchronized
  clear B
  subst hsz
  have hD := hD0.self (sz := s.heap.size)
  clear hD0
  generalize hAe : va_A [(m_, .inr (7, [.int th, .ref mt, .int tp, .int pa_, .int wr, .ref mrr, .ref mrh, .ref mrc, .int rh, .int rc, .ref mn, .ref mf, .ref mr, .ref mh, .int 0, .int 0, .ref ma, .ref mas, .ref msn, .ref mac, .ref mat]))] s.heap.size = A at hD hZ ⊢
  have hA : ∀ q : Nat, s.heap.size ≤ q → A q := fun q h => by rw [← hAe]; exact Or.inr h
  have hS : va_S A s.heap s.heap [] := va_S.rf
  have f49 := hts (.fieldLink RX7 49 "HopCreditsModel" "thrown" "I") (by decide +kernel)
  have iX7 : ∀ w ∈ u_ws RX7 TX7 21, w ∈ wsX7_way := by decide +kernel
  have hl := lv_entry ([.ref m_, .int p0, .int p1, .int p2]) (n := 5) (Nat.le_of_ble_eq_true rfl)
  rw [lg_entry_eq]
  generalize (lg_sl ([.ref m_, .int p0, .int p1, .int p2]) ++ List.replicate (5 - (lg_sl ([.ref m_, .int p0, .int p1, .int p2])).length) Slot.unset).toArray = ls at hl ⊢
  have hl : lv_has ls 5 [(0, .ref m_), (1, .int p0), (2, .int p1), (3, .int p2)] := hl
  generalize hQ : MQ below _ _ s _ _ _ = Q
  generalize hH : s.heap = H at hP ⊢
  have hS : va_S A s.heap H [] := by rw [← hH]; exact hS
  clear hH
  refine lv_aload_n hx hb dX7_way_0 rfl (lv_at hl 0 rfl) ?_
  refine lv_iconst (v := 0) hx hb dX7_way_1 (by decide) ?_
  refine va_put (D := D) (ci := 7) (v := .int 0) (ty := .int) (C := RX7) (T := TX7) (N := 21) hx hb hts iX7 tyX7 tyX7_ok nmX7 hown hK hP hD hS 0 rfl rfl 0 (by decide) f49 (fun _ h9 => h9) rfl (by decide +kernel) (rfl) (rfl) (Nat.le_of_ble_eq_true rfl) dX7_way_2 (fun H locs hP hD hS => ?_)
  have hP : va_P D vwCl [(m_, .inr (7, [.int 0, .ref mt, .int tp, .int pa_, .int wr, .ref mrr, .ref mrh, .ref mrc, .int rh, .int rc, .ref mn, .ref mf, .ref mr, .ref mh, .int 0, .int 0, .ref ma, .ref mas, .ref msn, .ref mac, .ref mat]))] H := hP
  have hD : va_D A [(m_, .inr (7, [.int 0, .ref mt, .int tp, .int pa_, .int wr, .ref mrr, .ref mrh, .ref mrc, .int rh, .int rc, .ref mn, .ref mf, .ref mr, .ref mh, .int 0, .int 0, .ref ma, .ref mas, .ref msn, .ref mac, .ref mat]))] := hD
  refine lv_aload_n hx hb dX7_way_5 rfl (lv_at hl 0 rfl) ?_
  refine lv_iload_n hx hb dX7_way_6 rfl (lv_at hl 1 rfl) ?_
  refine ky_Vi (As := [.int p0]) (rest := []) ⟨hx, hb, hml, hown, hts⟩ ⟨hK, hN⟩ hZ hP hD hS hA [0] [] (wc := [(m_, .inr (7, [.int 0, .ref mt, .int tp, .int pa_, .int wr, .ref mrr, .ref mrh, .ref mrc, .int rh, .int rc, .ref mn, .ref mf, .ref mr, .ref mh, .int 0, .int 0, .ref ma, .ref mas, .ref msn, .ref mac, .ref mat]))]) (wr := []) rfl rfl rfl rfl (by decide) (c_X7_isHop l D g H.size m_ 0 mt tp pa_ wr mrr mrh mrc rh rc mn mf mr mh ma mas msn mac mat p0) (cwV 1 hts gX7_way_X7_isHop rfl rfl rfl (by decide +kernel) ⟨(Nat.le_of_ble_eq_true rfl), (Nat.le_of_ble_eq_true rfl)⟩) 0 7 rfl rfl rfl rfl hl.1 rfl (Nat.le_of_ble_eq_true rfl) dX7_way_7 ⟨(Nat.le_of_ble_eq_true rfl), (Nat.le_of_ble_eq_true rfl)⟩ (fun r_1 u H locs hw hP hD hS => ?_)
  obtain ⟨rfl, rfl⟩ := hw
  have hP : va_P D vwCl [(m_, .inr (7, [.int 0, .ref mt, .int tp, .int pa_, .int wr, .ref mrr, .ref mrh, .ref mrc, .int rh, .int rc, .ref mn, .ref mf, .ref mr, .ref mh, .int 0, .int 0, .ref ma, .ref mas, .ref msn, .ref mac, .ref mat]))] H := hP
  have hD : va_D A [(m_, .inr (7, [.int 0, .ref mt, .int tp, .int pa_, .int wr, .ref mrr, .ref mrh, .ref mrc, .int rh, .int rc, .ref mn, .ref mf, .ref mr, .ref mh, .int 0, .int 0, .ref ma, .ref mas, .ref msn, .ref mac, .ref mat]))] := hD
  refine W.widen (k := 0) (n := 0) (Nat.le_of_ble_eq_true rfl) (Nat.le_of_ble_eq_true rfl) ?_
  refine lv_if_eq (tgt := 31) hx hb dX7_way_10 (by decide) (fun _ => ?_) (fun cb => absurd (by decide) cb)
  refine lv_iconst (v := (-1)) hx hb dX7_way_31 (by decide) ?_
  have hP9 := hP.sub (ws' := [(m_, .inr (7, [.int 0, .ref mt, .int tp, .int pa_, .int wr, .ref mrr, .ref mrh, .ref mrc, .int rh, .int rc, .ref mn, .ref mf, .ref mr, .ref mh, .int 0, .int 0, .ref ma, .ref mas, .ref msn, .ref mac, .ref mat]))]) [0] rfl
  have hD9 := hD.sub (ws' := [(m_, .inr (7, [.int 0, .ref mt, .int tp, .int pa_, .int wr, .ref mrr, .ref mrh, .ref mrc, .int rh, .int rc, .ref mn, .ref mf, .ref mr, .ref mh, .int 0, .int 0, .ref ma, .ref mas, .ref msn, .ref mac, .ref mat]))]) [0] (by decide) rfl
  subst hQ
  refine W.widen (k := 0) (n := 0) (Nat.le_of_ble_eq_true rfl) (Nat.le_of_ble_eq_true rfl) ?_
  exact W.iret (v := (-1)) hx hb hr (fun tS htS _ => ⟨⟨_, _, rfl, ⟨rfl, rfl⟩, by rw [htS]; exact hP9, hD9⟩, hS.F htS⟩) hS.2.2 dX7_way_32
set_option maxHeartbeats 4000000 in
set_option maxRecDepth 100000 in
/-- laneAhead without a NET -/
theorem c_X7_laneAhead (l : Launch) (D : va_G) (g : Nat → ClassId) (sz : Nat) (m_ : Nat) (th : Int32) (mt : Nat) (tp : Int32) (pa_ : Int32) (wr : Int32) (mrr : Nat) (mrh : Nat) (mrc : Nat) (rh : Int32) (rc : Int32) (mn : Nat) (mf : Nat) (mr : Nat) (mh : Nat) (ma : Nat) (mas : Nat) (msn : Nat) (mac : Nat) (mat : Nat) (p0 : Int32) (p1 : Int32) (p2 : Int32) (p3 : Int32) : Met l yX7_laneAhead wsX7_laneAhead ({ frames := 3, cells := 0, slots := 0, locals := 65 }) (va_Pc [.ref m_, .int p0, .int p1, .int p2, .int p3] (pre D g sz [(m_, .inr (7, [.int th, .ref mt, .int tp, .int pa_, .int wr, .ref mrr, .ref mrh, .ref mrc, .int rh, .int rc, .ref mn, .ref mf, .ref mr, .ref mh, .int 0, .int 0, .ref ma, .ref mas, .ref msn, .ref mac, .ref mat]))])) (va_Qi (fun (r : Int32) (u : va_W) => u = [(m_, .inr (7, [.int 0, .ref mt, .int tp, .int pa_, .int wr, .ref mrr, .ref mrh, .ref mrc, .int rh, .int rc, .ref mn, .ref mf, .ref mr, .ref mh, .int 0, .int 0, .ref ma, .ref mas, .ref msn, .ref mac, .ref mat]))] ∧ r = (-1)) (wd D (va_A [(m_, .inr (7, [.int th, .ref mt, .int tp, .int pa_, .int wr, .ref mrr, .ref mrh, .ref mrc, .int rh, .int rc, .ref mn, .ref mf, .ref mr, .ref mh, .int 0, .int 0, .ref ma, .ref mas, .ref msn, .ref mac, .ref mat]))] sz)) (va_A [(m_, .inr (7, [.int th, .ref mt, .int tp, .int pa_, .int wr, .ref mrr, .ref mrh, .ref mrc, .int rh, .int rc, .ref mn, .ref mf, .ref mr, .ref mh, .int 0, .int 0, .ref ma, .ref mas, .ref msn, .ref mac, .ref mat]))] sz)) 0 0 (va_A [(m_, .inr (7, [.int th, .ref mt, .int tp, .int pa_, .int wr, .ref mrr, .ref mrh, .ref mrc, .int rh, .int rc, .ref mn, .ref mf, .ref mr, .ref mh, .int 0, .int 0, .ref ma, .ref mas, .ref msn, .ref mac, .ref mat]))] sz) := by
  refine Met.ofW (cc := cX7_laneAhead) (maxL := 6) (ret := (some .int)) (by decide) rfl ?_
  intro p e s m args below meth c s₁ B hml hv
  obtain ⟨rfl, hsz, hP, ⟨hK, hN⟩, hD0, hZ⟩ := hv
  have hx := B.exec
  have hb := B.bytes
  have hr := B.returns
  have hts := atoms_spec (ws := wsX7_laneAhead) B.pre
  have hown : s.vm.findClass RX7 = some m.cls := findClass_of_methodNamed B.named
  have hlocks := B.notSynchronized
  clear B
  subst hsz
  have hD := hD0.self (sz := s.heap.size)
  clear hD0
  generalize hAe : va_A [(m_, .inr (7, [.int th, .ref mt, .int tp, .int pa_, .int wr, .ref mrr, .ref mrh, .ref mrc, .int rh, .int rc, .ref mn, .ref mf, .ref mr, .ref mh, .int 0, .int 0, .ref ma, .ref mas, .ref msn, .ref mac, .ref mat]))] s.heap.size = A at hD hZ ⊢
  have hA : ∀ q : Nat, s.heap.size ≤ q → A q := fun q h => by rw [← hAe]; exact Or.inr h
  have hS : va_S A s.heap s.heap [] := va_S.rf
  have f49 := hts (.fieldLink RX7 49 "HopCreditsModel" "thrown" "I") (by decide +kernel)
  have iX7 : ∀ w ∈ u_ws RX7 TX7 21, w ∈ wsX7_laneAhead := by decide +kernel
  have hl := lv_entry ([.ref m_, .int p0, .int p1, .int p2, .int p3]) (n := 6) (Nat.le_of_ble_eq_true rfl)
  rw [lg_entry_eq]
  generalize (lg_sl ([.ref m_, .int p0, .int p1, .int p2, .int p3]) ++ List.replicate (6 - (lg_sl ([.ref m_, .int p0, .int p1, .int p2, .int p3])).length) Slot.unset).toArray = ls at hl ⊢
  have hl : lv_has ls 6 [(0, .ref m_), (1, .int p0), (2, .int p1), (3, .int p2), (4, .int p3)] := hl
  generalize hQ : MQ below _ _ s _ _ _ = Q
  generalize hH : s.heap = H at hP ⊢
  have hS : va_S A s.heap H [] := by rw [← hH]; exact hS
  clear hH
  refine lv_aload_n hx hb dX7_laneAhead_0 rfl (lv_at hl 0 rfl) ?_
  refine lv_iconst (v := 0) hx hb dX7_laneAhead_1 (by decide) ?_
  refine va_put (D := D) (ci := 7) (v := .int 0) (ty := .int) (C := RX7) (T := TX7) (N := 21) hx hb hts iX7 tyX7 tyX7_ok nmX7 hown hK hP hD hS 0 rfl rfl 0 (by decide) f49 (fun _ h9 => h9) rfl (by decide +kernel) (rfl) (rfl) (Nat.le_of_ble_eq_true rfl) dX7_laneAhead_2 (fun H locs hP hD hS => ?_)
  have hP : va_P D vwCl [(m_, .inr (7, [.int 0, .ref mt, .int tp, .int pa_, .int wr, .ref mrr, .ref mrh, .ref mrc, .int rh, .int rc, .ref mn, .ref mf, .ref mr, .ref mh, .int 0, .int 0, .ref ma, .ref mas, .ref msn, .ref mac, .ref mat]))] H := hP
  have hD : va_D A [(m_, .inr (7, [.int 0, .ref mt, .int tp, .int pa_, .int wr, .ref mrr, .ref mrh, .ref mrc, .int rh, .int rc, .ref mn, .ref mf, .ref mr, .ref mh, .int 0, .int 0, .ref ma, .ref mas, .ref msn, .ref mac, .ref mat]))] := hD
  refine lv_aload_n hx hb dX7_laneAhead_5 rfl (lv_at hl 0 rfl) ?_
  refine lv_iload_n hx hb dX7_laneAhead_6 rfl (lv_at hl 1 rfl) ?_
  refine lv_iload_n hx hb dX7_laneAhead_7 rfl (lv_at hl 2 rfl) ?_
  refine ky_Vi (As := [.int p0, .int p1]) (rest := []) ⟨hx, hb, hml, hown, hts⟩ ⟨hK, hN⟩ hZ hP hD hS hA [0] [] (wc := [(m_, .inr (7, [.int 0, .ref mt, .int tp, .int pa_, .int wr, .ref mrr, .ref mrh, .ref mrc, .int rh, .int rc, .ref mn, .ref mf, .ref mr, .ref mh, .int 0, .int 0, .ref ma, .ref mas, .ref msn, .ref mac, .ref mat]))]) (wr := []) rfl rfl rfl rfl (by decide) (c_X7_isLane l D g H.size m_ 0 mt tp pa_ wr mrr mrh mrc rh rc mn mf mr mh ma mas msn mac mat p0 p1) (cwV 2 hts gX7_laneAhead_X7_isLane rfl rfl rfl (by decide +kernel) ⟨(Nat.le_of_ble_eq_true rfl), (Nat.le_of_ble_eq_true rfl)⟩) 0 7 rfl rfl rfl rfl hl.1 rfl (Nat.le_of_ble_eq_true rfl) dX7_laneAhead_8 ⟨(Nat.le_of_ble_eq_true rfl), (Nat.le_of_ble_eq_true rfl)⟩ (fun r_1 u H locs hw hP hD hS => ?_)
  obtain ⟨rfl, rfl⟩ := hw
  have hP : va_P D vwCl [(m_, .inr (7, [.int 0, .ref mt, .int tp, .int pa_, .int wr, .ref mrr, .ref mrh, .ref mrc, .int rh, .int rc, .ref mn, .ref mf, .ref mr, .ref mh, .int 0, .int 0, .ref ma, .ref mas, .ref msn, .ref mac, .ref mat]))] H := hP
  have hD : va_D A [(m_, .inr (7, [.int 0, .ref mt, .int tp, .int pa_, .int wr, .ref mrr, .ref mrh, .ref mrc, .int rh, .int rc, .ref mn, .ref mf, .ref mr, .ref mh, .int 0, .int 0, .ref ma, .ref mas, .ref msn, .ref mac, .ref mat]))] := hD
  refine W.widen (k := 0) (n := 0) (Nat.le_of_ble_eq_true rfl) (Nat.le_of_ble_eq_true rfl) ?_
  refine lv_if_eq (tgt := 33) hx hb dX7_laneAhead_11 (by decide) (fun _ => ?_) (fun cb => absurd (by decide) cb)
  refine lv_iconst (v := (-1)) hx hb dX7_laneAhead_33 (by decide) ?_
  have hP9 := hP.sub (ws' := [(m_, .inr (7, [.int 0, .ref mt, .int tp, .int pa_, .int wr, .ref mrr, .ref mrh, .ref mrc, .int rh, .int rc, .ref mn, .ref mf, .ref mr, .ref mh, .int 0, .int 0, .ref ma, .ref mas, .ref msn, .ref mac, .ref mat]))]) [0] rfl
  have hD9 := hD.sub (ws' := [(m_, .inr (7, [.int 0, .ref mt, .int tp, .int pa_, .int wr, .ref mrr, .ref mrh, .ref mrc, .int rh, .int rc, .ref mn, .ref mf, .ref mr, .ref mh, .int 0, .int 0, .ref ma, .ref mas, .ref msn, .ref mac, .ref mat]))]) [0] (by decide) rfl
  subst hQ
  refine W.widen (k := 0) (n := 0) (Nat.le_of_ble_eq_true rfl) (Nat.le_of_ble_eq_true rfl) ?_
  exact W.iret (v := (-1)) hx hb hr (fun tS htS _ => ⟨⟨_, _, rfl, ⟨rfl, rfl⟩, by rw [htS]; exact hP9, hD9⟩, hS.F htS⟩) hS.2.2 dX7_laneAhead_34
set_option maxHeartbeats 4000000 in
set_option maxRecDepth 100000 in
/-- bufferAhead without a NET -/
theorem c_X7_bufferAhead (l : Launch) (D : va_G) (g : Nat → ClassId) (sz : Nat) (m_ : Nat) (th : Int32) (mt : Nat) (tp : Int32) (pa_ : Int32) (wr : Int32) (mrr : Nat) (mrh : Nat) (mrc : Nat) (rh : Int32) (rc : Int32) (mn : Nat) (mf : Nat) (mr : Nat) (mh : Nat) (ma : Nat) (mas : Nat) (msn : Nat) (mac : Nat) (mat : Nat) (p0 : Int32) (p1 : Int32) (p2 : Int32) : Met l yX7_bufferAhead wsX7_bufferAhead ({ frames := 2, cells := 0, slots := 0, locals := 41 }) (va_Pc [.ref m_, .int p0, .int p1, .int p2] (pre D g sz [(m_, .inr (7, [.int th, .ref mt, .int tp, .int pa_, .int wr, .ref mrr, .ref mrh, .ref mrc, .int rh, .int rc, .ref mn, .ref mf, .ref mr, .ref mh, .int 0, .int 0, .ref ma, .ref mas, .ref msn, .ref mac, .ref mat]))])) (va_Qi (fun (r : Int32) (u : va_W) => u = [(m_, .inr (7, [.int 0, .ref mt, .int tp, .int pa_, .int wr, .ref mrr, .ref mrh, .ref mrc, .int rh, .int rc, .ref mn, .ref mf, .ref mr, .ref mh, .int 0, .int 0, .ref ma, .ref mas, .ref msn, .ref mac, .ref mat]))] ∧ r = (-1)) (wd D (va_A [(m_, .inr (7, [.int th, .ref mt, .int tp, .int pa_, .int wr, .ref mrr, .ref mrh, .ref mrc, .int rh, .int rc, .ref mn, .ref mf, .ref mr, .ref mh, .int 0, .int 0, .ref ma, .ref mas, .ref msn, .ref mac, .ref mat]))] sz)) (va_A [(m_, .inr (7, [.int th, .ref mt, .int tp, .int pa_, .int wr, .ref mrr, .ref mrh, .ref mrc, .int rh, .int rc, .ref mn, .ref mf, .ref mr, .ref mh, .int 0, .int 0, .ref ma, .ref mas, .ref msn, .ref mac, .ref mat]))] sz)) 0 0 (va_A [(m_, .inr (7, [.int th, .ref mt, .int tp, .int pa_, .int wr, .ref mrr, .ref mrh, .ref mrc, .int rh, .int rc, .ref mn, .ref mf, .ref mr, .ref mh, .int 0, .int 0, .ref ma, .ref mas, .ref msn, .ref mac, .ref mat]))] sz) := by
  refine Met.ofW (cc := cX7_bufferAhead) (maxL := 5) (ret := (some .int)) (by decide) rfl ?_
  intro p e s m args below meth c s₁ B hml hv
  obtain ⟨rfl, hsz, hP, ⟨hK, hN⟩, hD0, hZ⟩ := hv
  have hx := B.exec
  have hb := B.bytes
  have hr := B.returns
  have hts := atoms_spec (ws := wsX7_bufferAhead) B.pre
  have hown : s.vm.findClass RX7 = some m.cls := findClass_of_methodNamed B.named
  have hlocks := B.notSynchronized
  clear B
  subst hsz
  have hD := hD0.self (sz := s.heap.size)
  clear hD0
  generalize hAe : va_A [(m_, .inr (7, [.int th, .ref mt, .int tp, .int pa_, .int wr, .ref mrr, .ref mrh, .ref mrc, .int rh, .int rc, .ref mn, .ref mf, .ref mr, .ref mh, .int 0, .int 0, .ref ma, .ref mas, .ref msn, .ref mac, .ref mat]))] s.heap.size = A at hD hZ ⊢
  have hA : ∀ q : Nat, s.heap.size ≤ q → A q := fun q h => by rw [← hAe]; exact Or.inr h
  have hS : va_S A s.heap s.heap [] := va_S.rf
  have f49 := hts (.fieldLink RX7 49 "HopCreditsModel" "thrown" "I") (by decide +kernel)
  have iX7 : ∀ w ∈ u_ws RX7 TX7 21, w ∈ wsX7_bufferAhead := by decide +kernel
  have hl := lv_entry ([.ref m_, .int p0, .int p1, .int p2]) (n := 5) (Nat.le_of_ble_eq_true rfl)
  rw [lg_entry_eq]
  generalize (lg_sl ([.ref m_, .int p0, .int p1, .int p2]) ++ List.replicate (5 - (lg_sl ([.ref m_, .int p0, .int p1, .int p2])).length) Slot.unset).toArray = ls at hl ⊢
  have hl : lv_has ls 5 [(0, .ref m_), (1, .int p0), (2, .int p1), (3, .int p2)] := hl
  generalize hQ : MQ below _ _ s _ _ _ = Q
  generalize hH : s.heap = H at hP ⊢
  have hS : va_S A s.heap H [] := by rw [← hH]; exact hS
  clear hH
  refine lv_aload_n hx hb dX7_bufferAhead_0 rfl (lv_at hl 0 rfl) ?_
  refine lv_iconst (v := 0) hx hb dX7_bufferAhead_1 (by decide) ?_
  refine va_put (D := D) (ci := 7) (v := .int 0) (ty := .int) (C := RX7) (T := TX7) (N := 21) hx hb hts iX7 tyX7 tyX7_ok nmX7 hown hK hP hD hS 0 rfl rfl 0 (by decide) f49 (fun _ h9 => h9) rfl (by decide +kernel) (rfl) (rfl) (Nat.le_of_ble_eq_true rfl) dX7_bufferAhead_2 (fun H locs hP hD hS => ?_)
  have hP : va_P D vwCl [(m_, .inr (7, [.int 0, .ref mt, .int tp, .int pa_, .int wr, .ref mrr, .ref mrh, .ref mrc, .int rh, .int rc, .ref mn, .ref mf, .ref mr, .ref mh, .int 0, .int 0, .ref ma, .ref mas, .ref msn, .ref mac, .ref mat]))] H := hP
  have hD : va_D A [(m_, .inr (7, [.int 0, .ref mt, .int tp, .int pa_, .int wr, .ref mrr, .ref mrh, .ref mrc, .int rh, .int rc, .ref mn, .ref mf, .ref mr, .ref mh, .int 0, .int 0, .ref ma, .ref mas, .ref msn, .ref mac, .ref mat]))] := hD
  refine lv_aload_n hx hb dX7_bufferAhead_5 rfl (lv_at hl 0 rfl) ?_
  refine lv_iload_n hx hb dX7_bufferAhead_6 rfl (lv_at hl 1 rfl) ?_
  refine ky_Vi (As := [.int p0]) (rest := []) ⟨hx, hb, hml, hown, hts⟩ ⟨hK, hN⟩ hZ hP hD hS hA [0] [] (wc := [(m_, .inr (7, [.int 0, .ref mt, .int tp, .int pa_, .int wr, .ref mrr, .ref mrh, .ref mrc, .int rh, .int rc, .ref mn, .ref mf, .ref mr, .ref mh, .int 0, .int 0, .ref ma, .ref mas, .ref msn, .ref mac, .ref mat]))]) (wr := []) rfl rfl rfl rfl (by decide) (c_X7_isNode l D g H.size m_ 0 mt tp pa_ wr mrr mrh mrc rh rc mn mf mr mh ma mas msn mac mat p0) (cwV 1 hts gX7_bufferAhead_X7_isNode rfl rfl rfl (by decide +kernel) ⟨(Nat.le_of_ble_eq_true rfl), (Nat.le_of_ble_eq_true rfl)⟩) 0 7 rfl rfl rfl rfl hl.1 rfl (Nat.le_of_ble_eq_true rfl) dX7_bufferAhead_7 ⟨(Nat.le_of_ble_eq_true rfl), (Nat.le_of_ble_eq_true rfl)⟩ (fun r_1 u H locs hw hP hD hS => ?_)
  obtain ⟨rfl, rfl⟩ := hw
  have hP : va_P D vwCl [(m_, .inr (7, [.int 0, .ref mt, .int tp, .int pa_, .int wr, .ref mrr, .ref mrh, .ref mrc, .int rh, .int rc, .ref mn, .ref mf, .ref mr, .ref mh, .int 0, .int 0, .ref ma, .ref mas, .ref msn, .ref mac, .ref mat]))] H := hP
  have hD : va_D A [(m_, .inr (7, [.int 0, .ref mt, .int tp, .int pa_, .int wr, .ref mrr, .ref mrh, .ref mrc, .int rh, .int rc, .ref mn, .ref mf, .ref mr, .ref mh, .int 0, .int 0, .ref ma, .ref mas, .ref msn, .ref mac, .ref mat]))] := hD
  refine W.widen (k := 0) (n := 0) (Nat.le_of_ble_eq_true rfl) (Nat.le_of_ble_eq_true rfl) ?_
  refine lv_if_eq (tgt := 29) hx hb dX7_bufferAhead_10 (by decide) (fun _ => ?_) (fun cb => absurd (by decide) cb)
  refine lv_iconst (v := (-1)) hx hb dX7_bufferAhead_29 (by decide) ?_
  have hP9 := hP.sub (ws' := [(m_, .inr (7, [.int 0, .ref mt, .int tp, .int pa_, .int wr, .ref mrr, .ref mrh, .ref mrc, .int rh, .int rc, .ref mn, .ref mf, .ref mr, .ref mh, .int 0, .int 0, .ref ma, .ref mas, .ref msn, .ref mac, .ref mat]))]) [0] rfl
  have hD9 := hD.sub (ws' := [(m_, .inr (7, [.int 0, .ref mt, .int tp, .int pa_, .int wr, .ref mrr, .ref mrh, .ref mrc, .int rh, .int rc, .ref mn, .ref mf, .ref mr, .ref mh, .int 0, .int 0, .ref ma, .ref mas, .ref msn, .ref mac, .ref mat]))]) [0] (by decide) rfl
  subst hQ
  refine W.widen (k := 0) (n := 0) (Nat.le_of_ble_eq_true rfl) (Nat.le_of_ble_eq_true rfl) ?_
  exact W.iret (v := (-1)) hx hb hr (fun tS htS _ => ⟨⟨_, _, rfl, ⟨rfl, rfl⟩, by rw [htS]; exact hP9, hD9⟩, hS.F htS⟩) hS.2.2 dX7_bufferAhead_30
set_option maxHeartbeats 4000000 in
set_option maxRecDepth 100000 in
/-- delivered without a NET -/
theorem c_X7_delivered (l : Launch) (D : va_G) (g : Nat → ClassId) (sz : Nat) (m_ : Nat) (th : Int32) (mt : Nat) (tp : Int32) (pa_ : Int32) (wr : Int32) (mrr : Nat) (mrh : Nat) (mrc : Nat) (rh : Int32) (rc : Int32) (mn : Nat) (mf : Nat) (mr : Nat) (mh : Nat) (ma : Nat) (mas : Nat) (msn : Nat) (mac : Nat) (mat : Nat) (p0 : Int32) (p1 : Int32) : Met l yX7_delivered wsX7_delivered ({ frames := 1, cells := 0, slots := 0, locals := 20 }) (va_Pc [.ref m_, .int p0, .int p1] (pre D g sz [(m_, .inr (7, [.int th, .ref mt, .int tp, .int pa_, .int wr, .ref mrr, .ref mrh, .ref mrc, .int rh, .int rc, .ref mn, .ref mf, .ref mr, .ref mh, .int 0, .int 0, .ref ma, .ref mas, .ref msn, .ref mac, .ref mat]))])) (va_Qi (fun (r : Int32) (u : va_W) => u = [(m_, .inr (7, [.int 0, .ref mt, .int tp, .int pa_, .int wr, .ref mrr, .ref mrh, .ref mrc, .int rh, .int rc, .ref mn, .ref mf, .ref mr, .ref mh, .int 0, .int 0, .ref ma, .ref mas, .ref msn, .ref mac, .ref mat]))] ∧ r = (-1)) (wd D (va_A [(m_, .inr (7, [.int th, .ref mt, .int tp, .int pa_, .int wr, .ref mrr, .ref mrh, .ref mrc, .int rh, .int rc, .ref mn, .ref mf, .ref mr, .ref mh, .int 0, .int 0, .ref ma, .ref mas, .ref msn, .ref mac, .ref mat]))] sz)) (va_A [(m_, .inr (7, [.int th, .ref mt, .int tp, .int pa_, .int wr, .ref mrr, .ref mrh, .ref mrc, .int rh, .int rc, .ref mn, .ref mf, .ref mr, .ref mh, .int 0, .int 0, .ref ma, .ref mas, .ref msn, .ref mac, .ref mat]))] sz)) 0 0 (va_A [(m_, .inr (7, [.int th, .ref mt, .int tp, .int pa_, .int wr, .ref mrr, .ref mrh, .ref mrc, .int rh, .int rc, .ref mn, .ref mf, .ref mr, .ref mh, .int 0, .int 0, .ref ma, .ref mas, .ref msn, .ref mac, .ref mat]))] sz) := by
  refine Met.ofW (cc := cX7_delivered) (maxL := 3) (ret := (some .int)) (by decide) rfl ?_
  intro p e s m args below meth c s₁ B hml hv
  obtain ⟨rfl, hsz, hP, ⟨hK, hN⟩, hD0, hZ⟩ := hv
  have hx := B.exec
  have hb := B.bytes
  have hr := B.returns
  have hts := atoms_spec (ws := wsX7_delivered) B.pre
  have hown : s.vm.findClass RX7 = some m.cls := findClass_of_methodNamed B.named
  have hlocks := B.notSynchronized
  clear B
  subst hsz
  have hD := hD0.self (sz := s.heap.size)
  clear hD0
  generalize hAe : va_A [(m_, .inr (7, [.int th, .ref mt, .int tp, .int pa_, .int wr, .ref mrr, .ref mrh, .ref mrc, .int rh, .int rc, .ref mn, .ref mf, .ref mr, .ref mh, .int 0, .int 0, .ref ma, .ref mas, .ref msn, .ref mac, .ref mat]))] s.heap.size = A at hD hZ ⊢
  have hA : ∀ q : Nat, s.heap.size ≤ q → A q := fun q h => by rw [← hAe]; exact Or.inr h
  have hS : va_S A s.heap s.heap [] := va_S.rf
  have f49 := hts (.fieldLink RX7 49 "HopCreditsModel" "thrown" "I") (by decide +kernel)
  have iX7 : ∀ w ∈ u_ws RX7 TX7 21, w ∈ wsX7_delivered := by decide +kernel
  have hl := lv_entry ([.ref m_, .int p0, .int p1]) (n := 3) (Nat.le_of_ble_eq_true rfl)
  rw [lg_entry_eq]
  generalize (lg_sl ([.ref m_, .int p0, .int p1]) ++ List.replicate (3 - (lg_sl ([.ref m_, .int p0, .int p1])).length) Slot.unset).toArray = ls at hl ⊢
  have hl : lv_has ls 3 [(0, .ref m_), (1, .int p0), (2, .int p1)] := hl
  generalize hQ : MQ below _ _ s _ _ _ = Q
  generalize hH : s.heap = H at hP ⊢
  have hS : va_S A s.heap H [] := by rw [← hH]; exact hS
  clear hH
  refine lv_aload_n hx hb dX7_delivered_0 rfl (lv_at hl 0 rfl) ?_
  refine lv_iconst (v := 0) hx hb dX7_delivered_1 (by decide) ?_
  refine va_put (D := D) (ci := 7) (v := .int 0) (ty := .int) (C := RX7) (T := TX7) (N := 21) hx hb hts iX7 tyX7 tyX7_ok nmX7 hown hK hP hD hS 0 rfl rfl 0 (by decide) f49 (fun _ h9 => h9) rfl (by decide +kernel) (rfl) (rfl) (Nat.le_of_ble_eq_true rfl) dX7_delivered_2 (fun H locs hP hD hS => ?_)
  have hP : va_P D vwCl [(m_, .inr (7, [.int 0, .ref mt, .int tp, .int pa_, .int wr, .ref mrr, .ref mrh, .ref mrc, .int rh, .int rc, .ref mn, .ref mf, .ref mr, .ref mh, .int 0, .int 0, .ref ma, .ref mas, .ref msn, .ref mac, .ref mat]))] H := hP
  have hD : va_D A [(m_, .inr (7, [.int 0, .ref mt, .int tp, .int pa_, .int wr, .ref mrr, .ref mrh, .ref mrc, .int rh, .int rc, .ref mn, .ref mf, .ref mr, .ref mh, .int 0, .int 0, .ref ma, .ref mas, .ref msn, .ref mac, .ref mat]))] := hD
  refine lv_aload_n hx hb dX7_delivered_5 rfl (lv_at hl 0 rfl) ?_
  refine ky_Vi (As := []) (rest := []) ⟨hx, hb, hml, hown, hts⟩ ⟨hK, hN⟩ hZ hP hD hS hA [0] [] (wc := [(m_, .inr (7, [.int 0, .ref mt, .int tp, .int pa_, .int wr, .ref mrr, .ref mrh, .ref mrc, .int rh, .int rc, .ref mn, .ref mf, .ref mr, .ref mh, .int 0, .int 0, .ref ma, .ref mas, .ref msn, .ref mac, .ref mat]))]) (wr := []) rfl rfl rfl rfl (by decide) (c_X7_isNet l D g H.size m_ 0 mt tp pa_ wr mrr mrh mrc rh rc mn mf mr mh ma mas msn mac mat) (cwV 0 hts gX7_delivered_X7_isNet rfl rfl rfl (by decide +kernel) ⟨(Nat.le_of_ble_eq_true rfl), (Nat.le_of_ble_eq_true rfl)⟩) 0 7 rfl rfl rfl rfl hl.1 rfl (Nat.le_of_ble_eq_true rfl) dX7_delivered_6 ⟨(Nat.le_of_ble_eq_true rfl), (Nat.le_of_ble_eq_true rfl)⟩ (fun r_1 u H locs hw hP hD hS => ?_)
  obtain ⟨rfl, rfl⟩ := hw
  have hP : va_P D vwCl [(m_, .inr (7, [.int 0, .ref mt, .int tp, .int pa_, .int wr, .ref mrr, .ref mrh, .ref mrc, .int rh, .int rc, .ref mn, .ref mf, .ref mr, .ref mh, .int 0, .int 0, .ref ma, .ref mas, .ref msn, .ref mac, .ref mat]))] H := hP
  have hD : va_D A [(m_, .inr (7, [.int 0, .ref mt, .int tp, .int pa_, .int wr, .ref mrr, .ref mrh, .ref mrc, .int rh, .int rc, .ref mn, .ref mf, .ref mr, .ref mh, .int 0, .int 0, .ref ma, .ref mas, .ref msn, .ref mac, .ref mat]))] := hD
  refine W.widen (k := 0) (n := 0) (Nat.le_of_ble_eq_true rfl) (Nat.le_of_ble_eq_true rfl) ?_
  refine lv_if_eq (tgt := 33) hx hb dX7_delivered_9 (by decide) (fun _ => ?_) (fun cb => absurd (by decide) cb)
  refine lv_iconst (v := (-1)) hx hb dX7_delivered_33 (by decide) ?_
  have hP9 := hP.sub (ws' := [(m_, .inr (7, [.int 0, .ref mt, .int tp, .int pa_, .int wr, .ref mrr, .ref mrh, .ref mrc, .int rh, .int rc, .ref mn, .ref mf, .ref mr, .ref mh, .int 0, .int 0, .ref ma, .ref mas, .ref msn, .ref mac, .ref mat]))]) [0] rfl
  have hD9 := hD.sub (ws' := [(m_, .inr (7, [.int 0, .ref mt, .int tp, .int pa_, .int wr, .ref mrr, .ref mrh, .ref mrc, .int rh, .int rc, .ref mn, .ref mf, .ref mr, .ref mh, .int 0, .int 0, .ref ma, .ref mas, .ref msn, .ref mac, .ref mat]))]) [0] (by decide) rfl
  subst hQ
  refine W.widen (k := 0) (n := 0) (Nat.le_of_ble_eq_true rfl) (Nat.le_of_ble_eq_true rfl) ?_
  exact W.iret (v := (-1)) hx hb hr (fun tS htS _ => ⟨⟨_, _, rfl, ⟨rfl, rfl⟩, by rw [htS]; exact hP9, hD9⟩, hS.F htS⟩) hS.2.2 dX7_delivered_34
set_option maxHeartbeats 4000000 in
set_option maxRecDepth 100000 in
/-- heldUp without a NET -/
theorem c_X7_heldUp (l : Launch) (D : va_G) (g : Nat → ClassId) (sz : Nat) (m_ : Nat) (th : Int32) (mt : Nat) (tp : Int32) (pa_ : Int32) (wr : Int32) (mrr : Nat) (mrh : Nat) (mrc : Nat) (rh : Int32) (rc : Int32) (mn : Nat) (mf : Nat) (mr : Nat) (mh : Nat) (ma : Nat) (mas : Nat) (msn : Nat) (mac : Nat) (mat : Nat) (p0 : Int32) (p1 : Int32) : Met l yX7_heldUp wsX7_heldUp ({ frames := 3, cells := 0, slots := 0, locals := 65 }) (va_Pc [.ref m_, .int p0, .int p1] (pre D g sz [(m_, .inr (7, [.int th, .ref mt, .int tp, .int pa_, .int wr, .ref mrr, .ref mrh, .ref mrc, .int rh, .int rc, .ref mn, .ref mf, .ref mr, .ref mh, .int 0, .int 0, .ref ma, .ref mas, .ref msn, .ref mac, .ref mat]))])) (va_Qi (fun (r : Int32) (u : va_W) => u = [(m_, .inr (7, [.int 0, .ref mt, .int tp, .int pa_, .int wr, .ref mrr, .ref mrh, .ref mrc, .int rh, .int rc, .ref mn, .ref mf, .ref mr, .ref mh, .int 0, .int 0, .ref ma, .ref mas, .ref msn, .ref mac, .ref mat]))] ∧ r = (-1)) (wd D (va_A [(m_, .inr (7, [.int th, .ref mt, .int tp, .int pa_, .int wr, .ref mrr, .ref mrh, .ref mrc, .int rh, .int rc, .ref mn, .ref mf, .ref mr, .ref mh, .int 0, .int 0, .ref ma, .ref mas, .ref msn, .ref mac, .ref mat]))] sz)) (va_A [(m_, .inr (7, [.int th, .ref mt, .int tp, .int pa_, .int wr, .ref mrr, .ref mrh, .ref mrc, .int rh, .int rc, .ref mn, .ref mf, .ref mr, .ref mh, .int 0, .int 0, .ref ma, .ref mas, .ref msn, .ref mac, .ref mat]))] sz)) 0 0 (va_A [(m_, .inr (7, [.int th, .ref mt, .int tp, .int pa_, .int wr, .ref mrr, .ref mrh, .ref mrc, .int rh, .int rc, .ref mn, .ref mf, .ref mr, .ref mh, .int 0, .int 0, .ref ma, .ref mas, .ref msn, .ref mac, .ref mat]))] sz) := by
  refine Met.ofW (cc := cX7_heldUp) (maxL := 6) (ret := (some .int)) (by decide) rfl ?_
  intro p e s m args below meth c s₁ B hml hv
  obtain ⟨rfl, hsz, hP, ⟨hK, hN⟩, hD0, hZ⟩ := hv
  have hx := B.exec
  have hb := B.bytes
  have hr := B.returns
  have hts := atoms_spec (ws := wsX7_heldUp) B.pre
  have hown : s.vm.findClass RX7 = some m.cls := findClass_of_methodNamed B.named
  have hlocks := B.notSynchronized
  clear B
  subst hsz
  have hD := hD0.self (sz := s.heap.size)
  clear hD0
  generalize hAe : va_A [(m_, .inr (7, [.int th, .ref mt, .int tp, .int pa_, .int wr, .ref mrr, .ref mrh, .ref mrc, .int rh, .int rc, .ref mn, .ref mf, .ref mr, .ref mh, .int 0, .int 0, .ref ma, .ref mas, .ref msn, .ref mac, .ref mat]))] s.heap.size = A at hD hZ ⊢
  have hA : ∀ q : Nat, s.heap.size ≤ q → A q := fun q h => by rw [← hAe]; exact Or.inr h
  have hS : va_S A s.heap s.heap [] := va_S.rf
  have f49 := hts (.fieldLink RX7 49 "HopCreditsModel" "thrown" "I") (by decide +kernel)
  have iX7 : ∀ w ∈ u_ws RX7 TX7 21, w ∈ wsX7_heldUp := by decide +kernel
  have hl := lv_entry ([.ref m_, .int p0, .int p1]) (n := 6) (Nat.le_of_ble_eq_true rfl)
  rw [lg_entry_eq]
  generalize (lg_sl ([.ref m_, .int p0, .int p1]) ++ List.replicate (6 - (lg_sl ([.ref m_, .int p0, .int p1])).length) Slot.unset).toArray = ls at hl ⊢
  have hl : lv_has ls 6 [(0, .ref m_), (1, .int p0), (2, .int p1)] := hl
  generalize hQ : MQ below _ _ s _ _ _ = Q
  generalize hH : s.heap = H at hP ⊢
  have hS : va_S A s.heap H [] := by rw [← hH]; exact hS
  clear hH
  refine lv_aload_n hx hb dX7_heldUp_0 rfl (lv_at hl 0 rfl) ?_
  refine lv_iconst (v := 0) hx hb dX7_heldUp_1 (by decide) ?_
  refine va_put (D := D) (ci := 7) (v := .int 0) (ty := .int) (C := RX7) (T := TX7) (N := 21) hx hb hts iX7 tyX7 tyX7_ok nmX7 hown hK hP hD hS 0 rfl rfl 0 (by decide) f49 (fun _ h9 => h9) rfl (by decide +kernel) (rfl) (rfl) (Nat.le_of_ble_eq_true rfl) dX7_heldUp_2 (fun H locs hP hD hS => ?_)
  have hP : va_P D vwCl [(m_, .inr (7, [.int 0, .ref mt, .int tp, .int pa_, .int wr, .ref mrr, .ref mrh, .ref mrc, .int rh, .int rc, .ref mn, .ref mf, .ref mr, .ref mh, .int 0, .int 0, .ref ma, .ref mas, .ref msn, .ref mac, .ref mat]))] H := hP
  have hD : va_D A [(m_, .inr (7, [.int 0, .ref mt, .int tp, .int pa_, .int wr, .ref mrr, .ref mrh, .ref mrc, .int rh, .int rc, .ref mn, .ref mf, .ref mr, .ref mh, .int 0, .int 0, .ref ma, .ref mas, .ref msn, .ref mac, .ref mat]))] := hD
  refine lv_aload_n hx hb dX7_heldUp_5 rfl (lv_at hl 0 rfl) ?_
  refine lv_iload_n hx hb dX7_heldUp_6 rfl (lv_at hl 1 rfl) ?_
  refine lv_iload_n hx hb dX7_heldUp_7 rfl (lv_at hl 2 rfl) ?_
  refine ky_Vi (As := [.int p0, .int p1]) (rest := []) ⟨hx, hb, hml, hown, hts⟩ ⟨hK, hN⟩ hZ hP hD hS hA [0] [] (wc := [(m_, .inr (7, [.int 0, .ref mt, .int tp, .int pa_, .int wr, .ref mrr, .ref mrh, .ref mrc, .int rh, .int rc, .ref mn, .ref mf, .ref mr, .ref mh, .int 0, .int 0, .ref ma, .ref mas, .ref msn, .ref mac, .ref mat]))]) (wr := []) rfl rfl rfl rfl (by decide) (c_X7_isLane l D g H.size m_ 0 mt tp pa_ wr mrr mrh mrc rh rc mn mf mr mh ma mas msn mac mat p0 p1) (cwV 2 hts gX7_heldUp_X7_isLane rfl rfl rfl (by decide +kernel) ⟨(Nat.le_of_ble_eq_true rfl), (Nat.le_of_ble_eq_true rfl)⟩) 0 7 rfl rfl rfl rfl hl.1 rfl (Nat.le_of_ble_eq_true rfl) dX7_heldUp_8 ⟨(Nat.le_of_ble_eq_true rfl), (Nat.le_of_ble_eq_true rfl)⟩ (fun r_1 u H locs hw hP hD hS => ?_)
  obtain ⟨rfl, rfl⟩ := hw
  have hP : va_P D vwCl [(m_, .inr (7, [.int 0, .ref mt, .int tp, .int pa_, .int wr, .ref mrr, .ref mrh, .ref mrc, .int rh, .int rc, .ref mn, .ref mf, .ref mr, .ref mh, .int 0, .int 0, .ref ma, .ref mas, .ref msn, .ref mac, .ref mat]))] H := hP
  have hD : va_D A [(m_, .inr (7, [.int 0, .ref mt, .int tp, .int pa_, .int wr, .ref mrr, .ref mrh, .ref mrc, .int rh, .int rc, .ref mn, .ref mf, .ref mr, .ref mh, .int 0, .int 0, .ref ma, .ref mas, .ref msn, .ref mac, .ref mat]))] := hD
  refine W.widen (k := 0) (n := 0) (Nat.le_of_ble_eq_true rfl) (Nat.le_of_ble_eq_true rfl) ?_
  refine lv_if_ne (tgt := 16) hx hb dX7_heldUp_11 (by decide) (fun cb => absurd (by decide) cb) (fun _ => ?_)
  refine lv_iconst (v := (-1)) hx hb dX7_heldUp_14 (by decide) ?_
  have hP9 := hP.sub (ws' := [(m_, .inr (7, [.int 0, .ref mt, .int tp, .int pa_, .int wr, .ref mrr, .ref mrh, .ref mrc, .int rh, .int rc, .ref mn, .ref mf, .ref mr, .ref mh, .int 0, .int 0, .ref ma, .ref mas, .ref msn, .ref mac, .ref mat]))]) [0] rfl
  have hD9 := hD.sub (ws' := [(m_, .inr (7, [.int 0, .ref mt, .int tp, .int pa_, .int wr, .ref mrr, .ref mrh, .ref mrc, .int rh, .int rc, .ref mn, .ref mf, .ref mr, .ref mh, .int 0, .int 0, .ref ma, .ref mas, .ref msn, .ref mac, .ref mat]))]) [0] (by decide) rfl
  subst hQ
  refine W.widen (k := 0) (n := 0) (Nat.le_of_ble_eq_true rfl) (Nat.le_of_ble_eq_true rfl) ?_
  exact W.iret (v := (-1)) hx hb hr (fun tS htS _ => ⟨⟨_, _, rfl, ⟨rfl, rfl⟩, by rw [htS]; exact hP9, hD9⟩, hS.F htS⟩) hS.2.2 dX7_heldUp_15
set_option maxHeartbeats 4000000 in
set_option maxRecDepth 100000 in
/-- idle without a NET -/
theorem c_X7_idle (l : Launch) (D : va_G) (g : Nat → ClassId) (sz : Nat) (m_ : Nat) (th : Int32) (mt : Nat) (tp : Int32) (pa_ : Int32) (wr : Int32) (mrr : Nat) (mrh : Nat) (mrc : Nat) (rh : Int32) (rc : Int32) (mn : Nat) (mf : Nat) (mr : Nat) (mh : Nat) (ma : Nat) (mas : Nat) (msn : Nat) (mac : Nat) (mat : Nat) (p0 : Int32) (p1 : Int32) : Met l yX7_idle wsX7_idle ({ frames := 2, cells := 0, slots := 0, locals := 43 }) (va_Pc [.ref m_, .int p0, .int p1] (pre D g sz [(m_, .inr (7, [.int th, .ref mt, .int tp, .int pa_, .int wr, .ref mrr, .ref mrh, .ref mrc, .int rh, .int rc, .ref mn, .ref mf, .ref mr, .ref mh, .int 0, .int 0, .ref ma, .ref mas, .ref msn, .ref mac, .ref mat]))])) (va_Qi (fun (r : Int32) (u : va_W) => u = [(m_, .inr (7, [.int 0, .ref mt, .int tp, .int pa_, .int wr, .ref mrr, .ref mrh, .ref mrc, .int rh, .int rc, .ref mn, .ref mf, .ref mr, .ref mh, .int 0, .int 0, .ref ma, .ref mas, .ref msn, .ref mac, .ref mat]))] ∧ r = (-1)) (wd D (va_A [(m_, .inr (7, [.int th, .ref mt, .int tp, .int pa_, .int wr, .ref mrr, .ref mrh, .ref mrc, .int rh, .int rc, .ref mn, .ref mf, .ref mr, .ref mh, .int 0, .int 0, .ref ma, .ref mas, .ref msn, .ref mac, .ref mat]))] sz)) (va_A [(m_, .inr (7, [.int th, .ref mt, .int tp, .int pa_, .int wr, .ref mrr, .ref mrh, .ref mrc, .int rh, .int rc, .ref mn, .ref mf, .ref mr, .ref mh, .int 0, .int 0, .ref ma, .ref mas, .ref msn, .ref mac, .ref mat]))] sz)) 0 0 (va_A [(m_, .inr (7, [.int th, .ref mt, .int tp, .int pa_, .int wr, .ref mrr, .ref mrh, .ref mrc, .int rh, .int rc, .ref mn, .ref mf, .ref mr, .ref mh, .int 0, .int 0, .ref ma, .ref mas, .ref msn, .ref mac, .ref mat]))] sz) := by
  refine Met.ofW (cc := cX7_idle) (maxL := 3) (ret := (some .int)) (by decide) rfl ?_
  intro p e s m args below meth c s₁ B hml hv
  obtain ⟨rfl, hsz, hP, ⟨hK, hN⟩, hD0, hZ⟩ := hv
  have hx := B.exec
  have hb := B.bytes
  have hr := B.returns
  have hts := atoms_spec (ws := wsX7_idle) B.pre
  have hown : s.vm.findClass RX7 = some m.cls := findClass_of_methodNamed B.named
  have hlocks := B.notSynchronized
  clear B
  subst hsz
  have hD := hD0.self (sz := s.heap.size)
  clear hD0
  generalize hAe : va_A [(m_, .inr (7, [.int th, .ref mt, .int tp, .int pa_, .int wr, .ref mrr, .ref mrh, .ref mrc, .int rh, .int rc, .ref mn, .ref mf, .ref mr, .ref mh, .int 0, .int 0, .ref ma, .ref mas, .ref msn, .ref mac, .ref mat]))] s.heap.size = A at hD hZ ⊢
  have hA : ∀ q : Nat, s.heap.size ≤ q → A q := fun q h => by rw [← hAe]; exact Or.inr h
  have hS : va_S A s.heap s.heap [] := va_S.rf
  have f49 := hts (.fieldLink RX7 49 "HopCreditsModel" "thrown" "I") (by decide +kernel)
  have iX7 : ∀ w ∈ u_ws RX7 TX7 21, w ∈ wsX7_idle := by decide +kernel
  have hl := lv_entry ([.ref m_, .int p0, .int p1]) (n := 3) (Nat.le_of_ble_eq_true rfl)
  rw [lg_entry_eq]
  generalize (lg_sl ([.ref m_, .int p0, .int p1]) ++ List.replicate (3 - (lg_sl ([.ref m_, .int p0, .int p1])).length) Slot.unset).toArray = ls at hl ⊢
  have hl : lv_has ls 3 [(0, .ref m_), (1, .int p0), (2, .int p1)] := hl
  generalize hQ : MQ below _ _ s _ _ _ = Q
  generalize hH : s.heap = H at hP ⊢
  have hS : va_S A s.heap H [] := by rw [← hH]; exact hS
  clear hH
  refine lv_aload_n hx hb dX7_idle_0 rfl (lv_at hl 0 rfl) ?_
  refine lv_iconst (v := 0) hx hb dX7_idle_1 (by decide) ?_
  refine va_put (D := D) (ci := 7) (v := .int 0) (ty := .int) (C := RX7) (T := TX7) (N := 21) hx hb hts iX7 tyX7 tyX7_ok nmX7 hown hK hP hD hS 0 rfl rfl 0 (by decide) f49 (fun _ h9 => h9) rfl (by decide +kernel) (rfl) (rfl) (Nat.le_of_ble_eq_true rfl) dX7_idle_2 (fun H locs hP hD hS => ?_)
  have hP : va_P D vwCl [(m_, .inr (7, [.int 0, .ref mt, .int tp, .int pa_, .int wr, .ref mrr, .ref mrh, .ref mrc, .int rh, .int rc, .ref mn, .ref mf, .ref mr, .ref mh, .int 0, .int 0, .ref ma, .ref mas, .ref msn, .ref mac, .ref mat]))] H := hP
  have hD : va_D A [(m_, .inr (7, [.int 0, .ref mt, .int tp, .int pa_, .int wr, .ref mrr, .ref mrh, .ref mrc, .int rh, .int rc, .ref mn, .ref mf, .ref mr, .ref mh, .int 0, .int 0, .ref ma, .ref mas, .ref msn, .ref mac, .ref mat]))] := hD
  refine lv_aload_n hx hb dX7_idle_5 rfl (lv_at hl 0 rfl) ?_
  refine lv_iload_n hx hb dX7_idle_6 rfl (lv_at hl 1 rfl) ?_
  refine ky_Vi (As := [.int p0]) (rest := []) ⟨hx, hb, hml, hown, hts⟩ ⟨hK, hN⟩ hZ hP hD hS hA [0] [] (wc := [(m_, .inr (7, [.int 0, .ref mt, .int tp, .int pa_, .int wr, .ref mrr, .ref mrh, .ref mrc, .int rh, .int rc, .ref mn, .ref mf, .ref mr, .ref mh, .int 0, .int 0, .ref ma, .ref mas, .ref msn, .ref mac, .ref mat]))]) (wr := []) rfl rfl rfl rfl (by decide) (c_X7_isHop l D g H.size m_ 0 mt tp pa_ wr mrr mrh mrc rh rc mn mf mr mh ma mas msn mac mat p0) (cwV 1 hts gX7_idle_X7_isHop rfl rfl rfl (by decide +kernel) ⟨(Nat.le_of_ble_eq_true rfl), (Nat.le_of_ble_eq_true rfl)⟩) 0 7 rfl rfl rfl rfl hl.1 rfl (Nat.le_of_ble_eq_true rfl) dX7_idle_7 ⟨(Nat.le_of_ble_eq_true rfl), (Nat.le_of_ble_eq_true rfl)⟩ (fun r_1 u H locs hw hP hD hS => ?_)
  obtain ⟨rfl, rfl⟩ := hw
  have hP : va_P D vwCl [(m_, .inr (7, [.int 0, .ref mt, .int tp, .int pa_, .int wr, .ref mrr, .ref mrh, .ref mrc, .int rh, .int rc, .ref mn, .ref mf, .ref mr, .ref mh, .int 0, .int 0, .ref ma, .ref mas, .ref msn, .ref mac, .ref mat]))] H := hP
  have hD : va_D A [(m_, .inr (7, [.int 0, .ref mt, .int tp, .int pa_, .int wr, .ref mrr, .ref mrh, .ref mrc, .int rh, .int rc, .ref mn, .ref mf, .ref mr, .ref mh, .int 0, .int 0, .ref ma, .ref mas, .ref msn, .ref mac, .ref mat]))] := hD
  refine W.widen (k := 0) (n := 0) (Nat.le_of_ble_eq_true rfl) (Nat.le_of_ble_eq_true rfl) ?_
  refine lv_if_eq (tgt := 30) hx hb dX7_idle_10 (by decide) (fun _ => ?_) (fun cb => absurd (by decide) cb)
  refine lv_iconst (v := (-1)) hx hb dX7_idle_30 (by decide) ?_
  have hP9 := hP.sub (ws' := [(m_, .inr (7, [.int 0, .ref mt, .int tp, .int pa_, .int wr, .ref mrr, .ref mrh, .ref mrc, .int rh, .int rc, .ref mn, .ref mf, .ref mr, .ref mh, .int 0, .int 0, .ref ma, .ref mas, .ref msn, .ref mac, .ref mat]))]) [0] rfl
  have hD9 := hD.sub (ws' := [(m_, .inr (7, [.int 0, .ref mt, .int tp, .int pa_, .int wr, .ref mrr, .ref mrh, .ref mrc, .int rh, .int rc, .ref mn, .ref mf, .ref mr, .ref mh, .int 0, .int 0, .ref ma, .ref mas, .ref msn, .ref mac, .ref mat]))]) [0] (by decide) rfl
  subst hQ
  refine W.widen (k := 0) (n := 0) (Nat.le_of_ble_eq_true rfl) (Nat.le_of_ble_eq_true rfl) ?_
  exact W.iret (v := (-1)) hx hb hr (fun tS htS _ => ⟨⟨_, _, rfl, ⟨rfl, rfl⟩, by rw [htS]; exact hP9, hD9⟩, hS.F htS⟩) hS.2.2 dX7_idle_31
set_option maxHeartbeats 4000000 in
set_option maxRecDepth 100000 in
/-- most without a NET -/
theorem c_X7_most (l : Launch) (D : va_G) (g : Nat → ClassId) (sz : Nat) (m_ : Nat) (th : Int32) (mt : Nat) (tp : Int32) (pa_ : Int32) (wr : Int32) (mrr : Nat) (mrh : Nat) (mrc : Nat) (rh : Int32) (rc : Int32) (mn : Nat) (mf : Nat) (mr : Nat) (mh : Nat) (ma : Nat) (mas : Nat) (msn : Nat) (mac : Nat) (mat : Nat) (p0 : Int32) (p1 : Int32) (p2 : Int32) (p3 : Int32) : Met l yX7_most wsX7_most ({ frames := 2, cells := 0, slots := 0, locals := 41 }) (va_Pc [.ref m_, .int p0, .int p1, .int p2, .int p3] (pre D g sz [(m_, .inr (7, [.int th, .ref mt, .int tp, .int pa_, .int wr, .ref mrr, .ref mrh, .ref mrc, .int rh, .int rc, .ref mn, .ref mf, .ref mr, .ref mh, .int 0, .int 0, .ref ma, .ref mas, .ref msn, .ref mac, .ref mat]))])) (va_Qi (fun (r : Int32) (u : va_W) => u = [(m_, .inr (7, [.int 0, .ref mt, .int tp, .int pa_, .int wr, .ref mrr, .ref mrh, .ref mrc, .int rh, .int rc, .ref mn, .ref mf, .ref mr, .ref mh, .int 0, .int 0, .ref ma, .ref mas, .ref msn, .ref mac, .ref mat]))] ∧ r = (-1)) (wd D (va_A [(m_, .inr (7, [.int th, .ref mt, .int tp, .int pa_, .int wr, .ref mrr, .ref mrh, .ref mrc, .int rh, .int rc, .ref mn, .ref mf, .ref mr, .ref mh, .int 0, .int 0, .ref ma, .ref mas, .ref msn, .ref mac, .ref mat]))] sz)) (va_A [(m_, .inr (7, [.int th, .ref mt, .int tp, .int pa_, .int wr, .ref mrr, .ref mrh, .ref mrc, .int rh, .int rc, .ref mn, .ref mf, .ref mr, .ref mh, .int 0, .int 0, .ref ma, .ref mas, .ref msn, .ref mac, .ref mat]))] sz)) 0 0 (va_A [(m_, .inr (7, [.int th, .ref mt, .int tp, .int pa_, .int wr, .ref mrr, .ref mrh, .ref mrc, .int rh, .int rc, .ref mn, .ref mf, .ref mr, .ref mh, .int 0, .int 0, .ref ma, .ref mas, .ref msn, .ref mac, .ref mat]))] sz) := by
  refine Met.ofW (cc := cX7_most) (maxL := 7) (ret := (some .int)) (by decide) rfl ?_
  intro p e s m args below meth c s₁ B hml hv
  obtain ⟨rfl, hsz, hP, ⟨hK, hN⟩, hD0, hZ⟩ := hv
  have hx := B.exec
  have hb := B.bytes
  have hr := B.returns
  have hts := atoms_spec (ws := wsX7_most) B.pre
  have hown : s.vm.findClass RX7 = some m.cls := findClass_of_methodNamed B.named
  have hlocks := B.notSynchronized
  clear B
  subst hsz
  have hD := hD0.self (sz := s.heap.size)
  clear hD0
  generalize hAe : va_A [(m_, .inr (7, [.int th, .ref mt, .int tp, .int pa_, .int wr, .ref mrr, .ref mrh, .ref mrc, .int rh, .int rc, .ref mn, .ref mf, .ref mr, .ref mh, .int 0, .int 0, .ref ma, .ref mas, .ref msn, .ref mac, .ref mat]))] s.heap.size = A at hD hZ ⊢
  have hA : ∀ q : Nat, s.heap.size ≤ q → A q := fun q h => by rw [← hAe]; exact Or.inr h
  have hS : va_S A s.heap s.heap [] := va_S.rf
  have f49 := hts (.fieldLink RX7 49 "HopCreditsModel" "thrown" "I") (by decide +kernel)
  have iX7 : ∀ w ∈ u_ws RX7 TX7 21, w ∈ wsX7_most := by decide +kernel
  have hl := lv_entry ([.ref m_, .int p0, .int p1, .int p2, .int p3]) (n := 7) (Nat.le_of_ble_eq_true rfl)
  rw [lg_entry_eq]
  generalize (lg_sl ([.ref m_, .int p0, .int p1, .int p2, .int p3]) ++ List.replicate (7 - (lg_sl ([.ref m_, .int p0, .int p1, .int p2, .int p3])).length) Slot.unset).toArray = ls at hl ⊢
  have hl : lv_has ls 7 [(0, .ref m_), (1, .int p0), (2, .int p1), (3, .int p2), (4, .int p3)] := hl
  generalize hQ : MQ below _ _ s _ _ _ = Q
  generalize hH : s.heap = H at hP ⊢
  have hS : va_S A s.heap H [] := by rw [← hH]; exact hS
  clear hH
  refine lv_aload_n hx hb dX7_most_0 rfl (lv_at hl 0 rfl) ?_
  refine lv_iconst (v := 0) hx hb dX7_most_1 (by decide) ?_
  refine va_put (D := D) (ci := 7) (v := .int 0) (ty := .int) (C := RX7) (T := TX7) (N := 21) hx hb hts iX7 tyX7 tyX7_ok nmX7 hown hK hP hD hS 0 rfl rfl 0 (by decide) f49 (fun _ h9 => h9) rfl (by decide +kernel) (rfl) (rfl) (Nat.le_of_ble_eq_true rfl) dX7_most_2 (fun H locs hP hD hS => ?_)
  have hP : va_P D vwCl [(m_, .inr (7, [.int 0, .ref mt, .int tp, .int pa_, .int wr, .ref mrr, .ref mrh, .ref mrc, .int rh, .int rc, .ref mn, .ref mf, .ref mr, .ref mh, .int 0, .int 0, .ref ma, .ref mas, .ref msn, .ref mac, .ref mat]))] H := hP
  have hD : va_D A [(m_, .inr (7, [.int 0, .ref mt, .int tp, .int pa_, .int wr, .ref mrr, .ref mrh, .ref mrc, .int rh, .int rc, .ref mn, .ref mf, .ref mr, .ref mh, .int 0, .int 0, .ref ma, .ref mas, .ref msn, .ref mac, .ref mat]))] := hD
  refine lv_aload_n hx hb dX7_most_5 rfl (lv_at hl 0 rfl) ?_
  refine lv_iload_n hx hb dX7_most_6 rfl (lv_at hl 1 rfl) ?_
  refine ky_Vi (As := [.int p0]) (rest := []) ⟨hx, hb, hml, hown, hts⟩ ⟨hK, hN⟩ hZ hP hD hS hA [0] [] (wc := [(m_, .inr (7, [.int 0, .ref mt, .int tp, .int pa_, .int wr, .ref mrr, .ref mrh, .ref mrc, .int rh, .int rc, .ref mn, .ref mf, .ref mr, .ref mh, .int 0, .int 0, .ref ma, .ref mas, .ref msn, .ref mac, .ref mat]))]) (wr := []) rfl rfl rfl rfl (by decide) (c_X7_isNode l D g H.size m_ 0 mt tp pa_ wr mrr mrh mrc rh rc mn mf mr mh ma mas msn mac mat p0) (cwV 1 hts gX7_most_X7_isNode rfl rfl rfl (by decide +kernel) ⟨(Nat.le_of_ble_eq_true rfl), (Nat.le_of_ble_eq_true rfl)⟩) 0 7 rfl rfl rfl rfl hl.1 rfl (Nat.le_of_ble_eq_true rfl) dX7_most_7 ⟨(Nat.le_of_ble_eq_true rfl), (Nat.le_of_ble_eq_true rfl)⟩ (fun r_1 u H locs hw hP hD hS => ?_)
  obtain ⟨rfl, rfl⟩ := hw
  have hP : va_P D vwCl [(m_, .inr (7, [.int 0, .ref mt, .int tp, .int pa_, .int wr, .ref mrr, .ref mrh, .ref mrc, .int rh, .int rc, .ref mn, .ref mf, .ref mr, .ref mh, .int 0, .int 0, .ref ma, .ref mas, .ref msn, .ref mac, .ref mat]))] H := hP
  have hD : va_D A [(m_, .inr (7, [.int 0, .ref mt, .int tp, .int pa_, .int wr, .ref mrr, .ref mrh, .ref mrc, .int rh, .int rc, .ref mn, .ref mf, .ref mr, .ref mh, .int 0, .int 0, .ref ma, .ref mas, .ref msn, .ref mac, .ref mat]))] := hD
  refine W.widen (k := 0) (n := 0) (Nat.le_of_ble_eq_true rfl) (Nat.le_of_ble_eq_true rfl) ?_
  refine lv_if_eq (tgt := 48) hx hb dX7_most_10 (by decide) (fun _ => ?_) (fun cb => absurd (by decide) cb)
  refine lv_iconst (v := (-1)) hx hb dX7_most_48 (by decide) ?_
  have hP9 := hP.sub (ws' := [(m_, .inr (7, [.int 0, .ref mt, .int tp, .int pa_, .int wr, .ref mrr, .ref mrh, .ref mrc, .int rh, .int rc, .ref mn, .ref mf, .ref mr, .ref mh, .int 0, .int 0, .ref ma, .ref mas, .ref msn, .ref mac, .ref mat]))]) [0] rfl
  have hD9 := hD.sub (ws' := [(m_, .inr (7, [.int 0, .ref mt, .int tp, .int pa_, .int wr, .ref mrr, .ref mrh, .ref mrc, .int rh, .int rc, .ref mn, .ref mf, .ref mr, .ref mh, .int 0, .int 0, .ref ma, .ref mas, .ref msn, .ref mac, .ref mat]))]) [0] (by decide) rfl
  subst hQ
  refine W.widen (k := 0) (n := 0) (Nat.le_of_ble_eq_true rfl) (Nat.le_of_ble_eq_true rfl) ?_
  exact W.iret (v := (-1)) hx hb hr (fun tS htS _ => ⟨⟨_, _, rfl, ⟨rfl, rfl⟩, by rw [htS]; exact hP9, hD9⟩, hS.F htS⟩) hS.2.2 dX7_most_49
set_option maxHeartbeats 4000000 in
set_option maxRecDepth 100000 in
/-- healed without a NET -/
theorem c_X7_healed (l : Launch) (D : va_G) (g : Nat → ClassId) (sz : Nat) (m_ : Nat) (th : Int32) (mt : Nat) (tp : Int32) (pa_ : Int32) (wr : Int32) (mrr : Nat) (mrh : Nat) (mrc : Nat) (rh : Int32) (rc : Int32) (mn : Nat) (mf : Nat) (mr : Nat) (mh : Nat) (ma : Nat) (mas : Nat) (msn : Nat) (mac : Nat) (mat : Nat) : Met l yX7_healed wsX7_healed ({ frames := 1, cells := 0, slots := 0, locals := 20 }) (va_Pc [.ref m_] (pre D g sz [(m_, .inr (7, [.int th, .ref mt, .int tp, .int pa_, .int wr, .ref mrr, .ref mrh, .ref mrc, .int rh, .int rc, .ref mn, .ref mf, .ref mr, .ref mh, .int 0, .int 0, .ref ma, .ref mas, .ref msn, .ref mac, .ref mat]))])) (va_Qi (fun (r : Int32) (u : va_W) => u = [(m_, .inr (7, [.int 0, .ref mt, .int tp, .int pa_, .int wr, .ref mrr, .ref mrh, .ref mrc, .int rh, .int rc, .ref mn, .ref mf, .ref mr, .ref mh, .int 0, .int 0, .ref ma, .ref mas, .ref msn, .ref mac, .ref mat]))] ∧ r = (-1)) (wd D (va_A [(m_, .inr (7, [.int th, .ref mt, .int tp, .int pa_, .int wr, .ref mrr, .ref mrh, .ref mrc, .int rh, .int rc, .ref mn, .ref mf, .ref mr, .ref mh, .int 0, .int 0, .ref ma, .ref mas, .ref msn, .ref mac, .ref mat]))] sz)) (va_A [(m_, .inr (7, [.int th, .ref mt, .int tp, .int pa_, .int wr, .ref mrr, .ref mrh, .ref mrc, .int rh, .int rc, .ref mn, .ref mf, .ref mr, .ref mh, .int 0, .int 0, .ref ma, .ref mas, .ref msn, .ref mac, .ref mat]))] sz)) 0 0 (va_A [(m_, .inr (7, [.int th, .ref mt, .int tp, .int pa_, .int wr, .ref mrr, .ref mrh, .ref mrc, .int rh, .int rc, .ref mn, .ref mf, .ref mr, .ref mh, .int 0, .int 0, .ref ma, .ref mas, .ref msn, .ref mac, .ref mat]))] sz) := by
  refine Met.ofW (cc := cX7_healed) (maxL := 2) (ret := (some .int)) (by decide) rfl ?_
  intro p e s m args below meth c s₁ B hml hv
  obtain ⟨rfl, hsz, hP, ⟨hK, hN⟩, hD0, hZ⟩ := hv
  have hx := B.exec
  have hb := B.bytes
  have hr := B.returns
  have hts := atoms_spec (ws := wsX7_healed) B.pre
  have hown : s.vm.findClass RX7 = some m.cls := findClass_of_methodNamed B.named
  have hlocks := B.notSynchronized
  clear B
  subst hsz
  have hD := hD0.self (sz := s.heap.size)
  clear hD0
  generalize hAe : va_A [(m_, .inr (7, [.int th, .ref mt, .int tp, .int pa_, .int wr, .ref mrr, .ref mrh, .ref mrc, .int rh, .int rc, .ref mn, .ref mf, .ref mr, .ref mh, .int 0, .int 0, .ref ma, .ref mas, .ref msn, .ref mac, .ref mat]))] s.heap.size = A at hD hZ ⊢
  have hA : ∀ q : Nat, s.heap.size ≤ q → A q := fun q h => by rw [← hAe]; exact Or.inr h
  have hS : va_S A s.heap s.heap [] := va_S.rf
  have f49 := hts (.fieldLink RX7 49 "HopCreditsModel" "thrown" "I") (by decide +kernel)
  have iX7 : ∀ w ∈ u_ws RX7 TX7 21, w ∈ wsX7_healed := by decide +kernel
  have hl := lv_entry ([.ref m_]) (n := 2) (Nat.le_of_ble_eq_true rfl)
  rw [lg_entry_eq]
  generalize (lg_sl ([.ref m_]) ++ List.replicate (2 - (lg_sl ([.ref m_])).length) Slot.unset).toArray = ls at hl ⊢
  have hl : lv_has ls 2 [(0, .ref m_)] := hl
  generalize hQ : MQ below _ _ s _ _ _ = Q
  generalize hH : s.heap = H at hP ⊢
  have hS : va_S A s.heap H [] := by rw [← hH]; exact hS
  clear hH
  refine lv_aload_n hx hb dX7_healed_0 rfl (lv_at hl 0 rfl) ?_
  refine lv_iconst (v := 0) hx hb dX7_healed_1 (by decide) ?_
  refine va_put (D := D) (ci := 7) (v := .int 0) (ty := .int) (C := RX7) (T := TX7) (N := 21) hx hb hts iX7 tyX7 tyX7_ok nmX7 hown hK hP hD hS 0 rfl rfl 0 (by decide) f49 (fun _ h9 => h9) rfl (by decide +kernel) (rfl) (rfl) (Nat.le_of_ble_eq_true rfl) dX7_healed_2 (fun H locs hP hD hS => ?_)
  have hP : va_P D vwCl [(m_, .inr (7, [.int 0, .ref mt, .int tp, .int pa_, .int wr, .ref mrr, .ref mrh, .ref mrc, .int rh, .int rc, .ref mn, .ref mf, .ref mr, .ref mh, .int 0, .int 0, .ref ma, .ref mas, .ref msn, .ref mac, .ref mat]))] H := hP
  have hD : va_D A [(m_, .inr (7, [.int 0, .ref mt, .int tp, .int pa_, .int wr, .ref mrr, .ref mrh, .ref mrc, .int rh, .int rc, .ref mn, .ref mf, .ref mr, .ref mh, .int 0, .int 0, .ref ma, .ref mas, .ref msn, .ref mac, .ref mat]))] := hD
  refine lv_aload_n hx hb dX7_healed_5 rfl (lv_at hl 0 rfl) ?_
  refine ky_Vi (As := []) (rest := []) ⟨hx, hb, hml, hown, hts⟩ ⟨hK, hN⟩ hZ hP hD hS hA [0] [] (wc := [(m_, .inr (7, [.int 0, .ref mt, .int tp, .int pa_, .int wr, .ref mrr, .ref mrh, .ref mrc, .int rh, .int rc, .ref mn, .ref mf, .ref mr, .ref mh, .int 0, .int 0, .ref ma, .ref mas, .ref msn, .ref mac, .ref mat]))]) (wr := []) rfl rfl rfl rfl (by decide) (c_X7_isNet l D g H.size m_ 0 mt tp pa_ wr mrr mrh mrc rh rc mn mf mr mh ma mas msn mac mat) (cwV 0 hts gX7_healed_X7_isNet rfl rfl rfl (by decide +kernel) ⟨(Nat.le_of_ble_eq_true rfl), (Nat.le_of_ble_eq_true rfl)⟩) 0 7 rfl rfl rfl rfl hl.1 rfl (Nat.le_of_ble_eq_true rfl) dX7_healed_6 ⟨(Nat.le_of_ble_eq_true rfl), (Nat.le_of_ble_eq_true rfl)⟩ (fun r_1 u H locs hw hP hD hS => ?_)
  obtain ⟨rfl, rfl⟩ := hw
  have hP : va_P D vwCl [(m_, .inr (7, [.int 0, .ref mt, .int tp, .int pa_, .int wr, .ref mrr, .ref mrh, .ref mrc, .int rh, .int rc, .ref mn, .ref mf, .ref mr, .ref mh, .int 0, .int 0, .ref ma, .ref mas, .ref msn, .ref mac, .ref mat]))] H := hP
  have hD : va_D A [(m_, .inr (7, [.int 0, .ref mt, .int tp, .int pa_, .int wr, .ref mrr, .ref mrh, .ref mrc, .int rh, .int rc, .ref mn, .ref mf, .ref mr, .ref mh, .int 0, .int 0, .ref ma, .ref mas, .ref msn, .ref mac, .ref mat]))] := hD
  refine W.widen (k := 0) (n := 0) (Nat.le_of_ble_eq_true rfl) (Nat.le_of_ble_eq_true rfl) ?_
  refine lv_if_ne (tgt := 14) hx hb dX7_healed_9 (by decide) (fun cb => absurd (by decide) cb) (fun _ => ?_)
  refine lv_iconst (v := (-1)) hx hb dX7_healed_12 (by decide) ?_
  have hP9 := hP.sub (ws' := [(m_, .inr (7, [.int 0, .ref mt, .int tp, .int pa_, .int wr, .ref mrr, .ref mrh, .ref mrc, .int rh, .int rc, .ref mn, .ref mf, .ref mr, .ref mh, .int 0, .int 0, .ref ma, .ref mas, .ref msn, .ref mac, .ref mat]))]) [0] rfl
  have hD9 := hD.sub (ws' := [(m_, .inr (7, [.int 0, .ref mt, .int tp, .int pa_, .int wr, .ref mrr, .ref mrh, .ref mrc, .int rh, .int rc, .ref mn, .ref mf, .ref mr, .ref mh, .int 0, .int 0, .ref ma, .ref mas, .ref msn, .ref mac, .ref mat]))]) [0] (by decide) rfl
  subst hQ
  refine W.widen (k := 0) (n := 0) (Nat.le_of_ble_eq_true rfl) (Nat.le_of_ble_eq_true rfl) ?_
  exact W.iret (v := (-1)) hx hb hr (fun tS htS _ => ⟨⟨_, _, rfl, ⟨rfl, rfl⟩, by rw [htS]; exact hP9, hD9⟩, hS.F htS⟩) hS.2.2 dX7_healed_13
set_option maxHeartbeats 4000000 in
set_option maxRecDepth 100000 in
/-- loss without a NET -/
theorem c_X7_loss (l : Launch) (D : va_G) (g : Nat → ClassId) (sz : Nat) (m_ : Nat) (th : Int32) (mt : Nat) (tp : Int32) (pa_ : Int32) (wr : Int32) (mrr : Nat) (mrh : Nat) (mrc : Nat) (rh : Int32) (rc : Int32) (mn : Nat) (mf : Nat) (mr : Nat) (mh : Nat) (ma : Nat) (mas : Nat) (msn : Nat) (mac : Nat) (mat : Nat) (p0 : Int32) (p1 : Int32) : Met l yX7_loss wsX7_loss ({ frames := 1, cells := 0, slots := 0, locals := 20 }) (va_Pc [.ref m_, .int p0, .int p1] (pre D g sz [(m_, .inr (7, [.int th, .ref mt, .int tp, .int pa_, .int wr, .ref mrr, .ref mrh, .ref mrc, .int rh, .int rc, .ref mn, .ref mf, .ref mr, .ref mh, .int 0, .int 0, .ref ma, .ref mas, .ref msn, .ref mac, .ref mat]))])) (va_Qi (fun (r : Int32) (u : va_W) => u = [(m_, .inr (7, [.int 0, .ref mt, .int tp, .int pa_, .int wr, .ref mrr, .ref mrh, .ref mrc, .int rh, .int rc, .ref mn, .ref mf, .ref mr, .ref mh, .int 0, .int 0, .ref ma, .ref mas, .ref msn, .ref mac, .ref mat]))] ∧ r = (-1000000)) (wd D (va_A [(m_, .inr (7, [.int th, .ref mt, .int tp, .int pa_, .int wr, .ref mrr, .ref mrh, .ref mrc, .int rh, .int rc, .ref mn, .ref mf, .ref mr, .ref mh, .int 0, .int 0, .ref ma, .ref mas, .ref msn, .ref mac, .ref mat]))] sz)) (va_A [(m_, .inr (7, [.int th, .ref mt, .int tp, .int pa_, .int wr, .ref mrr, .ref mrh, .ref mrc, .int rh, .int rc, .ref mn, .ref mf, .ref mr, .ref mh, .int 0, .int 0, .ref ma, .ref mas, .ref msn, .ref mac, .ref mat]))] sz)) 0 0 (va_A [(m_, .inr (7, [.int th, .ref mt, .int tp, .int pa_, .int wr, .ref mrr, .ref mrh, .ref mrc, .int rh, .int rc, .ref mn, .ref mf, .ref mr, .ref mh, .int 0, .int 0, .ref ma, .ref mas, .ref msn, .ref mac, .ref mat]))] sz) := by
  refine Met.ofW (cc := cX7_loss) (maxL := 3) (ret := (some .int)) (by decide) rfl ?_
  intro p e s m args below meth c s₁ B hml hv
  obtain ⟨rfl, hsz, hP, ⟨hK, hN⟩, hD0, hZ⟩ := hv
  have hx := B.exec
  have hb := B.bytes
  have hr := B.returns
  have hts := atoms_spec (ws := wsX7_loss) B.pre
  have hown : s.vm.findClass RX7 = some m.cls := findClass_of_methodNamed B.named
  have hlocks := B.notSynchronized
  clear B
  subst hsz
  have hD := hD0.self (sz := s.heap.size)
  clear hD0
  generalize hAe : va_A [(m_, .inr (7, [.int th, .ref mt, .int tp, .int pa_, .int wr, .ref mrr, .ref mrh, .ref mrc, .int rh, .int rc, .ref mn, .ref mf, .ref mr, .ref mh, .int 0, .int 0, .ref ma, .ref mas, .ref msn, .ref mac, .ref mat]))] s.heap.size = A at hD hZ ⊢
  have hA : ∀ q : Nat, s.heap.size ≤ q → A q := fun q h => by rw [← hAe]; exact Or.inr h
  have hS : va_S A s.heap s.heap [] := va_S.rf
  have f49 := hts (.fieldLink RX7 49 "HopCreditsModel" "thrown" "I") (by decide +kernel)
  have k236 := hts (.constant RX7 236 (-1000000)) (by decide +kernel)
  have iX7 : ∀ w ∈ u_ws RX7 TX7 21, w ∈ wsX7_loss := by decide +kernel
  have hl := lv_entry ([.ref m_, .int p0, .int p1]) (n := 3) (Nat.le_of_ble_eq_true rfl)
  rw [lg_entry_eq]
  generalize (lg_sl ([.ref m_, .int p0, .int p1]) ++ List.replicate (3 - (lg_sl ([.ref m_, .int p0, .int p1])).length) Slot.unset).toArray = ls at hl ⊢
  have hl : lv_has ls 3 [(0, .ref m_), (1, .int p0), (2, .int p1)] := hl
  generalize hQ : MQ below _ _ s _ _ _ = Q
  generalize hH : s.heap = H at hP ⊢
  have hS : va_S A s.heap H [] := by rw [← hH]; exact hS
  clear hH
  refine lv_aload_n hx hb dX7_loss_0 rfl (lv_at hl 0 rfl) ?_
  refine lv_iconst (v := 0) hx hb dX7_loss_1 (by decide) ?_
  refine va_put (D := D) (ci := 7) (v := .int 0) (ty := .int) (C := RX7) (T := TX7) (N := 21) hx hb hts iX7 tyX7 tyX7_ok nmX7 hown hK hP hD hS 0 rfl rfl 0 (by decide) f49 (fun _ h9 => h9) rfl (by decide +kernel) (rfl) (rfl) (Nat.le_of_ble_eq_true rfl) dX7_loss_2 (fun H locs hP hD hS => ?_)
  have hP : va_P D vwCl [(m_, .inr (7, [.int 0, .ref mt, .int tp, .int pa_, .int wr, .ref mrr, .ref mrh, .ref mrc, .int rh, .int rc, .ref mn, .ref mf, .ref mr, .ref mh, .int 0, .int 0, .ref ma, .ref mas, .ref msn, .ref mac, .ref mat]))] H := hP
  have hD : va_D A [(m_, .inr (7, [.int 0, .ref mt, .int tp, .int pa_, .int wr, .ref mrr, .ref mrh, .ref mrc, .int rh, .int rc, .ref mn, .ref mf, .ref mr, .ref mh, .int 0, .int 0, .ref ma, .ref mas, .ref msn, .ref mac, .ref mat]))] := hD
  refine lv_aload_n hx hb dX7_loss_5 rfl (lv_at hl 0 rfl) ?_
  refine ky_Vi (As := []) (rest := []) ⟨hx, hb, hml, hown, hts⟩ ⟨hK, hN⟩ hZ hP hD hS hA [0] [] (wc := [(m_, .inr (7, [.int 0, .ref mt, .int tp, .int pa_, .int wr, .ref mrr, .ref mrh, .ref mrc, .int rh, .int rc, .ref mn, .ref mf, .ref mr, .ref mh, .int 0, .int 0, .ref ma, .ref mas, .ref msn, .ref mac, .ref mat]))]) (wr := []) rfl rfl rfl rfl (by decide) (c_X7_isNet l D g H.size m_ 0 mt tp pa_ wr mrr mrh mrc rh rc mn mf mr mh ma mas msn mac mat) (cwV 0 hts gX7_loss_X7_isNet rfl rfl rfl (by decide +kernel) ⟨(Nat.le_of_ble_eq_true rfl), (Nat.le_of_ble_eq_true rfl)⟩) 0 7 rfl rfl rfl rfl hl.1 rfl (Nat.le_of_ble_eq_true rfl) dX7_loss_6 ⟨(Nat.le_of_ble_eq_true rfl), (Nat.le_of_ble_eq_true rfl)⟩ (fun r_1 u H locs hw hP hD hS => ?_)
  obtain ⟨rfl, rfl⟩ := hw
  have hP : va_P D vwCl [(m_, .inr (7, [.int 0, .ref mt, .int tp, .int pa_, .int wr, .ref mrr, .ref mrh, .ref mrc, .int rh, .int rc, .ref mn, .ref mf, .ref mr, .ref mh, .int 0, .int 0, .ref ma, .ref mas, .ref msn, .ref mac, .ref mat]))] H := hP
  have hD : va_D A [(m_, .inr (7, [.int 0, .ref mt, .int tp, .int pa_, .int wr, .ref mrr, .ref mrh, .ref mrc, .int rh, .int rc, .ref mn, .ref mf, .ref mr, .ref mh, .int 0, .int 0, .ref ma, .ref mas, .ref msn, .ref mac, .ref mat]))] := hD
  refine W.widen (k := 0) (n := 0) (Nat.le_of_ble_eq_true rfl) (Nat.le_of_ble_eq_true rfl) ?_
  refine lv_if_eq (tgt := 39) hx hb dX7_loss_9 (by decide) (fun _ => ?_) (fun cb => absurd (by decide) cb)
  refine lv_ldc (v := (-1000000)) hx hb hown k236 dX7_loss_39 ?_
  have hP9 := hP.sub (ws' := [(m_, .inr (7, [.int 0, .ref mt, .int tp, .int pa_, .int wr, .ref mrr, .ref mrh, .ref mrc, .int rh, .int rc, .ref mn, .ref mf, .ref mr, .ref mh, .int 0, .int 0, .ref ma, .ref mas, .ref msn, .ref mac, .ref mat]))]) [0] rfl
  have hD9 := hD.sub (ws' := [(m_, .inr (7, [.int 0, .ref mt, .int tp, .int pa_, .int wr, .ref mrr, .ref mrh, .ref mrc, .int rh, .int rc, .ref mn, .ref mf, .ref mr, .ref mh, .int 0, .int 0, .ref ma, .ref mas, .ref msn, .ref mac, .ref mat]))]) [0] (by decide) rfl
  subst hQ
  refine W.widen (k := 0) (n := 0) (Nat.le_of_ble_eq_true rfl) (Nat.le_of_ble_eq_true rfl) ?_
  exact W.iret (v := (-1000000)) hx hb hr (fun tS htS _ => ⟨⟨_, _, rfl, ⟨rfl, rfl⟩, by rw [htS]; exact hP9, hD9⟩, hS.F htS⟩) hS.2.2 dX7_loss_41
set_option maxHeartbeats 4000000 in
set_option maxRecDepth 100000 in
/-- fair without a NET -/
theorem c_X7_fair (l : Launch) (D : va_G) (g : Nat → ClassId) (sz : Nat) (m_ : Nat) (th : Int32) (mt : Nat) (tp : Int32) (pa_ : Int32) (wr : Int32) (mrr : Nat) (mrh : Nat) (mrc : Nat) (rh : Int32) (rc : Int32) (mn : Nat) (mf : Nat) (mr : Nat) (mh : Nat) (ma : Nat) (mas : Nat) (msn : Nat) (mac : Nat) (mat : Nat) (p0 : Int32) : Met l yX7_fair wsX7_fair ({ frames := 1, cells := 0, slots := 0, locals := 20 }) (va_Pc [.ref m_, .int p0] (pre D g sz [(m_, .inr (7, [.int th, .ref mt, .int tp, .int pa_, .int wr, .ref mrr, .ref mrh, .ref mrc, .int rh, .int rc, .ref mn, .ref mf, .ref mr, .ref mh, .int 0, .int 0, .ref ma, .ref mas, .ref msn, .ref mac, .ref mat]))])) (va_Qi (fun (r : Int32) (u : va_W) => u = [(m_, .inr (7, [.int 0, .ref mt, .int tp, .int pa_, .int wr, .ref mrr, .ref mrh, .ref mrc, .int rh, .int rc, .ref mn, .ref mf, .ref mr, .ref mh, .int 0, .int 0, .ref ma, .ref mas, .ref msn, .ref mac, .ref mat]))] ∧ r = (-1)) (wd D (va_A [(m_, .inr (7, [.int th, .ref mt, .int tp, .int pa_, .int wr, .ref mrr, .ref mrh, .ref mrc, .int rh, .int rc, .ref mn, .ref mf, .ref mr, .ref mh, .int 0, .int 0, .ref ma, .ref mas, .ref msn, .ref mac, .ref mat]))] sz)) (va_A [(m_, .inr (7, [.int th, .ref mt, .int tp, .int pa_, .int wr, .ref mrr, .ref mrh, .ref mrc, .int rh, .int rc, .ref mn, .ref mf, .ref mr, .ref mh, .int 0, .int 0, .ref ma, .ref mas, .ref msn, .ref mac, .ref mat]))] sz)) 0 0 (va_A [(m_, .inr (7, [.int th, .ref mt, .int tp, .int pa_, .int wr, .ref mrr, .ref mrh, .ref mrc, .int rh, .int rc, .ref mn, .ref mf, .ref mr, .ref mh, .int 0, .int 0, .ref ma, .ref mas, .ref msn, .ref mac, .ref mat]))] sz) := by
  refine Met.ofW (cc := cX7_fair) (maxL := 6) (ret := (some .int)) (by decide) rfl ?_
  intro p e s m args below meth c s₁ B hml hv
  obtain ⟨rfl, hsz, hP, ⟨hK, hN⟩, hD0, hZ⟩ := hv
  have hx := B.exec
  have hb := B.bytes
  have hr := B.returns
  have hts := atoms_spec (ws := wsX7_fair) B.pre
  have hown : s.vm.findClass RX7 = some m.cls := findClass_of_methodNamed B.named
  have hlocks := B.notSynchronized
  clear B
  subst hsz
  have hD := hD0.self (sz := s.heap.size)
  clear hD0
  generalize hAe : va_A [(m_, .inr (7, [.int th, .ref mt, .int tp, .int pa_, .int wr, .ref mrr, .ref mrh, .ref mrc, .int rh, .int rc, .ref mn, .ref mf, .ref mr, .ref mh, .int 0, .int 0, .ref ma, .ref mas, .ref msn, .ref mac, .ref mat]))] s.heap.size = A at hD hZ ⊢
  have hA : ∀ q : Nat, s.heap.size ≤ q → A q := fun q h => by rw [← hAe]; exact Or.inr h
  have hS : va_S A s.heap s.heap [] := va_S.rf
  have f49 := hts (.fieldLink RX7 49 "HopCreditsModel" "thrown" "I") (by decide +kernel)
  have iX7 : ∀ w ∈ u_ws RX7 TX7 21, w ∈ wsX7_fair := by decide +kernel
  have hl := lv_entry ([.ref m_, .int p0]) (n := 6) (Nat.le_of_ble_eq_true rfl)
  rw [lg_entry_eq]
  generalize (lg_sl ([.ref m_, .int p0]) ++ List.replicate (6 - (lg_sl ([.ref m_, .int p0])).length) Slot.unset).toArray = ls at hl ⊢
  have hl : lv_has ls 6 [(0, .ref m_), (1, .int p0)] := hl
  generalize hQ : MQ below _ _ s _ _ _ = Q
  generalize hH : s.heap = H at hP ⊢
  have hS : va_S A s.heap H [] := by rw [← hH]; exact hS
  clear hH
  refine lv_aload_n hx hb dX7_fair_0 rfl (lv_at hl 0 rfl) ?_
  refine lv_iconst (v := 0) hx hb dX7_fair_1 (by decide) ?_
  refine va_put (D := D) (ci := 7) (v := .int 0) (ty := .int) (C := RX7) (T := TX7) (N := 21) hx hb hts iX7 tyX7 tyX7_ok nmX7 hown hK hP hD hS 0 rfl rfl 0 (by decide) f49 (fun _ h9 => h9) rfl (by decide +kernel) (rfl) (rfl) (Nat.le_of_ble_eq_true rfl) dX7_fair_2 (fun H locs hP hD hS => ?_)
  have hP : va_P D vwCl [(m_, .inr (7, [.int 0, .ref mt, .int tp, .int pa_, .int wr, .ref mrr, .ref mrh, .ref mrc, .int rh, .int rc, .ref mn, .ref mf, .ref mr, .ref mh, .int 0, .int 0, .ref ma, .ref mas, .ref msn, .ref mac, .ref mat]))] H := hP
  have hD : va_D A [(m_, .inr (7, [.int 0, .ref mt, .int tp, .int pa_, .int wr, .ref mrr, .ref mrh, .ref mrc, .int rh, .int rc, .ref mn, .ref mf, .ref mr, .ref mh, .int 0, .int 0, .ref ma, .ref mas, .ref msn, .ref mac, .ref mat]))] := hD
  refine lv_aload_n hx hb dX7_fair_5 rfl (lv_at hl 0 rfl) ?_
  refine ky_Vi (As := []) (rest := []) ⟨hx, hb, hml, hown, hts⟩ ⟨hK, hN⟩ hZ hP hD hS hA [0] [] (wc := [(m_, .inr (7, [.int 0, .ref mt, .int tp, .int pa_, .int wr, .ref mrr, .ref mrh, .ref mrc, .int rh, .int rc, .ref mn, .ref mf, .ref mr, .ref mh, .int 0, .int 0, .ref ma, .ref mas, .ref msn, .ref mac, .ref mat]))]) (wr := []) rfl rfl rfl rfl (by decide) (c_X7_isNet l D g H.size m_ 0 mt tp pa_ wr mrr mrh mrc rh rc mn mf mr mh ma mas msn mac mat) (cwV 0 hts gX7_fair_X7_isNet rfl rfl rfl (by decide +kernel) ⟨(Nat.le_of_ble_eq_true rfl), (Nat.le_of_ble_eq_true rfl)⟩) 0 7 rfl rfl rfl rfl hl.1 rfl (Nat.le_of_ble_eq_true rfl) dX7_fair_6 ⟨(Nat.le_of_ble_eq_true rfl), (Nat.le_of_ble_eq_true rfl)⟩ (fun r_1 u H locs hw hP hD hS => ?_)
  obtain ⟨rfl, rfl⟩ := hw
  have hP : va_P D vwCl [(m_, .inr (7, [.int 0, .ref mt, .int tp, .int pa_, .int wr, .ref mrr, .ref mrh, .ref mrc, .int rh, .int rc, .ref mn, .ref mf, .ref mr, .ref mh, .int 0, .int 0, .ref ma, .ref mas, .ref msn, .ref mac, .ref mat]))] H := hP
  have hD : va_D A [(m_, .inr (7, [.int 0, .ref mt, .int tp, .int pa_, .int wr, .ref mrr, .ref mrh, .ref mrc, .int rh, .int rc, .ref mn, .ref mf, .ref mr, .ref mh, .int 0, .int 0, .ref ma, .ref mas, .ref msn, .ref mac, .ref mat]))] := hD
  refine W.widen (k := 0) (n := 0) (Nat.le_of_ble_eq_true rfl) (Nat.le_of_ble_eq_true rfl) ?_
  refine lv_if_eq (tgt := 20) hx hb dX7_fair_9 (by decide) (fun _ => ?_) (fun cb => absurd (by decide) cb)
  refine lv_iconst (v := (-1)) hx hb dX7_fair_20 (by decide) ?_
  have hP9 := hP.sub (ws' := [(m_, .inr (7, [.int 0, .ref mt, .int tp, .int pa_, .int wr, .ref mrr, .ref mrh, .ref mrc, .int rh, .int rc, .ref mn, .ref mf, .ref mr, .ref mh, .int 0, .int 0, .ref ma, .ref mas, .ref msn, .ref mac, .ref mat]))]) [0] rfl
  have hD9 := hD.sub (ws' := [(m_, .inr (7, [.int 0, .ref mt, .int tp, .int pa_, .int wr, .ref mrr, .ref mrh, .ref mrc, .int rh, .int rc, .ref mn, .ref mf, .ref mr, .ref mh, .int 0, .int 0, .ref ma, .ref mas, .ref msn, .ref mac, .ref mat]))]) [0] (by decide) rfl
  subst hQ
  refine W.widen (k := 0) (n := 0) (Nat.le_of_ble_eq_true rfl) (Nat.le_of_ble_eq_true rfl) ?_
  exact W.iret (v := (-1)) hx hb hr (fun tS htS _ => ⟨⟨_, _, rfl, ⟨rfl, rfl⟩, by rw [htS]; exact hP9, hD9⟩, hS.F htS⟩) hS.2.2 dX7_fair_21
set_option maxHeartbeats 4000000 in
set_option maxRecDepth 100000 in
/-- learns without a NET -/
theorem c_X7_learns (l : Launch) (D : va_G) (g : Nat → ClassId) (sz : Nat) (m_ : Nat) (th : Int32) (mt : Nat) (tp : Int32) (pa_ : Int32) (wr : Int32) (mrr : Nat) (mrh : Nat) (mrc : Nat) (rh : Int32) (rc : Int32) (mn : Nat) (mf : Nat) (mr : Nat) (mh : Nat) (ma : Nat) (mas : Nat) (msn : Nat) (mac : Nat) (mat : Nat) (p0 : Int32) (p1 : Int32) : Met l yX7_learns wsX7_learns ({ frames := 3, cells := 0, slots := 0, locals := 65 }) (va_Pc [.ref m_, .int p0, .int p1] (pre D g sz [(m_, .inr (7, [.int th, .ref mt, .int tp, .int pa_, .int wr, .ref mrr, .ref mrh, .ref mrc, .int rh, .int rc, .ref mn, .ref mf, .ref mr, .ref mh, .int 0, .int 0, .ref ma, .ref mas, .ref msn, .ref mac, .ref mat]))])) (va_Qi (fun (r : Int32) (u : va_W) => u = [(m_, .inr (7, [.int 0, .ref mt, .int tp, .int pa_, .int wr, .ref mrr, .ref mrh, .ref mrc, .int rh, .int rc, .ref mn, .ref mf, .ref mr, .ref mh, .int 0, .int 0, .ref ma, .ref mas, .ref msn, .ref mac, .ref mat]))] ∧ r = (-1)) (wd D (va_A [(m_, .inr (7, [.int th, .ref mt, .int tp, .int pa_, .int wr, .ref mrr, .ref mrh, .ref mrc, .int rh, .int rc, .ref mn, .ref mf, .ref mr, .ref mh, .int 0, .int 0, .ref ma, .ref mas, .ref msn, .ref mac, .ref mat]))] sz)) (va_A [(m_, .inr (7, [.int th, .ref mt, .int tp, .int pa_, .int wr, .ref mrr, .ref mrh, .ref mrc, .int rh, .int rc, .ref mn, .ref mf, .ref mr, .ref mh, .int 0, .int 0, .ref ma, .ref mas, .ref msn, .ref mac, .ref mat]))] sz)) 0 0 (va_A [(m_, .inr (7, [.int th, .ref mt, .int tp, .int pa_, .int wr, .ref mrr, .ref mrh, .ref mrc, .int rh, .int rc, .ref mn, .ref mf, .ref mr, .ref mh, .int 0, .int 0, .ref ma, .ref mas, .ref msn, .ref mac, .ref mat]))] sz) := by
  refine Met.ofW (cc := cX7_learns) (maxL := 5) (ret := (some .int)) (by decide) rfl ?_
  intro p e s m args below meth c s₁ B hml hv
  obtain ⟨rfl, hsz, hP, ⟨hK, hN⟩, hD0, hZ⟩ := hv
  have hx := B.exec
  have hb := B.bytes
  have hr := B.returns
  have hts := atoms_spec (ws := wsX7_learns) B.pre
  have hown : s.vm.findClass RX7 = some m.cls := findClass_of_methodNamed B.named
  have hlocks := B.notSynchronized
  clear B
  subst hsz
  have hD := hD0.self (sz := s.heap.size)
  clear hD0
  generalize hAe : va_A [(m_, .inr (7, [.int th, .ref mt, .int tp, .int pa_, .int wr, .ref mrr, .ref mrh, .ref mrc, .int rh, .int rc, .ref mn, .ref mf, .ref mr, .ref mh, .int 0, .int 0, .ref ma, .ref mas, .ref msn, .ref mac, .ref mat]))] s.heap.size = A at hD hZ ⊢
  have hA : ∀ q : Nat, s.heap.size ≤ q → A q := fun q h => by rw [← hAe]; exact Or.inr h
  have hS : va_S A s.heap s.heap [] := va_S.rf
  have f49 := hts (.fieldLink RX7 49 "HopCreditsModel" "thrown" "I") (by decide +kernel)
  have iX7 : ∀ w ∈ u_ws RX7 TX7 21, w ∈ wsX7_learns := by decide +kernel
  have hl := lv_entry ([.ref m_, .int p0, .int p1]) (n := 5) (Nat.le_of_ble_eq_true rfl)
  rw [lg_entry_eq]
  generalize (lg_sl ([.ref m_, .int p0, .int p1]) ++ List.replicate (5 - (lg_sl ([.ref m_, .int p0, .int p1])).length) Slot.unset).toArray = ls at hl ⊢
  have hl : lv_has ls 5 [(0, .ref m_), (1, .int p0), (2, .int p1)] := hl
  generalize hQ : MQ below _ _ s _ _ _ = Q
  generalize hH : s.heap = H at hP ⊢
  have hS : va_S A s.heap H [] := by rw [← hH]; exact hS
  clear hH
  refine lv_aload_n hx hb dX7_learns_0 rfl (lv_at hl 0 rfl) ?_
  refine lv_iconst (v := 0) hx hb dX7_learns_1 (by decide) ?_
  refine va_put (D := D) (ci := 7) (v := .int 0) (ty := .int) (C := RX7) (T := TX7) (N := 21) hx hb hts iX7 tyX7 tyX7_ok nmX7 hown hK hP hD hS 0 rfl rfl 0 (by decide) f49 (fun _ h9 => h9) rfl (by decide +kernel) (rfl) (rfl) (Nat.le_of_ble_eq_true rfl) dX7_learns_2 (fun H locs hP hD hS => ?_)
  have hP : va_P D vwCl [(m_, .inr (7, [.int 0, .ref mt, .int tp, .int pa_, .int wr, .ref mrr, .ref mrh, .ref mrc, .int rh, .int rc, .ref mn, .ref mf, .ref mr, .ref mh, .int 0, .int 0, .ref ma, .ref mas, .ref msn, .ref mac, .ref mat]))] H := hP
  have hD : va_D A [(m_, .inr (7, [.int 0, .ref mt, .int tp, .int pa_, .int wr, .ref mrr, .ref mrh, .ref mrc, .int rh, .int rc, .ref mn, .ref mf, .ref mr, .ref mh, .int 0, .int 0, .ref ma, .ref mas, .ref msn, .ref mac, .ref mat]))] := hD
  refine lv_aload_n hx hb dX7_learns_5 rfl (lv_at hl 0 rfl) ?_
  refine lv_iload_n hx hb dX7_learns_6 rfl (lv_at hl 1 rfl) ?_
  refine lv_iload_n hx hb dX7_learns_7 rfl (lv_at hl 2 rfl) ?_
  refine ky_Vi (As := [.int p0, .int p1]) (rest := []) ⟨hx, hb, hml, hown, hts⟩ ⟨hK, hN⟩ hZ hP hD hS hA [0] [] (wc := [(m_, .inr (7, [.int 0, .ref mt, .int tp, .int pa_, .int wr, .ref mrr, .ref mrh, .ref mrc, .int rh, .int rc, .ref mn, .ref mf, .ref mr, .ref mh, .int 0, .int 0, .ref ma, .ref mas, .ref msn, .ref mac, .ref mat]))]) (wr := []) rfl rfl rfl rfl (by decide) (c_X7_isLane l D g H.size m_ 0 mt tp pa_ wr mrr mrh mrc rh rc mn mf mr mh ma mas msn mac mat p0 p1) (cwV 2 hts gX7_learns_X7_isLane rfl rfl rfl (by decide +kernel) ⟨(Nat.le_of_ble_eq_true rfl), (Nat.le_of_ble_eq_true rfl)⟩) 0 7 rfl rfl rfl rfl hl.1 rfl (Nat.le_of_ble_eq_true rfl) dX7_learns_8 ⟨(Nat.le_of_ble_eq_true rfl), (Nat.le_of_ble_eq_true rfl)⟩ (fun r_1 u H locs hw hP hD hS => ?_)
  obtain ⟨rfl, rfl⟩ := hw
  have hP : va_P D vwCl [(m_, .inr (7, [.int 0, .ref mt, .int tp, .int pa_, .int wr, .ref mrr, .ref mrh, .ref mrc, .int rh, .int rc, .ref mn, .ref mf, .ref mr, .ref mh, .int 0, .int 0, .ref ma, .ref mas, .ref msn, .ref mac, .ref mat]))] H := hP
  have hD : va_D A [(m_, .inr (7, [.int 0, .ref mt, .int tp, .int pa_, .int wr, .ref mrr, .ref mrh, .ref mrc, .int rh, .int rc, .ref mn, .ref mf, .ref mr, .ref mh, .int 0, .int 0, .ref ma, .ref mas, .ref msn, .ref mac, .ref mat]))] := hD
  refine W.widen (k := 0) (n := 0) (Nat.le_of_ble_eq_true rfl) (Nat.le_of_ble_eq_true rfl) ?_
  refine lv_if_ne (tgt := 16) hx hb dX7_learns_11 (by decide) (fun cb => absurd (by decide) cb) (fun _ => ?_)
  refine lv_iconst (v := (-1)) hx hb dX7_learns_14 (by decide) ?_
  have hP9 := hP.sub (ws' := [(m_, .inr (7, [.int 0, .ref mt, .int tp, .int pa_, .int wr, .ref mrr, .ref mrh, .ref mrc, .int rh, .int rc, .ref mn, .ref mf, .ref mr, .ref mh, .int 0, .int 0, .ref ma, .ref mas, .ref msn, .ref mac, .ref mat]))]) [0] rfl
  have hD9 := hD.sub (ws' := [(m_, .inr (7, [.int 0, .ref mt, .int tp, .int pa_, .int wr, .ref mrr, .ref mrh, .ref mrc, .int rh, .int rc, .ref mn, .ref mf, .ref mr, .ref mh, .int 0, .int 0, .ref ma, .ref mas, .ref msn, .ref mac, .ref mat]))]) [0] (by decide) rfl
  subst hQ
  refine W.widen (k := 0) (n := 0) (Nat.le_of_ble_eq_true rfl) (Nat.le_of_ble_eq_true rfl) ?_
  exact W.iret (v := (-1)) hx hb hr (fun tS htS _ => ⟨⟨_, _, rfl, ⟨rfl, rfl⟩, by rw [htS]; exact hP9, hD9⟩, hS.F htS⟩) hS.2.2 dX7_learns_15
set_option maxHeartbeats 4000000 in
set_option maxRecDepth 100000 in
/-- stuck without a NET -/
theorem c_X7_stuck (l : Launch) (D : va_G) (g : Nat → ClassId) (sz : Nat) (m_ : Nat) (th : Int32) (mt : Nat) (tp : Int32) (pa_ : Int32) (wr : Int32) (mrr : Nat) (mrh : Nat) (mrc : Nat) (rh : Int32) (rc : Int32) (mn : Nat) (mf : Nat) (mr : Nat) (mh : Nat) (ma : Nat) (mas : Nat) (msn : Nat) (mac : Nat) (mat : Nat) : Met l yX7_stuck wsX7_stuck ({ frames := 1, cells := 0, slots := 0, locals := 20 }) (va_Pc [.ref m_] (pre D g sz [(m_, .inr (7, [.int th, .ref mt, .int tp, .int pa_, .int wr, .ref mrr, .ref mrh, .ref mrc, .int rh, .int rc, .ref mn, .ref mf, .ref mr, .ref mh, .int 0, .int 0, .ref ma, .ref mas, .ref msn, .ref mac, .ref mat]))])) (va_Qi (fun (r : Int32) (u : va_W) => u = [(m_, .inr (7, [.int 0, .ref mt, .int tp, .int pa_, .int wr, .ref mrr, .ref mrh, .ref mrc, .int rh, .int rc, .ref mn, .ref mf, .ref mr, .ref mh, .int 0, .int 0, .ref ma, .ref mas, .ref msn, .ref mac, .ref mat]))] ∧ r = 0) (wd D (va_A [(m_, .inr (7, [.int th, .ref mt, .int tp, .int pa_, .int wr, .ref mrr, .ref mrh, .ref mrc, .int rh, .int rc, .ref mn, .ref mf, .ref mr, .ref mh, .int 0, .int 0, .ref ma, .ref mas, .ref msn, .ref mac, .ref mat]))] sz)) (va_A [(m_, .inr (7, [.int th, .ref mt, .int tp, .int pa_, .int wr, .ref mrr, .ref mrh, .ref mrc, .int rh, .int rc, .ref mn, .ref mf, .ref mr, .ref mh, .int 0, .int 0, .ref ma, .ref mas, .ref msn, .ref mac, .ref mat]))] sz)) 0 0 (va_A [(m_, .inr (7, [.int th, .ref mt, .int tp, .int pa_, .int wr, .ref mrr, .ref mrh, .ref mrc, .int rh, .int rc, .ref mn, .ref mf, .ref mr, .ref mh, .int 0, .int 0, .ref ma, .ref mas, .ref msn, .ref mac, .ref mat]))] sz) := by
  refine Met.ofW (cc := cX7_stuck) (maxL := 6) (ret := (some .boolean)) (by decide) rfl ?_
  intro p e s m args below meth c s₁ B hml hv
  obtain ⟨rfl, hsz, hP, ⟨hK, hN⟩, hD0, hZ⟩ := hv
  have hx := B.exec
  have hb := B.bytes
  have hr := B.returns
  have hts := atoms_spec (ws := wsX7_stuck) B.pre
  have hown : s.vm.findClass RX7 = some m.cls := findClass_of_methodNamed B.named
  have hlocks := B.notSynchronized
  clear B
  subst hsz
  have hD := hD0.self (sz := s.heap.size)
  clear hD0
  generalize hAe : va_A [(m_, .inr (7, [.int th, .ref mt, .int tp, .int pa_, .int wr, .ref mrr, .ref mrh, .ref mrc, .int rh, .int rc, .ref mn, .ref mf, .ref mr, .ref mh, .int 0, .int 0, .ref ma, .ref mas, .ref msn, .ref mac, .ref mat]))] s.heap.size = A at hD hZ ⊢
  have hA : ∀ q : Nat, s.heap.size ≤ q → A q := fun q h => by rw [← hAe]; exact Or.inr h
  have hS : va_S A s.heap s.heap [] := va_S.rf
  have f49 := hts (.fieldLink RX7 49 "HopCreditsModel" "thrown" "I") (by decide +kernel)
  have iX7 : ∀ w ∈ u_ws RX7 TX7 21, w ∈ wsX7_stuck := by decide +kernel
  have hl := lv_entry ([.ref m_]) (n := 6) (Nat.le_of_ble_eq_true rfl)
  rw [lg_entry_eq]
  generalize (lg_sl ([.ref m_]) ++ List.replicate (6 - (lg_sl ([.ref m_])).length) Slot.unset).toArray = ls at hl ⊢
  have hl : lv_has ls 6 [(0, .ref m_)] := hl
  generalize hQ : MQ below _ _ s _ _ _ = Q
  generalize hH : s.heap = H at hP ⊢
  have hS : va_S A s.heap H [] := by rw [← hH]; exact hS
  clear hH
  refine lv_aload_n hx hb dX7_stuck_0 rfl (lv_at hl 0 rfl) ?_
  refine lv_iconst (v := 0) hx hb dX7_stuck_1 (by decide) ?_
  refine va_put (D := D) (ci := 7) (v := .int 0) (ty := .int) (C := RX7) (T := TX7) (N := 21) hx hb hts iX7 tyX7 tyX7_ok nmX7 hown hK hP hD hS 0 rfl rfl 0 (by decide) f49 (fun _ h9 => h9) rfl (by decide +kernel) (rfl) (rfl) (Nat.le_of_ble_eq_true rfl) dX7_stuck_2 (fun H locs hP hD hS => ?_)
  have hP : va_P D vwCl [(m_, .inr (7, [.int 0, .ref mt, .int tp, .int pa_, .int wr, .ref mrr, .ref mrh, .ref mrc, .int rh, .int rc, .ref mn, .ref mf, .ref mr, .ref mh, .int 0, .int 0, .ref ma, .ref mas, .ref msn, .ref mac, .ref mat]))] H := hP
  have hD : va_D A [(m_, .inr (7, [.int 0, .ref mt, .int tp, .int pa_, .int wr, .ref mrr, .ref mrh, .ref mrc, .int rh, .int rc, .ref mn, .ref mf, .ref mr, .ref mh, .int 0, .int 0, .ref ma, .ref mas, .ref msn, .ref mac, .ref mat]))] := hD
  refine lv_aload_n hx hb dX7_stuck_5 rfl (lv_at hl 0 rfl) ?_
  refine ky_Vi (As := []) (rest := []) ⟨hx, hb, hml, hown, hts⟩ ⟨hK, hN⟩ hZ hP hD hS hA [0] [] (wc := [(m_, .inr (7, [.int 0, .ref mt, .int tp, .int pa_, .int wr, .ref mrr, .ref mrh, .ref mrc, .int rh, .int rc, .ref mn, .ref mf, .ref mr, .ref mh, .int 0, .int 0, .ref ma, .ref mas, .ref msn, .ref mac, .ref mat]))]) (wr := []) rfl rfl rfl rfl (by decide) (c_X7_isNet l D g H.size m_ 0 mt tp pa_ wr mrr mrh mrc rh rc mn mf mr mh ma mas msn mac mat) (cwV 0 hts gX7_stuck_X7_isNet rfl rfl rfl (by decide +kernel) ⟨(Nat.le_of_ble_eq_true rfl), (Nat.le_of_ble_eq_true rfl)⟩) 0 7 rfl rfl rfl rfl hl.1 rfl (Nat.le_of_ble_eq_true rfl) dX7_stuck_6 ⟨(Nat.le_of_ble_eq_true rfl), (Nat.le_of_ble_eq_true rfl)⟩ (fun r_1 u H locs hw hP hD hS => ?_)
  obtain ⟨rfl, rfl⟩ := hw
  have hP : va_P D vwCl [(m_, .inr (7, [.int 0, .ref mt, .int tp, .int pa_, .int wr, .ref mrr, .ref mrh, .ref mrc, .int rh, .int rc, .ref mn, .ref mf, .ref mr, .ref mh, .int 0, .int 0, .ref ma, .ref mas, .ref msn, .ref mac, .ref mat]))] H := hP
  have hD : va_D A [(m_, .inr (7, [.int 0, .ref mt, .int tp, .int pa_, .int wr, .ref mrr, .ref mrh, .ref mrc, .int rh, .int rc, .ref mn, .ref mf, .ref mr, .ref mh, .int 0, .int 0, .ref ma, .ref mas, .ref msn, .ref mac, .ref mat]))] := hD
  refine W.widen (k := 0) (n := 0) (Nat.le_of_ble_eq_true rfl) (Nat.le_of_ble_eq_true rfl) ?_
  refine lv_if_eq (tgt := 19) hx hb dX7_stuck_9 (by decide) (fun _ => ?_) (fun cb => absurd (by decide) cb)
  refine lv_iconst (v := 0) hx hb dX7_stuck_19 (by decide) ?_
  have hP9 := hP.sub (ws' := [(m_, .inr (7, [.int 0, .ref mt, .int tp, .int pa_, .int wr, .ref mrr, .ref mrh, .ref mrc, .int rh, .int rc, .ref mn, .ref mf, .ref mr, .ref mh, .int 0, .int 0, .ref ma, .ref mas, .ref msn, .ref mac, .ref mat]))]) [0] rfl
  have hD9 := hD.sub (ws' := [(m_, .inr (7, [.int 0, .ref mt, .int tp, .int pa_, .int wr, .ref mrr, .ref mrh, .ref mrc, .int rh, .int rc, .ref mn, .ref mf, .ref mr, .ref mh, .int 0, .int 0, .ref ma, .ref mas, .ref msn, .ref mac, .ref mat]))]) [0] (by decide) rfl
  subst hQ
  refine W.widen (k := 0) (n := 0) (Nat.le_of_ble_eq_true rfl) (Nat.le_of_ble_eq_true rfl) ?_
  exact W.zret (v := 0) (ty := .boolean) hx hb hr (rfl) (fun tS htS _ => ⟨⟨_, _, rfl, ⟨rfl, rfl⟩, by rw [htS]; exact hP9, hD9⟩, hS.F htS⟩) hS.2.2 dX7_stuck_20
set_option maxHeartbeats 4000000 in
set_option maxRecDepth 100000 in
/-- would without a NET -/
theorem c_X7_would (l : Launch) (D : va_G) (g : Nat → ClassId) (sz : Nat) (m_ : Nat) (th : Int32) (mt : Nat) (tp : Int32) (pa_ : Int32) (wr : Int32) (mrr : Nat) (mrh : Nat) (mrc : Nat) (rh : Int32) (rc : Int32) (mn : Nat) (mf : Nat) (mr : Nat) (mh : Nat) (ma : Nat) (mas : Nat) (msn : Nat) (mac : Nat) (mat : Nat) (p0 : Int32) (p1 : Int32) (p2 : Int32) (p3 : Int32) : Met l yX7_would wsX7_would ({ frames := 4, cells := 0, slots := 0, locals := 89 }) (va_Pc [.ref m_, .int p0, .int p1, .int p2, .int p3] (pre D g sz [(m_, .inr (7, [.int th, .ref mt, .int tp, .int pa_, .int wr, .ref mrr, .ref mrh, .ref mrc, .int rh, .int rc, .ref mn, .ref mf, .ref mr, .ref mh, .int 0, .int 0, .ref ma, .ref mas, .ref msn, .ref mac, .ref mat]))])) (va_Qi (fun (r : Int32) (u : va_W) => u = [(m_, .inr (7, [.int 0, .ref mt, .int tp, .int pa_, .int wr, .ref mrr, .ref mrh, .ref mrc, .int rh, .int rc, .ref mn, .ref mf, .ref mr, .ref mh, .int 0, .int 0, .ref ma, .ref mas, .ref msn, .ref mac, .ref mat]))] ∧ r = (-1)) (wd D (va_A [(m_, .inr (7, [.int th, .ref mt, .int tp, .int pa_, .int wr, .ref mrr, .ref mrh, .ref mrc, .int rh, .int rc, .ref mn, .ref mf, .ref mr, .ref mh, .int 0, .int 0, .ref ma, .ref mas, .ref msn, .ref mac, .ref mat]))] sz)) (va_A [(m_, .inr (7, [.int th, .ref mt, .int tp, .int pa_, .int wr, .ref mrr, .ref mrh, .ref mrc, .int rh, .int rc, .ref mn, .ref mf, .ref mr, .ref mh, .int 0, .int 0, .ref ma, .ref mas, .ref msn, .ref mac, .ref mat]))] sz)) 0 0 (va_A [(m_, .inr (7, [.int th, .ref mt, .int tp, .int pa_, .int wr, .ref mrr, .ref mrh, .ref mrc, .int rh, .int rc, .ref mn, .ref mf, .ref mr, .ref mh, .int 0, .int 0, .ref ma, .ref mas, .ref msn, .ref mac, .ref mat]))] sz) := by
  refine Met.ofW (cc := cX7_would) (maxL := 5) (ret := (some .int)) (by decide) rfl ?_
  intro p e s m args below meth c s₁ B hml hv
  obtain ⟨rfl, hsz, hP, ⟨hK, hN⟩, hD0, hZ⟩ := hv
  have hx := B.exec
  have hb := B.bytes
  have hr := B.returns
  have hts := atoms_spec (ws := wsX7_would) B.pre
  have hown : s.vm.findClass RX7 = some m.cls := findClass_of_methodNamed B.named
  have hlocks := B.notSynchronized
  clear B
  subst hsz
  have hD := hD0.self (sz := s.heap.size)
  clear hD0
  generalize hAe : va_A [(m_, .inr (7, [.int th, .ref mt, .int tp, .int pa_, .int wr, .ref mrr, .ref mrh, .ref mrc, .int rh, .int rc, .ref mn, .ref mf, .ref mr, .ref mh, .int 0, .int 0, .ref ma, .ref mas, .ref msn, .ref mac, .ref mat]))] s.heap.size = A at hD hZ ⊢
  have hA : ∀ q : Nat, s.heap.size ≤ q → A q := fun q h => by rw [← hAe]; exact Or.inr h
  have hS : va_S A s.heap s.heap [] := va_S.rf
  have f49 := hts (.fieldLink RX7 49 "HopCreditsModel" "thrown" "I") (by decide +kernel)
  have iX7 : ∀ w ∈ u_ws RX7 TX7 21, w ∈ wsX7_would := by decide +kernel
  have hl := lv_entry ([.ref m_, .int p0, .int p1, .int p2, .int p3]) (n := 5) (Nat.le_of_ble_eq_true rfl)
  rw [lg_entry_eq]
  generalize (lg_sl ([.ref m_, .int p0, .int p1, .int p2, .int p3]) ++ List.replicate (5 - (lg_sl ([.ref m_, .int p0, .int p1, .int p2, .int p3])).length) Slot.unset).toArray = ls at hl ⊢
  have hl : lv_has ls 5 [(0, .ref m_), (1, .int p0), (2, .int p1), (3, .int p2), (4, .int p3)] := hl
  generalize hQ : MQ below _ _ s _ _ _ = Q
  generalize hH : s.heap = H at hP ⊢
  have hS : va_S A s.heap H [] := by rw [← hH]; exact hS
  clear hH
  refine lv_aload_n hx hb dX7_would_0 rfl (lv_at hl 0 rfl) ?_
  refine lv_iconst (v := 0) hx hb dX7_would_1 (by decide) ?_
  refine va_put (D := D) (ci := 7) (v := .int 0) (ty := .int) (C := RX7) (T := TX7) (N := 21) hx hb hts iX7 tyX7 tyX7_ok nmX7 hown hK hP hD hS 0 rfl rfl 0 (by decide) f49 (fun _ h9 => h9) rfl (by decide +kernel) (rfl) (rfl) (Nat.le_of_ble_eq_true rfl) dX7_would_2 (fun H locs hP hD hS => ?_)
  have hP : va_P D vwCl [(m_, .inr (7, [.int 0, .ref mt, .int tp, .int pa_, .int wr, .ref mrr, .ref mrh, .ref mrc, .int rh, .int rc, .ref mn, .ref mf, .ref mr, .ref mh, .int 0, .int 0, .ref ma, .ref mas, .ref msn, .ref mac, .ref mat]))] H := hP
  have hD : va_D A [(m_, .inr (7, [.int 0, .ref mt, .int tp, .int pa_, .int wr, .ref mrr, .ref mrh, .ref mrc, .int rh, .int rc, .ref mn, .ref mf, .ref mr, .ref mh, .int 0, .int 0, .ref ma, .ref mas, .ref msn, .ref mac, .ref mat]))] := hD
  refine lv_aload_n hx hb dX7_would_5 rfl (lv_at hl 0 rfl) ?_
  refine lv_iload_n hx hb dX7_would_6 rfl (lv_at hl 1 rfl) ?_
  refine lv_iload_n hx hb dX7_would_7 rfl (lv_at hl 2 rfl) ?_
  refine lv_iload_n hx hb dX7_would_8 rfl (lv_at hl 3 rfl) ?_
  refine ky_Vi (As := [.int p0, .int p1, .int p2]) (rest := []) ⟨hx, hb, hml, hown, hts⟩ ⟨hK, hN⟩ hZ hP hD hS hA [0] [] (wc := [(m_, .inr (7, [.int 0, .ref mt, .int tp, .int pa_, .int wr, .ref mrr, .ref mrh, .ref mrc, .int rh, .int rc, .ref mn, .ref mf, .ref mr, .ref mh, .int 0, .int 0, .ref ma, .ref mas, .ref msn, .ref mac, .ref mat]))]) (wr := []) rfl rfl rfl rfl (by decide) (c_X7_whyZone l D g H.size m_ 0 mt tp pa_ wr mrr mrh mrc rh rc mn mf mr mh ma mas msn mac mat p0 p1 p2) (cwV 3 hts gX7_would_X7_whyZone rfl rfl rfl (by decide +kernel) ⟨(Nat.le_of_ble_eq_true rfl), (Nat.le_of_ble_eq_true rfl)⟩) 0 7 rfl rfl rfl rfl hl.1 rfl (Nat.le_of_ble_eq_true rfl) dX7_would_9 ⟨(Nat.le_of_ble_eq_true rfl), (Nat.le_of_ble_eq_true rfl)⟩ (fun r_1 u H locs hw hP hD hS => ?_)
  obtain ⟨rfl, rfl⟩ := hw
  have hP : va_P D vwCl [(m_, .inr (7, [.int 0, .ref mt, .int tp, .int pa_, .int wr, .ref mrr, .ref mrh, .ref mrc, .int rh, .int rc, .ref mn, .ref mf, .ref mr, .ref mh, .int 0, .int 0, .ref ma, .ref mas, .ref msn, .ref mac, .ref mat]))] H := hP
  have hD : va_D A [(m_, .inr (7, [.int 0, .ref mt, .int tp, .int pa_, .int wr, .ref mrr, .ref mrh, .ref mrc, .int rh, .int rc, .ref mn, .ref mf, .ref mr, .ref mh, .int 0, .int 0, .ref ma, .ref mas, .ref msn, .ref mac, .ref mat]))] := hD
  refine W.widen (k := 0) (n := 0) (Nat.le_of_ble_eq_true rfl) (Nat.le_of_ble_eq_true rfl) ?_
  refine lv_iconst (v := (-1)) hx hb dX7_would_12 (by decide) ?_
  refine lv_icmp_ne (tgt := 37) hx hb dX7_would_13 (by decide) (fun _ => ?_) (fun cb => absurd cb (by decide))
  refine lv_iconst (v := (-1)) hx hb dX7_would_37 (by decide) ?_
  have hP9 := hP.sub (ws' := [(m_, .inr (7, [.int 0, .ref mt, .int tp, .int pa_, .int wr, .ref mrr, .ref mrh, .ref mrc, .int rh, .int rc, .ref mn, .ref mf, .ref mr, .ref mh, .int 0, .int 0, .ref ma, .ref mas, .ref msn, .ref mac, .ref mat]))]) [0] rfl
  have hD9 := hD.sub (ws' := [(m_, .inr (7, [.int 0, .ref mt, .int tp, .int pa_, .int wr, .ref mrr, .ref mrh, .ref mrc, .int rh, .int rc, .ref mn, .ref mf, .ref mr, .ref mh, .int 0, .int 0, .ref ma, .ref mas, .ref msn, .ref mac, .ref mat]))]) [0] (by decide) rfl
  subst hQ
  refine W.widen (k := 0) (n := 0) (Nat.le_of_ble_eq_true rfl) (Nat.le_of_ble_eq_true rfl) ?_
  exact W.iret (v := (-1)) hx hb hr (fun tS htS _ => ⟨⟨_, _, rfl, ⟨rfl, rfl⟩, by rw [htS]; exact hP9, hD9⟩, hS.F htS⟩) hS.2.2 dX7_would_38
set_option maxHeartbeats 4000000 in
set_option maxRecDepth 100000 in
/-- bestZone without a NET -/
theorem c_X7_bestZone (l : Launch) (D : va_G) (g : Nat → ClassId) (sz : Nat) (m_ : Nat) (th : Int32) (mt : Nat) (tp : Int32) (pa_ : Int32) (wr : Int32) (mrr : Nat) (mrh : Nat) (mrc : Nat) (rh : Int32) (rc : Int32) (mn : Nat) (mf : Nat) (mr : Nat) (mh : Nat) (ma : Nat) (mas : Nat) (msn : Nat) (mac : Nat) (mat : Nat) (p0 : Int32) (p1 : Int32) (p2 : Int32) : Met l yX7_bestZone wsX7_bestZone ({ frames := 3, cells := 0, slots := 0, locals := 65 }) (va_Pc [.ref m_, .int p0, .int p1, .int p2] (pre D g sz [(m_, .inr (7, [.int th, .ref mt, .int tp, .int pa_, .int wr, .ref mrr, .ref mrh, .ref mrc, .int rh, .int rc, .ref mn, .ref mf, .ref mr, .ref mh, .int 0, .int 0, .ref ma, .ref mas, .ref msn, .ref mac, .ref mat]))])) (va_Qi (fun (r : Int32) (u : va_W) => u = [(m_, .inr (7, [.int 0, .ref mt, .int tp, .int pa_, .int wr, .ref mrr, .ref mrh, .ref mrc, .int rh, .int rc, .ref mn, .ref mf, .ref mr, .ref mh, .int 0, .int 0, .ref ma, .ref mas, .ref msn, .ref mac, .ref mat]))] ∧ r = (-1)) (wd D (va_A [(m_, .inr (7, [.int th, .ref mt, .int tp, .int pa_, .int wr, .ref mrr, .ref mrh, .ref mrc, .int rh, .int rc, .ref mn, .ref mf, .ref mr, .ref mh, .int 0, .int 0, .ref ma, .ref mas, .ref msn, .ref mac, .ref mat]))] sz)) (va_A [(m_, .inr (7, [.int th, .ref mt, .int tp, .int pa_, .int wr, .ref mrr, .ref mrh, .ref mrc, .int rh, .int rc, .ref mn, .ref mf, .ref mr, .ref mh, .int 0, .int 0, .ref ma, .ref mas, .ref msn, .ref mac, .ref mat]))] sz)) 0 0 (va_A [(m_, .inr (7, [.int th, .ref mt, .int tp, .int pa_, .int wr, .ref mrr, .ref mrh, .ref mrc, .int rh, .int rc, .ref mn, .ref mf, .ref mr, .ref mh, .int 0, .int 0, .ref ma, .ref mas, .ref msn, .ref mac, .ref mat]))] sz) := by
  refine Met.ofW (cc := cX7_bestZone) (maxL := 10) (ret := (some .int)) (by decide) rfl ?_
  intro p e s m args below meth c s₁ B hml hv
  obtain ⟨rfl, hsz, hP, ⟨hK, hN⟩, hD0, hZ⟩ := hv
  have hx := B.exec
  have hb := B.bytes
  have hr := B.returns
  have hts := atoms_spec (ws := wsX7_bestZone) B.pre
  have hown : s.vm.findClass RX7 = some m.cls := findClass_of_methodNamed B.named
  have hlocks := B.notSynchronized
  clear B
  subst hsz
  have hD := hD0.self (sz := s.heap.size)
  clear hD0
  generalize hAe : va_A [(m_, .inr (7, [.int th, .ref mt, .int tp, .int pa_, .int wr, .ref mrr, .ref mrh, .ref mrc, .int rh, .int rc, .ref mn, .ref mf, .ref mr, .ref mh, .int 0, .int 0, .ref ma, .ref mas, .ref msn, .ref mac, .ref mat]))] s.heap.size = A at hD hZ ⊢
  have hA : ∀ q : Nat, s.heap.size ≤ q → A q := fun q h => by rw [← hAe]; exact Or.inr h
  have hS : va_S A s.heap s.heap [] := va_S.rf
  have f49 := hts (.fieldLink RX7 49 "HopCreditsModel" "thrown" "I") (by decide +kernel)
  have iX7 : ∀ w ∈ u_ws RX7 TX7 21, w ∈ wsX7_bestZone := by decide +kernel
  have hl := lv_entry ([.ref m_, .int p0, .int p1, .int p2]) (n := 10) (Nat.le_of_ble_eq_true rfl)
  rw [lg_entry_eq]
  generalize (lg_sl ([.ref m_, .int p0, .int p1, .int p2]) ++ List.replicate (10 - (lg_sl ([.ref m_, .int p0, .int p1, .int p2])).length) Slot.unset).toArray = ls at hl ⊢
  have hl : lv_has ls 10 [(0, .ref m_), (1, .int p0), (2, .int p1), (3, .int p2)] := hl
  generalize hQ : MQ below _ _ s _ _ _ = Q
  generalize hH : s.heap = H at hP ⊢
  have hS : va_S A s.heap H [] := by rw [← hH]; exact hS
  clear hH
  refine lv_aload_n hx hb dX7_bestZone_0 rfl (lv_at hl 0 rfl) ?_
  refine lv_iconst (v := 0) hx hb dX7_bestZone_1 (by decide) ?_
  refine va_put (D := D) (ci := 7) (v := .int 0) (ty := .int) (C := RX7) (T := TX7) (N := 21) hx hb hts iX7 tyX7 tyX7_ok nmX7 hown hK hP hD hS 0 rfl rfl 0 (by decide) f49 (fun _ h9 => h9) rfl (by decide +kernel) (rfl) (rfl) (Nat.le_of_ble_eq_true rfl) dX7_bestZone_2 (fun H locs hP hD hS => ?_)
  have hP : va_P D vwCl [(m_, .inr (7, [.int 0, .ref mt, .int tp, .int pa_, .int wr, .ref mrr, .ref mrh, .ref mrc, .int rh, .int rc, .ref mn, .ref mf, .ref mr, .ref mh, .int 0, .int 0, .ref ma, .ref mas, .ref msn, .ref mac, .ref mat]))] H := hP
  have hD : va_D A [(m_, .inr (7, [.int 0, .ref mt, .int tp, .int pa_, .int wr, .ref mrr, .ref mrh, .ref mrc, .int rh, .int rc, .ref mn, .ref mf, .ref mr, .ref mh, .int 0, .int 0, .ref ma, .ref mas, .ref msn, .ref mac, .ref mat]))] := hD
  refine lv_aload_n hx hb dX7_bestZone_5 rfl (lv_at hl 0 rfl) ?_
  refine lv_iload_n hx hb dX7_bestZone_6 rfl (lv_at hl 1 rfl) ?_
  refine lv_iload_n hx hb dX7_bestZone_7 rfl (lv_at hl 2 rfl) ?_
  refine ky_Vi (As := [.int p0, .int p1]) (rest := []) ⟨hx, hb, hml, hown, hts⟩ ⟨hK, hN⟩ hZ hP hD hS hA [0] [] (wc := [(m_, .inr (7, [.int 0, .ref mt, .int tp, .int pa_, .int wr, .ref mrr, .ref mrh, .ref mrc, .int rh, .int rc, .ref mn, .ref mf, .ref mr, .ref mh, .int 0, .int 0, .ref ma, .ref mas, .ref msn, .ref mac, .ref mat]))]) (wr := []) rfl rfl rfl rfl (by decide) (c_X7_isLane l D g H.size m_ 0 mt tp pa_ wr mrr mrh mrc rh rc mn mf mr mh ma mas msn mac mat p0 p1) (cwV 2 hts gX7_bestZone_X7_isLane rfl rfl rfl (by decide +kernel) ⟨(Nat.le_of_ble_eq_true rfl), (Nat.le_of_ble_eq_true rfl)⟩) 0 7 rfl rfl rfl rfl hl.1 rfl (Nat.le_of_ble_eq_true rfl) dX7_bestZone_8 ⟨(Nat.le_of_ble_eq_true rfl), (Nat.le_of_ble_eq_true rfl)⟩ (fun r_1 u H locs hw hP hD hS => ?_)
  obtain ⟨rfl, rfl⟩ := hw
  have hP : va_P D vwCl [(m_, .inr (7, [.int 0, .ref mt, .int tp, .int pa_, .int wr, .ref mrr, .ref mrh, .ref mrc, .int rh, .int rc, .ref mn, .ref mf, .ref mr, .ref mh, .int 0, .int 0, .ref ma, .ref mas, .ref msn, .ref mac, .ref mat]))] H := hP
  have hD : va_D A [(m_, .inr (7, [.int 0, .ref mt, .int tp, .int pa_, .int wr, .ref mrr, .ref mrh, .ref mrc, .int rh, .int rc, .ref mn, .ref mf, .ref mr, .ref mh, .int 0, .int 0, .ref ma, .ref mas, .ref msn, .ref mac, .ref mat]))] := hD
  refine W.widen (k := 0) (n := 0) (Nat.le_of_ble_eq_true rfl) (Nat.le_of_ble_eq_true rfl) ?_
  refine lv_if_eq (tgt := 24) hx hb dX7_bestZone_11 (by decide) (fun _ => ?_) (fun cb => absurd (by decide) cb)
  refine lv_iconst (v := (-1)) hx hb dX7_bestZone_24 (by decide) ?_
  have hP9 := hP.sub (ws' := [(m_, .inr (7, [.int 0, .ref mt, .int tp, .int pa_, .int wr, .ref mrr, .ref mrh, .ref mrc, .int rh, .int rc, .ref mn, .ref mf, .ref mr, .ref mh, .int 0, .int 0, .ref ma, .ref mas, .ref msn, .ref mac, .ref mat]))]) [0] rfl
  have hD9 := hD.sub (ws' := [(m_, .inr (7, [.int 0, .ref mt, .int tp, .int pa_, .int wr, .ref mrr, .ref mrh, .ref mrc, .int rh, .int rc, .ref mn, .ref mf, .ref mr, .ref mh, .int 0, .int 0, .ref ma, .ref mas, .ref msn, .ref mac, .ref mat]))]) [0] (by decide) rfl
  subst hQ
  refine W.widen (k := 0) (n := 0) (Nat.le_of_ble_eq_true rfl) (Nat.le_of_ble_eq_true rfl) ?_
  exact W.iret (v := (-1)) hx hb hr (fun tS htS _ => ⟨⟨_, _, rfl, ⟨rfl, rfl⟩, by rw [htS]; exact hP9, hD9⟩, hS.F htS⟩) hS.2.2 dX7_bestZone_25
set_option maxHeartbeats 4000000 in
set_option maxRecDepth 100000 in
/-- bears without a NET -/
theorem c_X7_bears (l : Launch) (D : va_G) (g : Nat → ClassId) (sz : Nat) (m_ : Nat) (th : Int32) (mt : Nat) (tp : Int32) (pa_ : Int32) (wr : Int32) (mrr : Nat) (mrh : Nat) (mrc : Nat) (rh : Int32) (rc : Int32) (mn : Nat) (mf : Nat) (mr : Nat) (mh : Nat) (ma : Nat) (mas : Nat) (msn : Nat) (mac : Nat) (mat : Nat) (p0 : Int32) : Met l yX7_bears wsX7_bears ({ frames := 1, cells := 0, slots := 0, locals := 20 }) (va_Pc [.ref m_, .int p0] (pre D g sz [(m_, .inr (7, [.int th, .ref mt, .int tp, .int pa_, .int wr, .ref mrr, .ref mrh, .ref mrc, .int rh, .int rc, .ref mn, .ref mf, .ref mr, .ref mh, .int 0, .int 0, .ref ma, .ref mas, .ref msn, .ref mac, .ref mat]))])) (va_Qi (fun (r : Int32) (u : va_W) => u = [(m_, .inr (7, [.int 0, .ref mt, .int tp, .int pa_, .int wr, .ref mrr, .ref mrh, .ref mrc, .int rh, .int rc, .ref mn, .ref mf, .ref mr, .ref mh, .int 0, .int 0, .ref ma, .ref mas, .ref msn, .ref mac, .ref mat]))] ∧ r = (-1)) (wd D (va_A [(m_, .inr (7, [.int th, .ref mt, .int tp, .int pa_, .int wr, .ref mrr, .ref mrh, .ref mrc, .int rh, .int rc, .ref mn, .ref mf, .ref mr, .ref mh, .int 0, .int 0, .ref ma, .ref mas, .ref msn, .ref mac, .ref mat]))] sz)) (va_A [(m_, .inr (7, [.int th, .ref mt, .int tp, .int pa_, .int wr, .ref mrr, .ref mrh, .ref mrc, .int rh, .int rc, .ref mn, .ref mf, .ref mr, .ref mh, .int 0, .int 0, .ref ma, .ref mas, .ref msn, .ref mac, .ref mat]))] sz)) 0 0 (va_A [(m_, .inr (7, [.int th, .ref mt, .int tp, .int pa_, .int wr, .ref mrr, .ref mrh, .ref mrc, .int rh, .int rc, .ref mn, .ref mf, .ref mr, .ref mh, .int 0, .int 0, .ref ma, .ref mas, .ref msn, .ref mac, .ref mat]))] sz) := by
  refine Met.ofW (cc := cX7_bears) (maxL := 3) (ret := (some .int)) (by decide) rfl ?_
  intro p e s m args below meth c s₁ B hml hv
  obtain ⟨rfl, hsz, hP, ⟨hK, hN⟩, hD0, hZ⟩ := hv
  have hx := B.exec
  have hb := B.bytes
  have hr := B.returns
  have hts := atoms_spec (ws := wsX7_bears) B.pre
  have hown : s.vm.findClass RX7 = some m.cls := findClass_of_methodNamed B.named
  have hlocks := B.notSynchronized
  clear B
  subst hsz
  have hD := hD0.self (sz := s.heap.size)
  clear hD0
  generalize hAe : va_A [(m_, .inr (7, [.int th, .ref mt, .int tp, .int pa_, .int wr, .ref mrr, .ref mrh, .ref mrc, .int rh, .int rc, .ref mn, .ref mf, .ref mr, .ref mh, .int 0, .int 0, .ref ma, .ref mas, .ref msn, .ref mac, .ref mat]))] s.heap.size = A at hD hZ ⊢
  have hA : ∀ q : Nat, s.heap.size ≤ q → A q := fun q h => by rw [← hAe]; exact Or.inr h
  have hS : va_S A s.heap s.heap [] := va_S.rf
  have f49 := hts (.fieldLink RX7 49 "HopCreditsModel" "thrown" "I") (by decide +kernel)
  have iX7 : ∀ w ∈ u_ws RX7 TX7 21, w ∈ wsX7_bears := by decide +kernel
  have hl := lv_entry ([.ref m_, .int p0]) (n := 3) (Nat.le_of_ble_eq_true rfl)
  rw [lg_entry_eq]
  generalize (lg_sl ([.ref m_, .int p0]) ++ List.replicate (3 - (lg_sl ([.ref m_, .int p0])).length) Slot.unset).toArray = ls at hl ⊢
  have hl : lv_has ls 3 [(0, .ref m_), (1, .int p0)] := hl
  generalize hQ : MQ below _ _ s _ _ _ = Q
  generalize hH : s.heap = H at hP ⊢
  have hS : va_S A s.heap H [] := by rw [← hH]; exact hS
  clear hH
  refine lv_aload_n hx hb dX7_bears_0 rfl (lv_at hl 0 rfl) ?_
  refine lv_iconst (v := 0) hx hb dX7_bears_1 (by decide) ?_
  refine va_put (D := D) (ci := 7) (v := .int 0) (ty := .int) (C := RX7) (T := TX7) (N := 21) hx hb hts iX7 tyX7 tyX7_ok nmX7 hown hK hP hD hS 0 rfl rfl 0 (by decide) f49 (fun _ h9 => h9) rfl (by decide +kernel) (rfl) (rfl) (Nat.le_of_ble_eq_true rfl) dX7_bears_2 (fun H locs hP hD hS => ?_)
  have hP : va_P D vwCl [(m_, .inr (7, [.int 0, .ref mt, .int tp, .int pa_, .int wr, .ref mrr, .ref mrh, .ref mrc, .int rh, .int rc, .ref mn, .ref mf, .ref mr, .ref mh, .int 0, .int 0, .ref ma, .ref mas, .ref msn, .ref mac, .ref mat]))] H := hP
  have hD : va_D A [(m_, .inr (7, [.int 0, .ref mt, .int tp, .int pa_, .int wr, .ref mrr, .ref mrh, .ref mrc, .int rh, .int rc, .ref mn, .ref mf, .ref mr, .ref mh, .int 0, .int 0, .ref ma, .ref mas, .ref msn, .ref mac, .ref mat]))] := hD
  refine lv_aload_n hx hb dX7_bears_5 rfl (lv_at hl 0 rfl) ?_
  refine ky_Vi (As := []) (rest := []) ⟨hx, hb, hml, hown, hts⟩ ⟨hK, hN⟩ hZ hP hD hS hA [0] [] (wc := [(m_, .inr (7, [.int 0, .ref mt, .int tp, .int pa_, .int wr, .ref mrr, .ref mrh, .ref mrc, .int rh, .int rc, .ref mn, .ref mf, .ref mr, .ref mh, .int 0, .int 0, .ref ma, .ref mas, .ref msn, .ref mac, .ref mat]))]) (wr := []) rfl rfl rfl rfl (by decide) (c_X7_isNet l D g H.size m_ 0 mt tp pa_ wr mrr mrh mrc rh rc mn mf mr mh ma mas msn mac mat) (cwV 0 hts gX7_bears_X7_isNet rfl rfl rfl (by decide +kernel) ⟨(Nat.le_of_ble_eq_true rfl), (Nat.le_of_ble_eq_true rfl)⟩) 0 7 rfl rfl rfl rfl hl.1 rfl (Nat.le_of_ble_eq_true rfl) dX7_bears_6 ⟨(Nat.le_of_ble_eq_true rfl), (Nat.le_of_ble_eq_true rfl)⟩ (fun r_1 u H locs hw hP hD hS => ?_)
  obtain ⟨rfl, rfl⟩ := hw
  have hP : va_P D vwCl [(m_, .inr (7, [.int 0, .ref mt, .int tp, .int pa_, .int wr, .ref mrr, .ref mrh, .ref mrc, .int rh, .int rc, .ref mn, .ref mf, .ref mr, .ref mh, .int 0, .int 0, .ref ma, .ref mas, .ref msn, .ref mac, .ref mat]))] H := hP
  have hD : va_D A [(m_, .inr (7, [.int 0, .ref mt, .int tp, .int pa_, .int wr, .ref mrr, .ref mrh, .ref mrc, .int rh, .int rc, .ref mn, .ref mf, .ref mr, .ref mh, .int 0, .int 0, .ref ma, .ref mas, .ref msn, .ref mac, .ref mat]))] := hD
  refine W.widen (k := 0) (n := 0) (Nat.le_of_ble_eq_true rfl) (Nat.le_of_ble_eq_true rfl) ?_
  refine lv_if_eq (tgt := 20) hx hb dX7_bears_9 (by decide) (fun _ => ?_) (fun cb => absurd (by decide) cb)
  refine lv_iconst (v := (-1)) hx hb dX7_bears_20 (by decide) ?_
  have hP9 := hP.sub (ws' := [(m_, .inr (7, [.int 0, .ref mt, .int tp, .int pa_, .int wr, .ref mrr, .ref mrh, .ref mrc, .int rh, .int rc, .ref mn, .ref mf, .ref mr, .ref mh, .int 0, .int 0, .ref ma, .ref mas, .ref msn, .ref mac, .ref mat]))]) [0] rfl
  have hD9 := hD.sub (ws' := [(m_, .inr (7, [.int 0, .ref mt, .int tp, .int pa_, .int wr, .ref mrr, .ref mrh, .ref mrc, .int rh, .int rc, .ref mn, .ref mf, .ref mr, .ref mh, .int 0, .int 0, .ref ma, .ref mas, .ref msn, .ref mac, .ref mat]))]) [0] (by decide) rfl
  subst hQ
  refine W.widen (k := 0) (n := 0) (Nat.le_of_ble_eq_true rfl) (Nat.le_of_ble_eq_true rfl) ?_
  exact W.iret (v := (-1)) hx hb hr (fun tS htS _ => ⟨⟨_, _, rfl, ⟨rfl, rfl⟩, by rw [htS]; exact hP9, hD9⟩, hS.F htS⟩) hS.2.2 dX7_bears_21
set_option maxHeartbeats 4000000 in
set_option maxRecDepth 100000 in
/-- waits_ without a NET -/
theorem c_X7_waits_ (l : Launch) (D : va_G) (g : Nat → ClassId) (sz : Nat) (m_ : Nat) (th : Int32) (mt : Nat) (tp : Int32) (pa_ : Int32) (wr : Int32) (mrr : Nat) (mrh : Nat) (mrc : Nat) (rh : Int32) (rc : Int32) (mn : Nat) (mf : Nat) (mr : Nat) (mh : Nat) (ma : Nat) (mas : Nat) (msn : Nat) (mac : Nat) (mat : Nat) (p0 : Int32) (p1 : Int32) (p2 : Int32) : Met l yX7_waits_ wsX7_waits_ ({ frames := 3, cells := 0, slots := 0, locals := 65 }) (va_Pc [.ref m_, .int p0, .int p1, .int p2] (pre D g sz [(m_, .inr (7, [.int th, .ref mt, .int tp, .int pa_, .int wr, .ref mrr, .ref mrh, .ref mrc, .int rh, .int rc, .ref mn, .ref mf, .ref mr, .ref mh, .int 0, .int 0, .ref ma, .ref mas, .ref msn, .ref mac, .ref mat]))])) (va_Qi (fun (r : Int32) (u : va_W) => u = [(m_, .inr (7, [.int 0, .ref mt, .int tp, .int pa_, .int wr, .ref mrr, .ref mrh, .ref mrc, .int rh, .int rc, .ref mn, .ref mf, .ref mr, .ref mh, .int 0, .int 0, .ref ma, .ref mas, .ref msn, .ref mac, .ref mat]))] ∧ r = (-1)) (wd D (va_A [(m_, .inr (7, [.int th, .ref mt, .int tp, .int pa_, .int wr, .ref mrr, .ref mrh, .ref mrc, .int rh, .int rc, .ref mn, .ref mf, .ref mr, .ref mh, .int 0, .int 0, .ref ma, .ref mas, .ref msn, .ref mac, .ref mat]))] sz)) (va_A [(m_, .inr (7, [.int th, .ref mt, .int tp, .int pa_, .int wr, .ref mrr, .ref mrh, .ref mrc, .int rh, .int rc, .ref mn, .ref mf, .ref mr, .ref mh, .int 0, .int 0, .ref ma, .ref mas, .ref msn, .ref mac, .ref mat]))] sz)) 0 0 (va_A [(m_, .inr (7, [.int th, .ref mt, .int tp, .int pa_, .int wr, .ref mrr, .ref mrh, .ref mrc, .int rh, .int rc, .ref mn, .ref mf, .ref mr, .ref mh, .int 0, .int 0, .ref ma, .ref mas, .ref msn, .ref mac, .ref mat]))] sz) := by
  refine Met.ofW (cc := cX7_waits_) (maxL := 4) (ret := (some .int)) (by decide) rfl ?_
  intro p e s m args below meth c s₁ B hml hv
  obtain ⟨rfl, hsz, hP, ⟨hK, hN⟩, hD0, hZ⟩ := hv
  have hx := B.exec
  have hb := B.bytes
  have hr := B.returns
  have hts := atoms_spec (ws := wsX7_waits_) B.pre
  have hown : s.vm.findClass RX7 = some m.cls := findClass_of_methodNamed B.named
  have hlocks := B.notSynchronized
  clear B
  subst hsz
  have hD := hD0.self (sz := s.heap.size)
  clear hD0
  generalize hAe : va_A [(m_, .inr (7, [.int th, .ref mt, .int tp, .int pa_, .int wr, .ref mrr, .ref mrh, .ref mrc, .int rh, .int rc, .ref mn, .ref mf, .ref mr, .ref mh, .int 0, .int 0, .ref ma, .ref mas, .ref msn, .ref mac, .ref mat]))] s.heap.size = A at hD hZ ⊢
  have hA : ∀ q : Nat, s.heap.size ≤ q → A q := fun q h => by rw [← hAe]; exact Or.inr h
  have hS : va_S A s.heap s.heap [] := va_S.rf
  have f49 := hts (.fieldLink RX7 49 "HopCreditsModel" "thrown" "I") (by decide +kernel)
  have iX7 : ∀ w ∈ u_ws RX7 TX7 21, w ∈ wsX7_waits_ := by decide +kernel
  have hl := lv_entry ([.ref m_, .int p0, .int p1, .int p2]) (n := 4) (Nat.le_of_ble_eq_true rfl)
  rw [lg_entry_eq]
  generalize (lg_sl ([.ref m_, .int p0, .int p1, .int p2]) ++ List.replicate (4 - (lg_sl ([.ref m_, .int p0, .int p1, .int p2])).length) Slot.unset).toArray = ls at hl ⊢
  have hl : lv_has ls 4 [(0, .ref m_), (1, .int p0), (2, .int p1), (3, .int p2)] := hl
  generalize hQ : MQ below _ _ s _ _ _ = Q
  generalize hH : s.heap = H at hP ⊢
  have hS : va_S A s.heap H [] := by rw [← hH]; exact hS
  clear hH
  refine lv_aload_n hx hb dX7_waits__0 rfl (lv_at hl 0 rfl) ?_
  refine lv_iconst (v := 0) hx hb dX7_waits__1 (by decide) ?_
  refine va_put (D := D) (ci := 7) (v := .int 0) (ty := .int) (C := RX7) (T := TX7) (N := 21) hx hb hts iX7 tyX7 tyX7_ok nmX7 hown hK hP hD hS 0 rfl rfl 0 (by decide) f49 (fun _ h9 => h9) rfl (by decide +kernel) (rfl) (rfl) (Nat.le_of_ble_eq_true rfl) dX7_waits__2 (fun H locs hP hD hS => ?_)
  have hP : va_P D vwCl [(m_, .inr (7, [.int 0, .ref mt, .int tp, .int pa_, .int wr, .ref mrr, .ref mrh, .ref mrc, .int rh, .int rc, .ref mn, .ref mf, .ref mr, .ref mh, .int 0, .int 0, .ref ma, .ref mas, .ref msn, .ref mac, .ref mat]))] H := hP
  have hD : va_D A [(m_, .inr (7, [.int 0, .ref mt, .int tp, .int pa_, .int wr, .ref mrr, .ref mrh, .ref mrc, .int rh, .int rc, .ref mn, .ref mf, .ref mr, .ref mh, .int 0, .int 0, .ref ma, .ref mas, .ref msn, .ref mac, .ref mat]))] := hD
  refine lv_aload_n hx hb dX7_waits__5 rfl (lv_at hl 0 rfl) ?_
  refine lv_iload_n hx hb dX7_waits__6 rfl (lv_at hl 1 rfl) ?_
  refine lv_iload_n hx hb dX7_waits__7 rfl (lv_at hl 2 rfl) ?_
  refine ky_Vi (As := [.int p0, .int p1]) (rest := []) ⟨hx, hb, hml, hown, hts⟩ ⟨hK, hN⟩ hZ hP hD hS hA [0] [] (wc := [(m_, .inr (7, [.int 0, .ref mt, .int tp, .int pa_, .int wr, .ref mrr, .ref mrh, .ref mrc, .int rh, .int rc, .ref mn, .ref mf, .ref mr, .ref mh, .int 0, .int 0, .ref ma, .ref mas, .ref msn, .ref mac, .ref mat]))]) (wr := []) rfl rfl rfl rfl (by decide) (c_X7_isLane l D g H.size m_ 0 mt tp pa_ wr mrr mrh mrc rh rc mn mf mr mh ma mas msn mac mat p0 p1) (cwV 2 hts gX7_waits__X7_isLane rfl rfl rfl (by decide +kernel) ⟨(Nat.le_of_ble_eq_true rfl), (Nat.le_of_ble_eq_true rfl)⟩) 0 7 rfl rfl rfl rfl hl.1 rfl (Nat.le_of_ble_eq_true rfl) dX7_waits__8 ⟨(Nat.le_of_ble_eq_true rfl), (Nat.le_of_ble_eq_true rfl)⟩ (fun r_1 u H locs hw hP hD hS => ?_)
  obtain ⟨rfl, rfl⟩ := hw
  have hP : va_P D vwCl [(m_, .inr (7, [.int 0, .ref mt, .int tp, .int pa_, .int wr, .ref mrr, .ref mrh, .ref mrc, .int rh, .int rc, .ref mn, .ref mf, .ref mr, .ref mh, .int 0, .int 0, .ref ma, .ref mas, .ref msn, .ref mac, .ref mat]))] H := hP
  have hD : va_D A [(m_, .inr (7, [.int 0, .ref mt, .int tp, .int pa_, .int wr, .ref mrr, .ref mrh, .ref mrc, .int rh, .int rc, .ref mn, .ref mf, .ref mr, .ref mh, .int 0, .int 0, .ref ma, .ref mas, .ref msn, .ref mac, .ref mat]))] := hD
  refine W.widen (k := 0) (n := 0) (Nat.le_of_ble_eq_true rfl) (Nat.le_of_ble_eq_true rfl) ?_
  refine lv_if_eq (tgt := 32) hx hb dX7_waits__11 (by decide) (fun _ => ?_) (fun cb => absurd (by decide) cb)
  refine lv_iconst (v := (-1)) hx hb dX7_waits__32 (by decide) ?_
  have hP9 := hP.sub (ws' := [(m_, .inr (7, [.int 0, .ref mt, .int tp, .int pa_, .int wr, .ref mrr, .ref mrh, .ref mrc, .int rh, .int rc, .ref mn, .ref mf, .ref mr, .ref mh, .int 0, .int 0, .ref ma, .ref mas, .ref msn, .ref mac, .ref mat]))]) [0] rfl
  have hD9 := hD.sub (ws' := [(m_, .inr (7, [.int 0, .ref mt, .int tp, .int pa_, .int wr, .ref mrr, .ref mrh, .ref mrc, .int rh, .int rc, .ref mn, .ref mf, .ref mr, .ref mh, .int 0, .int 0, .ref ma, .ref mas, .ref msn, .ref mac, .ref mat]))]) [0] (by decide) rfl
  subst hQ
  refine W.widen (k := 0) (n := 0) (Nat.le_of_ble_eq_true rfl) (Nat.le_of_ble_eq_true rfl) ?_
  exact W.iret (v := (-1)) hx hb hr (fun tS htS _ => ⟨⟨_, _, rfl, ⟨rfl, rfl⟩, by rw [htS]; exact hP9, hD9⟩, hS.F htS⟩) hS.2.2 dX7_waits__33
set_option maxHeartbeats 4000000 in
set_option maxRecDepth 100000 in
/-- worst without a NET -/
theorem c_X7_worst (l : Launch) (D : va_G) (g : Nat → ClassId) (sz : Nat) (m_ : Nat) (th : Int32) (mt : Nat) (tp : Int32) (pa_ : Int32) (wr : Int32) (mrr : Nat) (mrh : Nat) (mrc : Nat) (rh : Int32) (rc : Int32) (mn : Nat) (mf : Nat) (mr : Nat) (mh : Nat) (ma : Nat) (mas : Nat) (msn : Nat) (mac : Nat) (mat : Nat) (p0 : Int32) (p1 : Int32) : Met l yX7_worst wsX7_worst ({ frames := 2, cells := 0, slots := 0, locals := 43 }) (va_Pc [.ref m_, .int p0, .int p1] (pre D g sz [(m_, .inr (7, [.int th, .ref mt, .int tp, .int pa_, .int wr, .ref mrr, .ref mrh, .ref mrc, .int rh, .int rc, .ref mn, .ref mf, .ref mr, .ref mh, .int 0, .int 0, .ref ma, .ref mas, .ref msn, .ref mac, .ref mat]))])) (va_Qi (fun (r : Int32) (u : va_W) => u = [(m_, .inr (7, [.int 0, .ref mt, .int tp, .int pa_, .int wr, .ref mrr, .ref mrh, .ref mrc, .int rh, .int rc, .ref mn, .ref mf, .ref mr, .ref mh, .int 0, .int 0, .ref ma, .ref mas, .ref msn, .ref mac, .ref mat]))] ∧ r = (-1)) (wd D (va_A [(m_, .inr (7, [.int th, .ref mt, .int tp, .int pa_, .int wr, .ref mrr, .ref mrh, .ref mrc, .int rh, .int rc, .ref mn, .ref mf, .ref mr, .ref mh, .int 0, .int 0, .ref ma, .ref mas, .ref msn, .ref mac, .ref mat]))] sz)) (va_A [(m_, .inr (7, [.int th, .ref mt, .int tp, .int pa_, .int wr, .ref mrr, .ref mrh, .ref mrc, .int rh, .int rc, .ref mn, .ref mf, .ref mr, .ref mh, .int 0, .int 0, .ref ma, .ref mas, .ref msn, .ref mac, .ref mat]))] sz)) 0 0 (va_A [(m_, .inr (7, [.int th, .ref mt, .int tp, .int pa_, .int wr, .ref mrr, .ref mrh, .ref mrc, .int rh, .int rc, .ref mn, .ref mf, .ref mr, .ref mh, .int 0, .int 0, .ref ma, .ref mas, .ref msn, .ref mac, .ref mat]))] sz) := by
  refine Met.ofW (cc := cX7_worst) (maxL := 7) (ret := (some .int)) (by decide) rfl ?_
  intro p e s m args below meth c s₁ B hml hv
  obtain ⟨rfl, hsz, hP, ⟨hK, hN⟩, hD0, hZ⟩ := hv
  have hx := B.exec
  have hb := B.bytes
  have hr := B.returns
  have hts := atoms_spec (ws := wsX7_worst) B.pre
  have hown : s.vm.findClass RX7 = some m.cls := findClass_of_methodNamed B.named
  have hlocks := B.notSynchronized
  clear B
  subst hsz
  have hD := hD0.self (sz := s.heap.size)
  clear hD0
  generalize hAe : va_A [(m_, .inr (7, [.int th, .ref mt, .int tp, .int pa_, .int wr, .ref mrr, .ref mrh, .ref mrc, .int rh, .int rc, .ref mn, .ref mf, .ref mr, .ref mh, .int 0, .int 0, .ref ma, .ref mas, .ref msn, .ref mac, .ref mat]))] s.heap.size = A at hD hZ ⊢
  have hA : ∀ q : Nat, s.heap.size ≤ q → A q := fun q h => by rw [← hAe]; exact Or.inr h
  have hS : va_S A s.heap s.heap [] := va_S.rf
  have f49 := hts (.fieldLink RX7 49 "HopCreditsModel" "thrown" "I") (by decide +kernel)
  have iX7 : ∀ w ∈ u_ws RX7 TX7 21, w ∈ wsX7_worst := by decide +kernel
  have hl := lv_entry ([.ref m_, .int p0, .int p1]) (n := 7) (Nat.le_of_ble_eq_true rfl)
  rw [lg_entry_eq]
  generalize (lg_sl ([.ref m_, .int p0, .int p1]) ++ List.replicate (7 - (lg_sl ([.ref m_, .int p0, .int p1])).length) Slot.unset).toArray = ls at hl ⊢
  have hl : lv_has ls 7 [(0, .ref m_), (1, .int p0), (2, .int p1)] := hl
  generalize hQ : MQ below _ _ s _ _ _ = Q
  generalize hH : s.heap = H at hP ⊢
  have hS : va_S A s.heap H [] := by rw [← hH]; exact hS
  clear hH
  refine lv_aload_n hx hb dX7_worst_0 rfl (lv_at hl 0 rfl) ?_
  refine lv_iconst (v := 0) hx hb dX7_worst_1 (by decide) ?_
  refine va_put (D := D) (ci := 7) (v := .int 0) (ty := .int) (C := RX7) (T := TX7) (N := 21) hx hb hts iX7 tyX7 tyX7_ok nmX7 hown hK hP hD hS 0 rfl rfl 0 (by decide) f49 (fun _ h9 => h9) rfl (by decide +kernel) (rfl) (rfl) (Nat.le_of_ble_eq_true rfl) dX7_worst_2 (fun H locs hP hD hS => ?_)
  have hP : va_P D vwCl [(m_, .inr (7, [.int 0, .ref mt, .int tp, .int pa_, .int wr, .ref mrr, .ref mrh, .ref mrc, .int rh, .int rc, .ref mn, .ref mf, .ref mr, .ref mh, .int 0, .int 0, .ref ma, .ref mas, .ref msn, .ref mac, .ref mat]))] H := hP
  have hD : va_D A [(m_, .inr (7, [.int 0, .ref mt, .int tp, .int pa_, .int wr, .ref mrr, .ref mrh, .ref mrc, .int rh, .int rc, .ref mn, .ref mf, .ref mr, .ref mh, .int 0, .int 0, .ref ma, .ref mas, .ref msn, .ref mac, .ref mat]))] := hD
  refine lv_aload_n hx hb dX7_worst_5 rfl (lv_at hl 0 rfl) ?_
  refine lv_iload_n hx hb dX7_worst_6 rfl (lv_at hl 1 rfl) ?_
  refine ky_Vi (As := [.int p0]) (rest := []) ⟨hx, hb, hml, hown, hts⟩ ⟨hK, hN⟩ hZ hP hD hS hA [0] [] (wc := [(m_, .inr (7, [.int 0, .ref mt, .int tp, .int pa_, .int wr, .ref mrr, .ref mrh, .ref mrc, .int rh, .int rc, .ref mn, .ref mf, .ref mr, .ref mh, .int 0, .int 0, .ref ma, .ref mas, .ref msn, .ref mac, .ref mat]))]) (wr := []) rfl rfl rfl rfl (by decide) (c_X7_isCircuit l D g H.size m_ 0 mt tp pa_ wr mrr mrh mrc rh rc mn mf mr mh ma mas msn mac mat p0) (cwV 1 hts gX7_worst_X7_isCircuit rfl rfl rfl (by decide +kernel) ⟨(Nat.le_of_ble_eq_true rfl), (Nat.le_of_ble_eq_true rfl)⟩) 0 7 rfl rfl rfl rfl hl.1 rfl (Nat.le_of_ble_eq_true rfl) dX7_worst_7 ⟨(Nat.le_of_ble_eq_true rfl), (Nat.le_of_ble_eq_true rfl)⟩ (fun r_1 u H locs hw hP hD hS => ?_)
  obtain ⟨rfl, rfl⟩ := hw
  have hP : va_P D vwCl [(m_, .inr (7, [.int 0, .ref mt, .int tp, .int pa_, .int wr, .ref mrr, .ref mrh, .ref mrc, .int rh, .int rc, .ref mn, .ref mf, .ref mr, .ref mh, .int 0, .int 0, .ref ma, .ref mas, .ref msn, .ref mac, .ref mat]))] H := hP
  have hD : va_D A [(m_, .inr (7, [.int 0, .ref mt, .int tp, .int pa_, .int wr, .ref mrr, .ref mrh, .ref mrc, .int rh, .int rc, .ref mn, .ref mf, .ref mr, .ref mh, .int 0, .int 0, .ref ma, .ref mas, .ref msn, .ref mac, .ref mat]))] := hD
  refine W.widen (k := 0) (n := 0) (Nat.le_of_ble_eq_true rfl) (Nat.le_of_ble_eq_true rfl) ?_
  refine lv_if_eq (tgt := 21) hx hb dX7_worst_10 (by decide) (fun _ => ?_) (fun cb => absurd (by decide) cb)
  refine lv_iconst (v := (-1)) hx hb dX7_worst_21 (by decide) ?_
  have hP9 := hP.sub (ws' := [(m_, .inr (7, [.int 0, .ref mt, .int tp, .int pa_, .int wr, .ref mrr, .ref mrh, .ref mrc, .int rh, .int rc, .ref mn, .ref mf, .ref mr, .ref mh, .int 0, .int 0, .ref ma, .ref mas, .ref msn, .ref mac, .ref mat]))]) [0] rfl
  have hD9 := hD.sub (ws' := [(m_, .inr (7, [.int 0, .ref mt, .int tp, .int pa_, .int wr, .ref mrr, .ref mrh, .ref mrc, .int rh, .int rc, .ref mn, .ref mf, .ref mr, .ref mh, .int 0, .int 0, .ref ma, .ref mas, .ref msn, .ref mac, .ref mat]))]) [0] (by decide) rfl
  subst hQ
  refine W.widen (k := 0) (n := 0) (Nat.le_of_ble_eq_true rfl) (Nat.le_of_ble_eq_true rfl) ?_
  exact W.iret (v := (-1)) hx hb hr (fun tS htS _ => ⟨⟨_, _, rfl, ⟨rfl, rfl⟩, by rw [htS]; exact hP9, hD9⟩, hS.F htS⟩) hS.2.2 dX7_worst_22
set_option maxHeartbeats 4000000 in
set_option maxRecDepth 100000 in
/-- busiest without a NET -/
theorem c_X7_busiest (l : Launch) (D : va_G) (g : Nat → ClassId) (sz : Nat) (m_ : Nat) (th : Int32) (mt : Nat) (tp : Int32) (pa_ : Int32) (wr : Int32) (mrr : Nat) (mrh : Nat) (mrc : Nat) (rh : Int32) (rc : Int32) (mn : Nat) (mf : Nat) (mr : Nat) (mh : Nat) (ma : Nat) (mas : Nat) (msn : Nat) (mac : Nat) (mat : Nat) (p0 : Int32) : Met l yX7_busiest wsX7_busiest ({ frames := 1, cells := 0, slots := 0, locals := 20 }) (va_Pc [.ref m_, .int p0] (pre D g sz [(m_, .inr (7, [.int th, .ref mt, .int tp, .int pa_, .int wr, .ref mrr, .ref mrh, .ref mrc, .int rh, .int rc, .ref mn, .ref mf, .ref mr, .ref mh, .int 0, .int 0, .ref ma, .ref mas, .ref msn, .ref mac, .ref mat]))])) (va_Qi (fun (r : Int32) (u : va_W) => u = [(m_, .inr (7, [.int 0, .ref mt, .int tp, .int pa_, .int wr, .ref mrr, .ref mrh, .ref mrc, .int rh, .int rc, .ref mn, .ref mf, .ref mr, .ref mh, .int 0, .int 0, .ref ma, .ref mas, .ref msn, .ref mac, .ref mat]))] ∧ r = (-1)) (wd D (va_A [(m_, .inr (7, [.int th, .ref mt, .int tp, .int pa_, .int wr, .ref mrr, .ref mrh, .ref mrc, .int rh, .int rc, .ref mn, .ref mf, .ref mr, .ref mh, .int 0, .int 0, .ref ma, .ref mas, .ref msn, .ref mac, .ref mat]))] sz)) (va_A [(m_, .inr (7, [.int th, .ref mt, .int tp, .int pa_, .int wr, .ref mrr, .ref mrh, .ref mrc, .int rh, .int rc, .ref mn, .ref mf, .ref mr, .ref mh, .int 0, .int 0, .ref ma, .ref mas, .ref msn, .ref mac, .ref mat]))] sz)) 0 0 (va_A [(m_, .inr (7, [.int th, .ref mt, .int tp, .int pa_, .int wr, .ref mrr, .ref mrh, .ref mrc, .int rh, .int rc, .ref mn, .ref mf, .ref mr, .ref mh, .int 0, .int 0, .ref ma, .ref mas, .ref msn, .ref mac, .ref mat]))] sz) := by
  refine Met.ofW (cc := cX7_busiest) (maxL := 4) (ret := (some .int)) (by decide) rfl ?_
  intro p e s m args below meth c s₁ B hml hv
  obtain ⟨rfl, hsz, hP, ⟨hK, hN⟩, hD0, hZ⟩ := hv
  have hx := B.exec
  have hb := B.bytes
  have hr := B.returns
  have hts := atoms_spec (ws := wsX7_busiest) B.pre
  have hown : s.vm.findClass RX7 = some m.cls := findClass_of_methodNamed B.named
  have hlocks := B.notSynchronized
  clear B
  subst hsz
  have hD := hD0.self (sz := s.heap.size)
  clear hD0
  generalize hAe : va_A [(m_, .inr (7, [.int th, .ref mt, .int tp, .int pa_, .int wr, .ref mrr, .ref mrh, .ref mrc, .int rh, .int rc, .ref mn, .ref mf, .ref mr, .ref mh, .int 0, .int 0, .ref ma, .ref mas, .ref msn, .ref mac, .ref mat]))] s.heap.size = A at hD hZ ⊢
  have hA : ∀ q : Nat, s.heap.size ≤ q → A q := fun q h => by rw [← hAe]; exact Or.inr h
  have hS : va_S A s.heap s.heap [] := va_S.rf
  have f49 := hts (.fieldLink RX7 49 "HopCreditsModel" "thrown" "I") (by decide +kernel)
  have iX7 : ∀ w ∈ u_ws RX7 TX7 21, w ∈ wsX7_busiest := by decide +kernel
  have hl := lv_entry ([.ref m_, .int p0]) (n := 4) (Nat.le_of_ble_eq_true rfl)
  rw [lg_entry_eq]
  generalize (lg_sl ([.ref m_, .int p0]) ++ List.replicate (4 - (lg_sl ([.ref m_, .int p0])).length) Slot.unset).toArray = ls at hl ⊢
  have hl : lv_has ls 4 [(0, .ref m_), (1, .int p0)] := hl
  generalize hQ : MQ below _ _ s _ _ _ = Q
  generalize hH : s.heap = H at hP ⊢
  have hS : va_S A s.heap H [] := by rw [← hH]; exact hS
  clear hH
  refine lv_aload_n hx hb dX7_busiest_0 rfl (lv_at hl 0 rfl) ?_
  refine lv_iconst (v := 0) hx hb dX7_busiest_1 (by decide) ?_
  refine va_put (D := D) (ci := 7) (v := .int 0) (ty := .int) (C := RX7) (T := TX7) (N := 21) hx hb hts iX7 tyX7 tyX7_ok nmX7 hown hK hP hD hS 0 rfl rfl 0 (by decide) f49 (fun _ h9 => h9) rfl (by decide +kernel) (rfl) (rfl) (Nat.le_of_ble_eq_true rfl) dX7_busiest_2 (fun H locs hP hD hS => ?_)
  have hP : va_P D vwCl [(m_, .inr (7, [.int 0, .ref mt, .int tp, .int pa_, .int wr, .ref mrr, .ref mrh, .ref mrc, .int rh, .int rc, .ref mn, .ref mf, .ref mr, .ref mh, .int 0, .int 0, .ref ma, .ref mas, .ref msn, .ref mac, .ref mat]))] H := hP
  have hD : va_D A [(m_, .inr (7, [.int 0, .ref mt, .int tp, .int pa_, .int wr, .ref mrr, .ref mrh, .ref mrc, .int rh, .int rc, .ref mn, .ref mf, .ref mr, .ref mh, .int 0, .int 0, .ref ma, .ref mas, .ref msn, .ref mac, .ref mat]))] := hD
  refine lv_aload_n hx hb dX7_busiest_5 rfl (lv_at hl 0 rfl) ?_
  refine ky_Vi (As := []) (rest := []) ⟨hx, hb, hml, hown, hts⟩ ⟨hK, hN⟩ hZ hP hD hS hA [0] [] (wc := [(m_, .inr (7, [.int 0, .ref mt, .int tp, .int pa_, .int wr, .ref mrr, .ref mrh, .ref mrc, .int rh, .int rc, .ref mn, .ref mf, .ref mr, .ref mh, .int 0, .int 0, .ref ma, .ref mas, .ref msn, .ref mac, .ref mat]))]) (wr := []) rfl rfl rfl rfl (by decide) (c_X7_isNet l D g H.size m_ 0 mt tp pa_ wr mrr mrh mrc rh rc mn mf mr mh ma mas msn mac mat) (cwV 0 hts gX7_busiest_X7_isNet rfl rfl rfl (by decide +kernel) ⟨(Nat.le_of_ble_eq_true rfl), (Nat.le_of_ble_eq_true rfl)⟩) 0 7 rfl rfl rfl rfl hl.1 rfl (Nat.le_of_ble_eq_true rfl) dX7_busiest_6 ⟨(Nat.le_of_ble_eq_true rfl), (Nat.le_of_ble_eq_true rfl)⟩ (fun r_1 u H locs hw hP hD hS => ?_)
  obtain ⟨rfl, rfl⟩ := hw
  have hP : va_P D vwCl [(m_, .inr (7, [.int 0, .ref mt, .int tp, .int pa_, .int wr, .ref mrr, .ref mrh, .ref mrc, .int rh, .int rc, .ref mn, .ref mf, .ref mr, .ref mh, .int 0, .int 0, .ref ma, .ref mas, .ref msn, .ref mac, .ref mat]))] H := hP
  have hD : va_D A [(m_, .inr (7, [.int 0, .ref mt, .int tp, .int pa_, .int wr, .ref mrr, .ref mrh, .ref mrc, .int rh, .int rc, .ref mn, .ref mf, .ref mr, .ref mh, .int 0, .int 0, .ref ma, .ref mas, .ref msn, .ref mac, .ref mat]))] := hD
  refine W.widen (k := 0) (n := 0) (Nat.le_of_ble_eq_true rfl) (Nat.le_of_ble_eq_true rfl) ?_
  refine lv_if_eq (tgt := 20) hx hb dX7_busiest_9 (by decide) (fun _ => ?_) (fun cb => absurd (by decide) cb)
  refine lv_iconst (v := (-1)) hx hb dX7_busiest_20 (by decide) ?_
  have hP9 := hP.sub (ws' := [(m_, .inr (7, [.int 0, .ref mt, .int tp, .int pa_, .int wr, .ref mrr, .ref mrh, .ref mrc, .int rh, .int rc, .ref mn, .ref mf, .ref mr, .ref mh, .int 0, .int 0, .ref ma, .ref mas, .ref msn, .ref mac, .ref mat]))]) [0] rfl
  have hD9 := hD.sub (ws' := [(m_, .inr (7, [.int 0, .ref mt, .int tp, .int pa_, .int wr, .ref mrr, .ref mrh, .ref mrc, .int rh, .int rc, .ref mn, .ref mf, .ref mr, .ref mh, .int 0, .int 0, .ref ma, .ref mas, .ref msn, .ref mac, .ref mat]))]) [0] (by decide) rfl
  subst hQ
  refine W.widen (k := 0) (n := 0) (Nat.le_of_ble_eq_true rfl) (Nat.le_of_ble_eq_true rfl) ?_
  exact W.iret (v := (-1)) hx hb hr (fun tS htS _ => ⟨⟨_, _, rfl, ⟨rfl, rfl⟩, by rw [htS]; exact hP9, hD9⟩, hS.F htS⟩) hS.2.2 dX7_busiest_21
set_option maxHeartbeats 4000000 in
set_option maxRecDepth 100000 in
/-- aim without a NET -/
theorem c_X7_aim (l : Launch) (D : va_G) (g : Nat → ClassId) (sz : Nat) (m_ : Nat) (th : Int32) (mt : Nat) (tp : Int32) (pa_ : Int32) (wr : Int32) (mrr : Nat) (mrh : Nat) (mrc : Nat) (rh : Int32) (rc : Int32) (mn : Nat) (mf : Nat) (mr : Nat) (mh : Nat) (ma : Nat) (mas : Nat) (msn : Nat) (mac : Nat) (mat : Nat) (p0 : Int32) (p1 : Int32) : Met l yX7_aim wsX7_aim ({ frames := 3, cells := 0, slots := 0, locals := 65 }) (va_Pc [.ref m_, .int p0, .int p1] (pre D g sz [(m_, .inr (7, [.int th, .ref mt, .int tp, .int pa_, .int wr, .ref mrr, .ref mrh, .ref mrc, .int rh, .int rc, .ref mn, .ref mf, .ref mr, .ref mh, .int 0, .int 0, .ref ma, .ref mas, .ref msn, .ref mac, .ref mat]))])) (va_Qi (fun (r : Int32) (u : va_W) => u = [(m_, .inr (7, [.int 0, .ref mt, .int tp, .int pa_, .int wr, .ref mrr, .ref mrh, .ref mrc, .int rh, .int rc, .ref mn, .ref mf, .ref mr, .ref mh, .int 0, .int 0, .ref ma, .ref mas, .ref msn, .ref mac, .ref mat]))] ∧ r = (-1)) (wd D (va_A [(m_, .inr (7, [.int th, .ref mt, .int tp, .int pa_, .int wr, .ref mrr, .ref mrh, .ref mrc, .int rh, .int rc, .ref mn, .ref mf, .ref mr, .ref mh, .int 0, .int 0, .ref ma, .ref mas, .ref msn, .ref mac, .ref mat]))] sz)) (va_A [(m_, .inr (7, [.int th, .ref mt, .int tp, .int pa_, .int wr, .ref mrr, .ref mrh, .ref mrc, .int rh, .int rc, .ref mn, .ref mf, .ref mr, .ref mh, .int 0, .int 0, .ref ma, .ref mas, .ref msn, .ref mac, .ref mat]))] sz)) 0 0 (va_A [(m_, .inr (7, [.int th, .ref mt, .int tp, .int pa_, .int wr, .ref mrr, .ref mrh, .ref mrc, .int rh, .int rc, .ref mn, .ref mf, .ref mr, .ref mh, .int 0, .int 0, .ref ma, .ref mas, .ref msn, .ref mac, .ref mat]))] sz) := by
  refine Met.ofW (cc := cX7_aim) (maxL := 3) (ret := (some .int)) (by decide) rfl ?_
  intro p e s m args below meth c s₁ B hml hv
  obtain ⟨rfl, hsz, hP, ⟨hK, hN⟩, hD0, hZ⟩ := hv
  have hx := B.exec
  have hb := B.bytes
  have hr := B.returns
  have hts := atoms_spec (ws := wsX7_aim) B.pre
  have hown : s.vm.findClass RX7 = some m.cls := findClass_of_methodNamed B.named
  have hlocks := B.notSynchronized
  clear B
  subst hsz
  have hD := hD0.self (sz := s.heap.size)
  clear hD0
  generalize hAe : va_A [(m_, .inr (7, [.int th, .ref mt, .int tp, .int pa_, .int wr, .ref mrr, .ref mrh, .ref mrc, .int rh, .int rc, .ref mn, .ref mf, .ref mr, .ref mh, .int 0, .int 0, .ref ma, .ref mas, .ref msn, .ref mac, .ref mat]))] s.heap.size = A at hD hZ ⊢
  have hA : ∀ q : Nat, s.heap.size ≤ q → A q := fun q h => by rw [← hAe]; exact Or.inr h
  have hS : va_S A s.heap s.heap [] := va_S.rf
  have f49 := hts (.fieldLink RX7 49 "HopCreditsModel" "thrown" "I") (by decide +kernel)
  have iX7 : ∀ w ∈ u_ws RX7 TX7 21, w ∈ wsX7_aim := by decide +kernel
  have hl := lv_entry ([.ref m_, .int p0, .int p1]) (n := 3) (Nat.le_of_ble_eq_true rfl)
  rw [lg_entry_eq]
  generalize (lg_sl ([.ref m_, .int p0, .int p1]) ++ List.replicate (3 - (lg_sl ([.ref m_, .int p0, .int p1])).length) Slot.unset).toArray = ls at hl ⊢
  have hl : lv_has ls 3 [(0, .ref m_), (1, .int p0), (2, .int p1)] := hl
  generalize hQ : MQ below _ _ s _ _ _ = Q
  generalize hH : s.heap = H at hP ⊢
  have hS : va_S A s.heap H [] := by rw [← hH]; exact hS
  clear hH
  refine lv_aload_n hx hb dX7_aim_0 rfl (lv_at hl 0 rfl) ?_
  refine lv_iconst (v := 0) hx hb dX7_aim_1 (by decide) ?_
  refine va_put (D := D) (ci := 7) (v := .int 0) (ty := .int) (C := RX7) (T := TX7) (N := 21) hx hb hts iX7 tyX7 tyX7_ok nmX7 hown hK hP hD hS 0 rfl rfl 0 (by decide) f49 (fun _ h9 => h9) rfl (by decide +kernel) (rfl) (rfl) (Nat.le_of_ble_eq_true rfl) dX7_aim_2 (fun H locs hP hD hS => ?_)
  have hP : va_P D vwCl [(m_, .inr (7, [.int 0, .ref mt, .int tp, .int pa_, .int wr, .ref mrr, .ref mrh, .ref mrc, .int rh, .int rc, .ref mn, .ref mf, .ref mr, .ref mh, .int 0, .int 0, .ref ma, .ref mas, .ref msn, .ref mac, .ref mat]))] H := hP
  have hD : va_D A [(m_, .inr (7, [.int 0, .ref mt, .int tp, .int pa_, .int wr, .ref mrr, .ref mrh, .ref mrc, .int rh, .int rc, .ref mn, .ref mf, .ref mr, .ref mh, .int 0, .int 0, .ref ma, .ref mas, .ref msn, .ref mac, .ref mat]))] := hD
  refine lv_aload_n hx hb dX7_aim_5 rfl (lv_at hl 0 rfl) ?_
  refine lv_iload_n hx hb dX7_aim_6 rfl (lv_at hl 1 rfl) ?_
  refine lv_iload_n hx hb dX7_aim_7 rfl (lv_at hl 2 rfl) ?_
  refine ky_Vi (As := [.int p0, .int p1]) (rest := []) ⟨hx, hb, hml, hown, hts⟩ ⟨hK, hN⟩ hZ hP hD hS hA [0] [] (wc := [(m_, .inr (7, [.int 0, .ref mt, .int tp, .int pa_, .int wr, .ref mrr, .ref mrh, .ref mrc, .int rh, .int rc, .ref mn, .ref mf, .ref mr, .ref mh, .int 0, .int 0, .ref ma, .ref mas, .ref msn, .ref mac, .ref mat]))]) (wr := []) rfl rfl rfl rfl (by decide) (c_X7_isLane l D g H.size m_ 0 mt tp pa_ wr mrr mrh mrc rh rc mn mf mr mh ma mas msn mac mat p0 p1) (cwV 2 hts gX7_aim_X7_isLane rfl rfl rfl (by decide +kernel) ⟨(Nat.le_of_ble_eq_true rfl), (Nat.le_of_ble_eq_true rfl)⟩) 0 7 rfl rfl rfl rfl hl.1 rfl (Nat.le_of_ble_eq_true rfl) dX7_aim_8 ⟨(Nat.le_of_ble_eq_true rfl), (Nat.le_of_ble_eq_true rfl)⟩ (fun r_1 u H locs hw hP hD hS => ?_)
  obtain ⟨rfl, rfl⟩ := hw
  have hP : va_P D vwCl [(m_, .inr (7, [.int 0, .ref mt, .int tp, .int pa_, .int wr, .ref mrr, .ref mrh, .ref mrc, .int rh, .int rc, .ref mn, .ref mf, .ref mr, .ref mh, .int 0, .int 0, .ref ma, .ref mas, .ref msn, .ref mac, .ref mat]))] H := hP
  have hD : va_D A [(m_, .inr (7, [.int 0, .ref mt, .int tp, .int pa_, .int wr, .ref mrr, .ref mrh, .ref mrc, .int rh, .int rc, .ref mn, .ref mf, .ref mr, .ref mh, .int 0, .int 0, .ref ma, .ref mas, .ref msn, .ref mac, .ref mat]))] := hD
  refine W.widen (k := 0) (n := 0) (Nat.le_of_ble_eq_true rfl) (Nat.le_of_ble_eq_true rfl) ?_
  refine lv_if_eq (tgt := 23) hx hb dX7_aim_11 (by decide) (fun _ => ?_) (fun cb => absurd (by decide) cb)
  refine lv_iconst (v := (-1)) hx hb dX7_aim_23 (by decide) ?_
  have hP9 := hP.sub (ws' := [(m_, .inr (7, [.int 0, .ref mt, .int tp, .int pa_, .int wr, .ref mrr, .ref mrh, .ref mrc, .int rh, .int rc, .ref mn, .ref mf, .ref mr, .ref mh, .int 0, .int 0, .ref ma, .ref mas, .ref msn, .ref mac, .ref mat]))]) [0] rfl
  have hD9 := hD.sub (ws' := [(m_, .inr (7, [.int 0, .ref mt, .int tp, .int pa_, .int wr, .ref mrr, .ref mrh, .ref mrc, .int rh, .int rc, .ref mn, .ref mf, .ref mr, .ref mh, .int 0, .int 0, .ref ma, .ref mas, .ref msn, .ref mac, .ref mat]))]) [0] (by decide) rfl
  subst hQ
  refine W.widen (k := 0) (n := 0) (Nat.le_of_ble_eq_true rfl) (Nat.le_of_ble_eq_true rfl) ?_
  exact W.iret (v := (-1)) hx hb hr (fun tS htS _ => ⟨⟨_, _, rfl, ⟨rfl, rfl⟩, by rw [htS]; exact hP9, hD9⟩, hS.F htS⟩) hS.2.2 dX7_aim_24
set_option maxHeartbeats 4000000 in
set_option maxRecDepth 100000 in
/-- room without a NET -/
theorem c_X7_room (l : Launch) (D : va_G) (g : Nat → ClassId) (sz : Nat) (m_ : Nat) (th : Int32) (mt : Nat) (tp : Int32) (pa_ : Int32) (wr : Int32) (mrr : Nat) (mrh : Nat) (mrc : Nat) (rh : Int32) (rc : Int32) (mn : Nat) (mf : Nat) (mr : Nat) (mh : Nat) (ma : Nat) (mas : Nat) (msn : Nat) (mac : Nat) (mat : Nat) (p0 : Int32) (p1 : Int32) : Met l yX7_room wsX7_room ({ frames := 3, cells := 0, slots := 0, locals := 65 }) (va_Pc [.ref m_, .int p0, .int p1] (pre D g sz [(m_, .inr (7, [.int th, .ref mt, .int tp, .int pa_, .int wr, .ref mrr, .ref mrh, .ref mrc, .int rh, .int rc, .ref mn, .ref mf, .ref mr, .ref mh, .int 0, .int 0, .ref ma, .ref mas, .ref msn, .ref mac, .ref mat]))])) (va_Qi (fun (r : Int32) (u : va_W) => u = [(m_, .inr (7, [.int 0, .ref mt, .int tp, .int pa_, .int wr, .ref mrr, .ref mrh, .ref mrc, .int rh, .int rc, .ref mn, .ref mf, .ref mr, .ref mh, .int 0, .int 0, .ref ma, .ref mas, .ref msn, .ref mac, .ref mat]))] ∧ r = (-1)) (wd D (va_A [(m_, .inr (7, [.int th, .ref mt, .int tp, .int pa_, .int wr, .ref mrr, .ref mrh, .ref mrc, .int rh, .int rc, .ref mn, .ref mf, .ref mr, .ref mh, .int 0, .int 0, .ref ma, .ref mas, .ref msn, .ref mac, .ref mat]))] sz)) (va_A [(m_, .inr (7, [.int th, .ref mt, .int tp, .int pa_, .int wr, .ref mrr, .ref mrh, .ref mrc, .int rh, .int rc, .ref mn, .ref mf, .ref mr, .ref mh, .int 0, .int 0, .ref ma, .ref mas, .ref msn, .ref mac, .ref mat]))] sz)) 0 0 (va_A [(m_, .inr (7, [.int th, .ref mt, .int tp, .int pa_, .int wr, .ref mrr, .ref mrh, .ref mrc, .int rh, .int rc, .ref mn, .ref mf, .ref mr, .ref mh, .int 0, .int 0, .ref ma, .ref mas, .ref msn, .ref mac, .ref mat]))] sz) := by
  refine Met.ofW (cc := cX7_room) (maxL := 3) (ret := (some .int)) (by decide) rfl ?_
  intro p e s m args below meth c s₁ B hml hv
  obtain ⟨rfl, hsz, hP, ⟨hK, hN⟩, hD0, hZ⟩ := hv
  have hx := B.exec
  have hb := B.bytes
  have hr := B.returns
  have hts := atoms_spec (ws := wsX7_room) B.pre
  have hown : s.vm.findClass RX7 = some m.cls := findClass_of_methodNamed B.named
  have hlocks := B.notSynchronized
  clear B
  subst hsz
  have hD := hD0.self (sz := s.heap.size)
  clear hD0
  generalize hAe : va_A [(m_, .inr (7, [.int th, .ref mt, .int tp, .int pa_, .int wr, .ref mrr, .ref mrh, .ref mrc, .int rh, .int rc, .ref mn, .ref mf, .ref mr, .ref mh, .int 0, .int 0, .ref ma, .ref mas, .ref msn, .ref mac, .ref mat]))] s.heap.size = A at hD hZ ⊢
  have hA : ∀ q : Nat, s.heap.size ≤ q → A q := fun q h => by rw [← hAe]; exact Or.inr h
  have hS : va_S A s.heap s.heap [] := va_S.rf
  have f49 := hts (.fieldLink RX7 49 "HopCreditsModel" "thrown" "I") (by decide +kernel)
  have iX7 : ∀ w ∈ u_ws RX7 TX7 21, w ∈ wsX7_room := by decide +kernel
  have hl := lv_entry ([.ref m_, .int p0, .int p1]) (n := 3) (Nat.le_of_ble_eq_true rfl)
  rw [lg_entry_eq]
  generalize (lg_sl ([.ref m_, .int p0, .int p1]) ++ List.replicate (3 - (lg_sl ([.ref m_, .int p0, .int p1])).length) Slot.unset).toArray = ls at hl ⊢
  have hl : lv_has ls 3 [(0, .ref m_), (1, .int p0), (2, .int p1)] := hl
  generalize hQ : MQ below _ _ s _ _ _ = Q
  generalize hH : s.heap = H at hP ⊢
  have hS : va_S A s.heap H [] := by rw [← hH]; exact hS
  clear hH
  refine lv_aload_n hx hb dX7_room_0 rfl (lv_at hl 0 rfl) ?_
  refine lv_iconst (v := 0) hx hb dX7_room_1 (by decide) ?_
  refine va_put (D := D) (ci := 7) (v := .int 0) (ty := .int) (C := RX7) (T := TX7) (N := 21) hx hb hts iX7 tyX7 tyX7_ok nmX7 hown hK hP hD hS 0 rfl rfl 0 (by decide) f49 (fun _ h9 => h9) rfl (by decide +kernel) (rfl) (rfl) (Nat.le_of_ble_eq_true rfl) dX7_room_2 (fun H locs hP hD hS => ?_)
  have hP : va_P D vwCl [(m_, .inr (7, [.int 0, .ref mt, .int tp, .int pa_, .int wr, .ref mrr, .ref mrh, .ref mrc, .int rh, .int rc, .ref mn, .ref mf, .ref mr, .ref mh, .int 0, .int 0, .ref ma, .ref mas, .ref msn, .ref mac, .ref mat]))] H := hP
  have hD : va_D A [(m_, .inr (7, [.int 0, .ref mt, .int tp, .int pa_, .int wr, .ref mrr, .ref mrh, .ref mrc, .int rh, .int rc, .ref mn, .ref mf, .ref mr, .ref mh, .int 0, .int 0, .ref ma, .ref mas, .ref msn, .ref mac, .ref mat]))] := hD
  refine lv_aload_n hx hb dX7_room_5 rfl (lv_at hl 0 rfl) ?_
  refine lv_iload_n hx hb dX7_room_6 rfl (lv_at hl 1 rfl) ?_
  refine lv_iload_n hx hb dX7_room_7 rfl (lv_at hl 2 rfl) ?_
  refine ky_Vi (As := [.int p0, .int p1]) (rest := []) ⟨hx, hb, hml, hown, hts⟩ ⟨hK, hN⟩ hZ hP hD hS hA [0] [] (wc := [(m_, .inr (7, [.int 0, .ref mt, .int tp, .int pa_, .int wr, .ref mrr, .ref mrh, .ref mrc, .int rh, .int rc, .ref mn, .ref mf, .ref mr, .ref mh, .int 0, .int 0, .ref ma, .ref mas, .ref msn, .ref mac, .ref mat]))]) (wr := []) rfl rfl rfl rfl (by decide) (c_X7_isLane l D g H.size m_ 0 mt tp pa_ wr mrr mrh mrc rh rc mn mf mr mh ma mas msn mac mat p0 p1) (cwV 2 hts gX7_room_X7_isLane rfl rfl rfl (by decide +kernel) ⟨(Nat.le_of_ble_eq_true rfl), (Nat.le_of_ble_eq_true rfl)⟩) 0 7 rfl rfl rfl rfl hl.1 rfl (Nat.le_of_ble_eq_true rfl) dX7_room_8 ⟨(Nat.le_of_ble_eq_true rfl), (Nat.le_of_ble_eq_true rfl)⟩ (fun r_1 u H locs hw hP hD hS => ?_)
  obtain ⟨rfl, rfl⟩ := hw
  have hP : va_P D vwCl [(m_, .inr (7, [.int 0, .ref mt, .int tp, .int pa_, .int wr, .ref mrr, .ref mrh, .ref mrc, .int rh, .int rc, .ref mn, .ref mf, .ref mr, .ref mh, .int 0, .int 0, .ref ma, .ref mas, .ref msn, .ref mac, .ref mat]))] H := hP
  have hD : va_D A [(m_, .inr (7, [.int 0, .ref mt, .int tp, .int pa_, .int wr, .ref mrr, .ref mrh, .ref mrc, .int rh, .int rc, .ref mn, .ref mf, .ref mr, .ref mh, .int 0, .int 0, .ref ma, .ref mas, .ref msn, .ref mac, .ref mat]))] := hD
  refine W.widen (k := 0) (n := 0) (Nat.le_of_ble_eq_true rfl) (Nat.le_of_ble_eq_true rfl) ?_
  refine lv_if_eq (tgt := 23) hx hb dX7_room_11 (by decide) (fun _ => ?_) (fun cb => absurd (by decide) cb)
  refine lv_iconst (v := (-1)) hx hb dX7_room_23 (by decide) ?_
  have hP9 := hP.sub (ws' := [(m_, .inr (7, [.int 0, .ref mt, .int tp, .int pa_, .int wr, .ref mrr, .ref mrh, .ref mrc, .int rh, .int rc, .ref mn, .ref mf, .ref mr, .ref mh, .int 0, .int 0, .ref ma, .ref mas, .ref msn, .ref mac, .ref mat]))]) [0] rfl
  have hD9 := hD.sub (ws' := [(m_, .inr (7, [.int 0, .ref mt, .int tp, .int pa_, .int wr, .ref mrr, .ref mrh, .ref mrc, .int rh, .int rc, .ref mn, .ref mf, .ref mr, .ref mh, .int 0, .int 0, .ref ma, .ref mas, .ref msn, .ref mac, .ref mat]))]) [0] (by decide) rfl
  subst hQ
  refine W.widen (k := 0) (n := 0) (Nat.le_of_ble_eq_true rfl) (Nat.le_of_ble_eq_true rfl) ?_
  exact W.iret (v := (-1)) hx hb hr (fun tS htS _ => ⟨⟨_, _, rfl, ⟨rfl, rfl⟩, by rw [htS]; exact hP9, hD9⟩, hS.F htS⟩) hS.2.2 dX7_room_24
set_option maxHeartbeats 4000000 in
set_option maxRecDepth 100000 in
/-- trip without a NET -/
theorem c_X7_trip (l : Launch) (D : va_G) (g : Nat → ClassId) (sz : Nat) (m_ : Nat) (th : Int32) (mt : Nat) (tp : Int32) (pa_ : Int32) (wr : Int32) (mrr : Nat) (mrh : Nat) (mrc : Nat) (rh : Int32) (rc : Int32) (mn : Nat) (mf : Nat) (mr : Nat) (mh : Nat) (ma : Nat) (mas : Nat) (msn : Nat) (mac : Nat) (mat : Nat) (p0 : Int32) (p1 : Int32) : Met l yX7_trip wsX7_trip ({ frames := 2, cells := 0, slots := 0, locals := 43 }) (va_Pc [.ref m_, .int p0, .int p1] (pre D g sz [(m_, .inr (7, [.int th, .ref mt, .int tp, .int pa_, .int wr, .ref mrr, .ref mrh, .ref mrc, .int rh, .int rc, .ref mn, .ref mf, .ref mr, .ref mh, .int 0, .int 0, .ref ma, .ref mas, .ref msn, .ref mac, .ref mat]))])) (va_Qi (fun (r : Int32) (u : va_W) => u = [(m_, .inr (7, [.int 0, .ref mt, .int tp, .int pa_, .int wr, .ref mrr, .ref mrh, .ref mrc, .int rh, .int rc, .ref mn, .ref mf, .ref mr, .ref mh, .int 0, .int 0, .ref ma, .ref mas, .ref msn, .ref mac, .ref mat]))] ∧ r = (-1)) (wd D (va_A [(m_, .inr (7, [.int th, .ref mt, .int tp, .int pa_, .int wr, .ref mrr, .ref mrh, .ref mrc, .int rh, .int rc, .ref mn, .ref mf, .ref mr, .ref mh, .int 0, .int 0, .ref ma, .ref mas, .ref msn, .ref mac, .ref mat]))] sz)) (va_A [(m_, .inr (7, [.int th, .ref mt, .int tp, .int pa_, .int wr, .ref mrr, .ref mrh, .ref mrc, .int rh, .int rc, .ref mn, .ref mf, .ref mr, .ref mh, .int 0, .int 0, .ref ma, .ref mas, .ref msn, .ref mac, .ref mat]))] sz)) 0 0 (va_A [(m_, .inr (7, [.int th, .ref mt, .int tp, .int pa_, .int wr, .ref mrr, .ref mrh, .ref mrc, .int rh, .int rc, .ref mn, .ref mf, .ref mr, .ref mh, .int 0, .int 0, .ref ma, .ref mas, .ref msn, .ref mac, .ref mat]))] sz) := by
  refine Met.ofW (cc := cX7_trip) (maxL := 3) (ret := (some .int)) (by decide) rfl ?_
  intro p e s m args below meth c s₁ B hml hv
  obtain ⟨rfl, hsz, hP, ⟨hK, hN⟩, hD0, hZ⟩ := hv
  have hx := B.exec
  have hb := B.bytes
  have hr := B.returns
  have hts := atoms_spec (ws := wsX7_trip) B.pre
  have hown : s.vm.findClass RX7 = some m.cls := findClass_of_methodNamed B.named
  have hlocks := B.notSynchronized
  clear B
  subst hsz
  have hD := hD0.self (sz := s.heap.size)
  clear hD0
  generalize hAe : va_A [(m_, .inr (7, [.int th, .ref mt, .int tp, .int pa_, .int wr, .ref mrr, .ref mrh, .ref mrc, .int rh, .int rc, .ref mn, .ref mf, .ref mr, .ref mh, .int 0, .int 0, .ref ma, .ref mas, .ref msn, .ref mac, .ref mat]))] s.heap.size = A at hD hZ ⊢
  have hA : ∀ q : Nat, s.heap.size ≤ q → A q := fun q h => by rw [← hAe]; exact Or.inr h
  have hS : va_S A s.heap s.heap [] := va_S.rf
  have f49 := hts (.fieldLink RX7 49 "HopCreditsModel" "thrown" "I") (by decide +kernel)
  have iX7 : ∀ w ∈ u_ws RX7 TX7 21, w ∈ wsX7_trip := by decide +kernel
  have hl := lv_entry ([.ref m_, .int p0, .int p1]) (n := 3) (Nat.le_of_ble_eq_true rfl)
  rw [lg_entry_eq]
  generalize (lg_sl ([.ref m_, .int p0, .int p1]) ++ List.replicate (3 - (lg_sl ([.ref m_, .int p0, .int p1])).length) Slot.unset).toArray = ls at hl ⊢
  have hl : lv_has ls 3 [(0, .ref m_), (1, .int p0), (2, .int p1)] := hl
  generalize hQ : MQ below _ _ s _ _ _ = Q
  generalize hH : s.heap = H at hP ⊢
  have hS : va_S A s.heap H [] := by rw [← hH]; exact hS
  clear hH
  refine lv_aload_n hx hb dX7_trip_0 rfl (lv_at hl 0 rfl) ?_
  refine lv_iconst (v := 0) hx hb dX7_trip_1 (by decide) ?_
  refine va_put (D := D) (ci := 7) (v := .int 0) (ty := .int) (C := RX7) (T := TX7) (N := 21) hx hb hts iX7 tyX7 tyX7_ok nmX7 hown hK hP hD hS 0 rfl rfl 0 (by decide) f49 (fun _ h9 => h9) rfl (by decide +kernel) (rfl) (rfl) (Nat.le_of_ble_eq_true rfl) dX7_trip_2 (fun H locs hP hD hS => ?_)
  have hP : va_P D vwCl [(m_, .inr (7, [.int 0, .ref mt, .int tp, .int pa_, .int wr, .ref mrr, .ref mrh, .ref mrc, .int rh, .int rc, .ref mn, .ref mf, .ref mr, .ref mh, .int 0, .int 0, .ref ma, .ref mas, .ref msn, .ref mac, .ref mat]))] H := hP
  have hD : va_D A [(m_, .inr (7, [.int 0, .ref mt, .int tp, .int pa_, .int wr, .ref mrr, .ref mrh, .ref mrc, .int rh, .int rc, .ref mn, .ref mf, .ref mr, .ref mh, .int 0, .int 0, .ref ma, .ref mas, .ref msn, .ref mac, .ref mat]))] := hD
  refine lv_aload_n hx hb dX7_trip_5 rfl (lv_at hl 0 rfl) ?_
  refine lv_iload_n hx hb dX7_trip_6 rfl (lv_at hl 1 rfl) ?_
  refine ky_Vi (As := [.int p0]) (rest := []) ⟨hx, hb, hml, hown, hts⟩ ⟨hK, hN⟩ hZ hP hD hS hA [0] [] (wc := [(m_, .inr (7, [.int 0, .ref mt, .int tp, .int pa_, .int wr, .ref mrr, .ref mrh, .ref mrc, .int rh, .int rc, .ref mn, .ref mf, .ref mr, .ref mh, .int 0, .int 0, .ref ma, .ref mas, .ref msn, .ref mac, .ref mat]))]) (wr := []) rfl rfl rfl rfl (by decide) (c_X7_isCircuit l D g H.size m_ 0 mt tp pa_ wr mrr mrh mrc rh rc mn mf mr mh ma mas msn mac mat p0) (cwV 1 hts gX7_trip_X7_isCircuit rfl rfl rfl (by decide +kernel) ⟨(Nat.le_of_ble_eq_true rfl), (Nat.le_of_ble_eq_true rfl)⟩) 0 7 rfl rfl rfl rfl hl.1 rfl (Nat.le_of_ble_eq_true rfl) dX7_trip_7 ⟨(Nat.le_of_ble_eq_true rfl), (Nat.le_of_ble_eq_true rfl)⟩ (fun r_1 u H locs hw hP hD hS => ?_)
  obtain ⟨rfl, rfl⟩ := hw
  have hP : va_P D vwCl [(m_, .inr (7, [.int 0, .ref mt, .int tp, .int pa_, .int wr, .ref mrr, .ref mrh, .ref mrc, .int rh, .int rc, .ref mn, .ref mf, .ref mr, .ref mh, .int 0, .int 0, .ref ma, .ref mas, .ref msn, .ref mac, .ref mat]))] H := hP
  have hD : va_D A [(m_, .inr (7, [.int 0, .ref mt, .int tp, .int pa_, .int wr, .ref mrr, .ref mrh, .ref mrc, .int rh, .int rc, .ref mn, .ref mf, .ref mr, .ref mh, .int 0, .int 0, .ref ma, .ref mas, .ref msn, .ref mac, .ref mat]))] := hD
  refine W.widen (k := 0) (n := 0) (Nat.le_of_ble_eq_true rfl) (Nat.le_of_ble_eq_true rfl) ?_
  refine lv_if_eq (tgt := 36) hx hb dX7_trip_10 (by decide) (fun _ => ?_) (fun cb => absurd (by decide) cb)
  refine lv_iconst (v := (-1)) hx hb dX7_trip_36 (by decide) ?_
  have hP9 := hP.sub (ws' := [(m_, .inr (7, [.int 0, .ref mt, .int tp, .int pa_, .int wr, .ref mrr, .ref mrh, .ref mrc, .int rh, .int rc, .ref mn, .ref mf, .ref mr, .ref mh, .int 0, .int 0, .ref ma, .ref mas, .ref msn, .ref mac, .ref mat]))]) [0] rfl
  have hD9 := hD.sub (ws' := [(m_, .inr (7, [.int 0, .ref mt, .int tp, .int pa_, .int wr, .ref mrr, .ref mrh, .ref mrc, .int rh, .int rc, .ref mn, .ref mf, .ref mr, .ref mh, .int 0, .int 0, .ref ma, .ref mas, .ref msn, .ref mac, .ref mat]))]) [0] (by decide) rfl
  subst hQ
  refine W.widen (k := 0) (n := 0) (Nat.le_of_ble_eq_true rfl) (Nat.le_of_ble_eq_true rfl) ?_
  exact W.iret (v := (-1)) hx hb hr (fun tS htS _ => ⟨⟨_, _, rfl, ⟨rfl, rfl⟩, by rw [htS]; exact hP9, hD9⟩, hS.F htS⟩) hS.2.2 dX7_trip_37
set_option maxHeartbeats 4000000 in
set_option maxRecDepth 100000 in
/-- oldest without a NET -/
theorem c_X7_oldest (l : Launch) (D : va_G) (g : Nat → ClassId) (sz : Nat) (m_ : Nat) (th : Int32) (mt : Nat) (tp : Int32) (pa_ : Int32) (wr : Int32) (mrr : Nat) (mrh : Nat) (mrc : Nat) (rh : Int32) (rc : Int32) (mn : Nat) (mf : Nat) (mr : Nat) (mh : Nat) (ma : Nat) (mas : Nat) (msn : Nat) (mac : Nat) (mat : Nat) (p0 : Int32) : Met l yX7_oldest wsX7_oldest ({ frames := 2, cells := 0, slots := 0, locals := 43 }) (va_Pc [.ref m_, .int p0] (pre D g sz [(m_, .inr (7, [.int th, .ref mt, .int tp, .int pa_, .int wr, .ref mrr, .ref mrh, .ref mrc, .int rh, .int rc, .ref mn, .ref mf, .ref mr, .ref mh, .int 0, .int 0, .ref ma, .ref mas, .ref msn, .ref mac, .ref mat]))])) (va_Qi (fun (r : Int32) (u : va_W) => u = [(m_, .inr (7, [.int 0, .ref mt, .int tp, .int pa_, .int wr, .ref mrr, .ref mrh, .ref mrc, .int rh, .int rc, .ref mn, .ref mf, .ref mr, .ref mh, .int 0, .int 0, .ref ma, .ref mas, .ref msn, .ref mac, .ref mat]))] ∧ r = (-1)) (wd D (va_A [(m_, .inr (7, [.int th, .ref mt, .int tp, .int pa_, .int wr, .ref mrr, .ref mrh, .ref mrc, .int rh, .int rc, .ref mn, .ref mf, .ref mr, .ref mh, .int 0, .int 0, .ref ma, .ref mas, .ref msn, .ref mac, .ref mat]))] sz)) (va_A [(m_, .inr (7, [.int th, .ref mt, .int tp, .int pa_, .int wr, .ref mrr, .ref mrh, .ref mrc, .int rh, .int rc, .ref mn, .ref mf, .ref mr, .ref mh, .int 0, .int 0, .ref ma, .ref mas, .ref msn, .ref mac, .ref mat]))] sz)) 0 0 (va_A [(m_, .inr (7, [.int th, .ref mt, .int tp, .int pa_, .int wr, .ref mrr, .ref mrh, .ref mrc, .int rh, .int rc, .ref mn, .ref mf, .ref mr, .ref mh, .int 0, .int 0, .ref ma, .ref mas, .ref msn, .ref mac, .ref mat]))] sz) := by
  refine Met.ofW (cc := cX7_oldest) (maxL := 2) (ret := (some .int)) (by decide) rfl ?_
  intro p e s m args below meth c s₁ B hml hv
  obtain ⟨rfl, hsz, hP, ⟨hK, hN⟩, hD0, hZ⟩ := hv
  have hx := B.exec
  have hb := B.bytes
  have hr := B.returns
  have hts := atoms_spec (ws := wsX7_oldest) B.pre
  have hown : s.vm.findClass RX7 = some m.cls := findClass_of_methodNamed B.named
  have hlocks := B.notSynchronized
  clear B
  subst hsz
  have hD := hD0.self (sz := s.heap.size)
  clear hD0
  generalize hAe : va_A [(m_, .inr (7, [.int th, .ref mt, .int tp, .int pa_, .int wr, .ref mrr, .ref mrh, .ref mrc, .int rh, .int rc, .ref mn, .ref mf, .ref mr, .ref mh, .int 0, .int 0, .ref ma, .ref mas, .ref msn, .ref mac, .ref mat]))] s.heap.size = A at hD hZ ⊢
  have hA : ∀ q : Nat, s.heap.size ≤ q → A q := fun q h => by rw [← hAe]; exact Or.inr h
  have hS : va_S A s.heap s.heap [] := va_S.rf
  have f49 := hts (.fieldLink RX7 49 "HopCreditsModel" "thrown" "I") (by decide +kernel)
  have iX7 : ∀ w ∈ u_ws RX7 TX7 21, w ∈ wsX7_oldest := by decide +kernel
  have hl := lv_entry ([.ref m_, .int p0]) (n := 2) (Nat.le_of_ble_eq_true rfl)
  rw [lg_entry_eq]
  generalize (lg_sl ([.ref m_, .int p0]) ++ List.replicate (2 - (lg_sl ([.ref m_, .int p0])).length) Slot.unset).toArray = ls at hl ⊢
  have hl : lv_has ls 2 [(0, .ref m_), (1, .int p0)] := hl
  generalize hQ : MQ below _ _ s _ _ _ = Q
  generalize hH : s.heap = H at hP ⊢
  have hS : va_S A s.heap H [] := by rw [← hH]; exact hS
  clear hH
  refine lv_aload_n hx hb dX7_oldest_0 rfl (lv_at hl 0 rfl) ?_
  refine lv_iconst (v := 0) hx hb dX7_oldest_1 (by decide) ?_
  refine va_put (D := D) (ci := 7) (v := .int 0) (ty := .int) (C := RX7) (T := TX7) (N := 21) hx hb hts iX7 tyX7 tyX7_ok nmX7 hown hK hP hD hS 0 rfl rfl 0 (by decide) f49 (fun _ h9 => h9) rfl (by decide +kernel) (rfl) (rfl) (Nat.le_of_ble_eq_true rfl) dX7_oldest_2 (fun H locs hP hD hS => ?_)
  have hP : va_P D vwCl [(m_, .inr (7, [.int 0, .ref mt, .int tp, .int pa_, .int wr, .ref mrr, .ref mrh, .ref mrc, .int rh, .int rc, .ref mn, .ref mf, .ref mr, .ref mh, .int 0, .int 0, .ref ma, .ref mas, .ref msn, .ref mac, .ref mat]))] H := hP
  have hD : va_D A [(m_, .inr (7, [.int 0, .ref mt, .int tp, .int pa_, .int wr, .ref mrr, .ref mrh, .ref mrc, .int rh, .int rc, .ref mn, .ref mf, .ref mr, .ref mh, .int 0, .int 0, .ref ma, .ref mas, .ref msn, .ref mac, .ref mat]))] := hD
  refine lv_aload_n hx hb dX7_oldest_5 rfl (lv_at hl 0 rfl) ?_
  refine lv_iload_n hx hb dX7_oldest_6 rfl (lv_at hl 1 rfl) ?_
  refine ky_Vi (As := [.int p0]) (rest := []) ⟨hx, hb, hml, hown, hts⟩ ⟨hK, hN⟩ hZ hP hD hS hA [0] [] (wc := [(m_, .inr (7, [.int 0, .ref mt, .int tp, .int pa_, .int wr, .ref mrr, .ref mrh, .ref mrc, .int rh, .int rc, .ref mn, .ref mf, .ref mr, .ref mh, .int 0, .int 0, .ref ma, .ref mas, .ref msn, .ref mac, .ref mat]))]) (wr := []) rfl rfl rfl rfl (by decide) (c_X7_isCircuit l D g H.size m_ 0 mt tp pa_ wr mrr mrh mrc rh rc mn mf mr mh ma mas msn mac mat p0) (cwV 1 hts gX7_oldest_X7_isCircuit rfl rfl rfl (by decide +kernel) ⟨(Nat.le_of_ble_eq_true rfl), (Nat.le_of_ble_eq_true rfl)⟩) 0 7 rfl rfl rfl rfl hl.1 rfl (Nat.le_of_ble_eq_true rfl) dX7_oldest_7 ⟨(Nat.le_of_ble_eq_true rfl), (Nat.le_of_ble_eq_true rfl)⟩ (fun r_1 u H locs hw hP hD hS => ?_)
  obtain ⟨rfl, rfl⟩ := hw
  have hP : va_P D vwCl [(m_, .inr (7, [.int 0, .ref mt, .int tp, .int pa_, .int wr, .ref mrr, .ref mrh, .ref mrc, .int rh, .int rc, .ref mn, .ref mf, .ref mr, .ref mh, .int 0, .int 0, .ref ma, .ref mas, .ref msn, .ref mac, .ref mat]))] H := hP
  have hD : va_D A [(m_, .inr (7, [.int 0, .ref mt, .int tp, .int pa_, .int wr, .ref mrr, .ref mrh, .ref mrc, .int rh, .int rc, .ref mn, .ref mf, .ref mr, .ref mh, .int 0, .int 0, .ref ma, .ref mas, .ref msn, .ref mac, .ref mat]))] := hD
  refine W.widen (k := 0) (n := 0) (Nat.le_of_ble_eq_true rfl) (Nat.le_of_ble_eq_true rfl) ?_
  refine lv_if_eq (tgt := 21) hx hb dX7_oldest_10 (by decide) (fun _ => ?_) (fun cb => absurd (by decide) cb)
  refine lv_iconst (v := (-1)) hx hb dX7_oldest_21 (by decide) ?_
  have hP9 := hP.sub (ws' := [(m_, .inr (7, [.int 0, .ref mt, .int tp, .int pa_, .int wr, .ref mrr, .ref mrh, .ref mrc, .int rh, .int rc, .ref mn, .ref mf, .ref mr, .ref mh, .int 0, .int 0, .ref ma, .ref mas, .ref msn, .ref mac, .ref mat]))]) [0] rfl
  have hD9 := hD.sub (ws' := [(m_, .inr (7, [.int 0, .ref mt, .int tp, .int pa_, .int wr, .ref mrr, .ref mrh, .ref mrc, .int rh, .int rc, .ref mn, .ref mf, .ref mr, .ref mh, .int 0, .int 0, .ref ma, .ref mas, .ref msn, .ref mac, .ref mat]))]) [0] (by decide) rfl
  subst hQ
  refine W.widen (k := 0) (n := 0) (Nat.le_of_ble_eq_true rfl) (Nat.le_of_ble_eq_true rfl) ?_
  exact W.iret (v := (-1)) hx hb hr (fun tS htS _ => ⟨⟨_, _, rfl, ⟨rfl, rfl⟩, by rw [htS]; exact hP9, hD9⟩, hS.F htS⟩) hS.2.2 dX7_oldest_22
set_option maxHeartbeats 4000000 in
set_option maxRecDepth 100000 in
/-- go without a NET -/
theorem c_X7_go (l : Launch) (D : va_G) (g : Nat → ClassId) (sz : Nat) (m_ : Nat) (th : Int32) (mt : Nat) (tp : Int32) (pa_ : Int32) (wr : Int32) (mrr : Nat) (mrh : Nat) (mrc : Nat) (rh : Int32) (rc : Int32) (mn : Nat) (mf : Nat) (mr : Nat) (mh : Nat) (ma : Nat) (mas : Nat) (msn : Nat) (mac : Nat) (mat : Nat) (p0 : Int32) (f : Nat → Int32) : Met l yX7_go wsX7_go ({ frames := 1, cells := 0, slots := 0, locals := 21 }) (va_Pc [.ref m_, .int p0] (pre D g sz [(m_, .inr (7, [.int th, .ref mt, .int tp, .int pa_, .int wr, .ref mrr, .ref mrh, .ref mrc, .int rh, .int rc, .ref mn, .ref mf, .ref mr, .ref mh, .int 0, .int 0, .ref ma, .ref mas, .ref msn, .ref mac, .ref mat])), (mf, .inl (g 0, 4, .inl f))])) (va_Qi (fun (r : Int32) (u : va_W) => u = [(m_, .inr (7, [.int 0, .ref mt, .int tp, .int pa_, .int wr, .ref mrr, .ref mrh, .ref mrc, .int rh, .int rc, .ref mn, .ref mf, .ref mr, .ref mh, .int 0, .int 0, .ref ma, .ref mas, .ref msn, .ref mac, .ref mat])), (mf, .inl (g 0, 4, .inl (upd f 0 (f 0 + 1))))] ∧ r = (-1)) (wd D (va_A [(m_, .inr (7, [.int th, .ref mt, .int tp, .int pa_, .int wr, .ref mrr, .ref mrh, .ref mrc, .int rh, .int rc, .ref mn, .ref mf, .ref mr, .ref mh, .int 0, .int 0, .ref ma, .ref mas, .ref msn, .ref mac, .ref mat])), (mf, .inl (g 0, 4, .inl f))] sz)) (va_A [(m_, .inr (7, [.int th, .ref mt, .int tp, .int pa_, .int wr, .ref mrr, .ref mrh, .ref mrc, .int rh, .int rc, .ref mn, .ref mf, .ref mr, .ref mh, .int 0, .int 0, .ref ma, .ref mas, .ref msn, .ref mac, .ref mat])), (mf, .inl (g 0, 4, .inl f))] sz)) 0 0 (va_A [(m_, .inr (7, [.int th, .ref mt, .int tp, .int pa_, .int wr, .ref mrr, .ref mrh, .ref mrc, .int rh, .int rc, .ref mn, .ref mf, .ref mr, .ref mh, .int 0, .int 0, .ref ma, .ref mas, .ref msn, .ref mac, .ref mat])), (mf, .inl (g 0, 4, .inl f))] sz) := by
  refine Met.ofW (cc := cX7_go) (maxL := 3) (ret := (some .int)) (by decide) rfl ?_
  intro p e s m args below meth c s₁ B hml hv
  obtain ⟨rfl, hsz, hP, ⟨hK, hN⟩, hD0, hZ⟩ := hv
  have hx := B.exec
  have hb := B.bytes
  have hr := B.returns
  have hts := atoms_spec (ws := wsX7_go) B.pre
  have hown : s.vm.findClass RX7 = some m.cls := findClass_of_methodNamed B.named
  have hlocks := B.notSynchronized
  clear B
  subst hsz
  have hD := hD0.self (sz := s.heap.size)
  clear hD0
  generalize hAe : va_A [(m_, .inr (7, [.int th, .ref mt, .int tp, .int pa_, .int wr, .ref mrr, .ref mrh, .ref mrc, .int rh, .int rc, .ref mn, .ref mf, .ref mr, .ref mh, .int 0, .int 0, .ref ma, .ref mas, .ref msn, .ref mac, .ref mat])), (mf, .inl (g 0, 4, .inl f))] s.heap.size = A at hD hZ ⊢
  have hA : ∀ q : Nat, s.heap.size ≤ q → A q := fun q h => by rw [← hAe]; exact Or.inr h
  have hS : va_S A s.heap s.heap [] := va_S.rf
  have f49 := hts (.fieldLink RX7 49 "HopCreditsModel" "thrown" "I") (by decide +kernel)
  have iX7 : ∀ w ∈ u_ws RX7 TX7 21, w ∈ wsX7_go := by decide +kernel
  have hl := lv_entry ([.ref m_, .int p0]) (n := 3) (Nat.le_of_ble_eq_true rfl)
  rw [lg_entry_eq]
  generalize (lg_sl ([.ref m_, .int p0]) ++ List.replicate (3 - (lg_sl ([.ref m_, .int p0])).length) Slot.unset).toArray = ls at hl ⊢
  have hl : lv_has ls 3 [(0, .ref m_), (1, .int p0)] := hl
  generalize hQ : MQ below _ _ s _ _ _ = Q
  generalize hH : s.heap = H at hP ⊢
  have hS : va_S A s.heap H [] := by rw [← hH]; exact hS
  clear hH
  refine lv_aload_n hx hb dX7_go_0 rfl (lv_at hl 0 rfl) ?_
  refine lv_iconst (v := 0) hx hb dX7_go_1 (by decide) ?_
  refine va_put (D := D) (ci := 7) (v := .int 0) (ty := .int) (C := RX7) (T := TX7) (N := 21) hx hb hts iX7 tyX7 tyX7_ok nmX7 hown hK hP hD hS 0 rfl rfl 0 (by decide) f49 (fun _ h9 => h9) rfl (by decide +kernel) (rfl) (rfl) (Nat.le_of_ble_eq_true rfl) dX7_go_2 (fun H locs hP hD hS => ?_)
  have hP : va_P D vwCl [(m_, .inr (7, [.int 0, .ref mt, .int tp, .int pa_, .int wr, .ref mrr, .ref mrh, .ref mrc, .int rh, .int rc, .ref mn, .ref mf, .ref mr, .ref mh, .int 0, .int 0, .ref ma, .ref mas, .ref msn, .ref mac, .ref mat])), (mf, .inl (g 0, 4, .inl f))] H := hP
  have hD : va_D A [(m_, .inr (7, [.int 0, .ref mt, .int tp, .int pa_, .int wr, .ref mrr, .ref mrh, .ref mrc, .int rh, .int rc, .ref mn, .ref mf, .ref mr, .ref mh, .int 0, .int 0, .ref ma, .ref mas, .ref msn, .ref mac, .ref mat])), (mf, .inl (g 0, 4, .inl f))] := hD
  refine lv_aload_n hx hb dX7_go_5 rfl (lv_at hl 0 rfl) ?_
  refine ky_Vi (As := []) (rest := []) ⟨hx, hb, hml, hown, hts⟩ ⟨hK, hN⟩ hZ hP hD hS hA [0] [1] (wc := [(m_, .inr (7, [.int 0, .ref mt, .int tp, .int pa_, .int wr, .ref mrr, .ref mrh, .ref mrc, .int rh, .int rc, .ref mn, .ref mf, .ref mr, .ref mh, .int 0, .int 0, .ref ma, .ref mas, .ref msn, .ref mac, .ref mat]))]) (wr := [(mf, .inl (g 0, 4, .inl f))]) rfl rfl rfl rfl (by decide) (c_X7_isNet l D g H.size m_ 0 mt tp pa_ wr mrr mrh mrc rh rc mn mf mr mh ma mas msn mac mat) (cwV 0 hts gX7_go_X7_isNet rfl rfl rfl (by decide +kernel) ⟨(Nat.le_of_ble_eq_true rfl), (Nat.le_of_ble_eq_true rfl)⟩) 0 7 rfl rfl rfl rfl hl.1 rfl (Nat.le_of_ble_eq_true rfl) dX7_go_6 ⟨(Nat.le_of_ble_eq_true rfl), (Nat.le_of_ble_eq_true rfl)⟩ (fun r_1 u H locs hw hP hD hS => ?_)
  obtain ⟨rfl, rfl⟩ := hw
  have hP : va_P D vwCl [(mf, .inl (g 0, 4, .inl f)), (m_, .inr (7, [.int 0, .ref mt, .int tp, .int pa_, .int wr, .ref mrr, .ref mrh, .ref mrc, .int rh, .int rc, .ref mn, .ref mf, .ref mr, .ref mh, .int 0, .int 0, .ref ma, .ref mas, .ref msn, .ref mac, .ref mat]))] H := hP
  have hD : va_D A [(mf, .inl (g 0, 4, .inl f)), (m_, .inr (7, [.int 0, .ref mt, .int tp, .int pa_, .int wr, .ref mrr, .ref mrh, .ref mrc, .int rh, .int rc, .ref mn, .ref mf, .ref mr, .ref mh, .int 0, .int 0, .ref ma, .ref mas, .ref msn, .ref mac, .ref mat]))] := hD
  refine W.widen (k := 0) (n := 0) (Nat.le_of_ble_eq_true rfl) (Nat.le_of_ble_eq_true rfl) ?_
  refine lv_if_ne (tgt := 18) hx hb dX7_go_9 (by decide) (fun cb => absurd (by decide) cb) (fun _ => ?_)
  refine lv_aload_n hx hb dX7_go_12 rfl (lv_at hl 0 rfl) ?_
  refine lv_iconst (v := 0) hx hb dX7_go_13 (by decide) ?_
  refine ky_Vi (As := [.int 0]) (rest := []) ⟨hx, hb, hml, hown, hts⟩ ⟨hK, hN⟩ hZ hP hD hS hA [1, 0] [] (wc := [(m_, .inr (7, [.int 0, .ref mt, .int tp, .int pa_, .int wr, .ref mrr, .ref mrh, .ref mrc, .int rh, .int rc, .ref mn, .ref mf, .ref mr, .ref mh, .int 0, .int 0, .ref ma, .ref mas, .ref msn, .ref mac, .ref mat])), (mf, .inl (g 0, 4, .inl f))]) (wr := []) rfl rfl rfl rfl (by decide) (c_X7_refuses l D g H.size m_ 0 mt tp pa_ wr mrr mrh mrc rh rc mn mf mr mh ma mas msn mac mat f) (cwV 1 hts gX7_go_X7_refuses rfl rfl rfl (by decide +kernel) ⟨(Nat.le_of_ble_eq_true rfl), (Nat.le_of_ble_eq_true rfl)⟩) 1 7 rfl rfl rfl rfl hl.1 rfl (Nat.le_of_ble_eq_true rfl) dX7_go_14 ⟨(Nat.le_of_ble_eq_true rfl), (Nat.le_of_ble_eq_true rfl)⟩ (fun r_2 u H locs hw hP hD hS => ?_)
  obtain ⟨rfl, rfl⟩ := hw
  have hP : va_P D vwCl [(m_, .inr (7, [.int 0, .ref mt, .int tp, .int pa_, .int wr, .ref mrr, .ref mrh, .ref mrc, .int rh, .int rc, .ref mn, .ref mf, .ref mr, .ref mh, .int 0, .int 0, .ref ma, .ref mas, .ref msn, .ref mac, .ref mat])), (mf, .inl (g 0, 4, .inl (upd f 0 (f 0 + 1))))] H := hP
  have hD : va_D A [(m_, .inr (7, [.int 0, .ref mt, .int tp, .int pa_, .int wr, .ref mrr, .ref mrh, .ref mrc, .int rh, .int rc, .ref mn, .ref mf, .ref mr, .ref mh, .int 0, .int 0, .ref ma, .ref mas, .ref msn, .ref mac, .ref mat])), (mf, .inl (g 0, 4, .inl (upd f 0 (f 0 + 1))))] := hD
  refine W.widen (k := 0) (n := 0) (Nat.le_of_ble_eq_true rfl) (Nat.le_of_ble_eq_true rfl) ?_
  have hP9 := hP.sub (ws' := [(m_, .inr (7, [.int 0, .ref mt, .int tp, .int pa_, .int wr, .ref mrr, .ref mrh, .ref mrc, .int rh, .int rc, .ref mn, .ref mf, .ref mr, .ref mh, .int 0, .int 0, .ref ma, .ref mas, .ref msn, .ref mac, .ref mat])), (mf, .inl (g 0, 4, .inl (upd f 0 (f 0 + 1))))]) [0, 1] rfl
  have hD9 := hD.sub (ws' := [(m_, .inr (7, [.int 0, .ref mt, .int tp, .int pa_, .int wr, .ref mrr, .ref mrh, .ref mrc, .int rh, .int rc, .ref mn, .ref mf, .ref mr, .ref mh, .int 0, .int 0, .ref ma, .ref mas, .ref msn, .ref mac, .ref mat])), (mf, .inl (g 0, 4, .inl (upd f 0 (f 0 + 1))))]) [0, 1] (by decide) rfl
  subst hQ
  refine W.widen (k := 0) (n := 0) (Nat.le_of_ble_eq_true rfl) (Nat.le_of_ble_eq_true rfl) ?_
  exact W.iret (v := (-1)) hx hb hr (fun tS htS _ => ⟨⟨_, _, rfl, ⟨rfl, rfl⟩, by rw [htS]; exact hP9, hD9⟩, hS.F htS⟩) hS.2.2 dX7_go_17
set_option maxHeartbeats 4000000 in
set_option maxRecDepth 100000 in
/-- jam without a NET -/
theorem c_X7_jam (l : Launch) (D : va_G) (g : Nat → ClassId) (sz : Nat) (m_ : Nat) (th : Int32) (mt : Nat) (tp : Int32) (pa_ : Int32) (wr : Int32) (mrr : Nat) (mrh : Nat) (mrc : Nat) (rh : Int32) (rc : Int32) (mn : Nat) (mf : Nat) (mr : Nat) (mh : Nat) (ma : Nat) (mas : Nat) (msn : Nat) (mac : Nat) (mat : Nat) (p0 : Int32) (p1 : Int32) (f : Nat → Int32) : Met l yX7_jam wsX7_jam ({ frames := 2, cells := 0, slots := 0, locals := 43 }) (va_Pc [.ref m_, .int p0, .int p1] (pre D g sz [(m_, .inr (7, [.int th, .ref mt, .int tp, .int pa_, .int wr, .ref mrr, .ref mrh, .ref mrc, .int rh, .int rc, .ref mn, .ref mf, .ref mr, .ref mh, .int 0, .int 0, .ref ma, .ref mas, .ref msn, .ref mac, .ref mat])), (mf, .inl (g 0, 4, .inl f))])) (va_Qi (fun (r : Int32) (u : va_W) => u = [(m_, .inr (7, [.int 0, .ref mt, .int tp, .int pa_, .int wr, .ref mrr, .ref mrh, .ref mrc, .int rh, .int rc, .ref mn, .ref mf, .ref mr, .ref mh, .int 0, .int 0, .ref ma, .ref mas, .ref msn, .ref mac, .ref mat])), (mf, .inl (g 0, 4, .inl (upd f 0 (f 0 + 1))))] ∧ r = (-1)) (wd D (va_A [(m_, .inr (7, [.int th, .ref mt, .int tp, .int pa_, .int wr, .ref mrr, .ref mrh, .ref mrc, .int rh, .int rc, .ref mn, .ref mf, .ref mr, .ref mh, .int 0, .int 0, .ref ma, .ref mas, .ref msn, .ref mac, .ref mat])), (mf, .inl (g 0, 4, .inl f))] sz)) (va_A [(m_, .inr (7, [.int th, .ref mt, .int tp, .int pa_, .int wr, .ref mrr, .ref mrh, .ref mrc, .int rh, .int rc, .ref mn, .ref mf, .ref mr, .ref mh, .int 0, .int 0, .ref ma, .ref mas, .ref msn, .ref mac, .ref mat])), (mf, .inl (g 0, 4, .inl f))] sz)) 0 0 (va_A [(m_, .inr (7, [.int th, .ref mt, .int tp, .int pa_, .int wr, .ref mrr, .ref mrh, .ref mrc, .int rh, .int rc, .ref mn, .ref mf, .ref mr, .ref mh, .int 0, .int 0, .ref ma, .ref mas, .ref msn, .ref mac, .ref mat])), (mf, .inl (g 0, 4, .inl f))] sz) := by
  refine Met.ofW (cc := cX7_jam) (maxL := 4) (ret := (some .int)) (by decide) rfl ?_
  intro p e s m args below meth c s₁ B hml hv
  obtain ⟨rfl, hsz, hP, ⟨hK, hN⟩, hD0, hZ⟩ := hv
  have hx := B.exec
  have hb := B.bytes
  have hr := B.returns
  have hts := atoms_spec (ws := wsX7_jam) B.pre
  have hown : s.vm.findClass RX7 = some m.cls := findClass_of_methodNamed B.named
  have hlocks := B.notSynchronized
  clear B
  subst hsz
  have hD := hD0.self (sz := s.heap.size)
  clear hD0
  generalize hAe : va_A [(m_, .inr (7, [.int th, .ref mt, .int tp, .int pa_, .int wr, .ref mrr, .ref mrh, .ref mrc, .int rh, .int rc, .ref mn, .ref mf, .ref mr, .ref mh, .int 0, .int 0, .ref ma, .ref mas, .ref msn, .ref mac, .ref mat])), (mf, .inl (g 0, 4, .inl f))] s.heap.size = A at hD hZ ⊢
  have hA : ∀ q : Nat, s.heap.size ≤ q → A q := fun q h => by rw [← hAe]; exact Or.inr h
  have hS : va_S A s.heap s.heap [] := va_S.rf
  have f49 := hts (.fieldLink RX7 49 "HopCreditsModel" "thrown" "I") (by decide +kernel)
  have iX7 : ∀ w ∈ u_ws RX7 TX7 21, w ∈ wsX7_jam := by decide +kernel
  have hl := lv_entry ([.ref m_, .int p0, .int p1]) (n := 4) (Nat.le_of_ble_eq_true rfl)
  rw [lg_entry_eq]
  generalize (lg_sl ([.ref m_, .int p0, .int p1]) ++ List.replicate (4 - (lg_sl ([.ref m_, .int p0, .int p1])).length) Slot.unset).toArray = ls at hl ⊢
  have hl : lv_has ls 4 [(0, .ref m_), (1, .int p0), (2, .int p1)] := hl
  generalize hQ : MQ below _ _ s _ _ _ = Q
  generalize hH : s.heap = H at hP ⊢
  have hS : va_S A s.heap H [] := by rw [← hH]; exact hS
  clear hH
  refine lv_aload_n hx hb dX7_jam_0 rfl (lv_at hl 0 rfl) ?_
  refine lv_iconst (v := 0) hx hb dX7_jam_1 (by decide) ?_
  refine va_put (D := D) (ci := 7) (v := .int 0) (ty := .int) (C := RX7) (T := TX7) (N := 21) hx hb hts iX7 tyX7 tyX7_ok nmX7 hown hK hP hD hS 0 rfl rfl 0 (by decide) f49 (fun _ h9 => h9) rfl (by decide +kernel) (rfl) (rfl) (Nat.le_of_ble_eq_true rfl) dX7_jam_2 (fun H locs hP hD hS => ?_)
  have hP : va_P D vwCl [(m_, .inr (7, [.int 0, .ref mt, .int tp, .int pa_, .int wr, .ref mrr, .ref mrh, .ref mrc, .int rh, .int rc, .ref mn, .ref mf, .ref mr, .ref mh, .int 0, .int 0, .ref ma, .ref mas, .ref msn, .ref mac, .ref mat])), (mf, .inl (g 0, 4, .inl f))] H := hP
  have hD : va_D A [(m_, .inr (7, [.int 0, .ref mt, .int tp, .int pa_, .int wr, .ref mrr, .ref mrh, .ref mrc, .int rh, .int rc, .ref mn, .ref mf, .ref mr, .ref mh, .int 0, .int 0, .ref ma, .ref mas, .ref msn, .ref mac, .ref mat])), (mf, .inl (g 0, 4, .inl f))] := hD
  refine lv_aload_n hx hb dX7_jam_5 rfl (lv_at hl 0 rfl) ?_
  refine lv_iload_n hx hb dX7_jam_6 rfl (lv_at hl 1 rfl) ?_
  refine ky_Vi (As := [.int p0]) (rest := []) ⟨hx, hb, hml, hown, hts⟩ ⟨hK, hN⟩ hZ hP hD hS hA [0] [1] (wc := [(m_, .inr (7, [.int 0, .ref mt, .int tp, .int pa_, .int wr, .ref mrr, .ref mrh, .ref mrc, .int rh, .int rc, .ref mn, .ref mf, .ref mr, .ref mh, .int 0, .int 0, .ref ma, .ref mas, .ref msn, .ref mac, .ref mat]))]) (wr := [(mf, .inl (g 0, 4, .inl f))]) rfl rfl rfl rfl (by decide) (c_X7_isHop l D g H.size m_ 0 mt tp pa_ wr mrr mrh mrc rh rc mn mf mr mh ma mas msn mac mat p0) (cwV 1 hts gX7_jam_X7_isHop rfl rfl rfl (by decide +kernel) ⟨(Nat.le_of_ble_eq_true rfl), (Nat.le_of_ble_eq_true rfl)⟩) 0 7 rfl rfl rfl rfl hl.1 rfl (Nat.le_of_ble_eq_true rfl) dX7_jam_7 ⟨(Nat.le_of_ble_eq_true rfl), (Nat.le_of_ble_eq_true rfl)⟩ (fun r_1 u H locs hw hP hD hS => ?_)
  obtain ⟨rfl, rfl⟩ := hw
  have hP : va_P D vwCl [(mf, .inl (g 0, 4, .inl f)), (m_, .inr (7, [.int 0, .ref mt, .int tp, .int pa_, .int wr, .ref mrr, .ref mrh, .ref mrc, .int rh, .int rc, .ref mn, .ref mf, .ref mr, .ref mh, .int 0, .int 0, .ref ma, .ref mas, .ref msn, .ref mac, .ref mat]))] H := hP
  have hD : va_D A [(mf, .inl (g 0, 4, .inl f)), (m_, .inr (7, [.int 0, .ref mt, .int tp, .int pa_, .int wr, .ref mrr, .ref mrh, .ref mrc, .int rh, .int rc, .ref mn, .ref mf, .ref mr, .ref mh, .int 0, .int 0, .ref ma, .ref mas, .ref msn, .ref mac, .ref mat]))] := hD
  refine W.widen (k := 0) (n := 0) (Nat.le_of_ble_eq_true rfl) (Nat.le_of_ble_eq_true rfl) ?_
  refine lv_if_ne (tgt := 19) hx hb dX7_jam_10 (by decide) (fun cb => absurd (by decide) cb) (fun _ => ?_)
  refine lv_aload_n hx hb dX7_jam_13 rfl (lv_at hl 0 rfl) ?_
  refine lv_iconst (v := 0) hx hb dX7_jam_14 (by decide) ?_
  refine ky_Vi (As := [.int 0]) (rest := []) ⟨hx, hb, hml, hown, hts⟩ ⟨hK, hN⟩ hZ hP hD hS hA [1, 0] [] (wc := [(m_, .inr (7, [.int 0, .ref mt, .int tp, .int pa_, .int wr, .ref mrr, .ref mrh, .ref mrc, .int rh, .int rc, .ref mn, .ref mf, .ref mr, .ref mh, .int 0, .int 0, .ref ma, .ref mas, .ref msn, .ref mac, .ref mat])), (mf, .inl (g 0, 4, .inl f))]) (wr := []) rfl rfl rfl rfl (by decide) (c_X7_refuses l D g H.size m_ 0 mt tp pa_ wr mrr mrh mrc rh rc mn mf mr mh ma mas msn mac mat f) (cwV 1 hts gX7_jam_X7_refuses rfl rfl rfl (by decide +kernel) ⟨(Nat.le_of_ble_eq_true rfl), (Nat.le_of_ble_eq_true rfl)⟩) 1 7 rfl rfl rfl rfl hl.1 rfl (Nat.le_of_ble_eq_true rfl) dX7_jam_15 ⟨(Nat.le_of_ble_eq_true rfl), (Nat.le_of_ble_eq_true rfl)⟩ (fun r_2 u H locs hw hP hD hS => ?_)
  obtain ⟨rfl, rfl⟩ := hw
  have hP : va_P D vwCl [(m_, .inr (7, [.int 0, .ref mt, .int tp, .int pa_, .int wr, .ref mrr, .ref mrh, .ref mrc, .int rh, .int rc, .ref mn, .ref mf, .ref mr, .ref mh, .int 0, .int 0, .ref ma, .ref mas, .ref msn, .ref mac, .ref mat])), (mf, .inl (g 0, 4, .inl (upd f 0 (f 0 + 1))))] H := hP
  have hD : va_D A [(m_, .inr (7, [.int 0, .ref mt, .int tp, .int pa_, .int wr, .ref mrr, .ref mrh, .ref mrc, .int rh, .int rc, .ref mn, .ref mf, .ref mr, .ref mh, .int 0, .int 0, .ref ma, .ref mas, .ref msn, .ref mac, .ref mat])), (mf, .inl (g 0, 4, .inl (upd f 0 (f 0 + 1))))] := hD
  refine W.widen (k := 0) (n := 0) (Nat.le_of_ble_eq_true rfl) (Nat.le_of_ble_eq_true rfl) ?_
  have hP9 := hP.sub (ws' := [(m_, .inr (7, [.int 0, .ref mt, .int tp, .int pa_, .int wr, .ref mrr, .ref mrh, .ref mrc, .int rh, .int rc, .ref mn, .ref mf, .ref mr, .ref mh, .int 0, .int 0, .ref ma, .ref mas, .ref msn, .ref mac, .ref mat])), (mf, .inl (g 0, 4, .inl (upd f 0 (f 0 + 1))))]) [0, 1] rfl
  have hD9 := hD.sub (ws' := [(m_, .inr (7, [.int 0, .ref mt, .int tp, .int pa_, .int wr, .ref mrr, .ref mrh, .ref mrc, .int rh, .int rc, .ref mn, .ref mf, .ref mr, .ref mh, .int 0, .int 0, .ref ma, .ref mas, .ref msn, .ref mac, .ref mat])), (mf, .inl (g 0, 4, .inl (upd f 0 (f 0 + 1))))]) [0, 1] (by decide) rfl
  subst hQ
  refine W.widen (k := 0) (n := 0) (Nat.le_of_ble_eq_true rfl) (Nat.le_of_ble_eq_true rfl) ?_
  exact W.iret (v := (-1)) hx hb hr (fun tS htS _ => ⟨⟨_, _, rfl, ⟨rfl, rfl⟩, by rw [htS]; exact hP9, hD9⟩, hS.F htS⟩) hS.2.2 dX7_jam_18
set_option maxHeartbeats 4000000 in
set_option maxRecDepth 100000 in
/-- source without a NET -/
theorem c_X7_source (l : Launch) (D : va_G) (g : Nat → ClassId) (sz : Nat) (m_ : Nat) (th : Int32) (mt : Nat) (tp : Int32) (pa_ : Int32) (wr : Int32) (mrr : Nat) (mrh : Nat) (mrc : Nat) (rh : Int32) (rc : Int32) (mn : Nat) (mf : Nat) (mr : Nat) (mh : Nat) (ma : Nat) (mas : Nat) (msn : Nat) (mac : Nat) (mat : Nat) (p0 : Int32) (p1 : Int32) (p2 : Int32) (f : Nat → Int32) : Met l yX7_source wsX7_source ({ frames := 2, cells := 0, slots := 0, locals := 43 }) (va_Pc [.ref m_, .int p0, .int p1, .int p2] (pre D g sz [(m_, .inr (7, [.int th, .ref mt, .int tp, .int pa_, .int wr, .ref mrr, .ref mrh, .ref mrc, .int rh, .int rc, .ref mn, .ref mf, .ref mr, .ref mh, .int 0, .int 0, .ref ma, .ref mas, .ref msn, .ref mac, .ref mat])), (mf, .inl (g 0, 4, .inl f))])) (va_Qi (fun (r : Int32) (u : va_W) => u = [(m_, .inr (7, [.int 0, .ref mt, .int tp, .int pa_, .int wr, .ref mrr, .ref mrh, .ref mrc, .int rh, .int rc, .ref mn, .ref mf, .ref mr, .ref mh, .int 0, .int 0, .ref ma, .ref mas, .ref msn, .ref mac, .ref mat])), (mf, .inl (g 0, 4, .inl (upd f 0 (f 0 + 1))))] ∧ r = (-1)) (wd D (va_A [(m_, .inr (7, [.int th, .ref mt, .int tp, .int pa_, .int wr, .ref mrr, .ref mrh, .ref mrc, .int rh, .int rc, .ref mn, .ref mf, .ref mr, .ref mh, .int 0, .int 0, .ref ma, .ref mas, .ref msn, .ref mac, .ref mat])), (mf, .inl (g 0, 4, .inl f))] sz)) (va_A [(m_, .inr (7, [.int th, .ref mt, .int tp, .int pa_, .int wr, .ref mrr, .ref mrh, .ref mrc, .int rh, .int rc, .ref mn, .ref mf, .ref mr, .ref mh, .int 0, .int 0, .ref ma, .ref mas, .ref msn, .ref mac, .ref mat])), (mf, .inl (g 0, 4, .inl f))] sz)) 0 0 (va_A [(m_, .inr (7, [.int th, .ref mt, .int tp, .int pa_, .int wr, .ref mrr, .ref mrh, .ref mrc, .int rh, .int rc, .ref mn, .ref mf, .ref mr, .ref mh, .int 0, .int 0, .ref ma, .ref mas, .ref msn, .ref mac, .ref mat])), (mf, .inl (g 0, 4, .inl f))] sz) := by
  refine Met.ofW (cc := cX7_source) (maxL := 6) (ret := (some .int)) (by decide) rfl ?_
  intro p e s m args below meth c s₁ B hml hv
  obtain ⟨rfl, hsz, hP, ⟨hK, hN⟩, hD0, hZ⟩ := hv
  have hx := B.exec
  have hb := B.bytes
  have hr := B.returns
  have hts := atoms_spec (ws := wsX7_source) B.pre
  have hown : s.vm.findClass RX7 = some m.cls := findClass_of_methodNamed B.named
  have hlocks := B.notSynchronized
  clear B
  subst hsz
  have hD := hD0.self (sz := s.heap.size)
  clear hD0
  generalize hAe : va_A [(m_, .inr (7, [.int th, .ref mt, .int tp, .int pa_, .int wr, .ref mrr, .ref mrh, .ref mrc, .int rh, .int rc, .ref mn, .ref mf, .ref mr, .ref mh, .int 0, .int 0, .ref ma, .ref mas, .ref msn, .ref mac, .ref mat])), (mf, .inl (g 0, 4, .inl f))] s.heap.size = A at hD hZ ⊢
  have hA : ∀ q : Nat, s.heap.size ≤ q → A q := fun q h => by rw [← hAe]; exact Or.inr h
  have hS : va_S A s.heap s.heap [] := va_S.rf
  have f49 := hts (.fieldLink RX7 49 "HopCreditsModel" "thrown" "I") (by decide +kernel)
  have iX7 : ∀ w ∈ u_ws RX7 TX7 21, w ∈ wsX7_source := by decide +kernel
  have hl := lv_entry ([.ref m_, .int p0, .int p1, .int p2]) (n := 6) (Nat.le_of_ble_eq_true rfl)
  rw [lg_entry_eq]
  generalize (lg_sl ([.ref m_, .int p0, .int p1, .int p2]) ++ List.replicate (6 - (lg_sl ([.ref m_, .int p0, .int p1, .int p2])).length) Slot.unset).toArray = ls at hl ⊢
  have hl : lv_has ls 6 [(0, .ref m_), (1, .int p0), (2, .int p1), (3, .int p2)] := hl
  generalize hQ : MQ below _ _ s _ _ _ = Q
  generalize hH : s.heap = H at hP ⊢
  have hS : va_S A s.heap H [] := by rw [← hH]; exact hS
  clear hH
  refine lv_aload_n hx hb dX7_source_0 rfl (lv_at hl 0 rfl) ?_
  refine lv_iconst (v := 0) hx hb dX7_source_1 (by decide) ?_
  refine va_put (D := D) (ci := 7) (v := .int 0) (ty := .int) (C := RX7) (T := TX7) (N := 21) hx hb hts iX7 tyX7 tyX7_ok nmX7 hown hK hP hD hS 0 rfl rfl 0 (by decide) f49 (fun _ h9 => h9) rfl (by decide +kernel) (rfl) (rfl) (Nat.le_of_ble_eq_true rfl) dX7_source_2 (fun H locs hP hD hS => ?_)
  have hP : va_P D vwCl [(m_, .inr (7, [.int 0, .ref mt, .int tp, .int pa_, .int wr, .ref mrr, .ref mrh, .ref mrc, .int rh, .int rc, .ref mn, .ref mf, .ref mr, .ref mh, .int 0, .int 0, .ref ma, .ref mas, .ref msn, .ref mac, .ref mat])), (mf, .inl (g 0, 4, .inl f))] H := hP
  have hD : va_D A [(m_, .inr (7, [.int 0, .ref mt, .int tp, .int pa_, .int wr, .ref mrr, .ref mrh, .ref mrc, .int rh, .int rc, .ref mn, .ref mf, .ref mr, .ref mh, .int 0, .int 0, .ref ma, .ref mas, .ref msn, .ref mac, .ref mat])), (mf, .inl (g 0, 4, .inl f))] := hD
  refine lv_aload_n hx hb dX7_source_5 rfl (lv_at hl 0 rfl) ?_
  refine lv_iload_n hx hb dX7_source_6 rfl (lv_at hl 1 rfl) ?_
  refine ky_Vi (As := [.int p0]) (rest := []) ⟨hx, hb, hml, hown, hts⟩ ⟨hK, hN⟩ hZ hP hD hS hA [0] [1] (wc := [(m_, .inr (7, [.int 0, .ref mt, .int tp, .int pa_, .int wr, .ref mrr, .ref mrh, .ref mrc, .int rh, .int rc, .ref mn, .ref mf, .ref mr, .ref mh, .int 0, .int 0, .ref ma, .ref mas, .ref msn, .ref mac, .ref mat]))]) (wr := [(mf, .inl (g 0, 4, .inl f))]) rfl rfl rfl rfl (by decide) (c_X7_isCircuit l D g H.size m_ 0 mt tp pa_ wr mrr mrh mrc rh rc mn mf mr mh ma mas msn mac mat p0) (cwV 1 hts gX7_source_X7_isCircuit rfl rfl rfl (by decide +kernel) ⟨(Nat.le_of_ble_eq_true rfl), (Nat.le_of_ble_eq_true rfl)⟩) 0 7 rfl rfl rfl rfl hl.1 rfl (Nat.le_of_ble_eq_true rfl) dX7_source_7 ⟨(Nat.le_of_ble_eq_true rfl), (Nat.le_of_ble_eq_true rfl)⟩ (fun r_1 u H locs hw hP hD hS => ?_)
  obtain ⟨rfl, rfl⟩ := hw
  have hP : va_P D vwCl [(mf, .inl (g 0, 4, .inl f)), (m_, .inr (7, [.int 0, .ref mt, .int tp, .int pa_, .int wr, .ref mrr, .ref mrh, .ref mrc, .int rh, .int rc, .ref mn, .ref mf, .ref mr, .ref mh, .int 0, .int 0, .ref ma, .ref mas, .ref msn, .ref mac, .ref mat]))] H := hP
  have hD : va_D A [(mf, .inl (g 0, 4, .inl f)), (m_, .inr (7, [.int 0, .ref mt, .int tp, .int pa_, .int wr, .ref mrr, .ref mrh, .ref mrc, .int rh, .int rc, .ref mn, .ref mf, .ref mr, .ref mh, .int 0, .int 0, .ref ma, .ref mas, .ref msn, .ref mac, .ref mat]))] := hD
  refine W.widen (k := 0) (n := 0) (Nat.le_of_ble_eq_true rfl) (Nat.le_of_ble_eq_true rfl) ?_
  refine lv_if_ne (tgt := 19) hx hb dX7_source_10 (by decide) (fun cb => absurd (by decide) cb) (fun _ => ?_)
  refine lv_aload_n hx hb dX7_source_13 rfl (lv_at hl 0 rfl) ?_
  refine lv_iconst (v := 0) hx hb dX7_source_14 (by decide) ?_
  refine ky_Vi (As := [.int 0]) (rest := []) ⟨hx, hb, hml, hown, hts⟩ ⟨hK, hN⟩ hZ hP hD hS hA [1, 0] [] (wc := [(m_, .inr (7, [.int 0, .ref mt, .int tp, .int pa_, .int wr, .ref mrr, .ref mrh, .ref mrc, .int rh, .int rc, .ref mn, .ref mf, .ref mr, .ref mh, .int 0, .int 0, .ref ma, .ref mas, .ref msn, .ref mac, .ref mat])), (mf, .inl (g 0, 4, .inl f))]) (wr := []) rfl rfl rfl rfl (by decide) (c_X7_refuses l D g H.size m_ 0 mt tp pa_ wr mrr mrh mrc rh rc mn mf mr mh ma mas msn mac mat f) (cwV 1 hts gX7_source_X7_refuses rfl rfl rfl (by decide +kernel) ⟨(Nat.le_of_ble_eq_true rfl), (Nat.le_of_ble_eq_true rfl)⟩) 1 7 rfl rfl rfl rfl hl.1 rfl (Nat.le_of_ble_eq_true rfl) dX7_source_15 ⟨(Nat.le_of_ble_eq_true rfl), (Nat.le_of_ble_eq_true rfl)⟩ (fun r_2 u H locs hw hP hD hS => ?_)
  obtain ⟨rfl, rfl⟩ := hw
  have hP : va_P D vwCl [(m_, .inr (7, [.int 0, .ref mt, .int tp, .int pa_, .int wr, .ref mrr, .ref mrh, .ref mrc, .int rh, .int rc, .ref mn, .ref mf, .ref mr, .ref mh, .int 0, .int 0, .ref ma, .ref mas, .ref msn, .ref mac, .ref mat])), (mf, .inl (g 0, 4, .inl (upd f 0 (f 0 + 1))))] H := hP
  have hD : va_D A [(m_, .inr (7, [.int 0, .ref mt, .int tp, .int pa_, .int wr, .ref mrr, .ref mrh, .ref mrc, .int rh, .int rc, .ref mn, .ref mf, .ref mr, .ref mh, .int 0, .int 0, .ref ma, .ref mas, .ref msn, .ref mac, .ref mat])), (mf, .inl (g 0, 4, .inl (upd f 0 (f 0 + 1))))] := hD
  refine W.widen (k := 0) (n := 0) (Nat.le_of_ble_eq_true rfl) (Nat.le_of_ble_eq_true rfl) ?_
  have hP9 := hP.sub (ws' := [(m_, .inr (7, [.int 0, .ref mt, .int tp, .int pa_, .int wr, .ref mrr, .ref mrh, .ref mrc, .int rh, .int rc, .ref mn, .ref mf, .ref mr, .ref mh, .int 0, .int 0, .ref ma, .ref mas, .ref msn, .ref mac, .ref mat])), (mf, .inl (g 0, 4, .inl (upd f 0 (f 0 + 1))))]) [0, 1] rfl
  have hD9 := hD.sub (ws' := [(m_, .inr (7, [.int 0, .ref mt, .int tp, .int pa_, .int wr, .ref mrr, .ref mrh, .ref mrc, .int rh, .int rc, .ref mn, .ref mf, .ref mr, .ref mh, .int 0, .int 0, .ref ma, .ref mas, .ref msn, .ref mac, .ref mat])), (mf, .inl (g 0, 4, .inl (upd f 0 (f 0 + 1))))]) [0, 1] (by decide) rfl
  subst hQ
  refine W.widen (k := 0) (n := 0) (Nat.le_of_ble_eq_true rfl) (Nat.le_of_ble_eq_true rfl) ?_
  exact W.iret (v := (-1)) hx hb hr (fun tS htS _ => ⟨⟨_, _, rfl, ⟨rfl, rfl⟩, by rw [htS]; exact hP9, hD9⟩, hS.F htS⟩) hS.2.2 dX7_source_18
set_option maxHeartbeats 4000000 in
set_option maxRecDepth 100000 in
/-- takes without a NET -/
theorem c_X7_takes (l : Launch) (D : va_G) (g : Nat → ClassId) (sz : Nat) (m_ : Nat) (th : Int32) (mt : Nat) (tp : Int32) (pa_ : Int32) (wr : Int32) (mrr : Nat) (mrh : Nat) (mrc : Nat) (rh : Int32) (rc : Int32) (mn : Nat) (mf : Nat) (mr : Nat) (mh : Nat) (ma : Nat) (mas : Nat) (msn : Nat) (mac : Nat) (mat : Nat) (p0 : Int32) (p1 : Int32) (f : Nat → Int32) : Met l yX7_takes wsX7_takes ({ frames := 2, cells := 0, slots := 0, locals := 43 }) (va_Pc [.ref m_, .int p0, .int p1] (pre D g sz [(m_, .inr (7, [.int th, .ref mt, .int tp, .int pa_, .int wr, .ref mrr, .ref mrh, .ref mrc, .int rh, .int rc, .ref mn, .ref mf, .ref mr, .ref mh, .int 0, .int 0, .ref ma, .ref mas, .ref msn, .ref mac, .ref mat])), (mf, .inl (g 0, 4, .inl f))])) (va_Qi (fun (r : Int32) (u : va_W) => u = [(m_, .inr (7, [.int 0, .ref mt, .int tp, .int pa_, .int wr, .ref mrr, .ref mrh, .ref mrc, .int rh, .int rc, .ref mn, .ref mf, .ref mr, .ref mh, .int 0, .int 0, .ref ma, .ref mas, .ref msn, .ref mac, .ref mat])), (mf, .inl (g 0, 4, .inl (upd f 0 (f 0 + 1))))] ∧ r = (-1)) (wd D (va_A [(m_, .inr (7, [.int th, .ref mt, .int tp, .int pa_, .int wr, .ref mrr, .ref mrh, .ref mrc, .int rh, .int rc, .ref mn, .ref mf, .ref mr, .ref mh, .int 0, .int 0, .ref ma, .ref mas, .ref msn, .ref mac, .ref mat])), (mf, .inl (g 0, 4, .inl f))] sz)) (va_A [(m_, .inr (7, [.int th, .ref mt, .int tp, .int pa_, .int wr, .ref mrr, .ref mrh, .ref mrc, .int rh, .int rc, .ref mn, .ref mf, .ref mr, .ref mh, .int 0, .int 0, .ref ma, .ref mas, .ref msn, .ref mac, .ref mat])), (mf, .inl (g 0, 4, .inl f))] sz)) 0 0 (va_A [(m_, .inr (7, [.int th, .ref mt, .int tp, .int pa_, .int wr, .ref mrr, .ref mrh, .ref mrc, .int rh, .int rc, .ref mn, .ref mf, .ref mr, .ref mh, .int 0, .int 0, .ref ma, .ref mas, .ref msn, .ref mac, .ref mat])), (mf, .inl (g 0, 4, .inl f))] sz) := by
  refine Met.ofW (cc := cX7_takes) (maxL := 4) (ret := (some .int)) (by decide) rfl ?_
  intro p e s m args below meth c s₁ B hml hv
  obtain ⟨rfl, hsz, hP, ⟨hK, hN⟩, hD0, hZ⟩ := hv
  have hx := B.exec
  have hb := B.bytes
  have hr := B.returns
  have hts := atoms_spec (ws := wsX7_takes) B.pre
  have hown : s.vm.findClass RX7 = some m.cls := findClass_of_methodNamed B.named
  have hlocks := B.notSynchronized
  clear B
  subst hsz
  have hD := hD0.self (sz := s.heap.size)
  clear hD0
  generalize hAe : va_A [(m_, .inr (7, [.int th, .ref mt, .int tp, .int pa_, .int wr, .ref mrr, .ref mrh, .ref mrc, .int rh, .int rc, .ref mn, .ref mf, .ref mr, .ref mh, .int 0, .int 0, .ref ma, .ref mas, .ref msn, .ref mac, .ref mat])), (mf, .inl (g 0, 4, .inl f))] s.heap.size = A at hD hZ ⊢
  have hA : ∀ q : Nat, s.heap.size ≤ q → A q := fun q h => by rw [← hAe]; exact Or.inr h
  have hS : va_S A s.heap s.heap [] := va_S.rf
  have f49 := hts (.fieldLink RX7 49 "HopCreditsModel" "thrown" "I") (by decide +kernel)
  have iX7 : ∀ w ∈ u_ws RX7 TX7 21, w ∈ wsX7_takes := by decide +kernel
  have hl := lv_entry ([.ref m_, .int p0, .int p1]) (n := 4) (Nat.le_of_ble_eq_true rfl)
  rw [lg_entry_eq]
  generalize (lg_sl ([.ref m_, .int p0, .int p1]) ++ List.replicate (4 - (lg_sl ([.ref m_, .int p0, .int p1])).length) Slot.unset).toArray = ls at hl ⊢
  have hl : lv_has ls 4 [(0, .ref m_), (1, .int p0), (2, .int p1)] := hl
  generalize hQ : MQ below _ _ s _ _ _ = Q
  generalize hH : s.heap = H at hP ⊢
  have hS : va_S A s.heap H [] := by rw [← hH]; exact hS
  clear hH
  refine lv_aload_n hx hb dX7_takes_0 rfl (lv_at hl 0 rfl) ?_
  refine lv_iconst (v := 0) hx hb dX7_takes_1 (by decide) ?_
  refine va_put (D := D) (ci := 7) (v := .int 0) (ty := .int) (C := RX7) (T := TX7) (N := 21) hx hb hts iX7 tyX7 tyX7_ok nmX7 hown hK hP hD hS 0 rfl rfl 0 (by decide) f49 (fun _ h9 => h9) rfl (by decide +kernel) (rfl) (rfl) (Nat.le_of_ble_eq_true rfl) dX7_takes_2 (fun H locs hP hD hS => ?_)
  have hP : va_P D vwCl [(m_, .inr (7, [.int 0, .ref mt, .int tp, .int pa_, .int wr, .ref mrr, .ref mrh, .ref mrc, .int rh, .int rc, .ref mn, .ref mf, .ref mr, .ref mh, .int 0, .int 0, .ref ma, .ref mas, .ref msn, .ref mac, .ref mat])), (mf, .inl (g 0, 4, .inl f))] H := hP
  have hD : va_D A [(m_, .inr (7, [.int 0, .ref mt, .int tp, .int pa_, .int wr, .ref mrr, .ref mrh, .ref mrc, .int rh, .int rc, .ref mn, .ref mf, .ref mr, .ref mh, .int 0, .int 0, .ref ma, .ref mas, .ref msn, .ref mac, .ref mat])), (mf, .inl (g 0, 4, .inl f))] := hD
  refine lv_aload_n hx hb dX7_takes_5 rfl (lv_at hl 0 rfl) ?_
  refine lv_iload_n hx hb dX7_takes_6 rfl (lv_at hl 1 rfl) ?_
  refine ky_Vi (As := [.int p0]) (rest := []) ⟨hx, hb, hml, hown, hts⟩ ⟨hK, hN⟩ hZ hP hD hS hA [0] [1] (wc := [(m_, .inr (7, [.int 0, .ref mt, .int tp, .int pa_, .int wr, .ref mrr, .ref mrh, .ref mrc, .int rh, .int rc, .ref mn, .ref mf, .ref mr, .ref mh, .int 0, .int 0, .ref ma, .ref mas, .ref msn, .ref mac, .ref mat]))]) (wr := [(mf, .inl (g 0, 4, .inl f))]) rfl rfl rfl rfl (by decide) (c_X7_isCircuit l D g H.size m_ 0 mt tp pa_ wr mrr mrh mrc rh rc mn mf mr mh ma mas msn mac mat p0) (cwV 1 hts gX7_takes_X7_isCircuit rfl rfl rfl (by decide +kernel) ⟨(Nat.le_of_ble_eq_true rfl), (Nat.le_of_ble_eq_true rfl)⟩) 0 7 rfl rfl rfl rfl hl.1 rfl (Nat.le_of_ble_eq_true rfl) dX7_takes_7 ⟨(Nat.le_of_ble_eq_true rfl), (Nat.le_of_ble_eq_true rfl)⟩ (fun r_1 u H locs hw hP hD hS => ?_)
  obtain ⟨rfl, rfl⟩ := hw
  have hP : va_P D vwCl [(mf, .inl (g 0, 4, .inl f)), (m_, .inr (7, [.int 0, .ref mt, .int tp, .int pa_, .int wr, .ref mrr, .ref mrh, .ref mrc, .int rh, .int rc, .ref mn, .ref mf, .ref mr, .ref mh, .int 0, .int 0, .ref ma, .ref mas, .ref msn, .ref mac, .ref mat]))] H := hP
  have hD : va_D A [(mf, .inl (g 0, 4, .inl f)), (m_, .inr (7, [.int 0, .ref mt, .int tp, .int pa_, .int wr, .ref mrr, .ref mrh, .ref mrc, .int rh, .int rc, .ref mn, .ref mf, .ref mr, .ref mh, .int 0, .int 0, .ref ma, .ref mas, .ref msn, .ref mac, .ref mat]))] := hD
  refine W.widen (k := 0) (n := 0) (Nat.le_of_ble_eq_true rfl) (Nat.le_of_ble_eq_true rfl) ?_
  refine lv_if_ne (tgt := 19) hx hb dX7_takes_10 (by decide) (fun cb => absurd (by decide) cb) (fun _ => ?_)
  refine lv_aload_n hx hb dX7_takes_13 rfl (lv_at hl 0 rfl) ?_
  refine lv_iconst (v := 0) hx hb dX7_takes_14 (by decide) ?_
  refine ky_Vi (As := [.int 0]) (rest := []) ⟨hx, hb, hml, hown, hts⟩ ⟨hK, hN⟩ hZ hP hD hS hA [1, 0] [] (wc := [(m_, .inr (7, [.int 0, .ref mt, .int tp, .int pa_, .int wr, .ref mrr, .ref mrh, .ref mrc, .int rh, .int rc, .ref mn, .ref mf, .ref mr, .ref mh, .int 0, .int 0, .ref ma, .ref mas, .ref msn, .ref mac, .ref mat])), (mf, .inl (g 0, 4, .inl f))]) (wr := []) rfl rfl rfl rfl (by decide) (c_X7_refuses l D g H.size m_ 0 mt tp pa_ wr mrr mrh mrc rh rc mn mf mr mh ma mas msn mac mat f) (cwV 1 hts gX7_takes_X7_refuses rfl rfl rfl (by decide +kernel) ⟨(Nat.le_of_ble_eq_true rfl), (Nat.le_of_ble_eq_true rfl)⟩) 1 7 rfl rfl rfl rfl hl.1 rfl (Nat.le_of_ble_eq_true rfl) dX7_takes_15 ⟨(Nat.le_of_ble_eq_true rfl), (Nat.le_of_ble_eq_true rfl)⟩ (fun r_2 u H locs hw hP hD hS => ?_)
  obtain ⟨rfl, rfl⟩ := hw
  have hP : va_P D vwCl [(m_, .inr (7, [.int 0, .ref mt, .int tp, .int pa_, .int wr, .ref mrr, .ref mrh, .ref mrc, .int rh, .int rc, .ref mn, .ref mf, .ref mr, .ref mh, .int 0, .int 0, .ref ma, .ref mas, .ref msn, .ref mac, .ref mat])), (mf, .inl (g 0, 4, .inl (upd f 0 (f 0 + 1))))] H := hP
  have hD : va_D A [(m_, .inr (7, [.int 0, .ref mt, .int tp, .int pa_, .int wr, .ref mrr, .ref mrh, .ref mrc, .int rh, .int rc, .ref mn, .ref mf, .ref mr, .ref mh, .int 0, .int 0, .ref ma, .ref mas, .ref msn, .ref mac, .ref mat])), (mf, .inl (g 0, 4, .inl (upd f 0 (f 0 + 1))))] := hD
  refine W.widen (k := 0) (n := 0) (Nat.le_of_ble_eq_true rfl) (Nat.le_of_ble_eq_true rfl) ?_
  have hP9 := hP.sub (ws' := [(m_, .inr (7, [.int 0, .ref mt, .int tp, .int pa_, .int wr, .ref mrr, .ref mrh, .ref mrc, .int rh, .int rc, .ref mn, .ref mf, .ref mr, .ref mh, .int 0, .int 0, .ref ma, .ref mas, .ref msn, .ref mac, .ref mat])), (mf, .inl (g 0, 4, .inl (upd f 0 (f 0 + 1))))]) [0, 1] rfl
  have hD9 := hD.sub (ws' := [(m_, .inr (7, [.int 0, .ref mt, .int tp, .int pa_, .int wr, .ref mrr, .ref mrh, .ref mrc, .int rh, .int rc, .ref mn, .ref mf, .ref mr, .ref mh, .int 0, .int 0, .ref ma, .ref mas, .ref msn, .ref mac, .ref mat])), (mf, .inl (g 0, 4, .inl (upd f 0 (f 0 + 1))))]) [0, 1] (by decide) rfl
  subst hQ
  refine W.widen (k := 0) (n := 0) (Nat.le_of_ble_eq_true rfl) (Nat.le_of_ble_eq_true rfl) ?_
  exact W.iret (v := (-1)) hx hb hr (fun tS htS _ => ⟨⟨_, _, rfl, ⟨rfl, rfl⟩, by rw [htS]; exact hP9, hD9⟩, hS.F htS⟩) hS.2.2 dX7_takes_18
set_option maxHeartbeats 4000000 in
set_option maxRecDepth 100000 in
/-- zone without a NET -/
theorem c_X7_zone (l : Launch) (D : va_G) (g : Nat → ClassId) (sz : Nat) (m_ : Nat) (th : Int32) (mt : Nat) (tp : Int32) (pa_ : Int32) (wr : Int32) (mrr : Nat) (mrh : Nat) (mrc : Nat) (rh : Int32) (rc : Int32) (mn : Nat) (mf : Nat) (mr : Nat) (mh : Nat) (ma : Nat) (mas : Nat) (msn : Nat) (mac : Nat) (mat : Nat) (p0 : Int32) (p1 : Int32) (p2 : Int32) (f : Nat → Int32) : Met l yX7_zone wsX7_zone ({ frames := 4, cells := 0, slots := 0, locals := 89 }) (va_Pc [.ref m_, .int p0, .int p1, .int p2] (pre D g sz [(m_, .inr (7, [.int th, .ref mt, .int tp, .int pa_, .int wr, .ref mrr, .ref mrh, .ref mrc, .int rh, .int rc, .ref mn, .ref mf, .ref mr, .ref mh, .int 0, .int 0, .ref ma, .ref mas, .ref msn, .ref mac, .ref mat])), (mf, .inl (g 0, 4, .inl f))])) (va_Qi (fun (r : Int32) (u : va_W) => u = [(m_, .inr (7, [.int 0, .ref mt, .int tp, .int pa_, .int wr, .ref mrr, .ref mrh, .ref mrc, .int rh, .int rc, .ref mn, .ref mf, .ref mr, .ref mh, .int 0, .int 0, .ref ma, .ref mas, .ref msn, .ref mac, .ref mat])), (mf, .inl (g 0, 4, .inl (upd f 0 (f 0 + 1))))] ∧ r = (-1)) (wd D (va_A [(m_, .inr (7, [.int th, .ref mt, .int tp, .int pa_, .int wr, .ref mrr, .ref mrh, .ref mrc, .int rh, .int rc, .ref mn, .ref mf, .ref mr, .ref mh, .int 0, .int 0, .ref ma, .ref mas, .ref msn, .ref mac, .ref mat])), (mf, .inl (g 0, 4, .inl f))] sz)) (va_A [(m_, .inr (7, [.int th, .ref mt, .int tp, .int pa_, .int wr, .ref mrr, .ref mrh, .ref mrc, .int rh, .int rc, .ref mn, .ref mf, .ref mr, .ref mh, .int 0, .int 0, .ref ma, .ref mas, .ref msn, .ref mac, .ref mat])), (mf, .inl (g 0, 4, .inl f))] sz)) 0 0 (va_A [(m_, .inr (7, [.int th, .ref mt, .int tp, .int pa_, .int wr, .ref mrr, .ref mrh, .ref mrc, .int rh, .int rc, .ref mn, .ref mf, .ref mr, .ref mh, .int 0, .int 0, .ref ma, .ref mas, .ref msn, .ref mac, .ref mat])), (mf, .inl (g 0, 4, .inl f))] sz) := by
  refine Met.ofW (cc := cX7_zone) (maxL := 6) (ret := (some .int)) (by decide) rfl ?_
  intro p e s m args below meth c s₁ B hml hv
  obtain ⟨rfl, hsz, hP, ⟨hK, hN⟩, hD0, hZ⟩ := hv
  have hx := B.exec
  have hb := B.bytes
  have hr := B.returns
  have hts := atoms_spec (ws := wsX7_zone) B.pre
  have hown : s.vm.findClass RX7 = some m.cls := findClass_of_methodNamed B.named
  have hlocks := B.notSynchronized
  clear B
  subst hsz
  have hD := hD0.self (sz := s.heap.size)
  clear hD0
  generalize hAe : va_A [(m_, .inr (7, [.int th, .ref mt, .int tp, .int pa_, .int wr, .ref mrr, .ref mrh, .ref mrc, .int rh, .int rc, .ref mn, .ref mf, .ref mr, .ref mh, .int 0, .int 0, .ref ma, .ref mas, .ref msn, .ref mac, .ref mat])), (mf, .inl (g 0, 4, .inl f))] s.heap.size = A at hD hZ ⊢
  have hA : ∀ q : Nat, s.heap.size ≤ q → A q := fun q h => by rw [← hAe]; exact Or.inr h
  have hS : va_S A s.heap s.heap [] := va_S.rf
  have f49 := hts (.fieldLink RX7 49 "HopCreditsModel" "thrown" "I") (by decide +kernel)
  have iX7 : ∀ w ∈ u_ws RX7 TX7 21, w ∈ wsX7_zone := by decide +kernel
  have hl := lv_entry ([.ref m_, .int p0, .int p1, .int p2]) (n := 6) (Nat.le_of_ble_eq_true rfl)
  rw [lg_entry_eq]
  generalize (lg_sl ([.ref m_, .int p0, .int p1, .int p2]) ++ List.replicate (6 - (lg_sl ([.ref m_, .int p0, .int p1, .int p2])).length) Slot.unset).toArray = ls at hl ⊢
  have hl : lv_has ls 6 [(0, .ref m_), (1, .int p0), (2, .int p1), (3, .int p2)] := hl
  generalize hQ : MQ below _ _ s _ _ _ = Q
  generalize hH : s.heap = H at hP ⊢
  have hS : va_S A s.heap H [] := by rw [← hH]; exact hS
  clear hH
  refine lv_aload_n hx hb dX7_zone_0 rfl (lv_at hl 0 rfl) ?_
  refine lv_iconst (v := 0) hx hb dX7_zone_1 (by decide) ?_
  refine va_put (D := D) (ci := 7) (v := .int 0) (ty := .int) (C := RX7) (T := TX7) (N := 21) hx hb hts iX7 tyX7 tyX7_ok nmX7 hown hK hP hD hS 0 rfl rfl 0 (by decide) f49 (fun _ h9 => h9) rfl (by decide +kernel) (rfl) (rfl) (Nat.le_of_ble_eq_true rfl) dX7_zone_2 (fun H locs hP hD hS => ?_)
  have hP : va_P D vwCl [(m_, .inr (7, [.int 0, .ref mt, .int tp, .int pa_, .int wr, .ref mrr, .ref mrh, .ref mrc, .int rh, .int rc, .ref mn, .ref mf, .ref mr, .ref mh, .int 0, .int 0, .ref ma, .ref mas, .ref msn, .ref mac, .ref mat])), (mf, .inl (g 0, 4, .inl f))] H := hP
  have hD : va_D A [(m_, .inr (7, [.int 0, .ref mt, .int tp, .int pa_, .int wr, .ref mrr, .ref mrh, .ref mrc, .int rh, .int rc, .ref mn, .ref mf, .ref mr, .ref mh, .int 0, .int 0, .ref ma, .ref mas, .ref msn, .ref mac, .ref mat])), (mf, .inl (g 0, 4, .inl f))] := hD
  refine lv_aload_n hx hb dX7_zone_5 rfl (lv_at hl 0 rfl) ?_
  refine lv_iload_n hx hb dX7_zone_6 rfl (lv_at hl 1 rfl) ?_
  refine lv_iload_n hx hb dX7_zone_7 rfl (lv_at hl 2 rfl) ?_
  refine lv_iload_n hx hb dX7_zone_8 rfl (lv_at hl 3 rfl) ?_
  refine ky_Vi (As := [.int p0, .int p1, .int p2]) (rest := []) ⟨hx, hb, hml, hown, hts⟩ ⟨hK, hN⟩ hZ hP hD hS hA [0] [1] (wc := [(m_, .inr (7, [.int 0, .ref mt, .int tp, .int pa_, .int wr, .ref mrr, .ref mrh, .ref mrc, .int rh, .int rc, .ref mn, .ref mf, .ref mr, .ref mh, .int 0, .int 0, .ref ma, .ref mas, .ref msn, .ref mac, .ref mat]))]) (wr := [(mf, .inl (g 0, 4, .inl f))]) rfl rfl rfl rfl (by decide) (c_X7_whyZone l D g H.size m_ 0 mt tp pa_ wr mrr mrh mrc rh rc mn mf mr mh ma mas msn mac mat p0 p1 p2) (cwV 3 hts gX7_zone_X7_whyZone rfl rfl rfl (by decide +kernel) ⟨(Nat.le_of_ble_eq_true rfl), (Nat.le_of_ble_eq_true rfl)⟩) 0 7 rfl rfl rfl rfl hl.1 rfl (Nat.le_of_ble_eq_true rfl) dX7_zone_9 ⟨(Nat.le_of_ble_eq_true rfl), (Nat.le_of_ble_eq_true rfl)⟩ (fun r_1 u H locs hw hP hD hS => ?_)
  obtain ⟨rfl, rfl⟩ := hw
  have hP : va_P D vwCl [(mf, .inl (g 0, 4, .inl f)), (m_, .inr (7, [.int 0, .ref mt, .int tp, .int pa_, .int wr, .ref mrr, .ref mrh, .ref mrc, .int rh, .int rc, .ref mn, .ref mf, .ref mr, .ref mh, .int 0, .int 0, .ref ma, .ref mas, .ref msn, .ref mac, .ref mat]))] H := hP
  have hD : va_D A [(mf, .inl (g 0, 4, .inl f)), (m_, .inr (7, [.int 0, .ref mt, .int tp, .int pa_, .int wr, .ref mrr, .ref mrh, .ref mrc, .int rh, .int rc, .ref mn, .ref mf, .ref mr, .ref mh, .int 0, .int 0, .ref ma, .ref mas, .ref msn, .ref mac, .ref mat]))] := hD
  refine W.widen (k := 0) (n := 0) (Nat.le_of_ble_eq_true rfl) (Nat.le_of_ble_eq_true rfl) ?_
  refine lv_istore (lv' := [(4, .int 0), (0, .ref m_), (1, .int p0), (2, .int p1), (3, .int p2)]) hx hb dX7_zone_12 hl (by decide) rfl (fun ls hl => ?_)
  refine lv_iload hx hb dX7_zone_14 (lv_at hl 0 rfl) ?_
  refine lv_iconst (v := (-1)) hx hb dX7_zone_16 (by decide) ?_
  refine lv_icmp_eq (tgt := 27) hx hb dX7_zone_17 (by decide) (fun cb => absurd cb (by decide)) (fun _ => ?_)
  refine lv_aload_n hx hb dX7_zone_20 rfl (lv_at hl 1 rfl) ?_
  refine lv_iload hx hb dX7_zone_21 (lv_at hl 0 rfl) ?_
  refine ky_Vi (As := [.int 0]) (rest := []) ⟨hx, hb, hml, hown, hts⟩ ⟨hK, hN⟩ hZ hP hD hS hA [1, 0] [] (wc := [(m_, .inr (7, [.int 0, .ref mt, .int tp, .int pa_, .int wr, .ref mrr, .ref mrh, .ref mrc, .int rh, .int rc, .ref mn, .ref mf, .ref mr, .ref mh, .int 0, .int 0, .ref ma, .ref mas, .ref msn, .ref mac, .ref mat])), (mf, .inl (g 0, 4, .inl f))]) (wr := []) rfl rfl rfl rfl (by decide) (c_X7_refuses l D g H.size m_ 0 mt tp pa_ wr mrr mrh mrc rh rc mn mf mr mh ma mas msn mac mat f) (cwV 1 hts gX7_zone_X7_refuses rfl rfl rfl (by decide +kernel) ⟨(Nat.le_of_ble_eq_true rfl), (Nat.le_of_ble_eq_true rfl)⟩) 1 7 rfl rfl rfl rfl hl.1 rfl (Nat.le_of_ble_eq_true rfl) dX7_zone_23 ⟨(Nat.le_of_ble_eq_true rfl), (Nat.le_of_ble_eq_true rfl)⟩ (fun r_2 u H locs hw hP hD hS => ?_)
  obtain ⟨rfl, rfl⟩ := hw
  have hP : va_P D vwCl [(m_, .inr (7, [.int 0, .ref mt, .int tp, .int pa_, .int wr, .ref mrr, .ref mrh, .ref mrc, .int rh, .int rc, .ref mn, .ref mf, .ref mr, .ref mh, .int 0, .int 0, .ref ma, .ref mas, .ref msn, .ref mac, .ref mat])), (mf, .inl (g 0, 4, .inl (upd f 0 (f 0 + 1))))] H := hP
  have hD : va_D A [(m_, .inr (7, [.int 0, .ref mt, .int tp, .int pa_, .int wr, .ref mrr, .ref mrh, .ref mrc, .int rh, .int rc, .ref mn, .ref mf, .ref mr, .ref mh, .int 0, .int 0, .ref ma, .ref mas, .ref msn, .ref mac, .ref mat])), (mf, .inl (g 0, 4, .inl (upd f 0 (f 0 + 1))))] := hD
  refine W.widen (k := 0) (n := 0) (Nat.le_of_ble_eq_true rfl) (Nat.le_of_ble_eq_true rfl) ?_
  have hP9 := hP.sub (ws' := [(m_, .inr (7, [.int 0, .ref mt, .int tp, .int pa_, .int wr, .ref mrr, .ref mrh, .ref mrc, .int rh, .int rc, .ref mn, .ref mf, .ref mr, .ref mh, .int 0, .int 0, .ref ma, .ref mas, .ref msn, .ref mac, .ref mat])), (mf, .inl (g 0, 4, .inl (upd f 0 (f 0 + 1))))]) [0, 1] rfl
  have hD9 := hD.sub (ws' := [(m_, .inr (7, [.int 0, .ref mt, .int tp, .int pa_, .int wr, .ref mrr, .ref mrh, .ref mrc, .int rh, .int rc, .ref mn, .ref mf, .ref mr, .ref mh, .int 0, .int 0, .ref ma, .ref mas, .ref msn, .ref mac, .ref mat])), (mf, .inl (g 0, 4, .inl (upd f 0 (f 0 + 1))))]) [0, 1] (by decide) rfl
  subst hQ
  refine W.widen (k := 0) (n := 0) (Nat.le_of_ble_eq_true rfl) (Nat.le_of_ble_eq_true rfl) ?_
  exact W.iret (v := (-1)) hx hb hr (fun tS htS _ => ⟨⟨_, _, rfl, ⟨rfl, rfl⟩, by rw [htS]; exact hP9, hD9⟩, hS.F htS⟩) hS.2.2 dX7_zone_26
set_option maxHeartbeats 4000000 in
set_option maxRecDepth 100000 in
/-- probe without a NET -/
theorem c_X7_probe (l : Launch) (D : va_G) (g : Nat → ClassId) (sz : Nat) (m_ : Nat) (th : Int32) (mt : Nat) (tp : Int32) (pa_ : Int32) (wr : Int32) (mrr : Nat) (mrh : Nat) (mrc : Nat) (rh : Int32) (rc : Int32) (mn : Nat) (mf : Nat) (mr : Nat) (mh : Nat) (ma : Nat) (mas : Nat) (msn : Nat) (mac : Nat) (mat : Nat) (p0 : Int32) (p1 : Int32) (f : Nat → Int32) : Met l yX7_probe wsX7_probe ({ frames := 3, cells := 0, slots := 0, locals := 65 }) (va_Pc [.ref m_, .int p0, .int p1] (pre D g sz [(m_, .inr (7, [.int th, .ref mt, .int tp, .int pa_, .int wr, .ref mrr, .ref mrh, .ref mrc, .int rh, .int rc, .ref mn, .ref mf, .ref mr, .ref mh, .int 0, .int 0, .ref ma, .ref mas, .ref msn, .ref mac, .ref mat])), (mf, .inl (g 0, 4, .inl f))])) (va_Qi (fun (r : Int32) (u : va_W) => u = [(m_, .inr (7, [.int 0, .ref mt, .int tp, .int pa_, .int wr, .ref mrr, .ref mrh, .ref mrc, .int rh, .int rc, .ref mn, .ref mf, .ref mr, .ref mh, .int 0, .int 0, .ref ma, .ref mas, .ref msn, .ref mac, .ref mat])), (mf, .inl (g 0, 4, .inl (upd f 0 (f 0 + 1))))] ∧ r = (-1)) (wd D (va_A [(m_, .inr (7, [.int th, .ref mt, .int tp, .int pa_, .int wr, .ref mrr, .ref mrh, .ref mrc, .int rh, .int rc, .ref mn, .ref mf, .ref mr, .ref mh, .int 0, .int 0, .ref ma, .ref mas, .ref msn, .ref mac, .ref mat])), (mf, .inl (g 0, 4, .inl f))] sz)) (va_A [(m_, .inr (7, [.int th, .ref mt, .int tp, .int pa_, .int wr, .ref mrr, .ref mrh, .ref mrc, .int rh, .int rc, .ref mn, .ref mf, .ref mr, .ref mh, .int 0, .int 0, .ref ma, .ref mas, .ref msn, .ref mac, .ref mat])), (mf, .inl (g 0, 4, .inl f))] sz)) 0 0 (va_A [(m_, .inr (7, [.int th, .ref mt, .int tp, .int pa_, .int wr, .ref mrr, .ref mrh, .ref mrc, .int rh, .int rc, .ref mn, .ref mf, .ref mr, .ref mh, .int 0, .int 0, .ref ma, .ref mas, .ref msn, .ref mac, .ref mat])), (mf, .inl (g 0, 4, .inl f))] sz) := by
  refine Met.ofW (cc := cX7_probe) (maxL := 3) (ret := (some .int)) (by decide) rfl ?_
  intro p e s m args below meth c s₁ B hml hv
  obtain ⟨rfl, hsz, hP, ⟨hK, hN⟩, hD0, hZ⟩ := hv
  have hx := B.exec
  have hb := B.bytes
  have hr := B.returns
  have hts := atoms_spec (ws := wsX7_probe) B.pre
  have hown : s.vm.findClass RX7 = some m.cls := findClass_of_methodNamed B.named
  have hlocks := B.notSynchronized
  clear B
  subst hsz
  have hD := hD0.self (sz := s.heap.size)
  clear hD0
  generalize hAe : va_A [(m_, .inr (7, [.int th, .ref mt, .int tp, .int pa_, .int wr, .ref mrr, .ref mrh, .ref mrc, .int rh, .int rc, .ref mn, .ref mf, .ref mr, .ref mh, .int 0, .int 0, .ref ma, .ref mas, .ref msn, .ref mac, .ref mat])), (mf, .inl (g 0, 4, .inl f))] s.heap.size = A at hD hZ ⊢
  have hA : ∀ q : Nat, s.heap.size ≤ q → A q := fun q h => by rw [← hAe]; exact Or.inr h
  have hS : va_S A s.heap s.heap [] := va_S.rf
  have f49 := hts (.fieldLink RX7 49 "HopCreditsModel" "thrown" "I") (by decide +kernel)
  have iX7 : ∀ w ∈ u_ws RX7 TX7 21, w ∈ wsX7_probe := by decide +kernel
  have hl := lv_entry ([.ref m_, .int p0, .int p1]) (n := 3) (Nat.le_of_ble_eq_true rfl)
  rw [lg_entry_eq]
  generalize (lg_sl ([.ref m_, .int p0, .int p1]) ++ List.replicate (3 - (lg_sl ([.ref m_, .int p0, .int p1])).length) Slot.unset).toArray = ls at hl ⊢
  have hl : lv_has ls 3 [(0, .ref m_), (1, .int p0), (2, .int p1)] := hl
  generalize hQ : MQ below _ _ s _ _ _ = Q
  generalize hH : s.heap = H at hP ⊢
  have hS : va_S A s.heap H [] := by rw [← hH]; exact hS
  clear hH
  refine lv_aload_n hx hb dX7_probe_0 rfl (lv_at hl 0 rfl) ?_
  refine lv_iconst (v := 0) hx hb dX7_probe_1 (by decide) ?_
  refine va_put (D := D) (ci := 7) (v := .int 0) (ty := .int) (C := RX7) (T := TX7) (N := 21) hx hb hts iX7 tyX7 tyX7_ok nmX7 hown hK hP hD hS 0 rfl rfl 0 (by decide) f49 (fun _ h9 => h9) rfl (by decide +kernel) (rfl) (rfl) (Nat.le_of_ble_eq_true rfl) dX7_probe_2 (fun H locs hP hD hS => ?_)
  have hP : va_P D vwCl [(m_, .inr (7, [.int 0, .ref mt, .int tp, .int pa_, .int wr, .ref mrr, .ref mrh, .ref mrc, .int rh, .int rc, .ref mn, .ref mf, .ref mr, .ref mh, .int 0, .int 0, .ref ma, .ref mas, .ref msn, .ref mac, .ref mat])), (mf, .inl (g 0, 4, .inl f))] H := hP
  have hD : va_D A [(m_, .inr (7, [.int 0, .ref mt, .int tp, .int pa_, .int wr, .ref mrr, .ref mrh, .ref mrc, .int rh, .int rc, .ref mn, .ref mf, .ref mr, .ref mh, .int 0, .int 0, .ref ma, .ref mas, .ref msn, .ref mac, .ref mat])), (mf, .inl (g 0, 4, .inl f))] := hD
  refine lv_aload_n hx hb dX7_probe_5 rfl (lv_at hl 0 rfl) ?_
  refine lv_iload_n hx hb dX7_probe_6 rfl (lv_at hl 1 rfl) ?_
  refine lv_iload_n hx hb dX7_probe_7 rfl (lv_at hl 2 rfl) ?_
  refine ky_Vi (As := [.int p0, .int p1]) (rest := []) ⟨hx, hb, hml, hown, hts⟩ ⟨hK, hN⟩ hZ hP hD hS hA [0] [1] (wc := [(m_, .inr (7, [.int 0, .ref mt, .int tp, .int pa_, .int wr, .ref mrr, .ref mrh, .ref mrc, .int rh, .int rc, .ref mn, .ref mf, .ref mr, .ref mh, .int 0, .int 0, .ref ma, .ref mas, .ref msn, .ref mac, .ref mat]))]) (wr := [(mf, .inl (g 0, 4, .inl f))]) rfl rfl rfl rfl (by decide) (c_X7_isLane l D g H.size m_ 0 mt tp pa_ wr mrr mrh mrc rh rc mn mf mr mh ma mas msn mac mat p0 p1) (cwV 2 hts gX7_probe_X7_isLane rfl rfl rfl (by decide +kernel) ⟨(Nat.le_of_ble_eq_true rfl), (Nat.le_of_ble_eq_true rfl)⟩) 0 7 rfl rfl rfl rfl hl.1 rfl (Nat.le_of_ble_eq_true rfl) dX7_probe_8 ⟨(Nat.le_of_ble_eq_true rfl), (Nat.le_of_ble_eq_true rfl)⟩ (fun r_1 u H locs hw hP hD hS => ?_)
  obtain ⟨rfl, rfl⟩ := hw
  have hP : va_P D vwCl [(mf, .inl (g 0, 4, .inl f)), (m_, .inr (7, [.int 0, .ref mt, .int tp, .int pa_, .int wr, .ref mrr, .ref mrh, .ref mrc, .int rh, .int rc, .ref mn, .ref mf, .ref mr, .ref mh, .int 0, .int 0, .ref ma, .ref mas, .ref msn, .ref mac, .ref mat]))] H := hP
  have hD : va_D A [(mf, .inl (g 0, 4, .inl f)), (m_, .inr (7, [.int 0, .ref mt, .int tp, .int pa_, .int wr, .ref mrr, .ref mrh, .ref mrc, .int rh, .int rc, .ref mn, .ref mf, .ref mr, .ref mh, .int 0, .int 0, .ref ma, .ref mas, .ref msn, .ref mac, .ref mat]))] := hD
  refine W.widen (k := 0) (n := 0) (Nat.le_of_ble_eq_true rfl) (Nat.le_of_ble_eq_true rfl) ?_
  refine lv_if_ne (tgt := 20) hx hb dX7_probe_11 (by decide) (fun cb => absurd (by decide) cb) (fun _ => ?_)
  refine lv_aload_n hx hb dX7_probe_14 rfl (lv_at hl 0 rfl) ?_
  refine lv_iconst (v := 0) hx hb dX7_probe_15 (by decide) ?_
  refine ky_Vi (As := [.int 0]) (rest := []) ⟨hx, hb, hml, hown, hts⟩ ⟨hK, hN⟩ hZ hP hD hS hA [1, 0] [] (wc := [(m_, .inr (7, [.int 0, .ref mt, .int tp, .int pa_, .int wr, .ref mrr, .ref mrh, .ref mrc, .int rh, .int rc, .ref mn, .ref mf, .ref mr, .ref mh, .int 0, .int 0, .ref ma, .ref mas, .ref msn, .ref mac, .ref mat])), (mf, .inl (g 0, 4, .inl f))]) (wr := []) rfl rfl rfl rfl (by decide) (c_X7_refuses l D g H.size m_ 0 mt tp pa_ wr mrr mrh mrc rh rc mn mf mr mh ma mas msn mac mat f) (cwV 1 hts gX7_probe_X7_refuses rfl rfl rfl (by decide +kernel) ⟨(Nat.le_of_ble_eq_true rfl), (Nat.le_of_ble_eq_true rfl)⟩) 1 7 rfl rfl rfl rfl hl.1 rfl (Nat.le_of_ble_eq_true rfl) dX7_probe_16 ⟨(Nat.le_of_ble_eq_true rfl), (Nat.le_of_ble_eq_true rfl)⟩ (fun r_2 u H locs hw hP hD hS => ?_)
  obtain ⟨rfl, rfl⟩ := hw
  have hP : va_P D vwCl [(m_, .inr (7, [.int 0, .ref mt, .int tp, .int pa_, .int wr, .ref mrr, .ref mrh, .ref mrc, .int rh, .int rc, .ref mn, .ref mf, .ref mr, .ref mh, .int 0, .int 0, .ref ma, .ref mas, .ref msn, .ref mac, .ref mat])), (mf, .inl (g 0, 4, .inl (upd f 0 (f 0 + 1))))] H := hP
  have hD : va_D A [(m_, .inr (7, [.int 0, .ref mt, .int tp, .int pa_, .int wr, .ref mrr, .ref mrh, .ref mrc, .int rh, .int rc, .ref mn, .ref mf, .ref mr, .ref mh, .int 0, .int 0, .ref ma, .ref mas, .ref msn, .ref mac, .ref mat])), (mf, .inl (g 0, 4, .inl (upd f 0 (f 0 + 1))))] := hD
  refine W.widen (k := 0) (n := 0) (Nat.le_of_ble_eq_true rfl) (Nat.le_of_ble_eq_true rfl) ?_
  have hP9 := hP.sub (ws' := [(m_, .inr (7, [.int 0, .ref mt, .int tp, .int pa_, .int wr, .ref mrr, .ref mrh, .ref mrc, .int rh, .int rc, .ref mn, .ref mf, .ref mr, .ref mh, .int 0, .int 0, .ref ma, .ref mas, .ref msn, .ref mac, .ref mat])), (mf, .inl (g 0, 4, .inl (upd f 0 (f 0 + 1))))]) [0, 1] rfl
  have hD9 := hD.sub (ws' := [(m_, .inr (7, [.int 0, .ref mt, .int tp, .int pa_, .int wr, .ref mrr, .ref mrh, .ref mrc, .int rh, .int rc, .ref mn, .ref mf, .ref mr, .ref mh, .int 0, .int 0, .ref ma, .ref mas, .ref msn, .ref mac, .ref mat])), (mf, .inl (g 0, 4, .inl (upd f 0 (f 0 + 1))))]) [0, 1] (by decide) rfl
  subst hQ
  refine W.widen (k := 0) (n := 0) (Nat.le_of_ble_eq_true rfl) (Nat.le_of_ble_eq_true rfl) ?_
  exact W.iret (v := (-1)) hx hb hr (fun tS htS _ => ⟨⟨_, _, rfl, ⟨rfl, rfl⟩, by rw [htS]; exact hP9, hD9⟩, hS.F htS⟩) hS.2.2 dX7_probe_19
set_option maxHeartbeats 4000000 in
set_option maxRecDepth 100000 in
/-- hop without a NET: none -/
theorem c_X7_hop (l : Launch) (D : va_G) (g : Nat → ClassId) (sz : Nat) (m_ : Nat) (th : Int32) (mt : Nat) (tp : Int32) (pa_ : Int32) (wr : Int32) (mrr : Nat) (mrh : Nat) (mrc : Nat) (rh : Int32) (rc : Int32) (mn : Nat) (mf : Nat) (mr : Nat) (mh : Nat) (ma : Nat) (mas : Nat) (msn : Nat) (mac : Nat) (mat : Nat) (p0 : Int32) (p1 : Int32) : Met l yX7_hop wsX7_hop ({ frames := 2, cells := 0, slots := 0, locals := 43 }) (va_Pc [.ref m_, .int p0, .int p1] (pre D g sz [(m_, .inr (7, [.int th, .ref mt, .int tp, .int pa_, .int wr, .ref mrr, .ref mrh, .ref mrc, .int rh, .int rc, .ref mn, .ref mf, .ref mr, .ref mh, .int 0, .int 0, .ref ma, .ref mas, .ref msn, .ref mac, .ref mat]))])) (va_Qi (fun (r : Int32) (u : va_W) => u = [(m_, .inr (7, [.int 1, .ref mt, .int tp, .int pa_, .int wr, .ref mrr, .ref mrh, .ref mrc, .int rh, .int rc, .ref mn, .ref mf, .ref mr, .ref mh, .int 0, .int 0, .ref ma, .ref mas, .ref msn, .ref mac, .ref mat]))] ∧ r = 0) (wd D (va_A [(m_, .inr (7, [.int th, .ref mt, .int tp, .int pa_, .int wr, .ref mrr, .ref mrh, .ref mrc, .int rh, .int rc, .ref mn, .ref mf, .ref mr, .ref mh, .int 0, .int 0, .ref ma, .ref mas, .ref msn, .ref mac, .ref mat]))] sz)) (va_A [(m_, .inr (7, [.int th, .ref mt, .int tp, .int pa_, .int wr, .ref mrr, .ref mrh, .ref mrc, .int rh, .int rc, .ref mn, .ref mf, .ref mr, .ref mh, .int 0, .int 0, .ref ma, .ref mas, .ref msn, .ref mac, .ref mat]))] sz)) 0 0 (va_A [(m_, .inr (7, [.int th, .ref mt, .int tp, .int pa_, .int wr, .ref mrr, .ref mrh, .ref mrc, .int rh, .int rc, .ref mn, .ref mf, .ref mr, .ref mh, .int 0, .int 0, .ref ma, .ref mas, .ref msn, .ref mac, .ref mat]))] sz) := by
  refine Met.ofW (cc := cX7_hop) (maxL := 3) (ret := (some .int)) (by decide) rfl ?_
  intro p e s m args below meth c s₁ B hml hv
  obtain ⟨rfl, hsz, hP, ⟨hK, hN⟩, hD0, hZ⟩ := hv
  have hx := B.exec
  have hb := B.bytes
  have hr := B.returns
  have hts := atoms_spec (ws := wsX7_hop) B.pre
  have hown : s.vm.findClass RX7 = some m.cls := findClass_of_methodNamed B.named
  have hlocks := B.notSynchronized
  clear B
  subst hsz
  have hD := hD0.self (sz := s.heap.size)
  clear hD0
  generalize hAe : va_A [(m_, .inr (7, [.int th, .ref mt, .int tp, .int pa_, .int wr, .ref mrr, .ref mrh, .ref mrc, .int rh, .int rc, .ref mn, .ref mf, .ref mr, .ref mh, .int 0, .int 0, .ref ma, .ref mas, .ref msn, .ref mac, .ref mat]))] s.heap.size = A at hD hZ ⊢
  have hA : ∀ q : Nat, s.heap.size ≤ q → A q := fun q h => by rw [← hAe]; exact Or.inr h
  have hS : va_S A s.heap s.heap [] := va_S.rf
  have f49 := hts (.fieldLink RX7 49 "HopCreditsModel" "thrown" "I") (by decide +kernel)
  have iX7 : ∀ w ∈ u_ws RX7 TX7 21, w ∈ wsX7_hop := by decide +kernel
  have hl := lv_entry ([.ref m_, .int p0, .int p1]) (n := 3) (Nat.le_of_ble_eq_true rfl)
  rw [lg_entry_eq]
  generalize (lg_sl ([.ref m_, .int p0, .int p1]) ++ List.replicate (3 - (lg_sl ([.ref m_, .int p0, .int p1])).length) Slot.unset).toArray = ls at hl ⊢
  have hl : lv_has ls 3 [(0, .ref m_), (1, .int p0), (2, .int p1)] := hl
  generalize hQ : MQ below _ _ s _ _ _ = Q
  generalize hH : s.heap = H at hP ⊢
  have hS : va_S A s.heap H [] := by rw [← hH]; exact hS
  clear hH
  refine lv_aload_n hx hb dX7_hop_0 rfl (lv_at hl 0 rfl) ?_
  refine lv_aload_n hx hb dX7_hop_1 rfl (lv_at hl 0 rfl) ?_
  refine lv_iload_n hx hb dX7_hop_2 rfl (lv_at hl 1 rfl) ?_
  refine ky_Vi (As := [.int p0]) (rest := [.ref m_]) ⟨hx, hb, hml, hown, hts⟩ ⟨hK, hN⟩ hZ hP hD hS hA [0] [] (wc := [(m_, .inr (7, [.int th, .ref mt, .int tp, .int pa_, .int wr, .ref mrr, .ref mrh, .ref mrc, .int rh, .int rc, .ref mn, .ref mf, .ref mr, .ref mh, .int 0, .int 0, .ref ma, .ref mas, .ref msn, .ref mac, .ref mat]))]) (wr := []) rfl rfl rfl rfl (by decide) (c_X7_isHop l D g H.size m_ th mt tp pa_ wr mrr mrh mrc rh rc mn mf mr mh ma mas msn mac mat p0) (cwV 1 hts gX7_hop_X7_isHop rfl rfl rfl (by decide +kernel) ⟨(Nat.le_of_ble_eq_true rfl), (Nat.le_of_ble_eq_true rfl)⟩) 0 7 rfl rfl rfl rfl hl.1 rfl (Nat.le_of_ble_eq_true rfl) dX7_hop_3 ⟨(Nat.le_of_ble_eq_true rfl), (Nat.le_of_ble_eq_true rfl)⟩ (fun r_1 u H locs hw hP hD hS => ?_)
  obtain ⟨rfl, rfl⟩ := hw
  have hP : va_P D vwCl [(m_, .inr (7, [.int th, .ref mt, .int tp, .int pa_, .int wr, .ref mrr, .ref mrh, .ref mrc, .int rh, .int rc, .ref mn, .ref mf, .ref mr, .ref mh, .int 0, .int 0, .ref ma, .ref mas, .ref msn, .ref mac, .ref mat]))] H := hP
  have hD : va_D A [(m_, .inr (7, [.int th, .ref mt, .int tp, .int pa_, .int wr, .ref mrr, .ref mrh, .ref mrc, .int rh, .int rc, .ref mn, .ref mf, .ref mr, .ref mh, .int 0, .int 0, .ref ma, .ref mas, .ref msn, .ref mac, .ref mat]))] := hD
  refine W.widen (k := 0) (n := 0) (Nat.le_of_ble_eq_true rfl) (Nat.le_of_ble_eq_true rfl) ?_
  refine lv_if_eq (tgt := 23) hx hb dX7_hop_6 (by decide) (fun _ => ?_) (fun cb => absurd (by decide) cb)
  refine lv_iconst (v := 1) hx hb dX7_hop_23 (by decide) ?_
  refine va_put (D := D) (ci := 7) (v := .int 1) (ty := .int) (C := RX7) (T := TX7) (N := 21) hx hb hts iX7 tyX7 tyX7_ok nmX7 hown hK hP hD hS 0 rfl rfl 0 (by decide) f49 (fun _ h9 => h9) rfl (by decide +kernel) (rfl) (rfl) (Nat.le_of_ble_eq_true rfl) dX7_hop_24 (fun H locs hP hD hS => ?_)
  have hP : va_P D vwCl [(m_, .inr (7, [.int 1, .ref mt, .int tp, .int pa_, .int wr, .ref mrr, .ref mrh, .ref mrc, .int rh, .int rc, .ref mn, .ref mf, .ref mr, .ref mh, .int 0, .int 0, .ref ma, .ref mas, .ref msn, .ref mac, .ref mat]))] H := hP
  have hD : va_D A [(m_, .inr (7, [.int 1, .ref mt, .int tp, .int pa_, .int wr, .ref mrr, .ref mrh, .ref mrc, .int rh, .int rc, .ref mn, .ref mf, .ref mr, .ref mh, .int 0, .int 0, .ref ma, .ref mas, .ref msn, .ref mac, .ref mat]))] := hD
  refine lv_aload_n hx hb dX7_hop_27 rfl (lv_at hl 0 rfl) ?_
  refine va_get (D := D) (ci := 7) (v := .int 1) (C := RX7) (T := TX7) (N := 21) hx hb hts iX7 hown hK hP 0 rfl rfl 0 (by decide) f49 (fun _ h9 => h9) rfl dX7_hop_28 ?_
  refine lv_iconst (v := 1) hx hb dX7_hop_31 (by decide) ?_
  refine lv_icmp_ne (tgt := 37) hx hb dX7_hop_32 (by decide) (fun cb => absurd (by decide) cb) (fun _ => ?_)
  refine lv_iconst (v := 0) hx hb dX7_hop_35 (by decide) ?_
  have hP9 := hP.sub (ws' := [(m_, .inr (7, [.int 1, .ref mt, .int tp, .int pa_, .int wr, .ref mrr, .ref mrh, .ref mrc, .int rh, .int rc, .ref mn, .ref mf, .ref mr, .ref mh, .int 0, .int 0, .ref ma, .ref mas, .ref msn, .ref mac, .ref mat]))]) [0] rfl
  have hD9 := hD.sub (ws' := [(m_, .inr (7, [.int 1, .ref mt, .int tp, .int pa_, .int wr, .ref mrr, .ref mrh, .ref mrc, .int rh, .int rc, .ref mn, .ref mf, .ref mr, .ref mh, .int 0, .int 0, .ref ma, .ref mas, .ref msn, .ref mac, .ref mat]))]) [0] (by decide) rfl
  subst hQ
  refine W.widen (k := 0) (n := 0) (Nat.le_of_ble_eq_true rfl) (Nat.le_of_ble_eq_true rfl) ?_
  exact W.iret (v := 0) hx hb hr (fun tS htS _ => ⟨⟨_, _, rfl, ⟨rfl, rfl⟩, by rw [htS]; exact hP9, hD9⟩, hS.F htS⟩) hS.2.2 dX7_hop_36
set_option maxHeartbeats 4000000 in
set_option maxRecDepth 100000 in
/-- circuit without a NET: none -/
theorem c_X7_circuit (l : Launch) (D : va_G) (g : Nat → ClassId) (sz : Nat) (m_ : Nat) (th : Int32) (mt : Nat) (tp : Int32) (pa_ : Int32) (wr : Int32) (mrr : Nat) (mrh : Nat) (mrc : Nat) (rh : Int32) (rc : Int32) (mn : Nat) (mf : Nat) (mr : Nat) (mh : Nat) (ma : Nat) (mas : Nat) (msn : Nat) (mac : Nat) (mat : Nat) (p0 : Int32) (p1 : Int32) : Met l yX7_circuit wsX7_circuit ({ frames := 2, cells := 0, slots := 0, locals := 43 }) (va_Pc [.ref m_, .int p0, .int p1] (pre D g sz [(m_, .inr (7, [.int th, .ref mt, .int tp, .int pa_, .int wr, .ref mrr, .ref mrh, .ref mrc, .int rh, .int rc, .ref mn, .ref mf, .ref mr, .ref mh, .int 0, .int 0, .ref ma, .ref mas, .ref msn, .ref mac, .ref mat]))])) (va_Qi (fun (r : Int32) (u : va_W) => u = [(m_, .inr (7, [.int 1, .ref mt, .int tp, .int pa_, .int wr, .ref mrr, .ref mrh, .ref mrc, .int rh, .int rc, .ref mn, .ref mf, .ref mr, .ref mh, .int 0, .int 0, .ref ma, .ref mas, .ref msn, .ref mac, .ref mat]))] ∧ r = 0) (wd D (va_A [(m_, .inr (7, [.int th, .ref mt, .int tp, .int pa_, .int wr, .ref mrr, .ref mrh, .ref mrc, .int rh, .int rc, .ref mn, .ref mf, .ref mr, .ref mh, .int 0, .int 0, .ref ma, .ref mas, .ref msn, .ref mac, .ref mat]))] sz)) (va_A [(m_, .inr (7, [.int th, .ref mt, .int tp, .int pa_, .int wr, .ref mrr, .ref mrh, .ref mrc, .int rh, .int rc, .ref mn, .ref mf, .ref mr, .ref mh, .int 0, .int 0, .ref ma, .ref mas, .ref msn, .ref mac, .ref mat]))] sz)) 0 0 (va_A [(m_, .inr (7, [.int th, .ref mt, .int tp, .int pa_, .int wr, .ref mrr, .ref mrh, .ref mrc, .int rh, .int rc, .ref mn, .ref mf, .ref mr, .ref mh, .int 0, .int 0, .ref ma, .ref mas, .ref msn, .ref mac, .ref mat]))] sz) := by
  refine Met.ofW (cc := cX7_circuit) (maxL := 3) (ret := (some .int)) (by decide) rfl ?_
  intro p e s m args below meth c s₁ B hml hv
  obtain ⟨rfl, hsz, hP, ⟨hK, hN⟩, hD0, hZ⟩ := hv
  have hx := B.exec
  have hb := B.bytes
  have hr := B.returns
  have hts := atoms_spec (ws := wsX7_circuit) B.pre
  have hown : s.vm.findClass RX7 = some m.cls := findClass_of_methodNamed B.named
  have hlocks := B.notSynchronized
  clear B
  subst hsz
  have hD := hD0.self (sz := s.heap.size)
  clear hD0
  generalize hAe : va_A [(m_, .inr (7, [.int th, .ref mt, .int tp, .int pa_, .int wr, .ref mrr, .ref mrh, .ref mrc, .int rh, .int rc, .ref mn, .ref mf, .ref mr, .ref mh, .int 0, .int 0, .ref ma, .ref mas, .ref msn, .ref mac, .ref mat]))] s.heap.size = A at hD hZ ⊢
  have hA : ∀ q : Nat, s.heap.size ≤ q → A q := fun q h => by rw [← hAe]; exact Or.inr h
  have hS : va_S A s.heap s.heap [] := va_S.rf
  have f49 := hts (.fieldLink RX7 49 "HopCreditsModel" "thrown" "I") (by decide +kernel)
  have iX7 : ∀ w ∈ u_ws RX7 TX7 21, w ∈ wsX7_circuit := by decide +kernel
  have hl := lv_entry ([.ref m_, .int p0, .int p1]) (n := 3) (Nat.le_of_ble_eq_true rfl)
  rw [lg_entry_eq]
  generalize (lg_sl ([.ref m_, .int p0, .int p1]) ++ List.replicate (3 - (lg_sl ([.ref m_, .int p0, .int p1])).length) Slot.unset).toArray = ls at hl ⊢
  have hl : lv_has ls 3 [(0, .ref m_), (1, .int p0), (2, .int p1)] := hl
  generalize hQ : MQ below _ _ s _ _ _ = Q
  generalize hH : s.heap = H at hP ⊢
  have hS : va_S A s.heap H [] := by rw [← hH]; exact hS
  clear hH
  refine lv_aload_n hx hb dX7_circuit_0 rfl (lv_at hl 0 rfl) ?_
  refine lv_aload_n hx hb dX7_circuit_1 rfl (lv_at hl 0 rfl) ?_
  refine lv_iload_n hx hb dX7_circuit_2 rfl (lv_at hl 1 rfl) ?_
  refine ky_Vi (As := [.int p0]) (rest := [.ref m_]) ⟨hx, hb, hml, hown, hts⟩ ⟨hK, hN⟩ hZ hP hD hS hA [0] [] (wc := [(m_, .inr (7, [.int th, .ref mt, .int tp, .int pa_, .int wr, .ref mrr, .ref mrh, .ref mrc, .int rh, .int rc, .ref mn, .ref mf, .ref mr, .ref mh, .int 0, .int 0, .ref ma, .ref mas, .ref msn, .ref mac, .ref mat]))]) (wr := []) rfl rfl rfl rfl (by decide) (c_X7_isCircuit l D g H.size m_ th mt tp pa_ wr mrr mrh mrc rh rc mn mf mr mh ma mas msn mac mat p0) (cwV 1 hts gX7_circuit_X7_isCircuit rfl rfl rfl (by decide +kernel) ⟨(Nat.le_of_ble_eq_true rfl), (Nat.le_of_ble_eq_true rfl)⟩) 0 7 rfl rfl rfl rfl hl.1 rfl (Nat.le_of_ble_eq_true rfl) dX7_circuit_3 ⟨(Nat.le_of_ble_eq_true rfl), (Nat.le_of_ble_eq_true rfl)⟩ (fun r_1 u H locs hw hP hD hS => ?_)
  obtain ⟨rfl, rfl⟩ := hw
  have hP : va_P D vwCl [(m_, .inr (7, [.int th, .ref mt, .int tp, .int pa_, .int wr, .ref mrr, .ref mrh, .ref mrc, .int rh, .int rc, .ref mn, .ref mf, .ref mr, .ref mh, .int 0, .int 0, .ref ma, .ref mas, .ref msn, .ref mac, .ref mat]))] H := hP
  have hD : va_D A [(m_, .inr (7, [.int th, .ref mt, .int tp, .int pa_, .int wr, .ref mrr, .ref mrh, .ref mrc, .int rh, .int rc, .ref mn, .ref mf, .ref mr, .ref mh, .int 0, .int 0, .ref ma, .ref mas, .ref msn, .ref mac, .ref mat]))] := hD
  refine W.widen (k := 0) (n := 0) (Nat.le_of_ble_eq_true rfl) (Nat.le_of_ble_eq_true rfl) ?_
  refine lv_if_eq (tgt := 23) hx hb dX7_circuit_6 (by decide) (fun _ => ?_) (fun cb => absurd (by decide) cb)
  refine lv_iconst (v := 1) hx hb dX7_circuit_23 (by decide) ?_
  refine va_put (D := D) (ci := 7) (v := .int 1) (ty := .int) (C := RX7) (T := TX7) (N := 21) hx hb hts iX7 tyX7 tyX7_ok nmX7 hown hK hP hD hS 0 rfl rfl 0 (by decide) f49 (fun _ h9 => h9) rfl (by decide +kernel) (rfl) (rfl) (Nat.le_of_ble_eq_true rfl) dX7_circuit_24 (fun H locs hP hD hS => ?_)
  have hP : va_P D vwCl [(m_, .inr (7, [.int 1, .ref mt, .int tp, .int pa_, .int wr, .ref mrr, .ref mrh, .ref mrc, .int rh, .int rc, .ref mn, .ref mf, .ref mr, .ref mh, .int 0, .int 0, .ref ma, .ref mas, .ref msn, .ref mac, .ref mat]))] H := hP
  have hD : va_D A [(m_, .inr (7, [.int 1, .ref mt, .int tp, .int pa_, .int wr, .ref mrr, .ref mrh, .ref mrc, .int rh, .int rc, .ref mn, .ref mf, .ref mr, .ref mh, .int 0, .int 0, .ref ma, .ref mas, .ref msn, .ref mac, .ref mat]))] := hD
  refine lv_aload_n hx hb dX7_circuit_27 rfl (lv_at hl 0 rfl) ?_
  refine va_get (D := D) (ci := 7) (v := .int 1) (C := RX7) (T := TX7) (N := 21) hx hb hts iX7 hown hK hP 0 rfl rfl 0 (by decide) f49 (fun _ h9 => h9) rfl dX7_circuit_28 ?_
  refine lv_iconst (v := 1) hx hb dX7_circuit_31 (by decide) ?_
  refine lv_icmp_ne (tgt := 37) hx hb dX7_circuit_32 (by decide) (fun cb => absurd (by decide) cb) (fun _ => ?_)
  refine lv_iconst (v := 0) hx hb dX7_circuit_35 (by decide) ?_
  have hP9 := hP.sub (ws' := [(m_, .inr (7, [.int 1, .ref mt, .int tp, .int pa_, .int wr, .ref mrr, .ref mrh, .ref mrc, .int rh, .int rc, .ref mn, .ref mf, .ref mr, .ref mh, .int 0, .int 0, .ref ma, .ref mas, .ref msn, .ref mac, .ref mat]))]) [0] rfl
  have hD9 := hD.sub (ws' := [(m_, .inr (7, [.int 1, .ref mt, .int tp, .int pa_, .int wr, .ref mrr, .ref mrh, .ref mrc, .int rh, .int rc, .ref mn, .ref mf, .ref mr, .ref mh, .int 0, .int 0, .ref ma, .ref mas, .ref msn, .ref mac, .ref mat]))]) [0] (by decide) rfl
  subst hQ
  refine W.widen (k := 0) (n := 0) (Nat.le_of_ble_eq_true rfl) (Nat.le_of_ble_eq_true rfl) ?_
  exact W.iret (v := 0) hx hb hr (fun tS htS _ => ⟨⟨_, _, rfl, ⟨rfl, rfl⟩, by rw [htS]; exact hP9, hD9⟩, hS.F htS⟩) hS.2.2 dX7_circuit_36
