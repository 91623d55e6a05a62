set_option maxHeartbeats 4000000 in
set_option maxRecDepth 100000 in
theorem r_X4_kindOf (l : Launch) (D : va_G) (g : Nat → ClassId) (sz : Nat) (kx : Nat) (h0 : kx < 7) : Met l yX4_kindOf wsX4_kindOf ({ frames := 0, cells := 0, slots := 0, locals := 0 }) (va_Pc [.int (nI kx)] (pre D g sz [])) (va_Qi (fun (r : Int32) (u : va_W) => u = [] ∧ r = (nI (kdN kx))) (wd D (va_A [] sz)) (va_A [] sz)) 0 0 (va_A [] sz) := by
  refine Met.ofW (cc := cX4_kindOf) (maxL := 1) (ret := (some .int)) (by decide) rfl ?_
  intro p e s m args below meth c s₁ B hml hv
  obtain ⟨rfl, hsz, hP, ⟨hK, hN⟩, hD0, hZ⟩ := hv
  have hx := B.exec
  have hb := B.bytes
  have hr := B.returns
  have hts := atoms_spec (ws := wsX4_kindOf) B.pre
  have hown : s.vm.findClass RX4 = some m.cls := findClass_of_methodNamed B.named
  have hlocks := B.notSynchronized
  clear B
  subst hsz
  have hD := hD0.self (sz := s.heap.size)
  clear hD0
  generalize hAe : va_A [] s.heap.size = A at hD hZ ⊢
  have hA : ∀ q : Nat, s.heap.size ≤ q → A q := fun q h => by rw [← hAe]; exact Or.inr h
  have hS : va_S A s.heap s.heap [] := va_S.rf
  have hl := lv_entry ([.int (nI kx)]) (n := 1) (Nat.le_of_ble_eq_true rfl)
  rw [lg_entry_eq]
  generalize (lg_sl ([.int (nI kx)]) ++ List.replicate (1 - (lg_sl ([.int (nI kx)])).length) Slot.unset).toArray = ls at hl ⊢
  have hl : lv_has ls 1 [(0, .int (nI kx))] := hl
  generalize hQ : MQ below _ _ s _ _ _ = Q
  generalize hH : s.heap = H at hP ⊢
  have hS : va_S A s.heap H [] := by rw [← hH]; exact hS
  clear hH
  have hPq_1 := hP; have hDq_1 := hD; have hSq_1 := hS; have hlq_1 := hl; clear hP hD hS hl
  rcases (show kx = 0 ∨ kx = 1 ∨ kx = 2 ∨ kx = 3 ∨ kx = 4 ∨ kx = 5 ∨ kx = 6 by omega) with rfl | rfl | rfl | rfl | rfl | rfl | rfl
  · skip
    have hP := hPq_1; have hD := hDq_1; have hS := hSq_1; have hl := hlq_1; clear hPq_1 hDq_1 hSq_1 hlq_1
    refine lv_iload_n hx hb dX4_kindOf_0 rfl (lv_at hl 0 rfl) ?_
    refine lv_if_ne (tgt := 6) hx hb dX4_kindOf_1 (by decide) (fun cb => absurd (by decide) cb) (fun _ => ?_)
    refine lv_iconst (v := 0) hx hb dX4_kindOf_4 (by decide) ?_
    have hP9 := hP; have hD9 := hD
    subst hQ
    refine W.widen (k := 0) (n := 0) (Nat.le_of_ble_eq_true rfl) (Nat.le_of_ble_eq_true rfl) ?_
    exact W.iret (v := 0) hx hb hr (fun tS htS _ => ⟨⟨_, _, rfl, ⟨rfl, (show _ from by decide)⟩, by rw [htS]; exact hP9, hD9⟩, hS.F htS⟩) hS.2.2 dX4_kindOf_5
  · skip
    have hP := hPq_1; have hD := hDq_1; have hS := hSq_1; have hl := hlq_1; clear hPq_1 hDq_1 hSq_1 hlq_1
    refine lv_iload_n hx hb dX4_kindOf_0 rfl (lv_at hl 0 rfl) ?_
    refine lv_if_ne (tgt := 6) hx hb dX4_kindOf_1 (by decide) (fun _ => ?_) (fun cb => absurd cb (by decide))
    refine lv_iload_n hx hb dX4_kindOf_6 rfl (lv_at hl 0 rfl) ?_
    refine lv_iconst (v := 3) hx hb dX4_kindOf_7 (by decide) ?_
    refine lv_icmp_gt (tgt := 15) hx hb dX4_kindOf_8 (by decide) (fun cb => absurd cb (by decide)) (fun _ => ?_)
    refine lv_iconst (v := 1) hx hb dX4_kindOf_11 (by decide) ?_
    refine lv_goto (tgt := 16) hx hb dX4_kindOf_12 (by decide) ?_
    have hP9 := hP; have hD9 := hD
    subst hQ
    refine W.widen (k := 0) (n := 0) (Nat.le_of_ble_eq_true rfl) (Nat.le_of_ble_eq_true rfl) ?_
    exact W.iret (v := 1) hx hb hr (fun tS htS _ => ⟨⟨_, _, rfl, ⟨rfl, (show _ from by decide)⟩, by rw [htS]; exact hP9, hD9⟩, hS.F htS⟩) hS.2.2 dX4_kindOf_16
  · skip
    have hP := hPq_1; have hD := hDq_1; have hS := hSq_1; have hl := hlq_1; clear hPq_1 hDq_1 hSq_1 hlq_1
    refine lv_iload_n hx hb dX4_kindOf_0 rfl (lv_at hl 0 rfl) ?_
    refine lv_if_ne (tgt := 6) hx hb dX4_kindOf_1 (by decide) (fun _ => ?_) (fun cb => absurd cb (by decide))
    refine lv_iload_n hx hb dX4_kindOf_6 rfl (lv_at hl 0 rfl) ?_
    refine lv_iconst (v := 3) hx hb dX4_kindOf_7 (by decide) ?_
    refine lv_icmp_gt (tgt := 15) hx hb dX4_kindOf_8 (by decide) (fun cb => absurd cb (by decide)) (fun _ => ?_)
    refine lv_iconst (v := 1) hx hb dX4_kindOf_11 (by decide) ?_
    refine lv_goto (tgt := 16) hx hb dX4_kindOf_12 (by decide) ?_
    have hP9 := hP; have hD9 := hD
    subst hQ
    refine W.widen (k := 0) (n := 0) (Nat.le_of_ble_eq_true rfl) (Nat.le_of_ble_eq_true rfl) ?_
    exact W.iret (v := 1) hx hb hr (fun tS htS _ => ⟨⟨_, _, rfl, ⟨rfl, (show _ from by decide)⟩, by rw [htS]; exact hP9, hD9⟩, hS.F htS⟩) hS.2.2 dX4_kindOf_16
  · skip
    have hP := hPq_1; have hD := hDq_1; have hS := hSq_1; have hl := hlq_1; clear hPq_1 hDq_1 hSq_1 hlq_1
    refine lv_iload_n hx hb dX4_kindOf_0 rfl (lv_at hl 0 rfl) ?_
    refine lv_if_ne (tgt := 6) hx hb dX4_kindOf_1 (by decide) (fun _ => ?_) (fun cb => absurd cb (by decide))
    refine lv_iload_n hx hb dX4_kindOf_6 rfl (lv_at hl 0 rfl) ?_
    refine lv_iconst (v := 3) hx hb dX4_kindOf_7 (by decide) ?_
    refine lv_icmp_gt (tgt := 15) hx hb dX4_kindOf_8 (by decide) (fun cb => absurd cb (by decide)) (fun _ => ?_)
    refine lv_iconst (v := 1) hx hb dX4_kindOf_11 (by decide) ?_
    refine lv_goto (tgt := 16) hx hb dX4_kindOf_12 (by decide) ?_
    have hP9 := hP; have hD9 := hD
    subst hQ
    refine W.widen (k := 0) (n := 0) (Nat.le_of_ble_eq_true rfl) (Nat.le_of_ble_eq_true rfl) ?_
    exact W.iret (v := 1) hx hb hr (fun tS htS _ => ⟨⟨_, _, rfl, ⟨rfl, (show _ from by decide)⟩, by rw [htS]; exact hP9, hD9⟩, hS.F htS⟩) hS.2.2 dX4_kindOf_16
  · skip
    have hP := hPq_1; have hD := hDq_1; have hS := hSq_1; have hl := hlq_1; clear hPq_1 hDq_1 hSq_1 hlq_1
    refine lv_iload_n hx hb dX4_kindOf_0 rfl (lv_at hl 0 rfl) ?_
    refine lv_if_ne (tgt := 6) hx hb dX4_kindOf_1 (by decide) (fun _ => ?_) (fun cb => absurd cb (by decide))
    refine lv_iload_n hx hb dX4_kindOf_6 rfl (lv_at hl 0 rfl) ?_
    refine lv_iconst (v := 3) hx hb dX4_kindOf_7 (by decide) ?_
    refine lv_icmp_gt (tgt := 15) hx hb dX4_kindOf_8 (by decide) (fun _ => ?_) (fun cb => absurd (by decide) cb)
    refine lv_iconst (v := 2) hx hb dX4_kindOf_15 (by decide) ?_
    have hP9 := hP; have hD9 := hD
    subst hQ
    refine W.widen (k := 0) (n := 0) (Nat.le_of_ble_eq_true rfl) (Nat.le_of_ble_eq_true rfl) ?_
    exact W.iret (v := 2) hx hb hr (fun tS htS _ => ⟨⟨_, _, rfl, ⟨rfl, (show _ from by decide)⟩, by rw [htS]; exact hP9, hD9⟩, hS.F htS⟩) hS.2.2 dX4_kindOf_16
  · skip
    have hP := hPq_1; have hD := hDq_1; have hS := hSq_1; have hl := hlq_1; clear hPq_1 hDq_1 hSq_1 hlq_1
    refine lv_iload_n hx hb dX4_kindOf_0 rfl (lv_at hl 0 rfl) ?_
    refine lv_if_ne (tgt := 6) hx hb dX4_kindOf_1 (by decide) (fun _ => ?_) (fun cb => absurd cb (by decide))
    refine lv_iload_n hx hb dX4_kindOf_6 rfl (lv_at hl 0 rfl) ?_
    refine lv_iconst (v := 3) hx hb dX4_kindOf_7 (by decide) ?_
    refine lv_icmp_gt (tgt := 15) hx hb dX4_kindOf_8 (by decide) (fun _ => ?_) (fun cb => absurd (by decide) cb)
    refine lv_iconst (v := 2) hx hb dX4_kindOf_15 (by decide) ?_
    have hP9 := hP; have hD9 := hD
    subst hQ
    refine W.widen (k := 0) (n := 0) (Nat.le_of_ble_eq_true rfl) (Nat.le_of_ble_eq_true rfl) ?_
    exact W.iret (v := 2) hx hb hr (fun tS htS _ => ⟨⟨_, _, rfl, ⟨rfl, (show _ from by decide)⟩, by rw [htS]; exact hP9, hD9⟩, hS.F htS⟩) hS.2.2 dX4_kindOf_16
  · skip
    have hP := hPq_1; have hD := hDq_1; have hS := hSq_1; have hl := hlq_1; clear hPq_1 hDq_1 hSq_1 hlq_1
    refine lv_iload_n hx hb dX4_kindOf_0 rfl (lv_at hl 0 rfl) ?_
    refine lv_if_ne (tgt := 6) hx hb dX4_kindOf_1 (by decide) (fun _ => ?_) (fun cb => absurd cb (by decide))
    refine lv_iload_n hx hb dX4_kindOf_6 rfl (lv_at hl 0 rfl) ?_
    refine lv_iconst (v := 3) hx hb dX4_kindOf_7 (by decide) ?_
    refine lv_icmp_gt (tgt := 15) hx hb dX4_kindOf_8 (by decide) (fun _ => ?_) (fun cb => absurd (by decide) cb)
    refine lv_iconst (v := 2) hx hb dX4_kindOf_15 (by decide) ?_
    have hP9 := hP; have hD9 := hD
    subst hQ
    refine W.widen (k := 0) (n := 0) (Nat.le_of_ble_eq_true rfl) (Nat.le_of_ble_eq_true rfl) ?_
    exact W.iret (v := 2) hx hb hr (fun tS htS _ => ⟨⟨_, _, rfl, ⟨rfl, (show _ from by decide)⟩, by rw [htS]; exact hP9, hD9⟩, hS.F htS⟩) hS.2.2 dX4_kindOf_16

set_option maxHeartbeats 4000000 in
set_option maxRecDepth 100000 in
theorem r_X4_itemOf (l : Launch) (D : va_G) (g : Nat → ClassId) (sz : Nat) (kx : Nat) (zs : Int32) (h0 : kx < 3) : Met l yX4_itemOf wsX4_itemOf ({ frames := 4, cells := 0, slots := 0, locals := 85 }) (va_Pc [.int (nI kx), .int zs] (pre D g sz [])) (va_Qi (fun (r : Int32) (u : va_W) => u = [] ∧ r = (itK kx zs)) (wd D (va_A [] sz)) (va_A [] sz)) 0 0 (va_A [] sz) := by
  rcases (show kx = 0 ∨ kx = 1 ∨ kx = 2 by omega) with rfl | rfl | rfl
  · skip
    exact r_X4_itemOf_0 l D g sz zs
  · skip
    exact r_X4_itemOf_1 l D g sz zs
  · skip
    exact r_X4_itemOf_2 l D g sz zs

set_option maxHeartbeats 4000000 in
set_option maxRecDepth 100000 in
theorem r_X4_readNumber (l : Launch) (D : va_G) (g : Nat → ClassId) (sz : Nat) (Rd : Nat) (cl : Nat) (it : Nat) (Tp : Nat) (ln : Nat) (ax : Nat) (ht : Nat) (ct : Nat) (Rv : Nat) (ftp : Nat → Int32) (fval : Nat → Int32) (h0 : ln ≤ 160) (h1 : ax ≤ ln) (h2 : vOK fval) (h3 : cl < 7) (h4 : it < 3) : Met l yX4_readNumber wsX4_readNumber ({ frames := 1, cells := 0, slots := 0, locals := 22 }) (va_Pc [.ref Rd, .int (nI cl), .int (nI it)] (pre D g sz [(Rd, .inr (4, [.ref Tp, .int (nI ln), .int (nI ax), .int (-1), .int (nI ht), .int (nI ct), .ref Rv])), (Tp, .inl (g 0, 160, .inl ftp)), (Rv, .inl (g 0, 21, .inl fval))])) (va_Qv (fun (u : va_W) => ∃ (axx : Nat) (zfax : Int32) (fvalx : Nat → Int32), u = [(Rd, .inr (4, [.ref Tp, .int (nI ln), .int (nI axx), .int zfax, .int (nI ht), .int (nI ct), .ref Rv])), (Tp, .inl (g 0, 160, .inl ftp)), (Rv, .inl (g 0, 21, .inl fvalx))] ∧ (axx ≤ ln) ∧ (vOK fvalx) ∧ (zfax = nmF ftp ln ax (loK (kdN cl) it) (hiK (kdN cl) it)) ∧ (zfax = -1 → axx = nmE ftp ln ax ∧ fvalx = upd fval (3 * cl + it) (nmV ftp ln ax))) (wd D (va_A [(Rd, .inr (4, [.ref Tp, .int (nI ln), .int (nI ax), .int (-1), .int (nI ht), .int (nI ct), .ref Rv])), (Tp, .inl (g 0, 160, .inl ftp)), (Rv, .inl (g 0, 21, .inl fval))] sz)) (va_A [(Rd, .inr (4, [.ref Tp, .int (nI ln), .int (nI ax), .int (-1), .int (nI ht), .int (nI ct), .ref Rv])), (Tp, .inl (g 0, 160, .inl ftp)), (Rv, .inl (g 0, 21, .inl fval))] sz)) 0 0 (va_A [(Rd, .inr (4, [.ref Tp, .int (nI ln), .int (nI ax), .int (-1), .int (nI ht), .int (nI ct), .ref Rv])), (Tp, .inl (g 0, 160, .inl ftp)), (Rv, .inl (g 0, 21, .inl fval))] sz) := by
  rcases (show cl = 0 ∨ cl = 1 ∨ cl = 2 ∨ cl = 3 ∨ cl = 4 ∨ cl = 5 ∨ cl = 6 by omega) with rfl | rfl | rfl | rfl | rfl | rfl | rfl
  · skip
    rcases (show it = 0 ∨ it = 1 ∨ it = 2 by omega) with rfl | rfl | rfl
    · skip
      exact r_X4_readNumber_00 l D g sz Rd Tp ln ax ht ct Rv ftp fval h0 h1 h2
    · skip
      exact r_X4_readNumber_01 l D g sz Rd Tp ln ax ht ct Rv ftp fval h0 h1 h2
    · skip
      exact r_X4_readNumber_02 l D g sz Rd Tp ln ax ht ct Rv ftp fval h0 h1 h2
  · skip
    rcases (show it = 0 ∨ it = 1 ∨ it = 2 by omega) with rfl | rfl | rfl
    · skip
      exact r_X4_readNumber_10 l D g sz Rd Tp ln ax ht ct Rv ftp fval h0 h1 h2
    · skip
      exact r_X4_readNumber_11 l D g sz Rd Tp ln ax ht ct Rv ftp fval h0 h1 h2
    · skip
      exact r_X4_readNumber_12 l D g sz Rd Tp ln ax ht ct Rv ftp fval h0 h1 h2
  · skip
    rcases (show it = 0 ∨ it = 1 ∨ it = 2 by omega) with rfl | rfl | rfl
    · skip
      exact r_X4_readNumber_20 l D g sz Rd Tp ln ax ht ct Rv ftp fval h0 h1 h2
    · skip
      exact r_X4_readNumber_21 l D g sz Rd Tp ln ax ht ct Rv ftp fval h0 h1 h2
    · skip
      exact r_X4_readNumber_22 l D g sz Rd Tp ln ax ht ct Rv ftp fval h0 h1 h2
  · skip
    rcases (show it = 0 ∨ it = 1 ∨ it = 2 by omega) with rfl | rfl | rfl
    · skip
      exact r_X4_readNumber_30 l D g sz Rd Tp ln ax ht ct Rv ftp fval h0 h1 h2
    · skip
      exact r_X4_readNumber_31 l D g sz Rd Tp ln ax ht ct Rv ftp fval h0 h1 h2
    · skip
      exact r_X4_readNumber_32 l D g sz Rd Tp ln ax ht ct Rv ftp fval h0 h1 h2
  · skip
    rcases (show it = 0 ∨ it = 1 ∨ it = 2 by omega) with rfl | rfl | rfl
    · skip
      exact r_X4_readNumber_40 l D g sz Rd Tp ln ax ht ct Rv ftp fval h0 h1 h2
    · skip
      exact r_X4_readNumber_41 l D g sz Rd Tp ln ax ht ct Rv ftp fval h0 h1 h2
    · skip
      exact r_X4_readNumber_42 l D g sz Rd Tp ln ax ht ct Rv ftp fval h0 h1 h2
  · skip
    rcases (show it = 0 ∨ it = 1 ∨ it = 2 by omega) with rfl | rfl | rfl
    · skip
      exact r_X4_readNumber_50 l D g sz Rd Tp ln ax ht ct Rv ftp fval h0 h1 h2
    · skip
      exact r_X4_readNumber_51 l D g sz Rd Tp ln ax ht ct Rv ftp fval h0 h1 h2
    · skip
      exact r_X4_readNumber_52 l D g sz Rd Tp ln ax ht ct Rv ftp fval h0 h1 h2
  · skip
    rcases (show it = 0 ∨ it = 1 ∨ it = 2 by omega) with rfl | rfl | rfl
    · skip
      exact r_X4_readNumber_60 l D g sz Rd Tp ln ax ht ct Rv ftp fval h0 h1 h2
    · skip
      exact r_X4_readNumber_61 l D g sz Rd Tp ln ax ht ct Rv ftp fval h0 h1 h2
    · skip
      exact r_X4_readNumber_62 l D g sz Rd Tp ln ax ht ct Rv ftp fval h0 h1 h2
