set_option maxHeartbeats 4000000 in
set_option maxRecDepth 100000 in
theorem c_X6_signsIn (l : Launch) (D : va_G) (g : Nat → ClassId) (sz : Nat) (w : Int32) : Met l yX6_signsIn wsX6_signsIn ({ frames := 0, cells := 0, slots := 0, locals := 0 }) (va_Pc [.int w] (pre D g sz [])) (va_Qi (fun (r : Int32) (u : va_W) => u = [] ∧ r = (nI (sg w))) (wd D (va_A [] sz)) (va_A [] sz)) 0 0 (va_A [] sz) := by
  refine Met.ofW (cc := cX6_signsIn) (maxL := 3) (ret := (some .int)) (by decide) rfl ?_
  intro p e s m args below meth c s₁ B hml hv
  obtain ⟨rfl, hsz, hP, ⟨hK, hN⟩, hD0, hZ⟩ := hv
  have hx := B.exec
  have hb := B.bytes
  have hr := B.returns
  have hts := atoms_spec (ws := wsX6_signsIn) B.pre
  have hown : s.vm.findClass RX6 = some m.cls := findClass_of_methodNamed B.named
  have hlocks := B.notSynchronized
  clear B
  subst hsz
  have hD := hD0.self (sz := s.heap.size)
  clear hD0
  generalize hAe : va_A [] s.heap.size = A at hD hZ ⊢
  have hA : ∀ q : Nat, s.heap.size ≤ q → A q := fun q h => by rw [← hAe]; exact Or.inr h
  have hS : va_S A s.heap s.heap [] := va_S.rf
  have hl := lv_entry ([.int w]) (n := 3) (Nat.le_of_ble_eq_true rfl)
  rw [lg_entry_eq]
  generalize (lg_sl ([.int w]) ++ List.replicate (3 - (lg_sl ([.int w])).length) Slot.unset).toArray = ls at hl ⊢
  have hl : lv_has ls 3 [(0, .int w)] := hl
  generalize hQ : MQ below _ _ s _ _ _ = Q
  generalize hH : s.heap = H at hP ⊢
  have hS : va_S A s.heap H [] := by rw [← hH]; exact hS
  clear hH
  refine lv_iconst (v := 0) hx hb dX6_signsIn_0 (by decide) ?_
  refine lv_istore_n (lv' := [(1, .int 0), (0, .int w)]) hx hb dX6_signsIn_1 rfl hl (by decide) rfl (fun ls hl => ?_)
  refine lv_bipush (v := 24) hx hb dX6_signsIn_2 (by decide) ?_
  refine lv_istore_n (lv' := [(2, .int 24), (1, .int 0), (0, .int w)]) hx hb dX6_signsIn_4 rfl hl (by decide) rfl (fun ls hl => ?_)
  refine lv_iload_n hx hb dX6_signsIn_5 rfl (lv_at hl 0 rfl) ?_
  refine lv_if_lt (tgt := 28) hx hb dX6_signsIn_6 (by decide) (fun cb => absurd cb (by decide)) (fun _ => ?_)
  refine lv_iload_n hx hb dX6_signsIn_9 rfl (lv_at hl 2 rfl) ?_
  refine lv_iload_n hx hb dX6_signsIn_10 rfl (lv_at hl 0 rfl) ?_
  refine lv_iushr hx hb dX6_signsIn_11 rfl ?_
  refine lv_sipush (v := 255) hx hb dX6_signsIn_12 (by decide) ?_
  refine lv_iand hx hb dX6_signsIn_15 ?_
  refine lv_if_eq (tgt := 22) hx hb dX6_signsIn_16 (by decide) (fun cb_1 => ?_) (fun cb_1 => ?_)
  · skip
    refine lv_iinc (v := 16) (lv' := [(2, .int 16), (1, .int 0), (0, .int w)]) hx hb dX6_signsIn_22 hl (k := 0) rfl (by decide) (by decide) rfl (fun ls hl => ?_)
    refine lv_goto (tgt := 5) hx hb dX6_signsIn_25 (by decide) ?_
    refine lv_iload_n hx hb dX6_signsIn_5 rfl (lv_at hl 0 rfl) ?_
    refine lv_if_lt (tgt := 28) hx hb dX6_signsIn_6 (by decide) (fun cb => absurd cb (by decide)) (fun _ => ?_)
    refine lv_iload_n hx hb dX6_signsIn_9 rfl (lv_at hl 2 rfl) ?_
    refine lv_iload_n hx hb dX6_signsIn_10 rfl (lv_at hl 0 rfl) ?_
    refine lv_iushr hx hb dX6_signsIn_11 rfl ?_
    refine lv_sipush (v := 255) hx hb dX6_signsIn_12 (by decide) ?_
    refine lv_iand hx hb dX6_signsIn_15 ?_
    refine lv_if_eq (tgt := 22) hx hb dX6_signsIn_16 (by decide) (fun cb_2 => ?_) (fun cb_2 => ?_)
    · skip
      refine lv_iinc (v := 8) (lv' := [(2, .int 8), (1, .int 0), (0, .int w)]) hx hb dX6_signsIn_22 hl (k := 0) rfl (by decide) (by decide) rfl (fun ls hl => ?_)
      refine lv_goto (tgt := 5) hx hb dX6_signsIn_25 (by decide) ?_
      refine lv_iload_n hx hb dX6_signsIn_5 rfl (lv_at hl 0 rfl) ?_
      refine lv_if_lt (tgt := 28) hx hb dX6_signsIn_6 (by decide) (fun cb => absurd cb (by decide)) (fun _ => ?_)
      refine lv_iload_n hx hb dX6_signsIn_9 rfl (lv_at hl 2 rfl) ?_
      refine lv_iload_n hx hb dX6_signsIn_10 rfl (lv_at hl 0 rfl) ?_
      refine lv_iushr hx hb dX6_signsIn_11 rfl ?_
      refine lv_sipush (v := 255) hx hb dX6_signsIn_12 (by decide) ?_
      refine lv_iand hx hb dX6_signsIn_15 ?_
      refine lv_if_eq (tgt := 22) hx hb dX6_signsIn_16 (by decide) (fun cb_3 => ?_) (fun cb_3 => ?_)
      · skip
        refine lv_iinc (v := 0) (lv' := [(2, .int 0), (1, .int 0), (0, .int w)]) hx hb dX6_signsIn_22 hl (k := 0) rfl (by decide) (by decide) rfl (fun ls hl => ?_)
        refine lv_goto (tgt := 5) hx hb dX6_signsIn_25 (by decide) ?_
        refine lv_iload_n hx hb dX6_signsIn_5 rfl (lv_at hl 0 rfl) ?_
        refine lv_if_lt (tgt := 28) hx hb dX6_signsIn_6 (by decide) (fun cb => absurd cb (by decide)) (fun _ => ?_)
        refine lv_iload_n hx hb dX6_signsIn_9 rfl (lv_at hl 2 rfl) ?_
        refine lv_iload_n hx hb dX6_signsIn_10 rfl (lv_at hl 0 rfl) ?_
        refine lv_iushr hx hb dX6_signsIn_11 rfl ?_
        refine lv_sipush (v := 255) hx hb dX6_signsIn_12 (by decide) ?_
        refine lv_iand hx hb dX6_signsIn_15 ?_
        refine lv_if_eq (tgt := 22) hx hb dX6_signsIn_16 (by decide) (fun cb_4 => ?_) (fun cb_4 => ?_)
        · skip
          refine lv_iinc (v := (-8)) (lv' := [(2, .int (-8)), (1, .int 0), (0, .int w)]) hx hb dX6_signsIn_22 hl (k := 0) rfl (by decide) (by decide) rfl (fun ls hl => ?_)
          refine lv_goto (tgt := 5) hx hb dX6_signsIn_25 (by decide) ?_
          refine lv_iload_n hx hb dX6_signsIn_5 rfl (lv_at hl 0 rfl) ?_
          refine lv_if_lt (tgt := 28) hx hb dX6_signsIn_6 (by decide) (fun _ => ?_) (fun cb => absurd (by decide) cb)
          refine lv_iload_n hx hb dX6_signsIn_28 rfl (lv_at hl 1 rfl) ?_
          have hP9 := hP.sub (ws' := []) [] rfl
          have hD9 := hD.sub (ws' := []) [] (by decide) rfl
          subst hQ
          refine W.widen (k := 0) (n := 0) (Nat.le_of_ble_eq_true rfl) (Nat.le_of_ble_eq_true rfl) ?_
          exact W.iret (v := 0) hx hb hr (fun tS htS _ => ⟨⟨_, _, rfl, ⟨rfl, by rw [sg, bz_0 cb_1, bz_0 cb_2, bz_0 cb_3, bz_0 cb_4]; rfl⟩, by rw [htS]; exact hP9, hD9⟩, hS.F htS⟩) hS.2.2 dX6_signsIn_29
        · skip
          refine lv_iinc (v := 1) (lv' := [(1, .int 1), (2, .int 0), (0, .int w)]) hx hb dX6_signsIn_19 hl (k := 1) rfl (by decide) (by decide) rfl (fun ls hl => ?_)
          refine lv_iinc (v := (-8)) (lv' := [(2, .int (-8)), (1, .int 1), (0, .int w)]) hx hb dX6_signsIn_22 hl (k := 1) rfl (by decide) (by decide) rfl (fun ls hl => ?_)
          refine lv_goto (tgt := 5) hx hb dX6_signsIn_25 (by decide) ?_
          refine lv_iload_n hx hb dX6_signsIn_5 rfl (lv_at hl 0 rfl) ?_
          refine lv_if_lt (tgt := 28) hx hb dX6_signsIn_6 (by decide) (fun _ => ?_) (fun cb => absurd (by decide) cb)
          refine lv_iload_n hx hb dX6_signsIn_28 rfl (lv_at hl 1 rfl) ?_
          have hP9 := hP.sub (ws' := []) [] rfl
          have hD9 := hD.sub (ws' := []) [] (by decide) rfl
          subst hQ
          refine W.widen (k := 0) (n := 0) (Nat.le_of_ble_eq_true rfl) (Nat.le_of_ble_eq_true rfl) ?_
          exact W.iret (v := 1) hx hb hr (fun tS htS _ => ⟨⟨_, _, rfl, ⟨rfl, by rw [sg, bz_0 cb_1, bz_0 cb_2, bz_0 cb_3, bz_1 cb_4]; rfl⟩, by rw [htS]; exact hP9, hD9⟩, hS.F htS⟩) hS.2.2 dX6_signsIn_29
      · skip
        refine lv_iinc (v := 1) (lv' := [(1, .int 1), (2, .int 8), (0, .int w)]) hx hb dX6_signsIn_19 hl (k := 1) rfl (by decide) (by decide) rfl (fun ls hl => ?_)
        refine lv_iinc (v := 0) (lv' := [(2, .int 0), (1, .int 1), (0, .int w)]) hx hb dX6_signsIn_22 hl (k := 1) rfl (by decide) (by decide) rfl (fun ls hl => ?_)
        refine lv_goto (tgt := 5) hx hb dX6_signsIn_25 (by decide) ?_
        refine lv_iload_n hx hb dX6_signsIn_5 rfl (lv_at hl 0 rfl) ?_
        refine lv_if_lt (tgt := 28) hx hb dX6_signsIn_6 (by decide) (fun cb => absurd cb (by decide)) (fun _ => ?_)
        refine lv_iload_n hx hb dX6_signsIn_9 rfl (lv_at hl 2 rfl) ?_
        refine lv_iload_n hx hb dX6_signsIn_10 rfl (lv_at hl 0 rfl) ?_
        refine lv_iushr hx hb dX6_signsIn_11 rfl ?_
        refine lv_sipush (v := 255) hx hb dX6_signsIn_12 (by decide) ?_
        refine lv_iand hx hb dX6_signsIn_15 ?_
        refine lv_if_eq (tgt := 22) hx hb dX6_signsIn_16 (by decide) (fun cb_5 => ?_) (fun cb_5 => ?_)
        · skip
          refine lv_iinc (v := (-8)) (lv' := [(2, .int (-8)), (1, .int 1), (0, .int w)]) hx hb dX6_signsIn_22 hl (k := 0) rfl (by decide) (by decide) rfl (fun ls hl => ?_)
          refine lv_goto (tgt := 5) hx hb dX6_signsIn_25 (by decide) ?_
          refine lv_iload_n hx hb dX6_signsIn_5 rfl (lv_at hl 0 rfl) ?_
          refine lv_if_lt (tgt := 28) hx hb dX6_signsIn_6 (by decide) (fun _ => ?_) (fun cb => absurd (by decide) cb)
          refine lv_iload_n hx hb dX6_signsIn_28 rfl (lv_at hl 1 rfl) ?_
          have hP9 := hP.sub (ws' := []) [] rfl
          have hD9 := hD.sub (ws' := []) [] (by decide) rfl
          subst hQ
          refine W.widen (k := 0) (n := 0) (Nat.le_of_ble_eq_true rfl) (Nat.le_of_ble_eq_true rfl) ?_
          exact W.iret (v := 1) hx hb hr (fun tS htS _ => ⟨⟨_, _, rfl, ⟨rfl, by rw [sg, bz_0 cb_1, bz_0 cb_2, bz_1 cb_3, bz_0 cb_5]; rfl⟩, by rw [htS]; exact hP9, hD9⟩, hS.F htS⟩) hS.2.2 dX6_signsIn_29
        · skip
          refine lv_iinc (v := 2) (lv' := [(1, .int 2), (2, .int 0), (0, .int w)]) hx hb dX6_signsIn_19 hl (k := 1) rfl (by decide) (by decide) rfl (fun ls hl => ?_)
          refine lv_iinc (v := (-8)) (lv' := [(2, .int (-8)), (1, .int 2), (0, .int w)]) hx hb dX6_signsIn_22 hl (k := 1) rfl (by decide) (by decide) rfl (fun ls hl => ?_)
          refine lv_goto (tgt := 5) hx hb dX6_signsIn_25 (by decide) ?_
          refine lv_iload_n hx hb dX6_signsIn_5 rfl (lv_at hl 0 rfl) ?_
          refine lv_if_lt (tgt := 28) hx hb dX6_signsIn_6 (by decide) (fun _ => ?_) (fun cb => absurd (by decide) cb)
          refine lv_iload_n hx hb dX6_signsIn_28 rfl (lv_at hl 1 rfl) ?_
          have hP9 := hP.sub (ws' := []) [] rfl
          have hD9 := hD.sub (ws' := []) [] (by decide) rfl
          subst hQ
          refine W.widen (k := 0) (n := 0) (Nat.le_of_ble_eq_true rfl) (Nat.le_of_ble_eq_true rfl) ?_
          exact W.iret (v := 2) hx hb hr (fun tS htS _ => ⟨⟨_, _, rfl, ⟨rfl, by rw [sg, bz_0 cb_1, bz_0 cb_2, bz_1 cb_3, bz_1 cb_5]; rfl⟩, by rw [htS]; exact hP9, hD9⟩, hS.F htS⟩) hS.2.2 dX6_signsIn_29
    · skip
      refine lv_iinc (v := 1) (lv' := [(1, .int 1), (2, .int 16), (0, .int w)]) hx hb dX6_signsIn_19 hl (k := 1) rfl (by decide) (by decide) rfl (fun ls hl => ?_)
      refine lv_iinc (v := 8) (lv' := [(2, .int 8), (1, .int 1), (0, .int w)]) hx hb dX6_signsIn_22 hl (k := 1) rfl (by decide) (by decide) rfl (fun ls hl => ?_)
      refine lv_goto (tgt := 5) hx hb dX6_signsIn_25 (by decide) ?_
      refine lv_iload_n hx hb dX6_signsIn_5 rfl (lv_at hl 0 rfl) ?_
      refine lv_if_lt (tgt := 28) hx hb dX6_signsIn_6 (by decide) (fun cb => absurd cb (by decide)) (fun _ => ?_)
      refine lv_iload_n hx hb dX6_signsIn_9 rfl (lv_at hl 2 rfl) ?_
      refine lv_iload_n hx hb dX6_signsIn_10 rfl (lv_at hl 0 rfl) ?_
      refine lv_iushr hx hb dX6_signsIn_11 rfl ?_
      refine lv_sipush (v := 255) hx hb dX6_signsIn_12 (by decide) ?_
      refine lv_iand hx hb dX6_signsIn_15 ?_
      refine lv_if_eq (tgt := 22) hx hb dX6_signsIn_16 (by decide) (fun cb_6 => ?_) (fun cb_6 => ?_)
      · skip
        refine lv_iinc (v := 0) (lv' := [(2, .int 0), (1, .int 1), (0, .int w)]) hx hb dX6_signsIn_22 hl (k := 0) rfl (by decide) (by decide) rfl (fun ls hl => ?_)
        refine lv_goto (tgt := 5) hx hb dX6_signsIn_25 (by decide) ?_
        refine lv_iload_n hx hb dX6_signsIn_5 rfl (lv_at hl 0 rfl) ?_
        refine lv_if_lt (tgt := 28) hx hb dX6_signsIn_6 (by decide) (fun cb => absurd cb (by decide)) (fun _ => ?_)
        refine lv_iload_n hx hb dX6_signsIn_9 rfl (lv_at hl 2 rfl) ?_
        refine lv_iload_n hx hb dX6_signsIn_10 rfl (lv_at hl 0 rfl) ?_
        refine lv_iushr hx hb dX6_signsIn_11 rfl ?_
        refine lv_sipush (v := 255) hx hb dX6_signsIn_12 (by decide) ?_
        refine lv_iand hx hb dX6_signsIn_15 ?_
        refine lv_if_eq (tgt := 22) hx hb dX6_signsIn_16 (by decide) (fun cb_7 => ?_) (fun cb_7 => ?_)
        · skip
          refine lv_iinc (v := (-8)) (lv' := [(2, .int (-8)), (1, .int 1), (0, .int w)]) hx hb dX6_signsIn_22 hl (k := 0) rfl (by decide) (by decide) rfl (fun ls hl => ?_)
          refine lv_goto (tgt := 5) hx hb dX6_signsIn_25 (by decide) ?_
          refine lv_iload_n hx hb dX6_signsIn_5 rfl (lv_at hl 0 rfl) ?_
          refine lv_if_lt (tgt := 28) hx hb dX6_signsIn_6 (by decide) (fun _ => ?_) (fun cb => absurd (by decide) cb)
          refine lv_iload_n hx hb dX6_signsIn_28 rfl (lv_at hl 1 rfl) ?_
          have hP9 := hP.sub (ws' := []) [] rfl
          have hD9 := hD.sub (ws' := []) [] (by decide) rfl
          subst hQ
          refine W.widen (k := 0) (n := 0) (Nat.le_of_ble_eq_true rfl) (Nat.le_of_ble_eq_true rfl) ?_
          exact W.iret (v := 1) hx hb hr (fun tS htS _ => ⟨⟨_, _, rfl, ⟨rfl, by rw [sg, bz_0 cb_1, bz_1 cb_2, bz_0 cb_6, bz_0 cb_7]; rfl⟩, by rw [htS]; exact hP9, hD9⟩, hS.F htS⟩) hS.2.2 dX6_signsIn_29
        · skip
          refine lv_iinc (v := 2) (lv' := [(1, .int 2), (2, .int 0), (0, .int w)]) hx hb dX6_signsIn_19 hl (k := 1) rfl (by decide) (by decide) rfl (fun ls hl => ?_)
          refine lv_iinc (v := (-8)) (lv' := [(2, .int (-8)), (1, .int 2), (0, .int w)]) hx hb dX6_signsIn_22 hl (k := 1) rfl (by decide) (by decide) rfl (fun ls hl => ?_)
          refine lv_goto (tgt := 5) hx hb dX6_signsIn_25 (by decide) ?_
          refine lv_iload_n hx hb dX6_signsIn_5 rfl (lv_at hl 0 rfl) ?_
          refine lv_if_lt (tgt := 28) hx hb dX6_signsIn_6 (by decide) (fun _ => ?_) (fun cb => absurd (by decide) cb)
          refine lv_iload_n hx hb dX6_signsIn_28 rfl (lv_at hl 1 rfl) ?_
          have hP9 := hP.sub (ws' := []) [] rfl
          have hD9 := hD.sub (ws' := []) [] (by decide) rfl
          subst hQ
          refine W.widen (k := 0) (n := 0) (Nat.le_of_ble_eq_true rfl) (Nat.le_of_ble_eq_true rfl) ?_
          exact W.iret (v := 2) hx hb hr (fun tS htS _ => ⟨⟨_, _, rfl, ⟨rfl, by rw [sg, bz_0 cb_1, bz_1 cb_2, bz_0 cb_6, bz_1 cb_7]; rfl⟩, by rw [htS]; exact hP9, hD9⟩, hS.F htS⟩) hS.2.2 dX6_signsIn_29
      · skip
        refine lv_iinc (v := 2) (lv' := [(1, .int 2), (2, .int 8), (0, .int w)]) hx hb dX6_signsIn_19 hl (k := 1) rfl (by decide) (by decide) rfl (fun ls hl => ?_)
        refine lv_iinc (v := 0) (lv' := [(2, .int 0), (1, .int 2), (0, .int w)]) hx hb dX6_signsIn_22 hl (k := 1) rfl (by decide) (by decide) rfl (fun ls hl => ?_)
        refine lv_goto (tgt := 5) hx hb dX6_signsIn_25 (by decide) ?_
        refine lv_iload_n hx hb dX6_signsIn_5 rfl (lv_at hl 0 rfl) ?_
        refine lv_if_lt (tgt := 28) hx hb dX6_signsIn_6 (by decide) (fun cb => absurd cb (by decide)) (fun _ => ?_)
        refine lv_iload_n hx hb dX6_signsIn_9 rfl (lv_at hl 2 rfl) ?_
        refine lv_iload_n hx hb dX6_signsIn_10 rfl (lv_at hl 0 rfl) ?_
        refine lv_iushr hx hb dX6_signsIn_11 rfl ?_
        refine lv_sipush (v := 255) hx hb dX6_signsIn_12 (by decide) ?_
        refine lv_iand hx hb dX6_signsIn_15 ?_
        refine lv_if_eq (tgt := 22) hx hb dX6_signsIn_16 (by decide) (fun cb_8 => ?_) (fun cb_8 => ?_)
        · skip
          refine lv_iinc (v := (-8)) (lv' := [(2, .int (-8)), (1, .int 2), (0, .int w)]) hx hb dX6_signsIn_22 hl (k := 0) rfl (by decide) (by decide) rfl (fun ls hl => ?_)
          refine lv_goto (tgt := 5) hx hb dX6_signsIn_25 (by decide) ?_
          refine lv_iload_n hx hb dX6_signsIn_5 rfl (lv_at hl 0 rfl) ?_
          refine lv_if_lt (tgt := 28) hx hb dX6_signsIn_6 (by decide) (fun _ => ?_) (fun cb => absurd (by decide) cb)
          refine lv_iload_n hx hb dX6_signsIn_28 rfl (lv_at hl 1 rfl) ?_
          have hP9 := hP.sub (ws' := []) [] rfl
          have hD9 := hD.sub (ws' := []) [] (by decide) rfl
          subst hQ
          refine W.widen (k := 0) (n := 0) (Nat.le_of_ble_eq_true rfl) (Nat.le_of_ble_eq_true rfl) ?_
          exact W.iret (v := 2) hx hb hr (fun tS htS _ => ⟨⟨_, _, rfl, ⟨rfl, by rw [sg, bz_0 cb_1, bz_1 cb_2, bz_1 cb_6, bz_0 cb_8]; rfl⟩, by rw [htS]; exact hP9, hD9⟩, hS.F htS⟩) hS.2.2 dX6_signsIn_29
        · skip
          refine lv_iinc (v := 3) (lv' := [(1, .int 3), (2, .int 0), (0, .int w)]) hx hb dX6_signsIn_19 hl (k := 1) rfl (by decide) (by decide) rfl (fun ls hl => ?_)
          refine lv_iinc (v := (-8)) (lv' := [(2, .int (-8)), (1, .int 3), (0, .int w)]) hx hb dX6_signsIn_22 hl (k := 1) rfl (by decide) (by decide) rfl (fun ls hl => ?_)
          refine lv_goto (tgt := 5) hx hb dX6_signsIn_25 (by decide) ?_
          refine lv_iload_n hx hb dX6_signsIn_5 rfl (lv_at hl 0 rfl) ?_
          refine lv_if_lt (tgt := 28) hx hb dX6_signsIn_6 (by decide) (fun _ => ?_) (fun cb => absurd (by decide) cb)
          refine lv_iload_n hx hb dX6_signsIn_28 rfl (lv_at hl 1 rfl) ?_
          have hP9 := hP.sub (ws' := []) [] rfl
          have hD9 := hD.sub (ws' := []) [] (by decide) rfl
          subst hQ
          refine W.widen (k := 0) (n := 0) (Nat.le_of_ble_eq_true rfl) (Nat.le_of_ble_eq_true rfl) ?_
          exact W.iret (v := 3) hx hb hr (fun tS htS _ => ⟨⟨_, _, rfl, ⟨rfl, by rw [sg, bz_0 cb_1, bz_1 cb_2, bz_1 cb_6, bz_1 cb_8]; rfl⟩, by rw [htS]; exact hP9, hD9⟩, hS.F htS⟩) hS.2.2 dX6_signsIn_29
  · skip
    refine lv_iinc (v := 1) (lv' := [(1, .int 1), (2, .int 24), (0, .int w)]) hx hb dX6_signsIn_19 hl (k := 1) rfl (by decide) (by decide) rfl (fun ls hl => ?_)
    refine lv_iinc (v := 16) (lv' := [(2, .int 16), (1, .int 1), (0, .int w)]) hx hb dX6_signsIn_22 hl (k := 1) rfl (by decide) (by decide) rfl (fun ls hl => ?_)
    refine lv_goto (tgt := 5) hx hb dX6_signsIn_25 (by decide) ?_
    refine lv_iload_n hx hb dX6_signsIn_5 rfl (lv_at hl 0 rfl) ?_
    refine lv_if_lt (tgt := 28) hx hb dX6_signsIn_6 (by decide) (fun cb => absurd cb (by decide)) (fun _ => ?_)
    refine lv_iload_n hx hb dX6_signsIn_9 rfl (lv_at hl 2 rfl) ?_
    refine lv_iload_n hx hb dX6_signsIn_10 rfl (lv_at hl 0 rfl) ?_
    refine lv_iushr hx hb dX6_signsIn_11 rfl ?_
    refine lv_sipush (v := 255) hx hb dX6_signsIn_12 (by decide) ?_
    refine lv_iand hx hb dX6_signsIn_15 ?_
    refine lv_if_eq (tgt := 22) hx hb dX6_signsIn_16 (by decide) (fun cb_9 => ?_) (fun cb_9 => ?_)
    · skip
      refine lv_iinc (v := 8) (lv' := [(2, .int 8), (1, .int 1), (0, .int w)]) hx hb dX6_signsIn_22 hl (k := 0) rfl (by decide) (by decide) rfl (fun ls hl => ?_)
      refine lv_goto (tgt := 5) hx hb dX6_signsIn_25 (by decide) ?_
      refine lv_iload_n hx hb dX6_signsIn_5 rfl (lv_at hl 0 rfl) ?_
      refine lv_if_lt (tgt := 28) hx hb dX6_signsIn_6 (by decide) (fun cb => absurd cb (by decide)) (fun _ => ?_)
      refine lv_iload_n hx hb dX6_signsIn_9 rfl (lv_at hl 2 rfl) ?_
      refine lv_iload_n hx hb dX6_signsIn_10 rfl (lv_at hl 0 rfl) ?_
      refine lv_iushr hx hb dX6_signsIn_11 rfl ?_
      refine lv_sipush (v := 255) hx hb dX6_signsIn_12 (by decide) ?_
      refine lv_iand hx hb dX6_signsIn_15 ?_
      refine lv_if_eq (tgt := 22) hx hb dX6_signsIn_16 (by decide) (fun cb_10 => ?_) (fun cb_10 => ?_)
      · skip
        refine lv_iinc (v := 0) (lv' := [(2, .int 0), (1, .int 1), (0, .int w)]) hx hb dX6_signsIn_22 hl (k := 0) rfl (by decide) (by decide) rfl (fun ls hl => ?_)
        refine lv_goto (tgt := 5) hx hb dX6_signsIn_25 (by decide) ?_
        refine lv_iload_n hx hb dX6_signsIn_5 rfl (lv_at hl 0 rfl) ?_
        refine lv_if_lt (tgt := 28) hx hb dX6_signsIn_6 (by decide) (fun cb => absurd cb (by decide)) (fun _ => ?_)
        refine lv_iload_n hx hb dX6_signsIn_9 rfl (lv_at hl 2 rfl) ?_
        refine lv_iload_n hx hb dX6_signsIn_10 rfl (lv_at hl 0 rfl) ?_
        refine lv_iushr hx hb dX6_signsIn_11 rfl ?_
        refine lv_sipush (v := 255) hx hb dX6_signsIn_12 (by decide) ?_
        refine lv_iand hx hb dX6_signsIn_15 ?_
        refine lv_if_eq (tgt := 22) hx hb dX6_signsIn_16 (by decide) (fun cb_11 => ?_) (fun cb_11 => ?_)
        · skip
          refine lv_iinc (v := (-8)) (lv' := [(2, .int (-8)), (1, .int 1), (0, .int w)]) hx hb dX6_signsIn_22 hl (k := 0) rfl (by decide) (by decide) rfl (fun ls hl => ?_)
          refine lv_goto (tgt := 5) hx hb dX6_signsIn_25 (by decide) ?_
          refine lv_iload_n hx hb dX6_signsIn_5 rfl (lv_at hl 0 rfl) ?_
          refine lv_if_lt (tgt := 28) hx hb dX6_signsIn_6 (by decide) (fun _ => ?_) (fun cb => absurd (by decide) cb)
          refine lv_iload_n hx hb dX6_signsIn_28 rfl (lv_at hl 1 rfl) ?_
          have hP9 := hP.sub (ws' := []) [] rfl
          have hD9 := hD.sub (ws' := []) [] (by decide) rfl
          subst hQ
          refine W.widen (k := 0) (n := 0) (Nat.le_of_ble_eq_true rfl) (Nat.le_of_ble_eq_true rfl) ?_
          exact W.iret (v := 1) hx hb hr (fun tS htS _ => ⟨⟨_, _, rfl, ⟨rfl, by rw [sg, bz_1 cb_1, bz_0 cb_9, bz_0 cb_10, bz_0 cb_11]; rfl⟩, by rw [htS]; exact hP9, hD9⟩, hS.F htS⟩) hS.2.2 dX6_signsIn_29
        · skip
          refine lv_iinc (v := 2) (lv' := [(1, .int 2), (2, .int 0), (0, .int w)]) hx hb dX6_signsIn_19 hl (k := 1) rfl (by decide) (by decide) rfl (fun ls hl => ?_)
          refine lv_iinc (v := (-8)) (lv' := [(2, .int (-8)), (1, .int 2), (0, .int w)]) hx hb dX6_signsIn_22 hl (k := 1) rfl (by decide) (by decide) rfl (fun ls hl => ?_)
          refine lv_goto (tgt := 5) hx hb dX6_signsIn_25 (by decide) ?_
          refine lv_iload_n hx hb dX6_signsIn_5 rfl (lv_at hl 0 rfl) ?_
          refine lv_if_lt (tgt := 28) hx hb dX6_signsIn_6 (by decide) (fun _ => ?_) (fun cb => absurd (by decide) cb)
          refine lv_iload_n hx hb dX6_signsIn_28 rfl (lv_at hl 1 rfl) ?_
          have hP9 := hP.sub (ws' := []) [] rfl
          have hD9 := hD.sub (ws' := []) [] (by decide) rfl
          subst hQ
          refine W.widen (k := 0) (n := 0) (Nat.le_of_ble_eq_true rfl) (Nat.le_of_ble_eq_true rfl) ?_
          exact W.iret (v := 2) hx hb hr (fun tS htS _ => ⟨⟨_, _, rfl, ⟨rfl, by rw [sg, bz_1 cb_1, bz_0 cb_9, bz_0 cb_10, bz_1 cb_11]; rfl⟩, by rw [htS]; exact hP9, hD9⟩, hS.F htS⟩) hS.2.2 dX6_signsIn_29
      · skip
        refine lv_iinc (v := 2) (lv' := [(1, .int 2), (2, .int 8), (0, .int w)]) hx hb dX6_signsIn_19 hl (k := 1) rfl (by decide) (by decide) rfl (fun ls hl => ?_)
        refine lv_iinc (v := 0) (lv' := [(2, .int 0), (1, .int 2), (0, .int w)]) hx hb dX6_signsIn_22 hl (k := 1) rfl (by decide) (by decide) rfl (fun ls hl => ?_)
        refine lv_goto (tgt := 5) hx hb dX6_signsIn_25 (by decide) ?_
        refine lv_iload_n hx hb dX6_signsIn_5 rfl (lv_at hl 0 rfl) ?_
        refine lv_if_lt (tgt := 28) hx hb dX6_signsIn_6 (by decide) (fun cb => absurd cb (by decide)) (fun _ => ?_)
        refine lv_iload_n hx hb dX6_signsIn_9 rfl (lv_at hl 2 rfl) ?_
        refine lv_iload_n hx hb dX6_signsIn_10 rfl (lv_at hl 0 rfl) ?_
        refine lv_iushr hx hb dX6_signsIn_11 rfl ?_
        refine lv_sipush (v := 255) hx hb dX6_signsIn_12 (by decide) ?_
        refine lv_iand hx hb dX6_signsIn_15 ?_
        refine lv_if_eq (tgt := 22) hx hb dX6_signsIn_16 (by decide) (fun cb_12 => ?_) (fun cb_12 => ?_)
        · skip
          refine lv_iinc (v := (-8)) (lv' := [(2, .int (-8)), (1, .int 2), (0, .int w)]) hx hb dX6_signsIn_22 hl (k := 0) rfl (by decide) (by decide) rfl (fun ls hl => ?_)
          refine lv_goto (tgt := 5) hx hb dX6_signsIn_25 (by decide) ?_
          refine lv_iload_n hx hb dX6_signsIn_5 rfl (lv_at hl 0 rfl) ?_
          refine lv_if_lt (tgt := 28) hx hb dX6_signsIn_6 (by decide) (fun _ => ?_) (fun cb => absurd (by decide) cb)
          refine lv_iload_n hx hb dX6_signsIn_28 rfl (lv_at hl 1 rfl) ?_
          have hP9 := hP.sub (ws' := []) [] rfl
          have hD9 := hD.sub (ws' := []) [] (by decide) rfl
          subst hQ
          refine W.widen (k := 0) (n := 0) (Nat.le_of_ble_eq_true rfl) (Nat.le_of_ble_eq_true rfl) ?_
          exact W.iret (v := 2) hx hb hr (fun tS htS _ => ⟨⟨_, _, rfl, ⟨rfl, by rw [sg, bz_1 cb_1, bz_0 cb_9, bz_1 cb_10, bz_0 cb_12]; rfl⟩, by rw [htS]; exact hP9, hD9⟩, hS.F htS⟩) hS.2.2 dX6_signsIn_29
        · skip
          refine lv_iinc (v := 3) (lv' := [(1, .int 3), (2, .int 0), (0, .int w)]) hx hb dX6_signsIn_19 hl (k := 1) rfl (by decide) (by decide) rfl (fun ls hl => ?_)
          refine lv_iinc (v := (-8)) (lv' := [(2, .int (-8)), (1, .int 3), (0, .int w)]) hx hb dX6_signsIn_22 hl (k := 1) rfl (by decide) (by decide) rfl (fun ls hl => ?_)
          refine lv_goto (tgt := 5) hx hb dX6_signsIn_25 (by decide) ?_
          refine lv_iload_n hx hb dX6_signsIn_5 rfl (lv_at hl 0 rfl) ?_
          refine lv_if_lt (tgt := 28) hx hb dX6_signsIn_6 (by decide) (fun _ => ?_) (fun cb => absurd (by decide) cb)
          refine lv_iload_n hx hb dX6_signsIn_28 rfl (lv_at hl 1 rfl) ?_
          have hP9 := hP.sub (ws' := []) [] rfl
          have hD9 := hD.sub (ws' := []) [] (by decide) rfl
          subst hQ
          refine W.widen (k := 0) (n := 0) (Nat.le_of_ble_eq_true rfl) (Nat.le_of_ble_eq_true rfl) ?_
          exact W.iret (v := 3) hx hb hr (fun tS htS _ => ⟨⟨_, _, rfl, ⟨rfl, by rw [sg, bz_1 cb_1, bz_0 cb_9, bz_1 cb_10, bz_1 cb_12]; rfl⟩, by rw [htS]; exact hP9, hD9⟩, hS.F htS⟩) hS.2.2 dX6_signsIn_29
    · skip
      refine lv_iinc (v := 2) (lv' := [(1, .int 2), (2, .int 16), (0, .int w)]) hx hb dX6_signsIn_19 hl (k := 1) rfl (by decide) (by decide) rfl (fun ls hl => ?_)
      refine lv_iinc (v := 8) (lv' := [(2, .int 8), (1, .int 2), (0, .int w)]) hx hb dX6_signsIn_22 hl (k := 1) rfl (by decide) (by decide) rfl (fun ls hl => ?_)
      refine lv_goto (tgt := 5) hx hb dX6_signsIn_25 (by decide) ?_
      refine lv_iload_n hx hb dX6_signsIn_5 rfl (lv_at hl 0 rfl) ?_
      refine lv_if_lt (tgt := 28) hx hb dX6_signsIn_6 (by decide) (fun cb => absurd cb (by decide)) (fun _ => ?_)
      refine lv_iload_n hx hb dX6_signsIn_9 rfl (lv_at hl 2 rfl) ?_
      refine lv_iload_n hx hb dX6_signsIn_10 rfl (lv_at hl 0 rfl) ?_
      refine lv_iushr hx hb dX6_signsIn_11 rfl ?_
      refine lv_sipush (v := 255) hx hb dX6_signsIn_12 (by decide) ?_
      refine lv_iand hx hb dX6_signsIn_15 ?_
      refine lv_if_eq (tgt := 22) hx hb dX6_signsIn_16 (by decide) (fun cb_13 => ?_) (fun cb_13 => ?_)
      · skip
        refine lv_iinc (v := 0) (lv' := [(2, .int 0), (1, .int 2), (0, .int w)]) hx hb dX6_signsIn_22 hl (k := 0) rfl (by decide) (by decide) rfl (fun ls hl => ?_)
        refine lv_goto (tgt := 5) hx hb dX6_signsIn_25 (by decide) ?_
        refine lv_iload_n hx hb dX6_signsIn_5 rfl (lv_at hl 0 rfl) ?_
        refine lv_if_lt (tgt := 28) hx hb dX6_signsIn_6 (by decide) (fun cb => absurd cb (by decide)) (fun _ => ?_)
        refine lv_iload_n hx hb dX6_signsIn_9 rfl (lv_at hl 2 rfl) ?_
        refine lv_iload_n hx hb dX6_signsIn_10 rfl (lv_at hl 0 rfl) ?_
        refine lv_iushr hx hb dX6_signsIn_11 rfl ?_
        refine lv_sipush (v := 255) hx hb dX6_signsIn_12 (by decide) ?_
        refine lv_iand hx hb dX6_signsIn_15 ?_
        refine lv_if_eq (tgt := 22) hx hb dX6_signsIn_16 (by decide) (fun cb_14 => ?_) (fun cb_14 => ?_)
        · skip
          refine lv_iinc (v := (-8)) (lv' := [(2, .int (-8)), (1, .int 2), (0, .int w)]) hx hb dX6_signsIn_22 hl (k := 0) rfl (by decide) (by decide) rfl (fun ls hl => ?_)
          refine lv_goto (tgt := 5) hx hb dX6_signsIn_25 (by decide) ?_
          refine lv_iload_n hx hb dX6_signsIn_5 rfl (lv_at hl 0 rfl) ?_
          refine lv_if_lt (tgt := 28) hx hb dX6_signsIn_6 (by decide) (fun _ => ?_) (fun cb => absurd (by decide) cb)
          refine lv_iload_n hx hb dX6_signsIn_28 rfl (lv_at hl 1 rfl) ?_
          have hP9 := hP.sub (ws' := []) [] rfl
          have hD9 := hD.sub (ws' := []) [] (by decide) rfl
          subst hQ
          refine W.widen (k := 0) (n := 0) (Nat.le_of_ble_eq_true rfl) (Nat.le_of_ble_eq_true rfl) ?_
          exact W.iret (v := 2) hx hb hr (fun tS htS _ => ⟨⟨_, _, rfl, ⟨rfl, by rw [sg, bz_1 cb_1, bz_1 cb_9, bz_0 cb_13, bz_0 cb_14]; rfl⟩, by rw [htS]; exact hP9, hD9⟩, hS.F htS⟩) hS.2.2 dX6_signsIn_29
        · skip
          refine lv_iinc (v := 3) (lv' := [(1, .int 3), (2, .int 0), (0, .int w)]) hx hb dX6_signsIn_19 hl (k := 1) rfl (by decide) (by decide) rfl (fun ls hl => ?_)
          refine lv_iinc (v := (-8)) (lv' := [(2, .int (-8)), (1, .int 3), (0, .int w)]) hx hb dX6_signsIn_22 hl (k := 1) rfl (by decide) (by decide) rfl (fun ls hl => ?_)
          refine lv_goto (tgt := 5) hx hb dX6_signsIn_25 (by decide) ?_
          refine lv_iload_n hx hb dX6_signsIn_5 rfl (lv_at hl 0 rfl) ?_
          refine lv_if_lt (tgt := 28) hx hb dX6_signsIn_6 (by decide) (fun _ => ?_) (fun cb => absurd (by decide) cb)
          refine lv_iload_n hx hb dX6_signsIn_28 rfl (lv_at hl 1 rfl) ?_
          have hP9 := hP.sub (ws' := []) [] rfl
          have hD9 := hD.sub (ws' := []) [] (by decide) rfl
          subst hQ
          refine W.widen (k := 0) (n := 0) (Nat.le_of_ble_eq_true rfl) (Nat.le_of_ble_eq_true rfl) ?_
          exact W.iret (v := 3) hx hb hr (fun tS htS _ => ⟨⟨_, _, rfl, ⟨rfl, by rw [sg, bz_1 cb_1, bz_1 cb_9, bz_0 cb_13, bz_1 cb_14]; rfl⟩, by rw [htS]; exact hP9, hD9⟩, hS.F htS⟩) hS.2.2 dX6_signsIn_29
      · skip
        refine lv_iinc (v := 3) (lv' := [(1, .int 3), (2, .int 8), (0, .int w)]) hx hb dX6_signsIn_19 hl (k := 1) rfl (by decide) (by decide) rfl (fun ls hl => ?_)
        refine lv_iinc (v := 0) (lv' := [(2, .int 0), (1, .int 3), (0, .int w)]) hx hb dX6_signsIn_22 hl (k := 1) rfl (by decide) (by decide) rfl (fun ls hl => ?_)
        refine lv_goto (tgt := 5) hx hb dX6_signsIn_25 (by decide) ?_
        refine lv_iload_n hx hb dX6_signsIn_5 rfl (lv_at hl 0 rfl) ?_
        refine lv_if_lt (tgt := 28) hx hb dX6_signsIn_6 (by decide) (fun cb => absurd cb (by decide)) (fun _ => ?_)
        refine lv_iload_n hx hb dX6_signsIn_9 rfl (lv_at hl 2 rfl) ?_
        refine lv_iload_n hx hb dX6_signsIn_10 rfl (lv_at hl 0 rfl) ?_
        refine lv_iushr hx hb dX6_signsIn_11 rfl ?_
        refine lv_sipush (v := 255) hx hb dX6_signsIn_12 (by decide) ?_
        refine lv_iand hx hb dX6_signsIn_15 ?_
        refine lv_if_eq (tgt := 22) hx hb dX6_signsIn_16 (by decide) (fun cb_15 => ?_) (fun cb_15 => ?_)
        · skip
          refine lv_iinc (v := (-8)) (lv' := [(2, .int (-8)), (1, .int 3), (0, .int w)]) hx hb dX6_signsIn_22 hl (k := 0) rfl (by decide) (by decide) rfl (fun ls hl => ?_)
          refine lv_goto (tgt := 5) hx hb dX6_signsIn_25 (by decide) ?_
          refine lv_iload_n hx hb dX6_signsIn_5 rfl (lv_at hl 0 rfl) ?_
          refine lv_if_lt (tgt := 28) hx hb dX6_signsIn_6 (by decide) (fun _ => ?_) (fun cb => absurd (by decide) cb)
          refine lv_iload_n hx hb dX6_signsIn_28 rfl (lv_at hl 1 rfl) ?_
          have hP9 := hP.sub (ws' := []) [] rfl
          have hD9 := hD.sub (ws' := []) [] (by decide) rfl
          subst hQ
          refine W.widen (k := 0) (n := 0) (Nat.le_of_ble_eq_true rfl) (Nat.le_of_ble_eq_true rfl) ?_
          exact W.iret (v := 3) hx hb hr (fun tS htS _ => ⟨⟨_, _, rfl, ⟨rfl, by rw [sg, bz_1 cb_1, bz_1 cb_9, bz_1 cb_13, bz_0 cb_15]; rfl⟩, by rw [htS]; exact hP9, hD9⟩, hS.F htS⟩) hS.2.2 dX6_signsIn_29
        · skip
          refine lv_iinc (v := 4) (lv' := [(1, .int 4), (2, .int 0), (0, .int w)]) hx hb dX6_signsIn_19 hl (k := 1) rfl (by decide) (by decide) rfl (fun ls hl => ?_)
          refine lv_iinc (v := (-8)) (lv' := [(2, .int (-8)), (1, .int 4), (0, .int w)]) hx hb dX6_signsIn_22 hl (k := 1) rfl (by decide) (by decide) rfl (fun ls hl => ?_)
          refine lv_goto (tgt := 5) hx hb dX6_signsIn_25 (by decide) ?_
          refine lv_iload_n hx hb dX6_signsIn_5 rfl (lv_at hl 0 rfl) ?_
          refine lv_if_lt (tgt := 28) hx hb dX6_signsIn_6 (by decide) (fun _ => ?_) (fun cb => absurd (by decide) cb)
          refine lv_iload_n hx hb dX6_signsIn_28 rfl (lv_at hl 1 rfl) ?_
          have hP9 := hP.sub (ws' := []) [] rfl
          have hD9 := hD.sub (ws' := []) [] (by decide) rfl
          subst hQ
          refine W.widen (k := 0) (n := 0) (Nat.le_of_ble_eq_true rfl) (Nat.le_of_ble_eq_true rfl) ?_
          exact W.iret (v := 4) hx hb hr (fun tS htS _ => ⟨⟨_, _, rfl, ⟨rfl, by rw [sg, bz_1 cb_1, bz_1 cb_9, bz_1 cb_13, bz_1 cb_15]; rfl⟩, by rw [htS]; exact hP9, hD9⟩, hS.F htS⟩) hS.2.2 dX6_signsIn_29
set_option maxHeartbeats 4000000 in
set_option maxRecDepth 100000 in
theorem r_X6_append (l : Launch) (D : va_G) (g : Nat → ClassId) (sz : Nat) (Xx : Nat) (zq : Int32) (Tp : Nat) (tl : Nat) (Fr : Nat) (Rd : Nat) (Nn : Nat) (oNn : Nat) (Ts : Nat) (Ty : Nat) (zld : Int32) (ftp : Nat → Int32) (h0 : tl ≤ 160) : Met l yX6_append wsX6_append ({ frames := 0, cells := 0, slots := 0, locals := 0 }) (va_Pc [.ref Xx, .int zq] (pre D g sz [(Xx, .inr (6, [.ref Tp, .int (nI tl), .ref Fr, .ref Rd, .ref Nn, .ref oNn, .ref Ts, .ref Ty, .int zld])), (Tp, .inl (g 0, 160, .inl ftp))])) (va_Qv (fun (u : va_W) => ∃ (tlx : Nat) (ftpx : Nat → Int32), u = [(Xx, .inr (6, [.ref Tp, .int (nI tlx), .ref Fr, .ref Rd, .ref Nn, .ref oNn, .ref Ts, .ref Ty, .int zld])), (Tp, .inl (g 0, 160, .inl ftpx))] ∧ (tlx ≤ 160) ∧ ((tlx, ftpx) = pbs (bw zq) (tl, ftp) 4)) (wd D (va_A [(Xx, .inr (6, [.ref Tp, .int (nI tl), .ref Fr, .ref Rd, .ref Nn, .ref oNn, .ref Ts, .ref Ty, .int zld])), (Tp, .inl (g 0, 160, .inl ftp))] sz)) (va_A [(Xx, .inr (6, [.ref Tp, .int (nI tl), .ref Fr, .ref Rd, .ref Nn, .ref oNn, .ref Ts, .ref Ty, .int zld])), (Tp, .inl (g 0, 160, .inl ftp))] sz)) 0 0 (va_A [(Xx, .inr (6, [.ref Tp, .int (nI tl), .ref Fr, .ref Rd, .ref Nn, .ref oNn, .ref Ts, .ref Ty, .int zld])), (Tp, .inl (g 0, 160, .inl ftp))] sz) := by
  refine Met.ofW (cc := cX6_append) (maxL := 4) (ret := none) (by decide) rfl ?_
  intro p e s m args below meth c s₁ B hml hv
  obtain ⟨rfl, hsz, hP, ⟨hK, hN⟩, hD0, hZ⟩ := hv
  have hx := B.exec
  have hb := B.bytes
  have hr := B.returns
  have hts := atoms_spec (ws := wsX6_append) B.pre
  have hown : s.vm.findClass RX6 = some m.cls := findClass_of_methodNamed B.named
  have hlocks := B.notSynchronized
  clear B
  subst hsz
  have hD := hD0.self (sz := s.heap.size)
  clear hD0
  generalize hAe : va_A [(Xx, .inr (6, [.ref Tp, .int (nI tl), .ref Fr, .ref Rd, .ref Nn, .ref oNn, .ref Ts, .ref Ty, .int zld])), (Tp, .inl (g 0, 160, .inl ftp))] s.heap.size = A at hD hZ ⊢
  have hA : ∀ q : Nat, s.heap.size ≤ q → A q := fun q h => by rw [← hAe]; exact Or.inr h
  have hS : va_S A s.heap s.heap [] := va_S.rf
  have f47 := hts (.fieldLink RX6 47 "HopCredits" "tapeLength" "I") (List.mem_of_getElem? (i := 1) rfl)
  have f9 := hts (.fieldLink RX6 9 "HopCredits" "tape" "[I") (List.mem_of_getElem? (i := 2) rfl)
  have iX6 : ∀ w ∈ u_ws RX6 TX6 9, w ∈ wsX6_append := fun w h => List.mem_cons_of_mem _ (List.mem_append_right _ (h))
  have hl := lv_entry ([.ref Xx, .int zq]) (n := 4) (Nat.le_of_ble_eq_true rfl)
  rw [lg_entry_eq]
  generalize (lg_sl ([.ref Xx, .int zq]) ++ List.replicate (4 - (lg_sl ([.ref Xx, .int zq])).length) Slot.unset).toArray = ls at hl ⊢
  have hl : lv_has ls 4 [(0, .ref Xx), (1, .int zq)] := hl
  generalize hQ : MQ below _ _ s _ _ _ = Q
  generalize hH : s.heap = H at hP ⊢
  have hS : va_S A s.heap H [] := by rw [← hH]; exact hS
  clear hH
  refine lv_bipush (v := 24) hx hb dX6_append_0 (by decide) ?_
  refine lv_istore_n (lv' := [(2, .int 24), (0, .ref Xx), (1, .int zq)]) hx hb dX6_append_2 rfl hl (by decide) rfl (fun ls hl => ?_)
  refine lv_iload_n hx hb dX6_append_3 rfl (lv_at hl 0 rfl) ?_
  refine lv_if_lt (tgt := 55) hx hb dX6_append_4 (by decide) (fun cb => absurd cb (by decide)) (fun _ => ?_)
  refine lv_iload_n hx hb dX6_append_7 rfl (lv_at hl 2 rfl) ?_
  refine lv_iload_n hx hb dX6_append_8 rfl (lv_at hl 0 rfl) ?_
  refine lv_iushr hx hb dX6_append_9 rfl ?_
  refine lv_sipush (v := 255) hx hb dX6_append_10 (by decide) ?_
  refine lv_iand hx hb dX6_append_13 ?_
  refine lv_eqi (y := (bw zq 0)) (rfl) ?_
  refine lv_istore_n (lv' := [(3, .int (bw zq 0)), (2, .int 24), (0, .ref Xx), (1, .int zq)]) hx hb dX6_append_14 rfl hl (by decide) rfl (fun ls hl => ?_)
  refine lv_iload_n hx hb dX6_append_15 rfl (lv_at hl 0 rfl) ?_
  have join_13 : ∀ (z_5 : Nat) (F_6 : Nat → Int32) (hv_11 : z_5 ≤ 160) (hv_12 : (z_5, F_6) = pbs (bw zq) (tl, ftp) 1) (H : Heap) (locs : List Loc) (ls : Array Slot), va_P D vwCl [(Xx, .inr (6, [.ref Tp, .int (nI z_5), .ref Fr, .ref Rd, .ref Nn, .ref oNn, .ref Ts, .ref Ty, .int zld])), (Tp, .inl (g 0, 160, .inl F_6))] H → va_D A [(Xx, .inr (6, [.ref Tp, .int (nI z_5), .ref Fr, .ref Rd, .ref Nn, .ref oNn, .ref Ts, .ref Ty, .int zld])), (Tp, .inl (g 0, 160, .inl F_6))] → va_S A s.heap H locs → lv_has ls 4 [(2, .int 24), (0, .ref Xx), (1, .int zq)] → W p l e (headSpec wsX6_append ({ frames := 0, cells := 0, slots := 0, locals := 0 })).room s m ([.ref Xx, .int zq] : List Value).toArray below meth c H locs 0 0 Q (F0 m 49 ls []) := by
    clear hP hD hS hl
    intro z_5 F_6 hv_11 hv_12 H locs ls hP hD hS hl
    refine lv_iinc (v := 16) (lv' := [(2, .int 16), (0, .ref Xx), (1, .int zq)]) hx hb dX6_append_49 hl (k := 0) rfl (by decide) (by decide) rfl (fun ls hl => ?_)
    refine lv_goto (tgt := 3) hx hb dX6_append_52 (by decide) ?_
    refine lv_iload_n hx hb dX6_append_3 rfl (lv_at hl 0 rfl) ?_
    refine lv_if_lt (tgt := 55) hx hb dX6_append_4 (by decide) (fun cb => absurd cb (by decide)) (fun _ => ?_)
    refine lv_iload_n hx hb dX6_append_7 rfl (lv_at hl 2 rfl) ?_
    refine lv_iload_n hx hb dX6_append_8 rfl (lv_at hl 0 rfl) ?_
    refine lv_iushr hx hb dX6_append_9 rfl ?_
    refine lv_sipush (v := 255) hx hb dX6_append_10 (by decide) ?_
    refine lv_iand hx hb dX6_append_13 ?_
    refine lv_eqi (y := (bw zq 1)) (rfl) ?_
    refine lv_istore_n (lv' := [(3, .int (bw zq 1)), (2, .int 16), (0, .ref Xx), (1, .int zq)]) hx hb dX6_append_14 rfl hl (by decide) rfl (fun ls hl => ?_)
    refine lv_iload_n hx hb dX6_append_15 rfl (lv_at hl 0 rfl) ?_
    have join_26 : ∀ (z_18 : Nat) (F_19 : Nat → Int32) (hv_24 : z_18 ≤ 160) (hv_25 : (z_18, F_19) = pbs (bw zq) (tl, ftp) 2) (H : Heap) (locs : List Loc) (ls : Array Slot), va_P D vwCl [(Xx, .inr (6, [.ref Tp, .int (nI z_18), .ref Fr, .ref Rd, .ref Nn, .ref oNn, .ref Ts, .ref Ty, .int zld])), (Tp, .inl (g 0, 160, .inl F_19))] H → va_D A [(Xx, .inr (6, [.ref Tp, .int (nI z_18), .ref Fr, .ref Rd, .ref Nn, .ref oNn, .ref Ts, .ref Ty, .int zld])), (Tp, .inl (g 0, 160, .inl F_19))] → va_S A s.heap H locs → lv_has ls 4 [(2, .int 16), (0, .ref Xx), (1, .int zq)] → W p l e (headSpec wsX6_append ({ frames := 0, cells := 0, slots := 0, locals := 0 })).room s m ([.ref Xx, .int zq] : List Value).toArray below meth c H locs 0 0 Q (F0 m 49 ls []) := by
      clear hP hD hS hl
      intro z_18 F_19 hv_24 hv_25 H locs ls hP hD hS hl
      refine lv_iinc (v := 8) (lv' := [(2, .int 8), (0, .ref Xx), (1, .int zq)]) hx hb dX6_append_49 hl (k := 0) rfl (by decide) (by decide) rfl (fun ls hl => ?_)
      refine lv_goto (tgt := 3) hx hb dX6_append_52 (by decide) ?_
      refine lv_iload_n hx hb dX6_append_3 rfl (lv_at hl 0 rfl) ?_
      refine lv_if_lt (tgt := 55) hx hb dX6_append_4 (by decide) (fun cb => absurd cb (by decide)) (fun _ => ?_)
      refine lv_iload_n hx hb dX6_append_7 rfl (lv_at hl 2 rfl) ?_
      refine lv_iload_n hx hb dX6_append_8 rfl (lv_at hl 0 rfl) ?_
      refine lv_iushr hx hb dX6_append_9 rfl ?_
      refine lv_sipush (v := 255) hx hb dX6_append_10 (by decide) ?_
      refine lv_iand hx hb dX6_append_13 ?_
      refine lv_eqi (y := (bw zq 2)) (rfl) ?_
      refine lv_istore_n (lv' := [(3, .int (bw zq 2)), (2, .int 8), (0, .ref Xx), (1, .int zq)]) hx hb dX6_append_14 rfl hl (by decide) rfl (fun ls hl => ?_)
      refine lv_iload_n hx hb dX6_append_15 rfl (lv_at hl 0 rfl) ?_
      have join_39 : ∀ (z_31 : Nat) (F_32 : Nat → Int32) (hv_37 : z_31 ≤ 160) (hv_38 : (z_31, F_32) = pbs (bw zq) (tl, ftp) 3) (H : Heap) (locs : List Loc) (ls : Array Slot), va_P D vwCl [(Xx, .inr (6, [.ref Tp, .int (nI z_31), .ref Fr, .ref Rd, .ref Nn, .ref oNn, .ref Ts, .ref Ty, .int zld])), (Tp, .inl (g 0, 160, .inl F_32))] H → va_D A [(Xx, .inr (6, [.ref Tp, .int (nI z_31), .ref Fr, .ref Rd, .ref Nn, .ref oNn, .ref Ts, .ref Ty, .int zld])), (Tp, .inl (g 0, 160, .inl F_32))] → va_S A s.heap H locs → lv_has ls 4 [(2, .int 8), (0, .ref Xx), (1, .int zq)] → W p l e (headSpec wsX6_append ({ frames := 0, cells := 0, slots := 0, locals := 0 })).room s m ([.ref Xx, .int zq] : List Value).toArray below meth c H locs 0 0 Q (F0 m 49 ls []) := by
        clear hP hD hS hl
        intro z_31 F_32 hv_37 hv_38 H locs ls hP hD hS hl
        refine lv_iinc (v := 0) (lv' := [(2, .int 0), (0, .ref Xx), (1, .int zq)]) hx hb dX6_append_49 hl (k := 0) rfl (by decide) (by decide) rfl (fun ls hl => ?_)
        refine lv_goto (tgt := 3) hx hb dX6_append_52 (by decide) ?_
        refine lv_iload_n hx hb dX6_append_3 rfl (lv_at hl 0 rfl) ?_
        refine lv_if_lt (tgt := 55) hx hb dX6_append_4 (by decide) (fun cb => absurd cb (by decide)) (fun _ => ?_)
        refine lv_iload_n hx hb dX6_append_7 rfl (lv_at hl 2 rfl) ?_
        refine lv_iload_n hx hb dX6_append_8 rfl (lv_at hl 0 rfl) ?_
        refine lv_iushr hx hb dX6_append_9 rfl ?_
        refine lv_sipush (v := 255) hx hb dX6_append_10 (by decide) ?_
        refine lv_iand hx hb dX6_append_13 ?_
        refine lv_eqi (y := (bw zq 3)) (rfl) ?_
        refine lv_istore_n (lv' := [(3, .int (bw zq 3)), (2, .int 0), (0, .ref Xx), (1, .int zq)]) hx hb dX6_append_14 rfl hl (by decide) rfl (fun ls hl => ?_)
        refine lv_iload_n hx hb dX6_append_15 rfl (lv_at hl 0 rfl) ?_
        have join_52 : ∀ (z_44 : Nat) (F_45 : Nat → Int32) (hv_50 : z_44 ≤ 160) (hv_51 : (z_44, F_45) = pbs (bw zq) (tl, ftp) 4) (H : Heap) (locs : List Loc) (ls : Array Slot), va_P D vwCl [(Xx, .inr (6, [.ref Tp, .int (nI z_44), .ref Fr, .ref Rd, .ref Nn, .ref oNn, .ref Ts, .ref Ty, .int zld])), (Tp, .inl (g 0, 160, .inl F_45))] H → va_D A [(Xx, .inr (6, [.ref Tp, .int (nI z_44), .ref Fr, .ref Rd, .ref Nn, .ref oNn, .ref Ts, .ref Ty, .int zld])), (Tp, .inl (g 0, 160, .inl F_45))] → va_S A s.heap H locs → lv_has ls 4 [(2, .int 0), (0, .ref Xx), (1, .int zq)] → W p l e (headSpec wsX6_append ({ frames := 0, cells := 0, slots := 0, locals := 0 })).room s m ([.ref Xx, .int zq] : List Value).toArray below meth c H locs 0 0 Q (F0 m 49 ls []) := by
          clear hP hD hS hl
          intro z_44 F_45 hv_50 hv_51 H locs ls hP hD hS hl
          refine lv_iinc (v := (-8)) (lv' := [(2, .int (-8)), (0, .ref Xx), (1, .int zq)]) hx hb dX6_append_49 hl (k := 0) rfl (by decide) (by decide) rfl (fun ls hl => ?_)
          refine lv_goto (tgt := 3) hx hb dX6_append_52 (by decide) ?_
          refine lv_iload_n hx hb dX6_append_3 rfl (lv_at hl 0 rfl) ?_
          refine lv_if_lt (tgt := 55) hx hb dX6_append_4 (by decide) (fun _ => ?_) (fun cb => absurd (by decide) cb)
          have hP9 := hP; have hD9 := hD
          subst hQ
          refine W.widen (k := 0) (n := 0) (Nat.le_of_ble_eq_true rfl) (Nat.le_of_ble_eq_true rfl) ?_
          exact W.vret hx hb hr (fun tS htS _ => ⟨⟨_, rfl, ⟨z_44, F_45, rfl, (show z_44 ≤ 160 by omega), hv_51⟩, by rw [htS]; exact hP9, hD9⟩, hS.F htS⟩) hS.2.2 dX6_append_55
        refine lv_if_eq (tgt := 49) hx hb dX6_append_16 (by decide) (fun cb_53 => ?_) (fun cb_53 => ?_)
        · skip
          exact join_52 z_31 F_32 (show z_31 ≤ 160 by omega) (pb_0 (k := 3) hv_38 cb_53) _ _ _ hP hD hS (lv_sub hl [1, 2, 3] rfl)
        · skip
          refine lv_aload_n hx hb dX6_append_19 rfl (lv_at hl 2 rfl) ?_
          refine va_get (D := D) (ci := 6) (v := .int (nI z_31)) (C := RX6) (T := TX6) (N := 9) hx hb hts iX6 hown hK hP 0 rfl rfl 1 (by decide) f47 (fun _ h9 => h9) rfl dX6_append_20 ?_
          refine lv_sipush (v := 160) hx hb dX6_append_23 (by decide) ?_
          refine lv_icmp_ge (tgt := 49) hx hb dX6_append_26 (by decide) (fun cb_54 => ?_) (fun cb_54 => ?_)
          · skip
            have cn_55 : 160 ≤ z_31 := (nI_leI (show 160 < 2 ^ 31 by omega) (show z_31 < 2 ^ 31 by omega)).mp cb_54
            exact join_52 z_31 F_32 (show z_31 ≤ 160 by omega) (pb_f (k := 3) hv_38 (by omega)) _ _ _ hP hD hS (lv_sub hl [1, 2, 3] rfl)
          · skip
            have cn_56 : z_31 < 160 := Nat.lt_of_not_le (fun q9 => cb_54 ((nI_leI (show 160 < 2 ^ 31 by omega) (show z_31 < 2 ^ 31 by omega)).mpr q9))
            refine lv_aload_n hx hb dX6_append_29 rfl (lv_at hl 2 rfl) ?_
            refine va_get (D := D) (ci := 6) (v := .ref Tp) (C := RX6) (T := TX6) (N := 9) hx hb hts iX6 hown hK hP 0 rfl rfl 0 (by decide) f9 (fun _ h9 => h9) rfl dX6_append_30 ?_
            refine lv_aload_n hx hb dX6_append_33 rfl (lv_at hl 2 rfl) ?_
            refine va_get (D := D) (ci := 6) (v := .int (nI z_31)) (C := RX6) (T := TX6) (N := 9) hx hb hts iX6 hown hK hP 0 rfl rfl 1 (by decide) f47 (fun _ h9 => h9) rfl dX6_append_34 ?_
            refine lv_iload_n hx hb dX6_append_37 rfl (lv_at hl 0 rfl) ?_
            refine va_iast hx hb hK hP hD hS 1 0 rfl rfl (vp_in_nI (show z_31 < 160 by omega) (by decide)) dX6_append_38 (fun H locs hP2 hD2 hS2 => ?_)
            clear hP hD hS
            have hPD : PD D A [(Xx, .inr (6, [.ref Tp, .int (nI z_31), .ref Fr, .ref Rd, .ref Nn, .ref oNn, .ref Ts, .ref Ty, .int zld])), (Tp, .inl (g 0, 160, .inl (upd F_32 (nI z_31).toNatClampNeg (bw zq 3))))] H := ⟨hP2, hD2⟩
            have hS := hS2; clear hP2 hD2 hS2; have hP := hPD.1; have hD := hPD.2; clear hPD
            rw [nI_clamp (show z_31 < 2 ^ 31 by omega)] at hP hD
            have hPD : PD D A [(Xx, .inr (6, [.ref Tp, .int (nI z_31), .ref Fr, .ref Rd, .ref Nn, .ref oNn, .ref Ts, .ref Ty, .int zld])), (Tp, .inl (g 0, 160, .inl (upd F_32 (z_31) (bw zq 3))))] H := ⟨hP, hD⟩
            clear hP hD; have hP := hPD.1; have hD := hPD.2; clear hPD
            refine lv_aload_n hx hb dX6_append_39 rfl (lv_at hl 2 rfl) ?_
            refine lv_dup hx hb dX6_append_40 rfl ?_
            refine va_get (D := D) (ci := 6) (v := .int (nI z_31)) (C := RX6) (T := TX6) (N := 9) hx hb hts iX6 hown hK hP 0 rfl rfl 1 (by decide) f47 (fun _ h9 => h9) rfl dX6_append_41 ?_
            refine lv_iconst (v := 1) hx hb dX6_append_44 (by decide) ?_
            refine lv_iadd hx hb dX6_append_45 ?_
            refine lv_eqi (y := (nI (z_31 + 1))) (nI_add (z_31) (1)) ?_
            refine va_put (D := D) (ci := 6) (v := .int (nI (z_31 + 1))) (ty := .int) (C := RX6) (T := TX6) (N := 9) hx hb hts iX6 tyX6 tyX6_ok nmX6 hown hK hP hD hS 0 rfl rfl 1 (by decide) f47 (fun _ h9 => h9) rfl (by decide +kernel) (rfl) (rfl) (Nat.le_of_ble_eq_true rfl) dX6_append_46 (fun H locs hP2 hD2 hS2 => ?_)
            clear hP hD hS
            have hPD : PD D A [(Xx, .inr (6, [.ref Tp, .int (nI (z_31 + 1)), .ref Fr, .ref Rd, .ref Nn, .ref oNn, .ref Ts, .ref Ty, .int zld])), (Tp, .inl (g 0, 160, .inl (upd F_32 (z_31) (bw zq 3))))] H := ⟨hP2, hD2⟩
            have hS := hS2; clear hP2 hD2 hS2; have hP := hPD.1; have hD := hPD.2; clear hPD
            exact join_52 (z_31 + 1) (upd F_32 (z_31) (bw zq 3)) (show (z_31 + 1) ≤ 160 by omega) (pb_1 (k := 3) hv_38 cb_53 (by omega)) _ _ _ hP hD hS (lv_sub hl [1, 2, 3] rfl)
      refine lv_if_eq (tgt := 49) hx hb dX6_append_16 (by decide) (fun cb_57 => ?_) (fun cb_57 => ?_)
      · skip
        exact join_39 z_18 F_19 (show z_18 ≤ 160 by omega) (pb_0 (k := 2) hv_25 cb_57) _ _ _ hP hD hS (lv_sub hl [1, 2, 3] rfl)
      · skip
        refine lv_aload_n hx hb dX6_append_19 rfl (lv_at hl 2 rfl) ?_
        refine va_get (D := D) (ci := 6) (v := .int (nI z_18)) (C := RX6) (T := TX6) (N := 9) hx hb hts iX6 hown hK hP 0 rfl rfl 1 (by decide) f47 (fun _ h9 => h9) rfl dX6_append_20 ?_
        refine lv_sipush (v := 160) hx hb dX6_append_23 (by decide) ?_
        refine lv_icmp_ge (tgt := 49) hx hb dX6_append_26 (by decide) (fun cb_58 => ?_) (fun cb_58 => ?_)
        · skip
          have cn_59 : 160 ≤ z_18 := (nI_leI (show 160 < 2 ^ 31 by omega) (show z_18 < 2 ^ 31 by omega)).mp cb_58
          exact join_39 z_18 F_19 (show z_18 ≤ 160 by omega) (pb_f (k := 2) hv_25 (by omega)) _ _ _ hP hD hS (lv_sub hl [1, 2, 3] rfl)
        · skip
          have cn_60 : z_18 < 160 := Nat.lt_of_not_le (fun q9 => cb_58 ((nI_leI (show 160 < 2 ^ 31 by omega) (show z_18 < 2 ^ 31 by omega)).mpr q9))
          refine lv_aload_n hx hb dX6_append_29 rfl (lv_at hl 2 rfl) ?_
          refine va_get (D := D) (ci := 6) (v := .ref Tp) (C := RX6) (T := TX6) (N := 9) hx hb hts iX6 hown hK hP 0 rfl rfl 0 (by decide) f9 (fun _ h9 => h9) rfl dX6_append_30 ?_
          refine lv_aload_n hx hb dX6_append_33 rfl (lv_at hl 2 rfl) ?_
          refine va_get (D := D) (ci := 6) (v := .int (nI z_18)) (C := RX6) (T := TX6) (N := 9) hx hb hts iX6 hown hK hP 0 rfl rfl 1 (by decide) f47 (fun _ h9 => h9) rfl dX6_append_34 ?_
          refine lv_iload_n hx hb dX6_append_37 rfl (lv_at hl 0 rfl) ?_
          refine va_iast hx hb hK hP hD hS 1 0 rfl rfl (vp_in_nI (show z_18 < 160 by omega) (by decide)) dX6_append_38 (fun H locs hP2 hD2 hS2 => ?_)
          clear hP hD hS
          have hPD : PD D A [(Xx, .inr (6, [.ref Tp, .int (nI z_18), .ref Fr, .ref Rd, .ref Nn, .ref oNn, .ref Ts, .ref Ty, .int zld])), (Tp, .inl (g 0, 160, .inl (upd F_19 (nI z_18).toNatClampNeg (bw zq 2))))] H := ⟨hP2, hD2⟩
          have hS := hS2; clear hP2 hD2 hS2; have hP := hPD.1; have hD := hPD.2; clear hPD
          rw [nI_clamp (show z_18 < 2 ^ 31 by omega)] at hP hD
          have hPD : PD D A [(Xx, .inr (6, [.ref Tp, .int (nI z_18), .ref Fr, .ref Rd, .ref Nn, .ref oNn, .ref Ts, .ref Ty, .int zld])), (Tp, .inl (g 0, 160, .inl (upd F_19 (z_18) (bw zq 2))))] H := ⟨hP, hD⟩
          clear hP hD; have hP := hPD.1; have hD := hPD.2; clear hPD
          refine lv_aload_n hx hb dX6_append_39 rfl (lv_at hl 2 rfl) ?_
          refine lv_dup hx hb dX6_append_40 rfl ?_
          refine va_get (D := D) (ci := 6) (v := .int (nI z_18)) (C := RX6) (T := TX6) (N := 9) hx hb hts iX6 hown hK hP 0 rfl rfl 1 (by decide) f47 (fun _ h9 => h9) rfl dX6_append_41 ?_
          refine lv_iconst (v := 1) hx hb dX6_append_44 (by decide) ?_
          refine lv_iadd hx hb dX6_append_45 ?_
          refine lv_eqi (y := (nI (z_18 + 1))) (nI_add (z_18) (1)) ?_
          refine va_put (D := D) (ci := 6) (v := .int (nI (z_18 + 1))) (ty := .int) (C := RX6) (T := TX6) (N := 9) hx hb hts iX6 tyX6 tyX6_ok nmX6 hown hK hP hD hS 0 rfl rfl 1 (by decide) f47 (fun _ h9 => h9) rfl (by decide +kernel) (rfl) (rfl) (Nat.le_of_ble_eq_true rfl) dX6_append_46 (fun H locs hP2 hD2 hS2 => ?_)
          clear hP hD hS
          have hPD : PD D A [(Xx, .inr (6, [.ref Tp, .int (nI (z_18 + 1)), .ref Fr, .ref Rd, .ref Nn, .ref oNn, .ref Ts, .ref Ty, .int zld])), (Tp, .inl (g 0, 160, .inl (upd F_19 (z_18) (bw zq 2))))] H := ⟨hP2, hD2⟩
          have hS := hS2; clear hP2 hD2 hS2; have hP := hPD.1; have hD := hPD.2; clear hPD
          exact join_39 (z_18 + 1) (upd F_19 (z_18) (bw zq 2)) (show (z_18 + 1) ≤ 160 by omega) (pb_1 (k := 2) hv_25 cb_57 (by omega)) _ _ _ hP hD hS (lv_sub hl [1, 2, 3] rfl)
    refine lv_if_eq (tgt := 49) hx hb dX6_append_16 (by decide) (fun cb_61 => ?_) (fun cb_61 => ?_)
    · skip
      exact join_26 z_5 F_6 (show z_5 ≤ 160 by omega) (pb_0 (k := 1) hv_12 cb_61) _ _ _ hP hD hS (lv_sub hl [1, 2, 3] rfl)
    · skip
      refine lv_aload_n hx hb dX6_append_19 rfl (lv_at hl 2 rfl) ?_
      refine va_get (D := D) (ci := 6) (v := .int (nI z_5)) (C := RX6) (T := TX6) (N := 9) hx hb hts iX6 hown hK hP 0 rfl rfl 1 (by decide) f47 (fun _ h9 => h9) rfl dX6_append_20 ?_
      refine lv_sipush (v := 160) hx hb dX6_append_23 (by decide) ?_
      refine lv_icmp_ge (tgt := 49) hx hb dX6_append_26 (by decide) (fun cb_62 => ?_) (fun cb_62 => ?_)
      · skip
        have cn_63 : 160 ≤ z_5 := (nI_leI (show 160 < 2 ^ 31 by omega) (show z_5 < 2 ^ 31 by omega)).mp cb_62
        exact join_26 z_5 F_6 (show z_5 ≤ 160 by omega) (pb_f (k := 1) hv_12 (by omega)) _ _ _ hP hD hS (lv_sub hl [1, 2, 3] rfl)
      · skip
        have cn_64 : z_5 < 160 := Nat.lt_of_not_le (fun q9 => cb_62 ((nI_leI (show 160 < 2 ^ 31 by omega) (show z_5 < 2 ^ 31 by omega)).mpr q9))
        refine lv_aload_n hx hb dX6_append_29 rfl (lv_at hl 2 rfl) ?_
        refine va_get (D := D) (ci := 6) (v := .ref Tp) (C := RX6) (T := TX6) (N := 9) hx hb hts iX6 hown hK hP 0 rfl rfl 0 (by decide) f9 (fun _ h9 => h9) rfl dX6_append_30 ?_
        refine lv_aload_n hx hb dX6_append_33 rfl (lv_at hl 2 rfl) ?_
        refine va_get (D := D) (ci := 6) (v := .int (nI z_5)) (C := RX6) (T := TX6) (N := 9) hx hb hts iX6 hown hK hP 0 rfl rfl 1 (by decide) f47 (fun _ h9 => h9) rfl dX6_append_34 ?_
        refine lv_iload_n hx hb dX6_append_37 rfl (lv_at hl 0 rfl) ?_
        refine va_iast hx hb hK hP hD hS 1 0 rfl rfl (vp_in_nI (show z_5 < 160 by omega) (by decide)) dX6_append_38 (fun H locs hP2 hD2 hS2 => ?_)
        clear hP hD hS
        have hPD : PD D A [(Xx, .inr (6, [.ref Tp, .int (nI z_5), .ref Fr, .ref Rd, .ref Nn, .ref oNn, .ref Ts, .ref Ty, .int zld])), (Tp, .inl (g 0, 160, .inl (upd F_6 (nI z_5).toNatClampNeg (bw zq 1))))] H := ⟨hP2, hD2⟩
        have hS := hS2; clear hP2 hD2 hS2; have hP := hPD.1; have hD := hPD.2; clear hPD
        rw [nI_clamp (show z_5 < 2 ^ 31 by omega)] at hP hD
        have hPD : PD D A [(Xx, .inr (6, [.ref Tp, .int (nI z_5), .ref Fr, .ref Rd, .ref Nn, .ref oNn, .ref Ts, .ref Ty, .int zld])), (Tp, .inl (g 0, 160, .inl (upd F_6 (z_5) (bw zq 1))))] H := ⟨hP, hD⟩
        clear hP hD; have hP := hPD.1; have hD := hPD.2; clear hPD
        refine lv_aload_n hx hb dX6_append_39 rfl (lv_at hl 2 rfl) ?_
        refine lv_dup hx hb dX6_append_40 rfl ?_
        refine va_get (D := D) (ci := 6) (v := .int (nI z_5)) (C := RX6) (T := TX6) (N := 9) hx hb hts iX6 hown hK hP 0 rfl rfl 1 (by decide) f47 (fun _ h9 => h9) rfl dX6_append_41 ?_
        refine lv_iconst (v := 1) hx hb dX6_append_44 (by decide) ?_
        refine lv_iadd hx hb dX6_append_45 ?_
        refine lv_eqi (y := (nI (z_5 + 1))) (nI_add (z_5) (1)) ?_
        refine va_put (D := D) (ci := 6) (v := .int (nI (z_5 + 1))) (ty := .int) (C := RX6) (T := TX6) (N := 9) hx hb hts iX6 tyX6 tyX6_ok nmX6 hown hK hP hD hS 0 rfl rfl 1 (by decide) f47 (fun _ h9 => h9) rfl (by decide +kernel) (rfl) (rfl) (Nat.le_of_ble_eq_true rfl) dX6_append_46 (fun H locs hP2 hD2 hS2 => ?_)
        clear hP hD hS
        have hPD : PD D A [(Xx, .inr (6, [.ref Tp, .int (nI (z_5 + 1)), .ref Fr, .ref Rd, .ref Nn, .ref oNn, .ref Ts, .ref Ty, .int zld])), (Tp, .inl (g 0, 160, .inl (upd F_6 (z_5) (bw zq 1))))] H := ⟨hP2, hD2⟩
        have hS := hS2; clear hP2 hD2 hS2; have hP := hPD.1; have hD := hPD.2; clear hPD
        exact join_26 (z_5 + 1) (upd F_6 (z_5) (bw zq 1)) (show (z_5 + 1) ≤ 160 by omega) (pb_1 (k := 1) hv_12 cb_61 (by omega)) _ _ _ hP hD hS (lv_sub hl [1, 2, 3] rfl)
  refine lv_if_eq (tgt := 49) hx hb dX6_append_16 (by decide) (fun cb_65 => ?_) (fun cb_65 => ?_)
  · skip
    exact join_13 tl ftp (show tl ≤ 160 by omega) (pb_0 (k := 0) (show (tl, ftp) = pbs (bw zq) (tl, ftp) 0 from rfl) cb_65) _ _ _ hP hD hS (lv_sub hl [1, 2, 3] rfl)
  · skip
    refine lv_aload_n hx hb dX6_append_19 rfl (lv_at hl 2 rfl) ?_
    refine va_get (D := D) (ci := 6) (v := .int (nI tl)) (C := RX6) (T := TX6) (N := 9) hx hb hts iX6 hown hK hP 0 rfl rfl 1 (by decide) f47 (fun _ h9 => h9) rfl dX6_append_20 ?_
    refine lv_sipush (v := 160) hx hb dX6_append_23 (by decide) ?_
    refine lv_icmp_ge (tgt := 49) hx hb dX6_append_26 (by decide) (fun cb_66 => ?_) (fun cb_66 => ?_)
    · skip
      have cn_67 : 160 ≤ tl := (nI_leI (show 160 < 2 ^ 31 by omega) (show tl < 2 ^ 31 by omega)).mp cb_66
      exact join_13 tl ftp (show tl ≤ 160 by omega) (pb_f (k := 0) (show (tl, ftp) = pbs (bw zq) (tl, ftp) 0 from rfl) (by omega)) _ _ _ hP hD hS (lv_sub hl [1, 2, 3] rfl)
    · skip
      have cn_68 : tl < 160 := Nat.lt_of_not_le (fun q9 => cb_66 ((nI_leI (show 160 < 2 ^ 31 by omega) (show tl < 2 ^ 31 by omega)).mpr q9))
      refine lv_aload_n hx hb dX6_append_29 rfl (lv_at hl 2 rfl) ?_
      refine va_get (D := D) (ci := 6) (v := .ref Tp) (C := RX6) (T := TX6) (N := 9) hx hb hts iX6 hown hK hP 0 rfl rfl 0 (by decide) f9 (fun _ h9 => h9) rfl dX6_append_30 ?_
      refine lv_aload_n hx hb dX6_append_33 rfl (lv_at hl 2 rfl) ?_
      refine va_get (D := D) (ci := 6) (v := .int (nI tl)) (C := RX6) (T := TX6) (N := 9) hx hb hts iX6 hown hK hP 0 rfl rfl 1 (by decide) f47 (fun _ h9 => h9) rfl dX6_append_34 ?_
      refine lv_iload_n hx hb dX6_append_37 rfl (lv_at hl 0 rfl) ?_
      refine va_iast hx hb hK hP hD hS 1 0 rfl rfl (vp_in_nI (show tl < 160 by omega) (by decide)) dX6_append_38 (fun H locs hP2 hD2 hS2 => ?_)
      clear hP hD hS
      have hPD : PD D A [(Xx, .inr (6, [.ref Tp, .int (nI tl), .ref Fr, .ref Rd, .ref Nn, .ref oNn, .ref Ts, .ref Ty, .int zld])), (Tp, .inl (g 0, 160, .inl (upd ftp (nI tl).toNatClampNeg (bw zq 0))))] H := ⟨hP2, hD2⟩
      have hS := hS2; clear hP2 hD2 hS2; have hP := hPD.1; have hD := hPD.2; clear hPD
      rw [nI_clamp (show tl < 2 ^ 31 by omega)] at hP hD
      have hPD : PD D A [(Xx, .inr (6, [.ref Tp, .int (nI tl), .ref Fr, .ref Rd, .ref Nn, .ref oNn, .ref Ts, .ref Ty, .int zld])), (Tp, .inl (g 0, 160, .inl (upd ftp (tl) (bw zq 0))))] H := ⟨hP, hD⟩
      clear hP hD; have hP := hPD.1; have hD := hPD.2; clear hPD
      refine lv_aload_n hx hb dX6_append_39 rfl (lv_at hl 2 rfl) ?_
      refine lv_dup hx hb dX6_append_40 rfl ?_
      refine va_get (D := D) (ci := 6) (v := .int (nI tl)) (C := RX6) (T := TX6) (N := 9) hx hb hts iX6 hown hK hP 0 rfl rfl 1 (by decide) f47 (fun _ h9 => h9) rfl dX6_append_41 ?_
      refine lv_iconst (v := 1) hx hb dX6_append_44 (by decide) ?_
      refine lv_iadd hx hb dX6_append_45 ?_
      refine lv_eqi (y := (nI (tl + 1))) (nI_add (tl) (1)) ?_
      refine va_put (D := D) (ci := 6) (v := .int (nI (tl + 1))) (ty := .int) (C := RX6) (T := TX6) (N := 9) hx hb hts iX6 tyX6 tyX6_ok nmX6 hown hK hP hD hS 0 rfl rfl 1 (by decide) f47 (fun _ h9 => h9) rfl (by decide +kernel) (rfl) (rfl) (Nat.le_of_ble_eq_true rfl) dX6_append_46 (fun H locs hP2 hD2 hS2 => ?_)
      clear hP hD hS
      have hPD : PD D A [(Xx, .inr (6, [.ref Tp, .int (nI (tl + 1)), .ref Fr, .ref Rd, .ref Nn, .ref oNn, .ref Ts, .ref Ty, .int zld])), (Tp, .inl (g 0, 160, .inl (upd ftp (tl) (bw zq 0))))] H := ⟨hP2, hD2⟩
      have hS := hS2; clear hP2 hD2 hS2; have hP := hPD.1; have hD := hPD.2; clear hPD
      exact join_13 (tl + 1) (upd ftp (tl) (bw zq 0)) (show (tl + 1) ≤ 160 by omega) (pb_1 (k := 0) (show (tl, ftp) = pbs (bw zq) (tl, ftp) 0 from rfl) cb_65 (by omega)) _ _ _ hP hD hS (lv_sub hl [1, 2, 3] rfl)

set_option maxHeartbeats 4000000 in
set_option maxRecDepth 100000 in
theorem r_X6_feed (l : Launch) (D : va_G) (g : Nat → ClassId) (sz : Nat) (Xx : Nat) (za : Int32) (zb : Int32) (zc : Int32) (zd : Int32) (ze : Int32) (Tp : Nat) (tl : Nat) (Fr : Nat) (Rd : Nat) (Nn : Nat) (oNn : Nat) (Ts : Nat) (Ty : Nat) (zld : Int32) (ftp : Nat → Int32) (h0 : tl ≤ 160) : Met l yX6_feed wsX6_feed ({ frames := 1, cells := 0, slots := 0, locals := 23 }) (va_Pc [.ref Xx, .int za, .int zb, .int zc, .int zd, .int ze] (pre D g sz [(Xx, .inr (6, [.ref Tp, .int (nI tl), .ref Fr, .ref Rd, .ref Nn, .ref oNn, .ref Ts, .ref Ty, .int zld])), (Tp, .inl (g 0, 160, .inl ftp))])) (va_Qi (fun (r : Int32) (u : va_W) => ∃ (tlx : Nat) (ftpx : Nat → Int32) (zr : Int32), u = [(Xx, .inr (6, [.ref Tp, .int (nI tlx), .ref Fr, .ref Rd, .ref Nn, .ref oNn, .ref Ts, .ref Ty, .int zld])), (Tp, .inl (g 0, 160, .inl ftpx))] ∧ r = zr ∧ (tlx ≤ 160) ∧ ((zr, tlx, ftpx) = fdR (tl, ftp) za zb zc zd ze)) (wd D (va_A [(Xx, .inr (6, [.ref Tp, .int (nI tl), .ref Fr, .ref Rd, .ref Nn, .ref oNn, .ref Ts, .ref Ty, .int zld])), (Tp, .inl (g 0, 160, .inl ftp))] sz)) (va_A [(Xx, .inr (6, [.ref Tp, .int (nI tl), .ref Fr, .ref Rd, .ref Nn, .ref oNn, .ref Ts, .ref Ty, .int zld])), (Tp, .inl (g 0, 160, .inl ftp))] sz)) 0 0 (va_A [(Xx, .inr (6, [.ref Tp, .int (nI tl), .ref Fr, .ref Rd, .ref Nn, .ref oNn, .ref Ts, .ref Ty, .int zld])), (Tp, .inl (g 0, 160, .inl ftp))] sz) := by
  refine Met.ofW (cc := cX6_feed) (maxL := 7) (ret := (some .int)) (by decide) rfl ?_
  intro p e s m args below meth c s₁ B hml hv
  obtain ⟨rfl, hsz, hP, ⟨hK, hN⟩, hD0, hZ⟩ := hv
  have hx := B.exec
  have hb := B.bytes
  have hr := B.returns
  have hts := atoms_spec (ws := wsX6_feed) B.pre
  have hown : s.vm.findClass RX6 = some m.cls := findClass_of_methodNamed B.named
  have hlocks := B.notSynchronized
  clear B
  subst hsz
  have hD := hD0.self (sz := s.heap.size)
  clear hD0
  generalize hAe : va_A [(Xx, .inr (6, [.ref Tp, .int (nI tl), .ref Fr, .ref Rd, .ref Nn, .ref oNn, .ref Ts, .ref Ty, .int zld])), (Tp, .inl (g 0, 160, .inl ftp))] s.heap.size = A at hD hZ ⊢
  have hA : ∀ q : Nat, s.heap.size ≤ q → A q := fun q h => by rw [← hAe]; exact Or.inr h
  have hS : va_S A s.heap s.heap [] := va_S.rf
  have f47 := hts (.fieldLink RX6 47 "HopCredits" "tapeLength" "I") (List.mem_of_getElem? (i := 1) rfl)
  have iX6 : ∀ w ∈ u_ws RX6 TX6 9, w ∈ wsX6_feed := fun w h => List.mem_cons_of_mem _ (List.mem_append_right _ (h))
  have hl := lv_entry ([.ref Xx, .int za, .int zb, .int zc, .int zd, .int ze]) (n := 7) (Nat.le_of_ble_eq_true rfl)
  rw [lg_entry_eq]
  generalize (lg_sl ([.ref Xx, .int za, .int zb, .int zc, .int zd, .int ze]) ++ List.replicate (7 - (lg_sl ([.ref Xx, .int za, .int zb, .int zc, .int zd, .int ze])).length) Slot.unset).toArray = ls at hl ⊢
  have hl : lv_has ls 7 [(0, .ref Xx), (1, .int za), (2, .int zb), (3, .int zc), (4, .int zd), (5, .int ze)] := hl
  generalize hQ : MQ below _ _ s _ _ _ = Q
  generalize hH : s.heap = H at hP ⊢
  have hS : va_S A s.heap H [] := by rw [← hH]; exact hS
  clear hH
  have hsa := sg_le za
  have hsb := sg_le zb
  have hsc := sg_le zc
  have hsd := sg_le zd
  have hse := sg_le ze
  refine lv_iload_n hx hb dX6_feed_0 rfl (lv_at hl 1 rfl) ?_
  refine ky_Si (As := [.int za]) (rest := []) ⟨hx, hb, hml, hown, hts⟩ ⟨hK, hN⟩ hZ hP hD hS hA [] [0, 1] (wc := []) (wr := [(Xx, .inr (6, [.ref Tp, .int (nI tl), .ref Fr, .ref Rd, .ref Nn, .ref oNn, .ref Ts, .ref Ty, .int zld])), (Tp, .inl (g 0, 160, .inl ftp))]) rfl rfl rfl rfl (by decide) (c_X6_signsIn l D g H.size za) (va_cwS 1 hts gX6_feed_X6_signsIn rfl rfl rfl (by decide +kernel) ⟨(Nat.le_of_ble_eq_true rfl), (Nat.le_of_ble_eq_true rfl)⟩) rfl hl.1 rfl (Nat.le_of_ble_eq_true rfl) dX6_feed_1 ⟨(Nat.le_of_ble_eq_true rfl), (Nat.le_of_ble_eq_true rfl)⟩ (fun r_1 u H locs hw hP2 hD2 hS2 => ?_)
  clear hP hD hS
  obtain ⟨rfl, rfl⟩ := hw
  have hPD : PD D A [(Xx, .inr (6, [.ref Tp, .int (nI tl), .ref Fr, .ref Rd, .ref Nn, .ref oNn, .ref Ts, .ref Ty, .int zld])), (Tp, .inl (g 0, 160, .inl ftp))] H := ⟨hP2, hD2⟩
  have hS := hS2; clear hP2 hD2 hS2; have hP := hPD.1; have hD := hPD.2; clear hPD
  refine W.widen (k := 0) (n := 0) (Nat.le_of_ble_eq_true rfl) (Nat.le_of_ble_eq_true rfl) ?_
  refine lv_iload_n hx hb dX6_feed_4 rfl (lv_at hl 2 rfl) ?_
  refine ky_Si (As := [.int zb]) (rest := [.int (nI (sg za))]) ⟨hx, hb, hml, hown, hts⟩ ⟨hK, hN⟩ hZ hP hD hS hA [] [0, 1] (wc := []) (wr := [(Xx, .inr (6, [.ref Tp, .int (nI tl), .ref Fr, .ref Rd, .ref Nn, .ref oNn, .ref Ts, .ref Ty, .int zld])), (Tp, .inl (g 0, 160, .inl ftp))]) rfl rfl rfl rfl (by decide) (c_X6_signsIn l D g H.size zb) (va_cwS 1 hts gX6_feed_X6_signsIn rfl rfl rfl (by decide +kernel) ⟨(Nat.le_of_ble_eq_true rfl), (Nat.le_of_ble_eq_true rfl)⟩) rfl hl.1 rfl (Nat.le_of_ble_eq_true rfl) dX6_feed_5 ⟨(Nat.le_of_ble_eq_true rfl), (Nat.le_of_ble_eq_true rfl)⟩ (fun r_2 u H locs hw hP2 hD2 hS2 => ?_)
  clear hP hD hS
  obtain ⟨rfl, rfl⟩ := hw
  have hPD : PD D A [(Xx, .inr (6, [.ref Tp, .int (nI tl), .ref Fr, .ref Rd, .ref Nn, .ref oNn, .ref Ts, .ref Ty, .int zld])), (Tp, .inl (g 0, 160, .inl ftp))] H := ⟨hP2, hD2⟩
  have hS := hS2; clear hP2 hD2 hS2; have hP := hPD.1; have hD := hPD.2; clear hPD
  refine W.widen (k := 0) (n := 0) (Nat.le_of_ble_eq_true rfl) (Nat.le_of_ble_eq_true rfl) ?_
  refine lv_iadd hx hb dX6_feed_8 ?_
  refine lv_eqi (y := (nI (sg za + (sg zb)))) (nI_add (sg za) (sg zb)) ?_
  refine lv_iload_n hx hb dX6_feed_9 rfl (lv_at hl 3 rfl) ?_
  refine ky_Si (As := [.int zc]) (rest := [.int (nI (sg za + (sg zb)))]) ⟨hx, hb, hml, hown, hts⟩ ⟨hK, hN⟩ hZ hP hD hS hA [] [0, 1] (wc := []) (wr := [(Xx, .inr (6, [.ref Tp, .int (nI tl), .ref Fr, .ref Rd, .ref Nn, .ref oNn, .ref Ts, .ref Ty, .int zld])), (Tp, .inl (g 0, 160, .inl ftp))]) rfl rfl rfl rfl (by decide) (c_X6_signsIn l D g H.size zc) (va_cwS 1 hts gX6_feed_X6_signsIn rfl rfl rfl (by decide +kernel) ⟨(Nat.le_of_ble_eq_true rfl), (Nat.le_of_ble_eq_true rfl)⟩) rfl hl.1 rfl (Nat.le_of_ble_eq_true rfl) dX6_feed_10 ⟨(Nat.le_of_ble_eq_true rfl), (Nat.le_of_ble_eq_true rfl)⟩ (fun r_3 u H locs hw hP2 hD2 hS2 => ?_)
  clear hP hD hS
  obtain ⟨rfl, rfl⟩ := hw
  have hPD : PD D A [(Xx, .inr (6, [.ref Tp, .int (nI tl), .ref Fr, .ref Rd, .ref Nn, .ref oNn, .ref Ts, .ref Ty, .int zld])), (Tp, .inl (g 0, 160, .inl ftp))] H := ⟨hP2, hD2⟩
  have hS := hS2; clear hP2 hD2 hS2; have hP := hPD.1; have hD := hPD.2; clear hPD
  refine W.widen (k := 0) (n := 0) (Nat.le_of_ble_eq_true rfl) (Nat.le_of_ble_eq_true rfl) ?_
  refine lv_iadd hx hb dX6_feed_13 ?_
  refine lv_eqi (y := (nI (sg za + (sg zb) + (sg zc)))) (nI_add (sg za + (sg zb)) (sg zc)) ?_
  refine lv_iload hx hb dX6_feed_14 (lv_at hl 4 rfl) ?_
  refine ky_Si (As := [.int zd]) (rest := [.int (nI (sg za + (sg zb) + (sg zc)))]) ⟨hx, hb, hml, hown, hts⟩ ⟨hK, hN⟩ hZ hP hD hS hA [] [0, 1] (wc := []) (wr := [(Xx, .inr (6, [.ref Tp, .int (nI tl), .ref Fr, .ref Rd, .ref Nn, .ref oNn, .ref Ts, .ref Ty, .int zld])), (Tp, .inl (g 0, 160, .inl ftp))]) rfl rfl rfl rfl (by decide) (c_X6_signsIn l D g H.size zd) (va_cwS 1 hts gX6_feed_X6_signsIn rfl rfl rfl (by decide +kernel) ⟨(Nat.le_of_ble_eq_true rfl), (Nat.le_of_ble_eq_true rfl)⟩) rfl hl.1 rfl (Nat.le_of_ble_eq_true rfl) dX6_feed_16 ⟨(Nat.le_of_ble_eq_true rfl), (Nat.le_of_ble_eq_true rfl)⟩ (fun r_4 u H locs hw hP2 hD2 hS2 => ?_)
  clear hP hD hS
  obtain ⟨rfl, rfl⟩ := hw
  have hPD : PD D A [(Xx, .inr (6, [.ref Tp, .int (nI tl), .ref Fr, .ref Rd, .ref Nn, .ref oNn, .ref Ts, .ref Ty, .int zld])), (Tp, .inl (g 0, 160, .inl ftp))] H := ⟨hP2, hD2⟩
  have hS := hS2; clear hP2 hD2 hS2; have hP := hPD.1; have hD := hPD.2; clear hPD
  refine W.widen (k := 0) (n := 0) (Nat.le_of_ble_eq_true rfl) (Nat.le_of_ble_eq_true rfl) ?_
  refine lv_iadd hx hb dX6_feed_19 ?_
  refine lv_eqi (y := (nI (sg za + (sg zb) + (sg zc) + (sg zd)))) (nI_add (sg za + (sg zb) + (sg zc)) (sg zd)) ?_
  refine lv_iload hx hb dX6_feed_20 (lv_at hl 5 rfl) ?_
  refine ky_Si (As := [.int ze]) (rest := [.int (nI (sg za + (sg zb) + (sg zc) + (sg zd)))]) ⟨hx, hb, hml, hown, hts⟩ ⟨hK, hN⟩ hZ hP hD hS hA [] [0, 1] (wc := []) (wr := [(Xx, .inr (6, [.ref Tp, .int (nI tl), .ref Fr, .ref Rd, .ref Nn, .ref oNn, .ref Ts, .ref Ty, .int zld])), (Tp, .inl (g 0, 160, .inl ftp))]) rfl rfl rfl rfl (by decide) (c_X6_signsIn l D g H.size ze) (va_cwS 1 hts gX6_feed_X6_signsIn rfl rfl rfl (by decide +kernel) ⟨(Nat.le_of_ble_eq_true rfl), (Nat.le_of_ble_eq_true rfl)⟩) rfl hl.1 rfl (Nat.le_of_ble_eq_true rfl) dX6_feed_22 ⟨(Nat.le_of_ble_eq_true rfl), (Nat.le_of_ble_eq_true rfl)⟩ (fun r_5 u H locs hw hP2 hD2 hS2 => ?_)
  clear hP hD hS
  obtain ⟨rfl, rfl⟩ := hw
  have hPD : PD D A [(Xx, .inr (6, [.ref Tp, .int (nI tl), .ref Fr, .ref Rd, .ref Nn, .ref oNn, .ref Ts, .ref Ty, .int zld])), (Tp, .inl (g 0, 160, .inl ftp))] H := ⟨hP2, hD2⟩
  have hS := hS2; clear hP2 hD2 hS2; have hP := hPD.1; have hD := hPD.2; clear hPD
  refine W.widen (k := 0) (n := 0) (Nat.le_of_ble_eq_true rfl) (Nat.le_of_ble_eq_true rfl) ?_
  refine lv_iadd hx hb dX6_feed_25 ?_
  refine lv_eqi (y := (nI (sg za + (sg zb) + (sg zc) + (sg zd) + (sg ze)))) (nI_add (sg za + (sg zb) + (sg zc) + (sg zd)) (sg ze)) ?_
  refine lv_istore (lv' := [(6, .int (nI (sg za + (sg zb) + (sg zc) + (sg zd) + (sg ze)))), (0, .ref Xx), (1, .int za), (2, .int zb), (3, .int zc), (4, .int zd), (5, .int ze)]) hx hb dX6_feed_26 hl (by decide) rfl (fun ls hl => ?_)
  refine lv_aload_n hx hb dX6_feed_28 rfl (lv_at hl 1 rfl) ?_
  refine va_get (D := D) (ci := 6) (v := .int (nI tl)) (C := RX6) (T := TX6) (N := 9) hx hb hts iX6 hown hK hP 0 rfl rfl 1 (by decide) f47 (fun _ h9 => h9) rfl dX6_feed_29 ?_
  refine lv_iload hx hb dX6_feed_32 (lv_at hl 0 rfl) ?_
  refine lv_iadd hx hb dX6_feed_34 ?_
  refine lv_eqi (y := (nI (tl + (sg za + (sg zb) + (sg zc) + (sg zd) + (sg ze))))) (nI_add (tl) (sg za + (sg zb) + (sg zc) + (sg zd) + (sg ze))) ?_
  refine lv_sipush (v := 160) hx hb dX6_feed_35 (by decide) ?_
  refine lv_icmp_le (tgt := 43) hx hb dX6_feed_38 (by decide) (fun cb_6 => ?_) (fun cb_6 => ?_)
  · skip
    have hct_7 : tl + (sg za + (sg zb) + (sg zc) + (sg zd) + (sg ze)) ≤ 160 := (nI_leI (show tl + (sg za + (sg zb) + (sg zc) + (sg zd) + (sg ze)) < 2 ^ 31 by omega) (show 160 < 2 ^ 31 by omega)).mp cb_6
    refine lv_aload_n hx hb dX6_feed_43 rfl (lv_at hl 1 rfl) ?_
    refine lv_iload_n hx hb dX6_feed_44 rfl (lv_at hl 2 rfl) ?_
    refine ky_Vv (As := [.int za]) (rest := []) ⟨hx, hb, hml, hown, hts⟩ ⟨hK, hN⟩ hZ hP hD hS hA [0, 1] [] (wc := [(Xx, .inr (6, [.ref Tp, .int (nI tl), .ref Fr, .ref Rd, .ref Nn, .ref oNn, .ref Ts, .ref Ty, .int zld])), (Tp, .inl (g 0, 160, .inl ftp))]) (wr := []) rfl rfl rfl rfl (by decide) (r_X6_append l D g H.size Xx za Tp tl Fr Rd Nn oNn Ts Ty zld ftp (show tl ≤ 160 by omega)) (cwV 1 hts gX6_feed_X6_append rfl rfl rfl (by decide +kernel) ⟨(Nat.le_of_ble_eq_true rfl), (Nat.le_of_ble_eq_true rfl)⟩) 0 6 rfl rfl rfl rfl hl.1 rfl (Nat.le_of_ble_eq_true rfl) dX6_feed_45 ⟨(Nat.le_of_ble_eq_true rfl), (Nat.le_of_ble_eq_true rfl)⟩ (fun u H locs hw hP2 hD2 hS2 => ?_)
    clear hP hD hS
    obtain ⟨tlx_9, ftpx_10, rfl, hf_11, hf_12⟩ := hw
    have hPD : PD D A [(Xx, .inr (6, [.ref Tp, .int (nI tlx_9), .ref Fr, .ref Rd, .ref Nn, .ref oNn, .ref Ts, .ref Ty, .int zld])), (Tp, .inl (g 0, 160, .inl ftpx_10))] H := ⟨hP2, hD2⟩
    have hS := hS2; clear hP2 hD2 hS2; have hP := hPD.1; have hD := hPD.2; clear hPD
    refine W.widen (k := 0) (n := 0) (Nat.le_of_ble_eq_true rfl) (Nat.le_of_ble_eq_true rfl) ?_
    refine lv_aload_n hx hb dX6_feed_48 rfl (lv_at hl 1 rfl) ?_
    refine lv_iload_n hx hb dX6_feed_49 rfl (lv_at hl 3 rfl) ?_
    refine ky_Vv (As := [.int zb]) (rest := []) ⟨hx, hb, hml, hown, hts⟩ ⟨hK, hN⟩ hZ hP hD hS hA [0, 1] [] (wc := [(Xx, .inr (6, [.ref Tp, .int (nI tlx_9), .ref Fr, .ref Rd, .ref Nn, .ref oNn, .ref Ts, .ref Ty, .int zld])), (Tp, .inl (g 0, 160, .inl ftpx_10))]) (wr := []) rfl rfl rfl rfl (by decide) (r_X6_append l D g H.size Xx zb Tp tlx_9 Fr Rd Nn oNn Ts Ty zld ftpx_10 (show tlx_9 ≤ 160 by omega)) (cwV 1 hts gX6_feed_X6_append rfl rfl rfl (by decide +kernel) ⟨(Nat.le_of_ble_eq_true rfl), (Nat.le_of_ble_eq_true rfl)⟩) 0 6 rfl rfl rfl rfl hl.1 rfl (Nat.le_of_ble_eq_true rfl) dX6_feed_50 ⟨(Nat.le_of_ble_eq_true rfl), (Nat.le_of_ble_eq_true rfl)⟩ (fun u H locs hw hP2 hD2 hS2 => ?_)
    clear hP hD hS
    obtain ⟨tlx_14, ftpx_15, rfl, hf_16, hf_17⟩ := hw
    have hPD : PD D A [(Xx, .inr (6, [.ref Tp, .int (nI tlx_14), .ref Fr, .ref Rd, .ref Nn, .ref oNn, .ref Ts, .ref Ty, .int zld])), (Tp, .inl (g 0, 160, .inl ftpx_15))] H := ⟨hP2, hD2⟩
    have hS := hS2; clear hP2 hD2 hS2; have hP := hPD.1; have hD := hPD.2; clear hPD
    refine W.widen (k := 0) (n := 0) (Nat.le_of_ble_eq_true rfl) (Nat.le_of_ble_eq_true rfl) ?_
    refine lv_aload_n hx hb dX6_feed_53 rfl (lv_at hl 1 rfl) ?_
    refine lv_iload_n hx hb dX6_feed_54 rfl (lv_at hl 4 rfl) ?_
    refine ky_Vv (As := [.int zc]) (rest := []) ⟨hx, hb, hml, hown, hts⟩ ⟨hK, hN⟩ hZ hP hD hS hA [0, 1] [] (wc := [(Xx, .inr (6, [.ref Tp, .int (nI tlx_14), .ref Fr, .ref Rd, .ref Nn, .ref oNn, .ref Ts, .ref Ty, .int zld])), (Tp, .inl (g 0, 160, .inl ftpx_15))]) (wr := []) rfl rfl rfl rfl (by decide) (r_X6_append l D g H.size Xx zc Tp tlx_14 Fr Rd Nn oNn Ts Ty zld ftpx_15 (show tlx_14 ≤ 160 by omega)) (cwV 1 hts gX6_feed_X6_append rfl rfl rfl (by decide +kernel) ⟨(Nat.le_of_ble_eq_true rfl), (Nat.le_of_ble_eq_true rfl)⟩) 0 6 rfl rfl rfl rfl hl.1 rfl (Nat.le_of_ble_eq_true rfl) dX6_feed_55 ⟨(Nat.le_of_ble_eq_true rfl), (Nat.le_of_ble_eq_true rfl)⟩ (fun u H locs hw hP2 hD2 hS2 => ?_)
    clear hP hD hS
    obtain ⟨tlx_19, ftpx_20, rfl, hf_21, hf_22⟩ := hw
    have hPD : PD D A [(Xx, .inr (6, [.ref Tp, .int (nI tlx_19), .ref Fr, .ref Rd, .ref Nn, .ref oNn, .ref Ts, .ref Ty, .int zld])), (Tp, .inl (g 0, 160, .inl ftpx_20))] H := ⟨hP2, hD2⟩
    have hS := hS2; clear hP2 hD2 hS2; have hP := hPD.1; have hD := hPD.2; clear hPD
    refine W.widen (k := 0) (n := 0) (Nat.le_of_ble_eq_true rfl) (Nat.le_of_ble_eq_true rfl) ?_
    refine lv_aload_n hx hb dX6_feed_58 rfl (lv_at hl 1 rfl) ?_
    refine lv_iload hx hb dX6_feed_59 (lv_at hl 5 rfl) ?_
    refine ky_Vv (As := [.int zd]) (rest := []) ⟨hx, hb, hml, hown, hts⟩ ⟨hK, hN⟩ hZ hP hD hS hA [0, 1] [] (wc := [(Xx, .inr (6, [.ref Tp, .int (nI tlx_19), .ref Fr, .ref Rd, .ref Nn, .ref oNn, .ref Ts, .ref Ty, .int zld])), (Tp, .inl (g 0, 160, .inl ftpx_20))]) (wr := []) rfl rfl rfl rfl (by decide) (r_X6_append l D g H.size Xx zd Tp tlx_19 Fr Rd Nn oNn Ts Ty zld ftpx_20 (show tlx_19 ≤ 160 by omega)) (cwV 1 hts gX6_feed_X6_append rfl rfl rfl (by decide +kernel) ⟨(Nat.le_of_ble_eq_true rfl), (Nat.le_of_ble_eq_true rfl)⟩) 0 6 rfl rfl rfl rfl hl.1 rfl (Nat.le_of_ble_eq_true rfl) dX6_feed_61 ⟨(Nat.le_of_ble_eq_true rfl), (Nat.le_of_ble_eq_true rfl)⟩ (fun u H locs hw hP2 hD2 hS2 => ?_)
    clear hP hD hS
    obtain ⟨tlx_24, ftpx_25, rfl, hf_26, hf_27⟩ := hw
    have hPD : PD D A [(Xx, .inr (6, [.ref Tp, .int (nI tlx_24), .ref Fr, .ref Rd, .ref Nn, .ref oNn, .ref Ts, .ref Ty, .int zld])), (Tp, .inl (g 0, 160, .inl ftpx_25))] H := ⟨hP2, hD2⟩
    have hS := hS2; clear hP2 hD2 hS2; have hP := hPD.1; have hD := hPD.2; clear hPD
    refine W.widen (k := 0) (n := 0) (Nat.le_of_ble_eq_true rfl) (Nat.le_of_ble_eq_true rfl) ?_
    refine lv_aload_n hx hb dX6_feed_64 rfl (lv_at hl 1 rfl) ?_
    refine lv_iload hx hb dX6_feed_65 (lv_at hl 6 rfl) ?_
    refine ky_Vv (As := [.int ze]) (rest := []) ⟨hx, hb, hml, hown, hts⟩ ⟨hK, hN⟩ hZ hP hD hS hA [0, 1] [] (wc := [(Xx, .inr (6, [.ref Tp, .int (nI tlx_24), .ref Fr, .ref Rd, .ref Nn, .ref oNn, .ref Ts, .ref Ty, .int zld])), (Tp, .inl (g 0, 160, .inl ftpx_25))]) (wr := []) rfl rfl rfl rfl (by decide) (r_X6_append l D g H.size Xx ze Tp tlx_24 Fr Rd Nn oNn Ts Ty zld ftpx_25 (show tlx_24 ≤ 160 by omega)) (cwV 1 hts gX6_feed_X6_append rfl rfl rfl (by decide +kernel) ⟨(Nat.le_of_ble_eq_true rfl), (Nat.le_of_ble_eq_true rfl)⟩) 0 6 rfl rfl rfl rfl hl.1 rfl (Nat.le_of_ble_eq_true rfl) dX6_feed_67 ⟨(Nat.le_of_ble_eq_true rfl), (Nat.le_of_ble_eq_true rfl)⟩ (fun u H locs hw hP2 hD2 hS2 => ?_)
    clear hP hD hS
    obtain ⟨tlx_29, ftpx_30, rfl, hf_31, hf_32⟩ := hw
    have hPD : PD D A [(Xx, .inr (6, [.ref Tp, .int (nI tlx_29), .ref Fr, .ref Rd, .ref Nn, .ref oNn, .ref Ts, .ref Ty, .int zld])), (Tp, .inl (g 0, 160, .inl ftpx_30))] H := ⟨hP2, hD2⟩
    have hS := hS2; clear hP2 hD2 hS2; have hP := hPD.1; have hD := hPD.2; clear hPD
    refine W.widen (k := 0) (n := 0) (Nat.le_of_ble_eq_true rfl) (Nat.le_of_ble_eq_true rfl) ?_
    refine lv_aload_n hx hb dX6_feed_70 rfl (lv_at hl 1 rfl) ?_
    refine va_get (D := D) (ci := 6) (v := .int (nI tlx_29)) (C := RX6) (T := TX6) (N := 9) hx hb hts iX6 hown hK hP 0 rfl rfl 1 (by decide) f47 (fun _ h9 => h9) rfl dX6_feed_71 ?_
    have hP9 := hP; have hD9 := hD
    subst hQ
    refine W.widen (k := 0) (n := 0) (Nat.le_of_ble_eq_true rfl) (Nat.le_of_ble_eq_true rfl) ?_
    exact W.iret (v := (nI tlx_29)) hx hb hr (fun tS htS _ => ⟨⟨_, _, rfl, ⟨tlx_29, ftpx_30, (nI tlx_29), rfl, rfl, (show tlx_29 ≤ 160 by omega), fd_cls (by omega) hf_12 hf_17 hf_22 hf_27 hf_32⟩, by rw [htS]; exact hP9, hD9⟩, hS.F htS⟩) hS.2.2 dX6_feed_74
  · skip
    have hct_33 : 160 < tl + (sg za + (sg zb) + (sg zc) + (sg zd) + (sg ze)) := Nat.lt_of_not_le (fun q9 => cb_6 ((nI_leI (show tl + (sg za + (sg zb) + (sg zc) + (sg zd) + (sg ze)) < 2 ^ 31 by omega) (show 160 < 2 ^ 31 by omega)).mpr q9))
    refine lv_iconst (v := (-1)) hx hb dX6_feed_41 (by decide) ?_
    have hP9 := hP; have hD9 := hD
    subst hQ
    refine W.widen (k := 0) (n := 0) (Nat.le_of_ble_eq_true rfl) (Nat.le_of_ble_eq_true rfl) ?_
    exact W.iret (v := (-1)) hx hb hr (fun tS htS _ => ⟨⟨_, _, rfl, ⟨tl, ftp, (-1), rfl, rfl, (show tl ≤ 160 by omega), fd_cno (by omega)⟩, by rw [htS]; exact hP9, hD9⟩, hS.F htS⟩) hS.2.2 dX6_feed_42
