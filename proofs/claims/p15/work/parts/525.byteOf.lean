set_option maxHeartbeats 4000000 in
set_option maxRecDepth 100000 in
/-- the k-th byte -/
theorem c_X7_byteOf (l : Launch) (D : va_G) (g : Nat → ClassId) (sz : Nat) (p0 : Int32) (p1 : Int32) (p2 : Int32) (p3 : Int32) (p4 : Int32) (k : Nat) (hk : k < 20) : Met l yX7_byteOf wsX7_byteOf ({ frames := 0, cells := 0, slots := 0, locals := 0 }) (va_Pc [.int p0, .int p1, .int p2, .int p3, .int p4, .int (nI k)] (pre D g sz [])) (va_Qi (fun (r : Int32) (u : va_W) => u = [] ∧ r = (byr p0 p1 p2 p3 p4 k)) (wd D (va_A [] sz)) (va_A [] sz)) 0 0 (va_A [] sz) := by
  refine Met.ofW (cc := cX7_byteOf) (maxL := 7) (ret := (some .int)) (by decide) rfl ?_
  intro p e s m args below meth c s₁ B hml hv
  obtain ⟨rfl, hsz, hP, ⟨hK, hN⟩, hD0, hZ⟩ := hv
  have hx := B.exec
  have hb := B.bytes
  have hr := B.returns
  have hts := atoms_spec (ws := wsX7_byteOf) B.pre
  have hown : s.vm.findClass RX7 = some m.cls := findClass_of_methodNamed B.named
  have hlocks := B.notSynchronized
  clear B
  subst hsz
  have hD := hD0.self (sz := s.heap.size)
  clear hD0
  generalize hAe : va_A [] s.heap.size = A at hD hZ ⊢
  have hA : ∀ q : Nat, s.heap.size ≤ q → A q := fun q h => by rw [← hAe]; exact Or.inr h
  have hS : va_S A s.heap s.heap [] := va_S.rf
  have hl := lv_entry ([.int p0, .int p1, .int p2, .int p3, .int p4, .int (nI k)]) (n := 7) (Nat.le_of_ble_eq_true rfl)
  rw [lg_entry_eq]
  generalize (lg_sl ([.int p0, .int p1, .int p2, .int p3, .int p4, .int (nI k)]) ++ List.replicate (7 - (lg_sl ([.int p0, .int p1, .int p2, .int p3, .int p4, .int (nI k)])).length) Slot.unset).toArray = ls at hl ⊢
  have hl : lv_has ls 7 [(0, .int p0), (1, .int p1), (2, .int p2), (3, .int p3), (4, .int p4), (5, .int (nI k))] := hl
  generalize hQ : MQ below _ _ s _ _ _ = Q
  generalize hH : s.heap = H at hP ⊢
  have hS : va_S A s.heap H [] := by rw [← hH]; exact hS
  clear hH
  refine lv_iload hx hb dX7_byteOf_0 (lv_at hl 5 rfl) ?_
  refine lv_iconst (v := 4) hx hb dX7_byteOf_2 (by decide) ?_
  refine lv_icmp_ge (tgt := 10) hx hb dX7_byteOf_3 (by decide) (fun cb_1 => ?_) (fun cb_1 => ?_)
  · skip
    refine lv_iload hx hb dX7_byteOf_10 (lv_at hl 5 rfl) ?_
    refine lv_bipush (v := 8) hx hb dX7_byteOf_12 (by decide) ?_
    refine lv_icmp_ge (tgt := 21) hx hb dX7_byteOf_14 (by decide) (fun cb_2 => ?_) (fun cb_2 => ?_)
    · skip
      refine lv_iload hx hb dX7_byteOf_21 (lv_at hl 5 rfl) ?_
      refine lv_bipush (v := 12) hx hb dX7_byteOf_23 (by decide) ?_
      refine lv_icmp_ge (tgt := 32) hx hb dX7_byteOf_25 (by decide) (fun cb_3 => ?_) (fun cb_3 => ?_)
      · skip
        refine lv_iload hx hb dX7_byteOf_32 (lv_at hl 5 rfl) ?_
        refine lv_bipush (v := 16) hx hb dX7_byteOf_34 (by decide) ?_
        refine lv_icmp_ge (tgt := 43) hx hb dX7_byteOf_36 (by decide) (fun cb_4 => ?_) (fun cb_4 => ?_)
        · skip
          refine lv_iload hx hb dX7_byteOf_43 (lv_at hl 4 rfl) ?_
          refine lv_istore (lv' := [(6, .int p4), (0, .int p0), (1, .int p1), (2, .int p2), (3, .int p3), (4, .int p4), (5, .int (nI k))]) hx hb dX7_byteOf_45 hl (by decide) rfl (fun ls hl => ?_)
          refine lv_iload hx hb dX7_byteOf_47 (lv_at hl 0 rfl) ?_
          refine lv_bipush (v := 24) hx hb dX7_byteOf_49 (by decide) ?_
          refine lv_bipush (v := 8) hx hb dX7_byteOf_51 (by decide) ?_
          refine lv_iload hx hb dX7_byteOf_53 (lv_at hl 6 rfl) ?_
          refine lv_iconst (v := 4) hx hb dX7_byteOf_55 (by decide) ?_
          refine lv_irem hx hb dX7_byteOf_56 (by decide) ?_
          refine lv_eqi (y := (nI ((k) % 4))) (pk_rem (show k < 2 ^ 31 by omega) (show 0 < 4 by omega) (show 4 < 2 ^ 31 by omega)) ?_
          refine lv_imul hx hb dX7_byteOf_57 ?_
          refine lv_eqi (y := (nI (8 * ((k) % 4)))) (pk_mul (8) ((k) % 4)) ?_
          refine lv_isub hx hb dX7_byteOf_58 ?_
          refine lv_eqi (y := (nI (24 - (8 * ((k) % 4))))) (pk_sub (show 8 * ((k) % 4) ≤ 24 by omega)) ?_
          refine lv_ishr hx hb dX7_byteOf_59 ?_
          refine lv_sipush (v := 255) hx hb dX7_byteOf_60 (by decide) ?_
          refine lv_iand hx hb dX7_byteOf_63 ?_
          have hP9 := hP.sub (ws' := []) [] rfl
          have hD9 := hD.sub (ws' := []) [] (by decide) rfl
          subst hQ
          refine W.widen (k := 0) (n := 0) (Nat.le_of_ble_eq_true rfl) (Nat.le_of_ble_eq_true rfl) ?_
          exact W.iret (v := ((p4 >>> ((nI (24 - (8 * ((k) % 4)))) &&& 31)) &&& 255)) hx hb hr (fun tS htS _ => ⟨⟨_, _, rfl, ⟨rfl, by unfold byr; rw [if_neg (Nat.not_lt.mpr ((nI_leI (a := 4) (b := k) (by decide) (by omega)).mp cb_1)), if_neg (Nat.not_lt.mpr ((nI_leI (a := 8) (b := k) (by decide) (by omega)).mp cb_2)), if_neg (Nat.not_lt.mpr ((nI_leI (a := 12) (b := k) (by decide) (by omega)).mp cb_3)), if_neg (Nat.not_lt.mpr ((nI_leI (a := 16) (b := k) (by decide) (by omega)).mp cb_4))]⟩, by rw [htS]; exact hP9, hD9⟩, hS.F htS⟩) hS.2.2 dX7_byteOf_64
        · skip
          refine lv_iload_n hx hb dX7_byteOf_39 rfl (lv_at hl 3 rfl) ?_
          refine lv_goto (tgt := 45) hx hb dX7_byteOf_40 (by decide) ?_
          refine lv_istore (lv' := [(6, .int p3), (0, .int p0), (1, .int p1), (2, .int p2), (3, .int p3), (4, .int p4), (5, .int (nI k))]) hx hb dX7_byteOf_45 hl (by decide) rfl (fun ls hl => ?_)
          refine lv_iload hx hb dX7_byteOf_47 (lv_at hl 0 rfl) ?_
          refine lv_bipush (v := 24) hx hb dX7_byteOf_49 (by decide) ?_
          refine lv_bipush (v := 8) hx hb dX7_byteOf_51 (by decide) ?_
          refine lv_iload hx hb dX7_byteOf_53 (lv_at hl 6 rfl) ?_
          refine lv_iconst (v := 4) hx hb dX7_byteOf_55 (by decide) ?_
          refine lv_irem hx hb dX7_byteOf_56 (by decide) ?_
          refine lv_eqi (y := (nI ((k) % 4))) (pk_rem (show k < 2 ^ 31 by omega) (show 0 < 4 by omega) (show 4 < 2 ^ 31 by omega)) ?_
          refine lv_imul hx hb dX7_byteOf_57 ?_
          refine lv_eqi (y := (nI (8 * ((k) % 4)))) (pk_mul (8) ((k) % 4)) ?_
          refine lv_isub hx hb dX7_byteOf_58 ?_
          refine lv_eqi (y := (nI (24 - (8 * ((k) % 4))))) (pk_sub (show 8 * ((k) % 4) ≤ 24 by omega)) ?_
          refine lv_ishr hx hb dX7_byteOf_59 ?_
          refine lv_sipush (v := 255) hx hb dX7_byteOf_60 (by decide) ?_
          refine lv_iand hx hb dX7_byteOf_63 ?_
          have hP9 := hP.sub (ws' := []) [] rfl
          have hD9 := hD.sub (ws' := []) [] (by decide) rfl
          subst hQ
          refine W.widen (k := 0) (n := 0) (Nat.le_of_ble_eq_true rfl) (Nat.le_of_ble_eq_true rfl) ?_
          exact W.iret (v := ((p3 >>> ((nI (24 - (8 * ((k) % 4)))) &&& 31)) &&& 255)) hx hb hr (fun tS htS _ => ⟨⟨_, _, rfl, ⟨rfl, by unfold byr; rw [if_neg (Nat.not_lt.mpr ((nI_leI (a := 4) (b := k) (by decide) (by omega)).mp cb_1)), if_neg (Nat.not_lt.mpr ((nI_leI (a := 8) (b := k) (by decide) (by omega)).mp cb_2)), if_neg (Nat.not_lt.mpr ((nI_leI (a := 12) (b := k) (by decide) (by omega)).mp cb_3)), if_pos (Nat.not_le.mp (fun h9 => cb_4 ((nI_leI (a := 16) (b := k) (by decide) (by omega)).mpr h9)))]⟩, by rw [htS]; exact hP9, hD9⟩, hS.F htS⟩) hS.2.2 dX7_byteOf_64
      · skip
        refine lv_iload_n hx hb dX7_byteOf_28 rfl (lv_at hl 2 rfl) ?_
        refine lv_goto (tgt := 45) hx hb dX7_byteOf_29 (by decide) ?_
        refine lv_istore (lv' := [(6, .int p2), (0, .int p0), (1, .int p1), (2, .int p2), (3, .int p3), (4, .int p4), (5, .int (nI k))]) hx hb dX7_byteOf_45 hl (by decide) rfl (fun ls hl => ?_)
        refine lv_iload hx hb dX7_byteOf_47 (lv_at hl 0 rfl) ?_
        refine lv_bipush (v := 24) hx hb dX7_byteOf_49 (by decide) ?_
        refine lv_bipush (v := 8) hx hb dX7_byteOf_51 (by decide) ?_
        refine lv_iload hx hb dX7_byteOf_53 (lv_at hl 6 rfl) ?_
        refine lv_iconst (v := 4) hx hb dX7_byteOf_55 (by decide) ?_
        refine lv_irem hx hb dX7_byteOf_56 (by decide) ?_
        refine lv_eqi (y := (nI ((k) % 4))) (pk_rem (show k < 2 ^ 31 by omega) (show 0 < 4 by omega) (show 4 < 2 ^ 31 by omega)) ?_
        refine lv_imul hx hb dX7_byteOf_57 ?_
        refine lv_eqi (y := (nI (8 * ((k) % 4)))) (pk_mul (8) ((k) % 4)) ?_
        refine lv_isub hx hb dX7_byteOf_58 ?_
        refine lv_eqi (y := (nI (24 - (8 * ((k) % 4))))) (pk_sub (show 8 * ((k) % 4) ≤ 24 by omega)) ?_
        refine lv_ishr hx hb dX7_byteOf_59 ?_
        refine lv_sipush (v := 255) hx hb dX7_byteOf_60 (by decide) ?_
        refine lv_iand hx hb dX7_byteOf_63 ?_
        have hP9 := hP.sub (ws' := []) [] rfl
        have hD9 := hD.sub (ws' := []) [] (by decide) rfl
        subst hQ
        refine W.widen (k := 0) (n := 0) (Nat.le_of_ble_eq_true rfl) (Nat.le_of_ble_eq_true rfl) ?_
        exact W.iret (v := ((p2 >>> ((nI (24 - (8 * ((k) % 4)))) &&& 31)) &&& 255)) hx hb hr (fun tS htS _ => ⟨⟨_, _, rfl, ⟨rfl, by unfold byr; rw [if_neg (Nat.not_lt.mpr ((nI_leI (a := 4) (b := k) (by decide) (by omega)).mp cb_1)), if_neg (Nat.not_lt.mpr ((nI_leI (a := 8) (b := k) (by decide) (by omega)).mp cb_2)), if_pos (Nat.not_le.mp (fun h9 => cb_3 ((nI_leI (a := 12) (b := k) (by decide) (by omega)).mpr h9)))]⟩, by rw [htS]; exact hP9, hD9⟩, hS.F htS⟩) hS.2.2 dX7_byteOf_64
    · skip
      refine lv_iload_n hx hb dX7_byteOf_17 rfl (lv_at hl 1 rfl) ?_
      refine lv_goto (tgt := 45) hx hb dX7_byteOf_18 (by decide) ?_
      refine lv_istore (lv' := [(6, .int p1), (0, .int p0), (1, .int p1), (2, .int p2), (3, .int p3), (4, .int p4), (5, .int (nI k))]) hx hb dX7_byteOf_45 hl (by decide) rfl (fun ls hl => ?_)
      refine lv_iload hx hb dX7_byteOf_47 (lv_at hl 0 rfl) ?_
      refine lv_bipush (v := 24) hx hb dX7_byteOf_49 (by decide) ?_
      refine lv_bipush (v := 8) hx hb dX7_byteOf_51 (by decide) ?_
      refine lv_iload hx hb dX7_byteOf_53 (lv_at hl 6 rfl) ?_
      refine lv_iconst (v := 4) hx hb dX7_byteOf_55 (by decide) ?_
      refine lv_irem hx hb dX7_byteOf_56 (by decide) ?_
      refine lv_eqi (y := (nI ((k) % 4))) (pk_rem (show k < 2 ^ 31 by omega) (show 0 < 4 by omega) (show 4 < 2 ^ 31 by omega)) ?_
      refine lv_imul hx hb dX7_byteOf_57 ?_
      refine lv_eqi (y := (nI (8 * ((k) % 4)))) (pk_mul (8) ((k) % 4)) ?_
      refine lv_isub hx hb dX7_byteOf_58 ?_
      refine lv_eqi (y := (nI (24 - (8 * ((k) % 4))))) (pk_sub (show 8 * ((k) % 4) ≤ 24 by omega)) ?_
      refine lv_ishr hx hb dX7_byteOf_59 ?_
      refine lv_sipush (v := 255) hx hb dX7_byteOf_60 (by decide) ?_
      refine lv_iand hx hb dX7_byteOf_63 ?_
      have hP9 := hP.sub (ws' := []) [] rfl
      have hD9 := hD.sub (ws' := []) [] (by decide) rfl
      subst hQ
      refine W.widen (k := 0) (n := 0) (Nat.le_of_ble_eq_true rfl) (Nat.le_of_ble_eq_true rfl) ?_
      exact W.iret (v := ((p1 >>> ((nI (24 - (8 * ((k) % 4)))) &&& 31)) &&& 255)) hx hb hr (fun tS htS _ => ⟨⟨_, _, rfl, ⟨rfl, by unfold byr; rw [if_neg (Nat.not_lt.mpr ((nI_leI (a := 4) (b := k) (by decide) (by omega)).mp cb_1)), if_pos (Nat.not_le.mp (fun h9 => cb_2 ((nI_leI (a := 8) (b := k) (by decide) (by omega)).mpr h9)))]⟩, by rw [htS]; exact hP9, hD9⟩, hS.F htS⟩) hS.2.2 dX7_byteOf_64
  · skip
    refine lv_iload_n hx hb dX7_byteOf_6 rfl (lv_at hl 0 rfl) ?_
    refine lv_goto (tgt := 45) hx hb dX7_byteOf_7 (by decide) ?_
    refine lv_istore (lv' := [(6, .int p0), (0, .int p0), (1, .int p1), (2, .int p2), (3, .int p3), (4, .int p4), (5, .int (nI k))]) hx hb dX7_byteOf_45 hl (by decide) rfl (fun ls hl => ?_)
    refine lv_iload hx hb dX7_byteOf_47 (lv_at hl 0 rfl) ?_
    refine lv_bipush (v := 24) hx hb dX7_byteOf_49 (by decide) ?_
    refine lv_bipush (v := 8) hx hb dX7_byteOf_51 (by decide) ?_
    refine lv_iload hx hb dX7_byteOf_53 (lv_at hl 6 rfl) ?_
    refine lv_iconst (v := 4) hx hb dX7_byteOf_55 (by decide) ?_
    refine lv_irem hx hb dX7_byteOf_56 (by decide) ?_
    refine lv_eqi (y := (nI ((k) % 4))) (pk_rem (show k < 2 ^ 31 by omega) (show 0 < 4 by omega) (show 4 < 2 ^ 31 by omega)) ?_
    refine lv_imul hx hb dX7_byteOf_57 ?_
    refine lv_eqi (y := (nI (8 * ((k) % 4)))) (pk_mul (8) ((k) % 4)) ?_
    refine lv_isub hx hb dX7_byteOf_58 ?_
    refine lv_eqi (y := (nI (24 - (8 * ((k) % 4))))) (pk_sub (show 8 * ((k) % 4) ≤ 24 by omega)) ?_
    refine lv_ishr hx hb dX7_byteOf_59 ?_
    refine lv_sipush (v := 255) hx hb dX7_byteOf_60 (by decide) ?_
    refine lv_iand hx hb dX7_byteOf_63 ?_
    have hP9 := hP.sub (ws' := []) [] rfl
    have hD9 := hD.sub (ws' := []) [] (by decide) rfl
    subst hQ
    refine W.widen (k := 0) (n := 0) (Nat.le_of_ble_eq_true rfl) (Nat.le_of_ble_eq_true rfl) ?_
    exact W.iret (v := ((p0 >>> ((nI (24 - (8 * ((k) % 4)))) &&& 31)) &&& 255)) hx hb hr (fun tS htS _ => ⟨⟨_, _, rfl, ⟨rfl, by unfold byr; rw [if_pos (Nat.not_le.mp (fun h9 => cb_1 ((nI_leI (a := 4) (b := k) (by decide) (by omega)).mpr h9)))]⟩, by rw [htS]; exact hP9, hD9⟩, hS.F htS⟩) hS.2.2 dX7_byteOf_64
theorem fct_mono (f : Nat → Int32) {a b : Nat} (h : a ≤ b) : fct f a ≤ fct f b := by
  induction b with
  | zero => rw [Nat.le_zero.mp h]; exact Nat.le_refl _
  | succ b ih =>
    rcases Nat.lt_or_ge a (b + 1) with q | q
    · refine Nat.le_trans (ih (by omega)) ?_
      by_cases z : f b = 0
      · rw [fct_0 z]; exact Nat.le_refl _
      · rw [fct_1 z]; exact Nat.le_succ _
    · rw [show a = b + 1 by omega]; exact Nat.le_refl _
