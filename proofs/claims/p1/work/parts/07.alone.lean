/-! the class's slots and counters beside these numbers -/
def sC (t : Nat) (C : Nat → Bool) (fc : Nat → Int32) : Prop := ∀ i, i < 5 → fc ((t + i) % 5) = if C (t + i) = true then 0 else -1
def sU (t : Nat) (U : Nat → Nat) (fu : Nat → Int32) : Prop := ∀ i, i < 5 → fu ((t + i) % 5 * 3 + 0) = if U (t + i) = 0 then -1 else nI (U (t + i) % 64)
/-- fields of the lane (SENT, GONE, KNOWN, since the update, since ADAPT), the slots, the buffers -/
def aF (e t : Nat) (a : AS) (f0 f1 f2 f5 f6 : Int32) (fc fu fp fb : Nat → Int32) : Prop :=
  f0 = nI (a.1 % 64) ∧ f1 = nI (a.2.1 % 64) ∧ f2 = nI (a.2.2.1 % 64) ∧ f5 = nI (a.2.1 % e) ∧ f6 = nI a.1 ∧ sC t a.2.2.2.2.1 fc ∧ sU t a.2.2.2.2.2 fu ∧ (∀ j, j < 5 → fp (j * 3 + 0) = 0) ∧ fb 0 = nI (201 - a.1) ∧ fb 3 = nI a.2.2.2.1
theorem sC_clear {t d : Nat} {C : Nat → Bool} {fc : Nat → Int32} (hd : d < 5) (h : sC t C fc) (hz : ∀ j, t + d ≤ j → C j = false) : sC (t + 1) C (upd fc (t % 5) (-1)) := by
  intro i hi
  by_cases h4 : i = 4
  · subst h4
    rw [show (t + 1 + 4) % 5 = t % 5 by omega, pk_us, hz (t + 1 + 4) (by omega)]
    rfl
  · rw [pk_un (show (t + 1 + i) % 5 ≠ t % 5 by omega), show t + 1 + i = t + (i + 1) by omega]
    exact h (i + 1) (by omega)
theorem sC_put {t d : Nat} {C : Nat → Bool} {fc : Nat → Int32} (h0 : 0 < d) (hd : d < 5) (h : sC (t + 1) C fc) : sC (t + 1) (fun j => if j = t + d then true else C j) (upd fc ((t + d) % 5) 0) := by
  intro i hi
  show upd fc ((t + d) % 5) 0 ((t + 1 + i) % 5) = if (if t + 1 + i = t + d then true else C (t + 1 + i)) = true then 0 else -1
  by_cases h4 : i + 1 = d
  · rw [show (t + 1 + i) % 5 = (t + d) % 5 by omega, pk_us, if_pos (show t + 1 + i = t + d by omega)]
    rfl
  · rw [pk_un (show (t + 1 + i) % 5 ≠ (t + d) % 5 by omega), if_neg (show ¬ t + 1 + i = t + d by omega)]
    exact h i hi
theorem sU_clear {t d : Nat} {U : Nat → Nat} {fu : Nat → Int32} (hd : d < 5) (h : sU t U fu) (hz : ∀ j, t + d ≤ j → U j = 0) : sU (t + 1) U (upd (upd (upd fu (t % 5 * 3 + 0) (-1)) (t % 5 * 3 + 1) (-1)) (t % 5 * 3 + 2) (-1)) := by
  intro i hi
  by_cases h4 : i = 4
  · subst h4
    rw [show (t + 1 + 4) % 5 = t % 5 by omega, pk_un (show t % 5 * 3 + 0 ≠ t % 5 * 3 + 2 by omega), pk_un (show t % 5 * 3 + 0 ≠ t % 5 * 3 + 1 by omega), pk_us, hz (t + 1 + 4) (by omega)]
    rfl
  · rw [pk_un (show (t + 1 + i) % 5 * 3 + 0 ≠ t % 5 * 3 + 2 by omega), pk_un (show (t + 1 + i) % 5 * 3 + 0 ≠ t % 5 * 3 + 1 by omega), pk_un (show (t + 1 + i) % 5 * 3 + 0 ≠ t % 5 * 3 + 0 by omega), show t + 1 + i = t + (i + 1) by omega]
    exact h (i + 1) (by omega)
theorem sU_put {t d v : Nat} {U : Nat → Nat} {fu : Nat → Int32} (h0 : 0 < d) (hd : d < 5) (hv : ¬ v = 0) (h : sU (t + 1) U fu) : sU (t + 1) (fun j => if j = t + d then v else U j) (upd fu ((t + d) % 5 * 3 + 0) (nI (v % 64))) := by
  intro i hi
  show upd fu ((t + d) % 5 * 3 + 0) (nI (v % 64)) ((t + 1 + i) % 5 * 3 + 0) = if (if t + 1 + i = t + d then v else U (t + 1 + i)) = 0 then -1 else nI ((if t + 1 + i = t + d then v else U (t + 1 + i)) % 64)
  by_cases h4 : i + 1 = d
  · rw [show (t + 1 + i) % 5 * 3 + 0 = (t + d) % 5 * 3 + 0 by omega, pk_us, if_pos (show t + 1 + i = t + d by omega), if_neg hv]
  · rw [pk_un (show (t + 1 + i) % 5 * 3 + 0 ≠ (t + d) % 5 * 3 + 0 by omega), if_neg (show ¬ t + 1 + i = t + d by omega)]
    exact h i hi
theorem fp_clear {t : Nat} {fp : Nat → Int32} (h : ∀ j, j < 5 → fp (j * 3 + 0) = 0) : ∀ j, j < 5 → (upd (upd (upd fp (t % 5 * 3 + 0) 0) (t % 5 * 3 + 1) 0) (t % 5 * 3 + 2) 0) (j * 3 + 0) = 0 := by
  intro j hj
  rw [pk_un (show j * 3 + 0 ≠ t % 5 * 3 + 2 by omega), pk_un (show j * 3 + 0 ≠ t % 5 * 3 + 1 by omega)]
  by_cases h4 : j = t % 5
  · rw [h4, pk_us]
  · rw [pk_un (show j * 3 + 0 ≠ t % 5 * 3 + 0 by omega)]
    exact h j hj
theorem m64_sub : ∀ a, a < 64 → ∀ b, b < 64 → (nI a - nI b) &&& 63 = nI ((a + 64 - b) % 64) := by decide +kernel
theorem m64_out {s k : Nat} (h1 : k ≤ s) (h2 : s < k + 64) : (nI (s % 64) - nI (k % 64)) &&& 63 = nI (s - k) := by
  rw [m64_sub _ (Nat.mod_lt _ (by omega)) _ (Nat.mod_lt _ (by omega))]
  exact congrArg nI (by omega)
theorem m64_inc (s : Nat) : (nI (s % 64) + 1) &&& 63 = nI ((s + 1) % 64) := by
  rw [nI_1, pk_andN (show s % 64 + 1 < 2 ^ 32 by omega) 6 (by decide)]
  exact congrArg nI (by omega)
theorem up3_ne {f : Nat → Int32} {v : Int32} {j : Nat} (h : j ≠ 3) : upd f 3 v j = f j := pk_un h
theorem nI_gt0 {n : Nat} (h : n < 2 ^ 31) : (0 : Int32) < nI n ↔ 0 < n := by
  have q := nI_ltI (a := 0) (b := n) (by decide) h
  rw [nI_0] at q
  exact q
theorem m1_ne {n : Nat} (h : n < 2 ^ 31) : ¬ nI n = -1 := fun q => by
  have e1 := congrArg Int32.toInt q
  rw [nI_toInt h] at e1
  have e2 : (-1 : Int32).toInt = -1 := by decide
  omega
set_option maxHeartbeats 1000000 in
/-- a TICK of the class is a step of the numbers -/
theorem al_main {d e z k t : Nat} {a : AS} {f0 f1 f2 f5 f6 kn g5 g52 f12 su2 lt lt2 f02 f62 : Int32} {fc fu fp fb fb1 fb2 fb3 fu2 fc3 : Nat → Int32} (h0 : 0 < d) (hd : d < 5) (he0 : 0 < e) (he : e < 5) (hz : z ≤ 30) (ht : t ≤ 200)
    (hF : aF e t a f0 f1 f2 f5 f6 fc fu fp fb) (hI : aI d z t a) (hlt : lt = -1 ∨ lt = 0)
    (h1 : fb1 = (if fc (t % 5) = -1 then fb else upd fb 3 (fb 3 + 1)))
    (h2 : kn = (if fu (t % 5 * 3 + 0) = -1 then f2 else (if ((fu (t % 5 * 3 + 0) - f2) &&& 63) < 32 then fu (t % 5 * 3 + 0) else f2)))
    (t1 : (t % k = 0 ∧ 0 < fb1 3) → fb2 = upd fb1 3 (fb1 3 - 1) ∧ g52 = g5 + 1 ∧ f12 = ((f1 + 1) &&& 63) ∧ (f5 + 1 < nI e → su2 = f5 + 1 ∧ fu2 = upd (upd (upd fu (t % 5 * 3 + 0) (-1)) (t % 5 * 3 + 1) (-1)) (t % 5 * 3 + 2) (-1)) ∧ (¬ f5 + 1 < nI e → su2 = 0 ∧ fu2 = upd (upd (upd (upd fu (t % 5 * 3 + 0) (-1)) (t % 5 * 3 + 1) (-1)) (t % 5 * 3 + 2) (-1)) ((t + d) % 5 * 3 + 0) ((f1 + 1) &&& 63)))
    (t2 : ¬ (t % k = 0 ∧ 0 < fb1 3) → fb2 = fb1 ∧ g52 = g5 ∧ f12 = f1 ∧ su2 = f5 ∧ fu2 = upd (upd (upd fu (t % 5 * 3 + 0) (-1)) (t % 5 * 3 + 1) (-1)) (t % 5 * 3 + 2) (-1))
    (s1 : (0 < fb2 0 ∧ ((f0 - kn) &&& 63) < nI z) → fb3 = upd fb2 0 (fb2 0 - 1) ∧ lt2 = 0 ∧ fc3 = upd (upd fc (t % 5) (-1)) ((t + d) % 5) 0 ∧ f02 = ((f0 + 1) &&& 63) ∧ f62 = f6 + 1)
    (s2 : ¬ (0 < fb2 0 ∧ ((f0 - kn) &&& 63) < nI z) → fb3 = fb2 ∧ lt2 = lt ∧ fc3 = upd fc (t % 5) (-1) ∧ f02 = f0 ∧ f62 = f6) :
    aF e (t + 1) (al_s d e z k t a) f02 f12 kn su2 f62 fc3 fu2 (upd (upd (upd fp (t % 5 * 3 + 0) 0) (t % 5 * 3 + 1) 0) (t % 5 * 3 + 2) 0) fb3 ∧ (lt2 = -1 ∨ lt2 = 0) := by
  obtain ⟨q0, q1, q2, q5, q6, qC, qU, qp, qb0, qb3⟩ := hF
  have hK := aK_in hI
  have hB := aB_in h0 hI
  have hG := aG_in k t a
  obtain ⟨i1, i2, i3, i4, i5, i6, i7⟩ := hI
  -- ARRIVE
  have c0 : fc (t % 5) = if a.2.2.2.2.1 t = true then 0 else -1 := qC 0 (by omega)
  have u0 : fu (t % 5 * 3 + 0) = if a.2.2.2.2.2 t = 0 then -1 else nI (a.2.2.2.2.2 t % 64) := qU 0 (by omega)
  have e3 : fb1 3 = nI (aB t a) := by
    unfold aB
    rw [h1, c0]
    by_cases hc : a.2.2.2.2.1 t = true
    · rw [if_pos hc, if_pos hc, if_neg (by decide), pk_us, qb3, nI_1]
    · rw [if_neg hc, if_neg hc, if_pos rfl, qb3]
      rfl
  have e0 : fb1 0 = nI (201 - a.1) := by
    rw [h1]
    by_cases hc : fc (t % 5) = -1
    · rw [if_pos hc, qb0]
    · rw [if_neg hc, pk_un (by decide), qb0]
  have ek : kn = nI (aK t a % 64) := by
    unfold aK
    rw [h2, u0, q2]
    by_cases hu : a.2.2.2.2.2 t = 0
    · rw [if_pos hu, if_pos hu, if_pos rfl]
    · have q := i6 t (Nat.le_refl t) hu
      rw [if_neg hu, if_neg hu, if_neg (m1_ne (by omega)), m64_out q.1 (by omega)]
      exact if_pos (nI_lt (show a.2.2.2.2.2 t - a.2.2.1 < 32 by omega) (by decide))
  have sC1 := sC_clear hd qC (fun j hj => (i5 j hj).1)
  have sU1 := sU_clear hd qU (fun j hj => (i5 j hj).2)
  have hT : (t % k = 0 ∧ 0 < fb1 3) ↔ (t % k = 0 ∧ 0 < aB t a) := by
    rw [e3, nI_gt0 (by omega)]
  -- TAKE
  have eT : fb2 3 = nI (if t % k = 0 ∧ 0 < aB t a then aB t a - 1 else aB t a) ∧ fb2 0 = nI (201 - a.1) ∧ f12 = nI (aG k t a % 64) ∧ su2 = nI (aG k t a % e) ∧ sU (t + 1) (if (t % k = 0 ∧ 0 < aB t a) ∧ aG k t a % e = 0 then (fun j => if j = t + d then aG k t a else a.2.2.2.2.2 j) else a.2.2.2.2.2) fu2 := by
    by_cases hk : t % k = 0 ∧ 0 < aB t a
    · obtain ⟨x1, -, x3, x4, x5⟩ := t1 (hT.mpr hk)
      have eg : aG k t a = a.2.1 + 1 := if_pos hk
      have hp := hk.2
      have e13 : f12 = nI (aG k t a % 64) := by rw [x3, q1, m64_inc, eg]
      refine ⟨?_, ?_, e13, ?_⟩
      · rw [x1, pk_us, e3, if_pos hk]
        exact pk_sub (show 1 ≤ aB t a by omega)
      · rw [x1, pk_un (by decide), e0]
      · have hm : f5 + 1 = nI (a.2.1 % e + 1) := by rw [q5, nI_1]
        have hlt1 : (f5 + 1 < nI e) ↔ a.2.1 % e + 1 < e := by rw [hm]; exact nI_ltI (by have := Nat.mod_lt a.2.1 he0; omega) (by omega)
        have hml := Nat.mod_lt a.2.1 he0
        by_cases hq : a.2.1 % e + 1 < e
        · obtain ⟨y1, y2⟩ := x4 (hlt1.mpr hq)
          have em : aG k t a % e = a.2.1 % e + 1 := by
            rw [eg]
            rcases (show e = 1 ∨ e = 2 ∨ e = 3 ∨ e = 4 by omega) with rfl | rfl | rfl | rfl <;> omega
          refine ⟨by rw [y1, hm, em], ?_⟩
          rw [if_neg (fun q => by have := q.2; omega), y2]
          exact sU1
        · obtain ⟨y1, y2⟩ := x5 (fun q => hq (hlt1.mp q))
          have em : aG k t a % e = 0 := by
            rw [eg]
            rcases (show e = 1 ∨ e = 2 ∨ e = 3 ∨ e = 4 by omega) with rfl | rfl | rfl | rfl <;> omega
          refine ⟨by rw [y1, em]; rfl, ?_⟩
          rw [if_pos ⟨hk, em⟩, y2, ← x3, e13]
          exact sU_put h0 hd (by omega) sU1
    · obtain ⟨x1, -, x3, x4, x5⟩ := t2 (fun q => hk (hT.mp q))
      have eg : aG k t a = a.2.1 := if_neg hk
      refine ⟨by rw [x1, e3, if_neg hk], by rw [x1, e0], by rw [x3, q1, eg], by rw [x4, q5, eg], ?_⟩
      rw [if_neg (fun q => hk q.1), x5]
      exact sU1
  obtain ⟨b3, b0, eg1, esu, sU2⟩ := eT
  -- SEND
  have ho : (f0 - kn) &&& 63 = nI (a.1 - aK t a) := by rw [q0, ek]; exact m64_out (by omega) (by omega)
  have hs : (0 < fb2 0 ∧ ((f0 - kn) &&& 63) < nI z) ↔ a.1 - aK t a < z := by
    rw [b0, ho, nI_gt0 (by omega), nI_ltI (by omega) (by omega)]
    exact ⟨fun q => q.2, fun q => ⟨by omega, q⟩⟩
  by_cases hq : a.1 - aK t a < z
  · obtain ⟨x1, x2, x3, x4, x5⟩ := s1 (hs.mpr hq)
    refine ⟨⟨?_, eg1, ek, esu, ?_, ?_, sU2, fp_clear qp, ?_, ?_⟩, Or.inr x2⟩
    · show f02 = nI ((if a.1 - aK t a < z then a.1 + 1 else a.1) % 64)
      rw [if_pos hq, x4, q0, m64_inc]
    · show f62 = nI (if a.1 - aK t a < z then a.1 + 1 else a.1)
      rw [if_pos hq, x5, q6, nI_1]
    · show sC (t + 1) (if a.1 - aK t a < z then (fun j => if j = t + d then true else a.2.2.2.2.1 j) else a.2.2.2.2.1) fc3
      rw [if_pos hq, x3]
      exact sC_put h0 hd sC1
    · show fb3 0 = nI (201 - (if a.1 - aK t a < z then a.1 + 1 else a.1))
      rw [if_pos hq, x1, pk_us, b0]
      exact (pk_sub (show 1 ≤ 201 - a.1 by omega)).trans (congrArg nI (by omega))
    · show fb3 3 = nI (if t % k = 0 ∧ 0 < aB t a then aB t a - 1 else aB t a)
      rw [x1, pk_un (by decide), b3]
  · obtain ⟨x1, x2, x3, x4, x5⟩ := s2 (fun q => hq (hs.mp q))
    refine ⟨⟨?_, eg1, ek, esu, ?_, ?_, sU2, fp_clear qp, ?_, ?_⟩, by rw [x2]; exact hlt⟩
    · show f02 = nI ((if a.1 - aK t a < z then a.1 + 1 else a.1) % 64)
      rw [if_neg hq, x4, q0]
    · show f62 = nI (if a.1 - aK t a < z then a.1 + 1 else a.1)
      rw [if_neg hq, x5, q6]
    · show sC (t + 1) (if a.1 - aK t a < z then (fun j => if j = t + d then true else a.2.2.2.2.1 j) else a.2.2.2.2.1) fc3
      rw [if_neg hq, x3]
      exact sC1
    · show fb3 0 = nI (201 - (if a.1 - aK t a < z then a.1 + 1 else a.1))
      rw [if_neg hq, x1, b0]
    · show fb3 3 = nI (if t % k = 0 ∧ 0 < aB t a then aB t a - 1 else aB t a)
      rw [x1, b3]
theorem aF_c {e t : Nat} {a : AS} {f0 f1 f2 f5 f6 : Int32} {fc fu fp fb : Nat → Int32} (h : aF e t a f0 f1 f2 f5 f6 fc fu fp fb) : fc (t % 5) = -1 ∨ fc (t % 5) = 0 := by
  have c0 : fc (t % 5) = if a.2.2.2.2.1 t = true then 0 else -1 := h.2.2.2.2.2.1 0 (by omega)
  rw [c0]
  split
  · exact Or.inr rfl
  · exact Or.inl rfl
theorem aF_p {e t : Nat} {a : AS} {f0 f1 f2 f5 f6 : Int32} {fc fu fp fb : Nat → Int32} (h : aF e t a f0 f1 f2 f5 f6 fc fu fp fb) : fp (t % 5 * 3 + 0) = 0 := h.2.2.2.2.2.2.2.1 (t % 5) (Nat.mod_lt _ (by omega))
theorem aF_0 {d e z k : Nat} {fc fu fp fb : Nat → Int32} (h1 : ∀ j, j < 12 → 0 < j → fb j = 0) (h2 : fb 0 = 201) (h3 : ∀ j, j < 5 → fc j = -1) (h4 : ∀ j, j < 15 → fu j = -1) (h5 : ∀ j, j < 15 → fp j = 0) : aF e 0 (al d e z k 0) 0 0 0 0 0 fc fu fp fb := by
  refine ⟨rfl, rfl, rfl, ?_, rfl, fun i hi => h3 _ (by omega), fun i hi => h4 _ (by omega), fun j hj => h5 _ (by omega), h2, h1 3 (by omega) (by omega)⟩
  show (0 : Int32) = nI (0 % e)
  rw [Nat.zero_mod]
  rfl
