/-! a link alone, as numbers: sent, gone, known, in the buffer, cells and updates by the tick in which they come -/
abbrev AS : Type := Nat × Nat × Nat × Nat × (Nat → Bool) × (Nat → Nat)
def aB (t : Nat) (a : AS) : Nat := a.2.2.2.1 + (if a.2.2.2.2.1 t = true then 1 else 0)
def aK (t : Nat) (a : AS) : Nat := if a.2.2.2.2.2 t = 0 then a.2.2.1 else a.2.2.2.2.2 t
def aG (k t : Nat) (a : AS) : Nat := if t % k = 0 ∧ 0 < aB t a then a.2.1 + 1 else a.2.1
def al_s (d e z k t : Nat) (a : AS) : AS :=
  (if a.1 - aK t a < z then a.1 + 1 else a.1, aG k t a, aK t a, if t % k = 0 ∧ 0 < aB t a then aB t a - 1 else aB t a,
   if a.1 - aK t a < z then (fun j => if j = t + d then true else a.2.2.2.2.1 j) else a.2.2.2.2.1,
   if (t % k = 0 ∧ 0 < aB t a) ∧ aG k t a % e = 0 then (fun j => if j = t + d then aG k t a else a.2.2.2.2.2 j) else a.2.2.2.2.2)
def al (d e z k : Nat) : Nat → AS
  | 0 => (0, 0, 0, 0, fun _ => false, fun _ => 0)
  | t + 1 => al_s d e z k t (al d e z k t)
/-- cells that come in the n ticks from t on -/
def cs (C : Nat → Bool) (t : Nat) : Nat → Nat
  | 0 => 0
  | n + 1 => cs C t n + (if C (t + n) = true then 1 else 0)
theorem cs_shift (C : Nat → Bool) (t : Nat) : ∀ n, cs C t (n + 1) = (if C t = true then 1 else 0) + cs C (t + 1) n
  | 0 => by show 0 + (if C (t + 0) = true then 1 else 0) = (if C t = true then 1 else 0) + 0; rw [Nat.add_zero, Nat.zero_add, Nat.add_zero]
  | n + 1 => by
    have h := cs_shift C t n
    show cs C t (n + 1) + (if C (t + (n + 1)) = true then 1 else 0) = (if C t = true then 1 else 0) + (cs C (t + 1) n + (if C (t + 1 + n) = true then 1 else 0))
    rw [h, show t + (n + 1) = t + 1 + n by omega]
    omega
theorem cs_cong {C C' : Nat → Bool} {t : Nat} : ∀ {n : Nat}, (∀ i, i < n → C (t + i) = C' (t + i)) → cs C t n = cs C' t n
  | 0, _ => rfl
  | n + 1, h => by
    show cs C t n + (if C (t + n) = true then 1 else 0) = cs C' t n + (if C' (t + n) = true then 1 else 0)
    rw [cs_cong (fun i hi => h i (by omega)), h n (by omega)]
theorem cs_put {C : Nat → Bool} {t d : Nat} (hd : 0 < d) (hz : C (t + d) = false) : cs (fun j => if j = t + d then true else C j) (t + 1) d = cs C (t + 1) d + 1 := by
  obtain ⟨n, rfl⟩ : ∃ n, d = n + 1 := ⟨d - 1, by omega⟩
  show cs _ (t + 1) n + (if (if t + 1 + n = t + (n + 1) then true else C (t + 1 + n)) = true then 1 else 0) = cs C (t + 1) n + (if C (t + 1 + n) = true then 1 else 0) + 1
  have e1 : t + 1 + n = t + (n + 1) := by omega
  rw [if_pos e1, e1, hz, cs_cong (C' := C) (fun i hi => by rw [if_neg (show ¬ t + 1 + i = t + (n + 1) by omega)])]
  simp
/-- what holds of it at tick t -/
def aI (d z t : Nat) (a : AS) : Prop :=
  a.2.2.1 ≤ a.2.1 ∧ a.2.1 + a.2.2.2.1 + cs a.2.2.2.2.1 t d = a.1 ∧ a.1 ≤ a.2.2.1 + z ∧ a.1 ≤ t ∧ (∀ j, t + d ≤ j → a.2.2.2.2.1 j = false ∧ a.2.2.2.2.2 j = 0) ∧
  (∀ j, t ≤ j → ¬ a.2.2.2.2.2 j = 0 → a.2.2.1 ≤ a.2.2.2.2.2 j ∧ a.2.2.2.2.2 j ≤ a.2.1) ∧ (∀ i j, t ≤ i → i < j → ¬ a.2.2.2.2.2 i = 0 → ¬ a.2.2.2.2.2 j = 0 → a.2.2.2.2.2 i ≤ a.2.2.2.2.2 j)
theorem aI_0 (d z : Nat) : aI d z 0 (0, 0, 0, 0, fun _ => false, fun _ => 0) := by
  refine ⟨Nat.le_refl _, ?_, Nat.zero_le _, Nat.le_refl _, fun _ _ => ⟨rfl, rfl⟩, fun j _ h => absurd rfl h, fun i j _ _ h => absurd rfl h⟩
  show 0 + 0 + cs (fun _ => false) 0 d = 0
  have h : ∀ n, cs (fun _ => false) 0 n = 0 := by
    intro n
    induction n with
    | zero => rfl
    | succ n ih => show cs (fun _ => false) 0 n + (if false = true then 1 else 0) = 0; rw [ih]; rfl
  rw [h]
/-- what is known stays between what was known and what is gone -/
theorem aK_in {d z t : Nat} {a : AS} (h : aI d z t a) : a.2.2.1 ≤ aK t a ∧ aK t a ≤ a.2.1 := by
  unfold aK
  by_cases hu : a.2.2.2.2.2 t = 0
  · rw [if_pos hu]; exact ⟨Nat.le_refl _, h.1⟩
  · rw [if_neg hu]; exact h.2.2.2.2.2.1 t (Nat.le_refl t) hu
theorem aG_in (k t : Nat) (a : AS) : a.2.1 ≤ aG k t a ∧ aG k t a ≤ a.2.1 + 1 := by
  unfold aG
  split <;> omega
theorem aB_in {d z t : Nat} {a : AS} (hd : 0 < d) (h : aI d z t a) : a.2.1 + aB t a + cs a.2.2.2.2.1 (t + 1) (d - 1) = a.1 := by
  have h1 := h.2.1
  obtain ⟨n, rfl⟩ : ∃ n, d = n + 1 := ⟨d - 1, by omega⟩
  rw [cs_shift] at h1
  unfold aB
  rw [Nat.add_sub_cancel]
  omega
theorem cs_last {C : Nat → Bool} {t d : Nat} (hd : 0 < d) (hz : C (t + d) = false) : cs C (t + 1) d = cs C (t + 1) (d - 1) := by
  obtain ⟨n, rfl⟩ : ∃ n, d = n + 1 := ⟨d - 1, by omega⟩
  show cs C (t + 1) n + (if C (t + 1 + n) = true then 1 else 0) = cs C (t + 1) n
  rw [show t + 1 + n = t + (n + 1) by omega, hz]
  simp
theorem aI_s {d e z k t : Nat} {a : AS} (hd : 0 < d) (h : aI d z t a) : aI d z (t + 1) (al_s d e z k t a) := by
  have hK := aK_in h
  have hG := aG_in k t a
  have hB := aB_in hd h
  obtain ⟨h1, h2, h3, h4, h5, h6, h7⟩ := h
  have hcz := (h5 (t + d) (Nat.le_refl _)).1
  have huz := (h5 (t + d) (Nat.le_refl _)).2
  have hcl := cs_last hd hcz
  refine ⟨?_, ?_, ?_, ?_, ?_, ?_, ?_⟩
  · show aK t a ≤ aG k t a
    omega
  · show aG k t a + (if t % k = 0 ∧ 0 < aB t a then aB t a - 1 else aB t a) + cs (if a.1 - aK t a < z then (fun j => if j = t + d then true else a.2.2.2.2.1 j) else a.2.2.2.2.1) (t + 1) d = if a.1 - aK t a < z then a.1 + 1 else a.1
    have e1 : aG k t a + (if t % k = 0 ∧ 0 < aB t a then aB t a - 1 else aB t a) = a.2.1 + aB t a := by
      unfold aG
      by_cases ht : t % k = 0 ∧ 0 < aB t a
      · rw [if_pos ht, if_pos ht]; have := ht.2; omega
      · rw [if_neg ht, if_neg ht]
    rw [e1]
    by_cases hs : a.1 - aK t a < z
    · rw [if_pos hs, if_pos hs, cs_put hd hcz, hcl]; omega
    · rw [if_neg hs, if_neg hs, hcl]; omega
  · show (if a.1 - aK t a < z then a.1 + 1 else a.1) ≤ aK t a + z
    split <;> omega
  · show (if a.1 - aK t a < z then a.1 + 1 else a.1) ≤ t + 1
    split <;> omega
  · intro j hj
    refine ⟨?_, ?_⟩
    · show (if a.1 - aK t a < z then (fun j => if j = t + d then true else a.2.2.2.2.1 j) else a.2.2.2.2.1) j = false
      split
      · show (if j = t + d then true else a.2.2.2.2.1 j) = false
        rw [if_neg (show ¬ j = t + d by omega)]; exact (h5 j (by omega)).1
      · exact (h5 j (by omega)).1
    · show (if (t % k = 0 ∧ 0 < aB t a) ∧ aG k t a % e = 0 then (fun j => if j = t + d then aG k t a else a.2.2.2.2.2 j) else a.2.2.2.2.2) j = 0
      split
      · show (if j = t + d then aG k t a else a.2.2.2.2.2 j) = 0
        rw [if_neg (show ¬ j = t + d by omega)]; exact (h5 j (by omega)).2
      · exact (h5 j (by omega)).2
  · intro j hj
    show ¬ (if (t % k = 0 ∧ 0 < aB t a) ∧ aG k t a % e = 0 then (fun j => if j = t + d then aG k t a else a.2.2.2.2.2 j) else a.2.2.2.2.2) j = 0 → aK t a ≤ (if (t % k = 0 ∧ 0 < aB t a) ∧ aG k t a % e = 0 then (fun j => if j = t + d then aG k t a else a.2.2.2.2.2 j) else a.2.2.2.2.2) j ∧ (if (t % k = 0 ∧ 0 < aB t a) ∧ aG k t a % e = 0 then (fun j => if j = t + d then aG k t a else a.2.2.2.2.2 j) else a.2.2.2.2.2) j ≤ aG k t a
    have hold : ¬ a.2.2.2.2.2 j = 0 → aK t a ≤ a.2.2.2.2.2 j ∧ a.2.2.2.2.2 j ≤ aG k t a := by
      intro hn
      have q := h6 j (by omega) hn
      refine ⟨?_, by omega⟩
      unfold aK
      by_cases hu : a.2.2.2.2.2 t = 0
      · rw [if_pos hu]; exact q.1
      · rw [if_neg hu]; exact h7 t j (Nat.le_refl t) (by omega) hu hn
    split
    · show ¬ (if j = t + d then aG k t a else a.2.2.2.2.2 j) = 0 → aK t a ≤ (if j = t + d then aG k t a else a.2.2.2.2.2 j) ∧ (if j = t + d then aG k t a else a.2.2.2.2.2 j) ≤ aG k t a
      by_cases hj2 : j = t + d
      · rw [if_pos hj2]; intro _; omega
      · rw [if_neg hj2]; exact hold
    · exact hold
  · intro i j hi hij
    show ¬ (if (t % k = 0 ∧ 0 < aB t a) ∧ aG k t a % e = 0 then (fun j => if j = t + d then aG k t a else a.2.2.2.2.2 j) else a.2.2.2.2.2) i = 0 → ¬ (if (t % k = 0 ∧ 0 < aB t a) ∧ aG k t a % e = 0 then (fun j => if j = t + d then aG k t a else a.2.2.2.2.2 j) else a.2.2.2.2.2) j = 0 → (if (t % k = 0 ∧ 0 < aB t a) ∧ aG k t a % e = 0 then (fun j => if j = t + d then aG k t a else a.2.2.2.2.2 j) else a.2.2.2.2.2) i ≤ (if (t % k = 0 ∧ 0 < aB t a) ∧ aG k t a % e = 0 then (fun j => if j = t + d then aG k t a else a.2.2.2.2.2 j) else a.2.2.2.2.2) j
    split
    · show ¬ (if i = t + d then aG k t a else a.2.2.2.2.2 i) = 0 → ¬ (if j = t + d then aG k t a else a.2.2.2.2.2 j) = 0 → (if i = t + d then aG k t a else a.2.2.2.2.2 i) ≤ (if j = t + d then aG k t a else a.2.2.2.2.2 j)
      by_cases hi2 : i = t + d
      · have hj0 := (h5 j (by omega)).2
        rw [if_pos hi2, if_neg (show ¬ j = t + d by omega)]
        intro _ hn
        exact absurd hj0 hn
      · rw [if_neg hi2]
        by_cases hj2 : j = t + d
        · rw [if_pos hj2]
          intro hn _
          have q := h6 i (by omega) hn
          omega
        · rw [if_neg hj2]
          intro hn hm
          exact h7 i j (by omega) hij hn hm
    · intro hn hm
      exact h7 i j (by omega) hij hn hm
theorem aI_al (d e z k : Nat) (hd : 0 < d) : ∀ t, aI d z t (al d e z k t)
  | 0 => aI_0 d z
  | t + 1 => aI_s hd (aI_al d e z k hd t)

/-! the class's slots and counters beside these numbers -/
def sC (t : Nat) (C : Nat → Bool) (fc : Nat → Int32) : Prop := ∀ i, i < 5 → fc ((t + i) % 5) = if C (t + i) = true then 0 else -1
def sU (t : Nat) (U : Nat → Nat) (fu : Nat → Int32) : Prop := ∀ i, i < 5 → fu ((t + i) % 5 * 3 + 0) = if U (t + i) = 0 then -1 else nI (U (t + i) % 64)
/-- fields of the lane (SENT, GONE, KNOWN, since the update, since ADAPT), the slots, the buffers -/
def aF (e t : Nat) (a : AS) (f0 f1 f2 f5 f6 : Int32) (fc fu fp fb : Nat → Int32) : Prop :=
  f0 = nI (a.1 % 64) ∧ f1 = nI (a.2.1 % 64) ∧ f2 = nI (a.2.2.1 % 64) ∧ f5 = nI (a.2.1 % e) ∧ f6 = nI a.1 ∧ sC t a.2.2.2.2.1 fc ∧ sU t a.2.2.2.2.2 fu ∧ (∀ j, j < 5 → fp (j * 3 + 0) = 0) ∧ fb 0 = nI (201 - a.1) ∧ fb 3 = nI a.2.2.2.1
theorem sC_clear {t d : Nat} {C : Nat → Bool} {fc : Nat → Int32} (hd : d < 5) (h : sC t C fc) (hz : ∀ j, t + d ≤ j → C j = false) : sC (t + 1) C (upd fc (t % 5) (-1)) := by
  intro i hi
  by_cases h4 : i = 4
  · subst h4
    rw [show (t + 1 + 4) % 5 = t % 5 by omega, pk_us, hz (t + 1 + 4) (by omega)]
    rfl
  · rw [pk_un (show (t + 1 + i) % 5 ≠ t % 5 by omega), show t + 1 + i = t + (i + 1) by omega]
    exact h (i + 1) (by omega)
theorem sC_put {t d : Nat} {C : Nat → Bool} {fc : Nat → Int32} (h0 : 0 < d) (hd : d < 5) (h : sC (t + 1) C fc) : sC (t + 1) (fun j => if j = t + d then true else C j) (upd fc ((t + d) % 5) 0) := by
  intro i hi
  show upd fc ((t + d) % 5) 0 ((t + 1 + i) % 5) = if (if t + 1 + i = t + d then true else C (t + 1 + i)) = true then 0 else -1
  by_cases h4 : i + 1 = d
  · rw [show (t + 1 + i) % 5 = (t + d) % 5 by omega, pk_us, if_pos (show t + 1 + i = t + d by omega)]
    rfl
  · rw [pk_un (show (t + 1 + i) % 5 ≠ (t + d) % 5 by omega), if_neg (show ¬ t + 1 + i = t + d by omega)]
    exact h i hi
theorem sU_clear {t d : Nat} {U : Nat → Nat} {fu : Nat → Int32} (hd : d < 5) (h : sU t U fu) (hz : ∀ j, t + d ≤ j → U j = 0) : sU (t + 1) U (upd (upd (upd fu (t % 5 * 3 + 0) (-1)) (t % 5 * 3 + 1) (-1)) (t % 5 * 3 + 2) (-1)) := by
  intro i hi
  by_cases h4 : i = 4
  · subst h4
    rw [show (t + 1 + 4) % 5 = t % 5 by omega, pk_un (show t % 5 * 3 + 0 ≠ t % 5 * 3 + 2 by omega), pk_un (show t % 5 * 3 + 0 ≠ t % 5 * 3 + 1 by omega), pk_us, hz (t + 1 + 4) (by omega)]
    rfl
  · rw [pk_un (show (t + 1 + i) % 5 * 3 + 0 ≠ t % 5 * 3 + 2 by omega), pk_un (show (t + 1 + i) % 5 * 3 + 0 ≠ t % 5 * 3 + 1 by omega), pk_un (show (t + 1 + i) % 5 * 3 + 0 ≠ t % 5 * 3 + 0 by omega), show t + 1 + i = t + (i + 1) by omega]
    exact h (i + 1) (by omega)
theorem sU_put {t d v : Nat} {U : Nat → Nat} {fu : Nat → Int32} (h0 : 0 < d) (hd : d < 5) (hv : ¬ v = 0) (h : sU (t + 1) U fu) : sU (t + 1) (fun j => if j = t + d then v else U j) (upd fu ((t + d) % 5 * 3 + 0) (nI (v % 64))) := by
  intro i hi
  show upd fu ((t + d) % 5 * 3 + 0) (nI (v % 64)) ((t + 1 + i) % 5 * 3 + 0) = if (if t + 1 + i = t + d then v else U (t + 1 + i)) = 0 then -1 else nI ((if t + 1 + i = t + d then v else U (t + 1 + i)) % 64)
  by_cases h4 : i + 1 = d
  · rw [show (t + 1 + i) % 5 * 3 + 0 = (t + d) % 5 * 3 + 0 by omega, pk_us, if_pos (show t + 1 + i = t + d by omega), if_neg hv]
  · rw [pk_un (show (t + 1 + i) % 5 * 3 + 0 ≠ (t + d) % 5 * 3 + 0 by omega), if_neg (show ¬ t + 1 + i = t + d by omega)]
    exact h i hi
theorem fp_clear {t : Nat} {fp : Nat → Int32} (h : ∀ j, j < 5 → fp (j * 3 + 0) = 0) : ∀ j, j < 5 → (upd (upd (upd fp (t % 5 * 3 + 0) 0) (t % 5 * 3 + 1) 0) (t % 5 * 3 + 2) 0) (j * 3 + 0) = 0 := by
  intro j hj
  rw [pk_un (show j * 3 + 0 ≠ t % 5 * 3 + 2 by omega), pk_un (show j * 3 + 0 ≠ t % 5 * 3 + 1 by omega)]
  by_cases h4 : j = t % 5
  · rw [h4, pk_us]
  · rw [pk_un (show j * 3 + 0 ≠ t % 5 * 3 + 0 by omega)]
    exact h j hj
theorem m64_sub : ∀ a, a < 64 → ∀ b, b < 64 → (nI a - nI b) &&& 63 = nI ((a + 64 - b) % 64) := by decide +kernel
theorem m64_out {s k : Nat} (h1 : k ≤ s) (h2 : s < k + 64) : (nI (s % 64) - nI (k % 64)) &&& 63 = nI (s - k) := by
  rw [m64_sub _ (Nat.mod_lt _ (by omega)) _ (Nat.mod_lt _ (by omega))]
  exact congrArg nI (by omega)
theorem m64_inc (s : Nat) : (nI (s % 64) + 1) &&& 63 = nI ((s + 1) % 64) := by
  rw [nI_1, pk_andN (show s % 64 + 1 < 2 ^ 32 by omega) 6 (by decide)]
  exact congrArg nI (by omega)
theorem up3_ne {f : Nat → Int32} {v : Int32} {j : Nat} (h : j ≠ 3) : upd f 3 v j = f j := pk_un h
theorem nI_gt0 {n : Nat} (h : n < 2 ^ 31) : (0 : Int32) < nI n ↔ 0 < n := by
  have q := nI_ltI (a := 0) (b := n) (by decide) h
  rw [nI_0] at q
  exact q
set_option maxHeartbeats 1000000 in
/-- a TICK of the class is a step of the numbers -/
theorem al_main {d e z k t : Nat} {a : AS} {f0 f1 f2 f5 f6 kn g5 g52 f12 su2 lt lt2 f02 f62 : Int32} {fc fu fp fb fb1 fb2 fb3 fu2 fc3 : Nat → Int32} (h0 : 0 < d) (hd : d < 5) (he0 : 0 < e) (he : e < 5) (hz : z ≤ 30) (ht : t ≤ 200)
    (hF : aF e t a f0 f1 f2 f5 f6 fc fu fp fb) (hI : aI d z t a) (hlt : lt = -1 ∨ lt = 0)
    (h1 : fb1 = (if fc (t % 5) = -1 then fb else upd fb 3 (fb 3 + 1)))
    (h2 : kn = (if fu (t % 5 * 3 + 0) = -1 then f2 else (if ((fu (t % 5 * 3 + 0) - f2) &&& 63) < 32 then fu (t % 5 * 3 + 0) else f2)))
    (t1 : (t % k = 0 ∧ 0 < fb1 3) → fb2 = upd fb1 3 (fb1 3 - 1) ∧ g52 = g5 + 1 ∧ f12 = ((f1 + 1) &&& 63) ∧ (f5 + 1 < nI e → su2 = f5 + 1 ∧ fu2 = upd (upd (upd fu (t % 5 * 3 + 0) (-1)) (t % 5 * 3 + 1) (-1)) (t % 5 * 3 + 2) (-1)) ∧ (¬ f5 + 1 < nI e → su2 = 0 ∧ fu2 = upd (upd (upd (upd fu (t % 5 * 3 + 0) (-1)) (t % 5 * 3 + 1) (-1)) (t % 5 * 3 + 2) (-1)) ((t + d) % 5 * 3 + 0) ((f1 + 1) &&& 63)))
    (t2 : ¬ (t % k = 0 ∧ 0 < fb1 3) → fb2 = fb1 ∧ g52 = g5 ∧ f12 = f1 ∧ su2 = f5 ∧ fu2 = upd (upd (upd fu (t % 5 * 3 + 0) (-1)) (t % 5 * 3 + 1) (-1)) (t % 5 * 3 + 2) (-1))
    (s1 : (0 < fb2 0 ∧ ((f0 - kn) &&& 63) < nI z) → fb3 = upd fb2 0 (fb2 0 - 1) ∧ lt2 = 0 ∧ fc3 = upd (upd fc (t % 5) (-1)) ((t + d) % 5) 0 ∧ f02 = ((f0 + 1) &&& 63) ∧ f62 = f6 + 1)
    (s2 : ¬ (0 < fb2 0 ∧ ((f0 - kn) &&& 63) < nI z) → fb3 = fb2 ∧ lt2 = lt ∧ fc3 = upd fc (t % 5) (-1) ∧ f02 = f0 ∧ f62 = f6) :
    aF e (t + 1) (al_s d e z k t a) f02 f12 kn su2 f62 fc3 fu2 (upd (upd (upd fp (t % 5 * 3 + 0) 0) (t % 5 * 3 + 1) 0) (t % 5 * 3 + 2) 0) fb3 ∧ (lt2 = -1 ∨ lt2 = 0) := by
  obtain ⟨q0, q1, q2, q5, q6, qC, qU, qp, qb0, qb3⟩ := hF
  have hK := aK_in hI
  have hB := aB_in h0 hI
  have hG := aG_in k t a
  obtain ⟨i1, i2, i3, i4, i5, i6, i7⟩ := hI
  -- ARRIVE
  have c0 : fc (t % 5) = if a.2.2.2.2.1 t = true then 0 else -1 := qC 0 (by omega)
  have u0 : fu (t % 5 * 3 + 0) = if a.2.2.2.2.2 t = 0 then -1 else nI (a.2.2.2.2.2 t % 64) := qU 0 (by omega)
  have e3 : fb1 3 = nI (aB t a) := by
    unfold aB
    rw [h1, c0]
    by_cases hc : a.2.2.2.2.1 t = true
    · rw [if_pos hc, if_pos hc, if_neg (by decide), pk_us, qb3, nI_1]
    · rw [if_neg hc, if_neg hc, if_pos rfl, qb3]
      rfl
  have e0 : fb1 0 = nI (201 - a.1) := by
    rw [h1]
    by_cases hc : fc (t % 5) = -1
    · rw [if_pos hc, qb0]
    · rw [if_neg hc, pk_un (by decide), qb0]
  have ek : kn = nI (aK t a % 64) := by
    unfold aK
    rw [h2, u0, q2]
    by_cases hu : a.2.2.2.2.2 t = 0
    · rw [if_pos hu, if_pos hu, if_pos rfl]
    · have q := i6 t (Nat.le_refl t) hu
      rw [if_neg hu, if_neg hu, if_neg (m1_ne (by omega)), m64_out q.1 (by omega)]
      exact if_pos (nI_lt (show a.2.2.2.2.2 t - a.2.2.1 < 32 by omega) (by decide))
  have sC1 := sC_clear hd qC (fun j hj => (i5 j hj).1)
  have sU1 := sU_clear hd qU (fun j hj => (i5 j hj).2)
  have hT : (t % k = 0 ∧ 0 < fb1 3) ↔ (t % k = 0 ∧ 0 < aB t a) := by
    rw [e3, nI_gt0 (by omega)]
  -- TAKE
  have eT : fb2 3 = nI (if t % k = 0 ∧ 0 < aB t a then aB t a - 1 else aB t a) ∧ fb2 0 = nI (201 - a.1) ∧ f12 = nI (aG k t a % 64) ∧ su2 = nI (aG k t a % e) ∧ sU (t + 1) (if (t % k = 0 ∧ 0 < aB t a) ∧ aG k t a % e = 0 then (fun j => if j = t + d then aG k t a else a.2.2.2.2.2 j) else a.2.2.2.2.2) fu2 := by
    by_cases hk : t % k = 0 ∧ 0 < aB t a
    · obtain ⟨x1, -, x3, x4, x5⟩ := t1 (hT.mpr hk)
      have eg : aG k t a = a.2.1 + 1 := if_pos hk
      have hp := hk.2
      have e13 : f12 = nI (aG k t a % 64) := by rw [x3, q1, m64_inc, eg]
      refine ⟨?_, ?_, e13, ?_⟩
      · rw [x1, pk_us, e3, if_pos hk]
        exact pk_sub (show 1 ≤ aB t a by omega)
      · rw [x1, pk_un (by decide), e0]
      · have hm : f5 + 1 = nI (a.2.1 % e + 1) := by rw [q5, nI_1]
        have hlt1 : (f5 + 1 < nI e) ↔ a.2.1 % e + 1 < e := by rw [hm]; exact nI_ltI (by have := Nat.mod_lt a.2.1 he0; omega) (by omega)
        have hml := Nat.mod_lt a.2.1 he0
        by_cases hq : a.2.1 % e + 1 < e
        · obtain ⟨y1, y2⟩ := x4 (hlt1.mpr hq)
          have em : aG k t a % e = a.2.1 % e + 1 := by
            rw [eg]
            rcases (show e = 1 ∨ e = 2 ∨ e = 3 ∨ e = 4 by omega) with rfl | rfl | rfl | rfl <;> omega
          refine ⟨by rw [y1, hm, em], ?_⟩
          rw [if_neg (fun q => by have := q.2; omega), y2]
          exact sU1
        · obtain ⟨y1, y2⟩ := x5 (fun q => hq (hlt1.mp q))
          have em : aG k t a % e = 0 := by
            rw [eg]
            rcases (show e = 1 ∨ e = 2 ∨ e = 3 ∨ e = 4 by omega) with rfl | rfl | rfl | rfl <;> omega
          refine ⟨by rw [y1, em]; rfl, ?_⟩
          rw [if_pos ⟨hk, em⟩, y2, ← x3, e13]
          exact sU_put h0 hd (by omega) sU1
    · obtain ⟨x1, -, x3, x4, x5⟩ := t2 (fun q => hk (hT.mp q))
      have eg : aG k t a = a.2.1 := if_neg hk
      refine ⟨by rw [x1, e3, if_neg hk], by rw [x1, e0], by rw [x3, q1, eg], by rw [x4, q5, eg], ?_⟩
      rw [if_neg (fun q => hk q.1), x5]
      exact sU1
  obtain ⟨b3, b0, eg1, esu, sU2⟩ := eT
  -- SEND
  have ho : (f0 - kn) &&& 63 = nI (a.1 - aK t a) := by rw [q0, ek]; exact m64_out (by omega) (by omega)
  have hs : (0 < fb2 0 ∧ ((f0 - kn) &&& 63) < nI z) ↔ a.1 - aK t a < z := by
    rw [b0, ho, nI_gt0 (by omega), nI_ltI (by omega) (by omega)]
    exact ⟨fun q => q.2, fun q => ⟨by omega, q⟩⟩
  by_cases hq : a.1 - aK t a < z
  · obtain ⟨x1, x2, x3, x4, x5⟩ := s1 (hs.mpr hq)
    refine ⟨⟨?_, eg1, ek, esu, ?_, ?_, sU2, fp_clear qp, ?_, ?_⟩, Or.inr x2⟩
    · show f02 = nI ((if a.1 - aK t a < z then a.1 + 1 else a.1) % 64)
      rw [if_pos hq, x4, q0, m64_inc]
    · show f62 = nI (if a.1 - aK t a < z then a.1 + 1 else a.1)
      rw [if_pos hq, x5, q6, nI_1]
    · show sC (t + 1) (if a.1 - aK t a < z then (fun j => if j = t + d then true else a.2.2.2.2.1 j) else a.2.2.2.2.1) fc3
      rw [if_pos hq, x3]
      exact sC_put h0 hd sC1
    · show fb3 0 = nI (201 - (if a.1 - aK t a < z then a.1 + 1 else a.1))
      rw [if_pos hq, x1, pk_us, b0]
      exact (pk_sub (show 1 ≤ 201 - a.1 by omega)).trans (congrArg nI (by omega))
    · show fb3 3 = nI (if t % k = 0 ∧ 0 < aB t a then aB t a - 1 else aB t a)
      rw [x1, pk_un (by decide), b3]
  · obtain ⟨x1, x2, x3, x4, x5⟩ := s2 (fun q => hq (hs.mp q))
    refine ⟨⟨?_, eg1, ek, esu, ?_, ?_, sU2, fp_clear qp, ?_, ?_⟩, by rw [x2]; exact hlt⟩
    · show f02 = nI ((if a.1 - aK t a < z then a.1 + 1 else a.1) % 64)
      rw [if_neg hq, x4, q0]
    · show f62 = nI (if a.1 - aK t a < z then a.1 + 1 else a.1)
      rw [if_neg hq, x5, q6]
    · show sC (t + 1) (if a.1 - aK t a < z then (fun j => if j = t + d then true else a.2.2.2.2.1 j) else a.2.2.2.2.1) fc3
      rw [if_neg hq, x3]
      exact sC1
    · show fb3 0 = nI (201 - (if a.1 - aK t a < z then a.1 + 1 else a.1))
      rw [if_neg hq, x1, b0]
    · show fb3 3 = nI (if t % k = 0 ∧ 0 < aB t a then aB t a - 1 else aB t a)
      rw [x1, b3]
theorem aF_c {e t : Nat} {a : AS} {f0 f1 f2 f5 f6 : Int32} {fc fu fp fb : Nat → Int32} (h : aF e t a f0 f1 f2 f5 f6 fc fu fp fb) : fc (t % 5) = -1 ∨ fc (t % 5) = 0 := by
  have c0 : fc (t % 5) = if a.2.2.2.2.1 t = true then 0 else -1 := h.2.2.2.2.2.1 0 (by omega)
  rw [c0]
  split
  · exact Or.inr rfl
  · exact Or.inl rfl
theorem aF_p {e t : Nat} {a : AS} {f0 f1 f2 f5 f6 : Int32} {fc fu fp fb : Nat → Int32} (h : aF e t a f0 f1 f2 f5 f6 fc fu fp fb) : fp (t % 5 * 3 + 0) = 0 := h.2.2.2.2.2.2.2.1 (t % 5) (Nat.mod_lt _ (by omega))
theorem aF_0 {d e z k : Nat} {fc fu fp fb : Nat → Int32} (h1 : ∀ j, j < 12 → 0 < j → fb j = 0) (h2 : fb 0 = 201) (h3 : ∀ j, j < 5 → fc j = -1) (h4 : ∀ j, j < 15 → fu j = -1) (h5 : ∀ j, j < 15 → fp j = 0) : aF e 0 (al d e z k 0) 0 0 0 0 0 fc fu fp fb := by
  refine ⟨rfl, rfl, rfl, ?_, rfl, fun i hi => h3 _ (by omega), fun i hi => h4 _ (by omega), fun j hj => h5 _ (by omega), h2, h1 3 (by omega) (by omega)⟩
  show (0 : Int32) = nI (0 % e)
  rw [Nat.zero_mod]
  rfl

/-! the same numbers by what was sent and gone so many ticks ago; more zone, no fewer sent -/
section Mono
variable {d e z k : Nat}
theorem al_1 (t : Nat) : (al d e z k (t + 1)).1 = if (al d e z k t).1 - aK t (al d e z k t) < z then (al d e z k t).1 + 1 else (al d e z k t).1 := rfl
theorem al_2 (t : Nat) : (al d e z k (t + 1)).2.1 = if t % k = 0 ∧ 0 < aB t (al d e z k t) then (al d e z k t).2.1 + 1 else (al d e z k t).2.1 := rfl
theorem al_3 (t : Nat) : (al d e z k (t + 1)).2.2.1 = aK t (al d e z k t) := rfl
theorem al_4 (t : Nat) : (al d e z k (t + 1)).2.2.2.1 = if t % k = 0 ∧ 0 < aB t (al d e z k t) then aB t (al d e z k t) - 1 else aB t (al d e z k t) := rfl
theorem al_S (t : Nat) : (al d e z k t).1 ≤ (al d e z k (t + 1)).1 ∧ (al d e z k (t + 1)).1 ≤ (al d e z k t).1 + 1 := by
  rw [al_1]
  split <;> omega
theorem al_Gs (t : Nat) : (al d e z k t).2.1 ≤ (al d e z k (t + 1)).2.1 ∧ (al d e z k (t + 1)).2.1 ≤ (al d e z k t).2.1 + 1 := by
  rw [al_2]
  split <;> omega
theorem al_C : ∀ t j, ((al d e z k t).2.2.2.2.1 j = true ↔ d ≤ j ∧ j - d < t ∧ (al d e z k (j - d + 1)).1 = (al d e z k (j - d)).1 + 1)
  | 0, j => ⟨fun h => absurd h (by show ¬ false = true; decide), fun h => absurd h.2.1 (Nat.not_lt_zero _)⟩
  | t + 1, j => by
    have ih := al_C t j
    show ((if (al d e z k t).1 - aK t (al d e z k t) < z then (fun j => if j = t + d then true else (al d e z k t).2.2.2.2.1 j) else (al d e z k t).2.2.2.2.1) j = true ↔ _)
    by_cases hj : j = t + d
    · subst hj
      rw [show t + d - d = t by omega, al_1]
      rw [show t + d - d = t by omega] at ih
      have hno : ¬ (al d e z k t).2.2.2.2.1 (t + d) = true := fun q => absurd (ih.mp q).2.1 (Nat.lt_irrefl t)
      by_cases hs : (al d e z k t).1 - aK t (al d e z k t) < z
      · rw [if_pos hs, if_pos hs]
        show ((if t + d = t + d then true else _) = true ↔ _)
        rw [if_pos rfl]
        exact ⟨fun _ => ⟨by omega, by omega, rfl⟩, fun _ => rfl⟩
      · rw [if_neg hs, if_neg hs]
        exact ⟨fun q => absurd q hno, fun q => absurd q.2.2 (by omega)⟩
    · have e1 : (if (al d e z k t).1 - aK t (al d e z k t) < z then (fun j => if j = t + d then true else (al d e z k t).2.2.2.2.1 j) else (al d e z k t).2.2.2.2.1) j = (al d e z k t).2.2.2.2.1 j := by
        split
        · show (if j = t + d then true else _) = _
          rw [if_neg hj]
        · rfl
      rw [e1, ih]
      exact ⟨fun q => ⟨q.1, by omega, q.2.2⟩, fun q => ⟨q.1, by omega, q.2.2⟩⟩
theorem al_U : ∀ t j, (al d e z k t).2.2.2.2.2 j = if d ≤ j ∧ j - d < t ∧ (al d e z k (j - d + 1)).2.1 = (al d e z k (j - d)).2.1 + 1 ∧ (al d e z k (j - d + 1)).2.1 % e = 0 then (al d e z k (j - d + 1)).2.1 else 0
  | 0, j => by rw [if_neg (fun h => absurd h.2.1 (Nat.not_lt_zero _))]; rfl
  | t + 1, j => by
    have ih := al_U t j
    show (if (t % k = 0 ∧ 0 < aB t (al d e z k t)) ∧ aG k t (al d e z k t) % e = 0 then (fun j => if j = t + d then aG k t (al d e z k t) else (al d e z k t).2.2.2.2.2 j) else (al d e z k t).2.2.2.2.2) j = _
    have eG : (al d e z k (t + 1)).2.1 = aG k t (al d e z k t) := rfl
    by_cases hj : j = t + d
    · subst hj
      rw [show t + d - d = t by omega] at ih ⊢
      rw [if_neg (fun h => absurd h.2.1 (Nat.lt_irrefl t))] at ih
      by_cases hk : (t % k = 0 ∧ 0 < aB t (al d e z k t)) ∧ aG k t (al d e z k t) % e = 0
      · have hc2 : d ≤ t + d ∧ t < t + 1 ∧ (al d e z k (t + 1)).2.1 = (al d e z k t).2.1 + 1 ∧ (al d e z k (t + 1)).2.1 % e = 0 := ⟨by omega, by omega, by rw [al_2, if_pos hk.1], by rw [eG]; exact hk.2⟩
        rw [if_pos hk]
        show (if t + d = t + d then aG k t (al d e z k t) else (al d e z k t).2.2.2.2.2 (t + d)) = _
        rw [if_pos rfl, if_pos hc2, eG]
      · rw [if_neg hk, if_neg (fun h => hk ⟨by
          by_cases q : t % k = 0 ∧ 0 < aB t (al d e z k t)
          · exact q
          · have h2 := h.2.2.1
            rw [al_2, if_neg q] at h2
            omega, by rw [← eG]; exact h.2.2.2⟩), ih]
    · have e1 : (if (t % k = 0 ∧ 0 < aB t (al d e z k t)) ∧ aG k t (al d e z k t) % e = 0 then (fun j => if j = t + d then aG k t (al d e z k t) else (al d e z k t).2.2.2.2.2 j) else (al d e z k t).2.2.2.2.2) j = (al d e z k t).2.2.2.2.2 j := by
        split
        · show (if j = t + d then _ else _) = _
          rw [if_neg hj]
        · rfl
      rw [e1, ih]
      by_cases hc : d ≤ j ∧ j - d < t ∧ (al d e z k (j - d + 1)).2.1 = (al d e z k (j - d)).2.1 + 1 ∧ (al d e z k (j - d + 1)).2.1 % e = 0
      · rw [if_pos hc, if_pos ⟨hc.1, by omega, hc.2.2⟩]
      · rw [if_neg hc, if_neg (fun q => hc ⟨q.1, by omega, q.2.2⟩)]
theorem al_P1 (t : Nat) : (al d e z k (t + 1)).2.1 + (al d e z k (t + 1)).2.2.2.1 = (al d e z k t).2.1 + aB t (al d e z k t) := by
  rw [al_2, al_4]
  by_cases h : t % k = 0 ∧ 0 < aB t (al d e z k t)
  · rw [if_pos h, if_pos h]; have := h.2; omega
  · rw [if_neg h, if_neg h]
theorem al_P (hd : 0 < d) : ∀ t, (al d e z k t).2.1 + (al d e z k t).2.2.2.1 = (al d e z k (t - d)).1
  | 0 => by rw [Nat.zero_sub]; rfl
  | t + 1 => by
    have ih := al_P hd t
    rw [al_P1]
    unfold aB
    have hc := al_C (d := d) (e := e) (z := z) (k := k) t t
    by_cases hq : (al d e z k t).2.2.2.2.1 t = true
    · have q := hc.mp hq
      rw [if_pos hq, show t + 1 - d = t - d + 1 by omega, q.2.2]
      omega
    · rw [if_neg hq]
      by_cases h1 : d ≤ t
      · have hs := al_S (d := d) (e := e) (z := z) (k := k) (t - d)
        have hn : ¬ (al d e z k (t - d + 1)).1 = (al d e z k (t - d)).1 + 1 := fun q => hq (hc.mpr ⟨h1, by omega, q⟩)
        rw [show t + 1 - d = t - d + 1 by omega]
        omega
      · rw [show t + 1 - d = t - d by omega]
        omega
theorem al_B (hd : 0 < d) (t : Nat) : (al d e z k t).2.1 + aB t (al d e z k t) = (al d e z k (t + 1 - d)).1 := by
  rw [← al_P1, al_P hd]
theorem fl_e {G e : Nat} (h0 : 0 < e) (h5 : e < 5) (h : (G + 1) % e = 0) : (G + 1) / e * e = G + 1 := by
  rcases (show e = 1 ∨ e = 2 ∨ e = 3 ∨ e = 4 by omega) with rfl | rfl | rfl | rfl <;> omega
theorem fl_n {G e : Nat} (h0 : 0 < e) (h5 : e < 5) (h : ¬ (G + 1) % e = 0) : (G + 1) / e * e = G / e * e := by
  rcases (show e = 1 ∨ e = 2 ∨ e = 3 ∨ e = 4 by omega) with rfl | rfl | rfl | rfl <;> omega
theorem fl_m {a b e : Nat} (h0 : 0 < e) (h5 : e < 5) (h : a ≤ b) : a / e * e ≤ b / e * e := Nat.mul_le_mul_right _ (Nat.div_le_div_right h)
theorem al_K (hd : 0 < d) (h0 : 0 < e) (h5 : e < 5) : ∀ t, (al d e z k t).2.2.1 = (al d e z k (t - d)).2.1 / e * e
  | 0 => by rw [Nat.zero_sub]; show 0 = 0 / e * e; rw [Nat.zero_div, Nat.zero_mul]
  | t + 1 => by
    have ih := al_K hd h0 h5 t
    rw [al_3]
    unfold aK
    have hU := al_U (d := d) (e := e) (z := z) (k := k) t t
    by_cases h1 : d ≤ t
    · rw [show t + 1 - d = t - d + 1 by omega]
      have hg := al_Gs (d := d) (e := e) (z := z) (k := k) (t - d)
      by_cases h2 : (al d e z k (t - d + 1)).2.1 = (al d e z k (t - d)).2.1 + 1
      · by_cases h3 : (al d e z k (t - d + 1)).2.1 % e = 0
        · have hc2 : d ≤ t ∧ t - d < t ∧ (al d e z k (t - d + 1)).2.1 = (al d e z k (t - d)).2.1 + 1 ∧ (al d e z k (t - d + 1)).2.1 % e = 0 := ⟨h1, by omega, h2, h3⟩
          rw [if_pos hc2] at hU
          rw [hU, if_neg (show ¬ (al d e z k (t - d + 1)).2.1 = 0 by omega), h2]
          exact (fl_e h0 h5 (by rw [← h2]; exact h3)).symm
        · have hc2 : ¬ (d ≤ t ∧ t - d < t ∧ (al d e z k (t - d + 1)).2.1 = (al d e z k (t - d)).2.1 + 1 ∧ (al d e z k (t - d + 1)).2.1 % e = 0) := fun q => h3 q.2.2.2
          rw [if_neg hc2] at hU
          rw [hU, if_pos rfl, ih, h2]
          exact (fl_n h0 h5 (by rw [← h2]; exact h3)).symm
      · have hc2 : ¬ (d ≤ t ∧ t - d < t ∧ (al d e z k (t - d + 1)).2.1 = (al d e z k (t - d)).2.1 + 1 ∧ (al d e z k (t - d + 1)).2.1 % e = 0) := fun q => h2 q.2.2.1
        rw [if_neg hc2] at hU
        rw [hU, if_pos rfl, ih, show (al d e z k (t - d + 1)).2.1 = (al d e z k (t - d)).2.1 by omega]
    · have hc2 : ¬ (d ≤ t ∧ t - d < t ∧ (al d e z k (t - d + 1)).2.1 = (al d e z k (t - d)).2.1 + 1 ∧ (al d e z k (t - d + 1)).2.1 % e = 0) := fun q => h1 q.1
      rw [if_neg hc2] at hU
      rw [hU, if_pos rfl, ih, show t + 1 - d = t - d by omega]
theorem al_K1 (hd : 0 < d) (h0 : 0 < e) (h5 : e < 5) (t : Nat) : aK t (al d e z k t) = (al d e z k (t + 1 - d)).2.1 / e * e := by
  rw [← al_3, al_K hd h0 h5]
theorem al_mono {y : Nat} (hd : 0 < d) (h0 : 0 < e) (h5 : e < 5) (hy : z ≤ y) : ∀ t, ∀ i, i ≤ t → (al d e z k i).1 ≤ (al d e y k i).1 ∧ (al d e z k i).2.1 ≤ (al d e y k i).2.1
  | 0, i, hi => by
    rw [show i = 0 by omega]
    exact ⟨Nat.le_refl _, Nat.le_refl _⟩
  | t + 1, i, hi => by
    have ih := al_mono (y := y) hd h0 h5 hy t
    by_cases hl : i ≤ t
    · exact ih i hl
    · rw [show i = t + 1 by omega]
      have ht := ih t (Nat.le_refl t)
      have hb := ih (t + 1 - d) (by omega)
      have b1 := al_B (e := e) (z := z) (k := k) hd t
      have b2 := al_B (e := e) (z := y) (k := k) hd t
      have k1 := al_K1 (z := z) (k := k) hd h0 h5 t
      have k2 := al_K1 (z := y) (k := k) hd h0 h5 t
      have km := fl_m h0 h5 hb.2
      have i1 := aI_al d e z k hd t
      have i2 := aI_al d e y k hd t
      have q1 := aK_in i1
      have q2 := aK_in i2
      have r1 := aB_in hd i1
      have r2 := aB_in hd i2
      refine ⟨?_, ?_⟩
      · rw [al_1, al_1]
        by_cases hs : (al d e z k t).1 - aK t (al d e z k t) < z
        · rw [if_pos hs]
          by_cases hs2 : (al d e y k t).1 - aK t (al d e y k t) < y
          · rw [if_pos hs2]; omega
          · rw [if_neg hs2]; omega
        · rw [if_neg hs]
          split <;> omega
      · rw [al_2, al_2]
        by_cases hs : t % k = 0 ∧ 0 < aB t (al d e z k t)
        · rw [if_pos hs]
          have hp := hs.2
          by_cases hs2 : t % k = 0 ∧ 0 < aB t (al d e y k t)
          · rw [if_pos hs2]; omega
          · rw [if_neg hs2]
            have hn : ¬ 0 < aB t (al d e y k t) := fun q => hs2 ⟨hs.1, q⟩
            omega
        · rw [if_neg hs]
          split <;> omega
end Mono
/-- the least zone, looked for in two ways -/
theorem full_eq {d e k n v w : Nat} (hd : 0 < d) (h0 : 0 < e) (h5 : e < 5) (v1 : 1 ≤ v) (v30 : v ≤ 30) (vE : (al d e v k n).1 = (al d e 30 k n).1) (vm : ∀ q, 1 ≤ q → q < v → ¬ (al d e q k n).1 = (al d e 30 k n).1)
    (w1 : 1 ≤ w) (wE : ¬ (al d e w k n).1 < (al d e 30 k n).1) (wm : ∀ q, 1 ≤ q → q < w → (al d e q k n).1 < (al d e 30 k n).1) : v = w := by
  rcases Nat.lt_trichotomy v w with h | h | h
  · have q := wm v v1 h
    omega
  · exact h
  · have q := (al_mono (z := w) (y := 30) (k := k) hd h0 h5 (by omega) n n (Nat.le_refl n)).1
    exact absurd (by omega) (vm w w1 h)
/-! the reference's slots -/
def rC (t : Nat) (C : Nat → Bool) (f : Nat → Int32) : Prop := ∀ i, i < 8 → f ((t + i) % 8) = if C (t + i) = true then 1 else 0
def rU (t : Nat) (U : Nat → Nat) (f : Nat → Int32) : Prop := ∀ i, i < 8 → f ((t + i) % 8) = if U (t + i) = 0 then -1 else nI (U (t + i))
theorem rC_clear {t d : Nat} {C : Nat → Bool} {f : Nat → Int32} (hd : d < 5) (h : rC t C f) (hz : ∀ j, t + d ≤ j → C j = false) : rC (t + 1) C (upd f (t % 8) 0) := by
  intro i hi
  by_cases h4 : i = 7
  · subst h4
    rw [show (t + 1 + 7) % 8 = t % 8 by omega, pk_us, hz (t + 1 + 7) (by omega)]
    rfl
  · rw [pk_un (show (t + 1 + i) % 8 ≠ t % 8 by omega), show t + 1 + i = t + (i + 1) by omega]
    exact h (i + 1) (by omega)
theorem rU_clear {t d : Nat} {U : Nat → Nat} {f : Nat → Int32} (hd : d < 5) (h : rU t U f) (hz : ∀ j, t + d ≤ j → U j = 0) : rU (t + 1) U (upd f (t % 8) (-1)) := by
  intro i hi
  by_cases h4 : i = 7
  · subst h4
    rw [show (t + 1 + 7) % 8 = t % 8 by omega, pk_us, hz (t + 1 + 7) (by omega)]
    rfl
  · rw [pk_un (show (t + 1 + i) % 8 ≠ t % 8 by omega), show t + 1 + i = t + (i + 1) by omega]
    exact h (i + 1) (by omega)
theorem rC_y {d e z k t : Nat} {a : AS} {f : Nat → Int32} (h0 : 0 < d) (hd : d < 5) (hI : aI d z t a) (h : rC t a.2.2.2.2.1 f) (hs : a.1 - aK t a < z) : rC (t + 1) (al_s d e z k t a).2.2.2.2.1 (upd (upd f (t % 8) 0) ((t + d) % 8) 1) := by
  have h1 := rC_clear hd h (fun j hj => (hI.2.2.2.2.1 j hj).1)
  intro i hi
  show upd (upd f (t % 8) 0) ((t + d) % 8) 1 ((t + 1 + i) % 8) = if (if a.1 - aK t a < z then (fun j => if j = t + d then true else a.2.2.2.2.1 j) else a.2.2.2.2.1) (t + 1 + i) = true then 1 else 0
  rw [if_pos hs]
  show _ = if (if t + 1 + i = t + d then true else a.2.2.2.2.1 (t + 1 + i)) = true then 1 else 0
  by_cases h4 : i + 1 = d
  · rw [show (t + 1 + i) % 8 = (t + d) % 8 by omega, pk_us, if_pos (show t + 1 + i = t + d by omega)]
    rfl
  · rw [pk_un (show (t + 1 + i) % 8 ≠ (t + d) % 8 by omega), if_neg (show ¬ t + 1 + i = t + d by omega)]
    exact h1 i hi
theorem rC_n {d e z k t : Nat} {a : AS} {f : Nat → Int32} (hd : d < 5) (hI : aI d z t a) (h : rC t a.2.2.2.2.1 f) (hs : ¬ a.1 - aK t a < z) : rC (t + 1) (al_s d e z k t a).2.2.2.2.1 (upd f (t % 8) 0) := by
  have e1 : (al_s d e z k t a).2.2.2.2.1 = a.2.2.2.2.1 := if_neg hs
  rw [e1]
  exact rC_clear hd h (fun j hj => (hI.2.2.2.2.1 j hj).1)
theorem rU_n {d e z k t : Nat} {a : AS} {f : Nat → Int32} (hd : d < 5) (hI : aI d z t a) (h : rU t a.2.2.2.2.2 f) (hk : ¬ (t % k = 0 ∧ 0 < aB t a)) : rU (t + 1) (al_s d e z k t a).2.2.2.2.2 (upd f (t % 8) (-1)) := by
  have e1 : (al_s d e z k t a).2.2.2.2.2 = a.2.2.2.2.2 := if_neg (fun q => hk q.1)
  rw [e1]
  exact rU_clear hd h (fun j hj => (hI.2.2.2.2.1 j hj).2)
theorem rU_y {d e z k t : Nat} {a : AS} {f : Nat → Int32} (h0 : 0 < d) (hd : d < 5) (hI : aI d z t a) (h : rU t a.2.2.2.2.2 f) (hk : t % k = 0 ∧ 0 < aB t a) (he : (a.2.1 + 1) % e = 0) : rU (t + 1) (al_s d e z k t a).2.2.2.2.2 (upd (upd f (t % 8) (-1)) ((t + d) % 8) (nI (a.2.1 + 1))) := by
  have h1 := rU_clear hd h (fun j hj => (hI.2.2.2.2.1 j hj).2)
  have eG : aG k t a = a.2.1 + 1 := if_pos hk
  have e1 : (al_s d e z k t a).2.2.2.2.2 = (fun j => if j = t + d then aG k t a else a.2.2.2.2.2 j) := if_pos ⟨hk, by rw [eG]; exact he⟩
  rw [e1, eG]
  intro i hi
  show _ = if (if t + 1 + i = t + d then a.2.1 + 1 else a.2.2.2.2.2 (t + 1 + i)) = 0 then -1 else nI (if t + 1 + i = t + d then a.2.1 + 1 else a.2.2.2.2.2 (t + 1 + i))
  by_cases h4 : i + 1 = d
  · rw [show (t + 1 + i) % 8 = (t + d) % 8 by omega, pk_us, if_pos (show t + 1 + i = t + d by omega), if_neg (by omega)]
  · rw [pk_un (show (t + 1 + i) % 8 ≠ (t + d) % 8 by omega), if_neg (show ¬ t + 1 + i = t + d by omega)]
    exact h1 i hi
theorem rU_x {d e z k t : Nat} {a : AS} {f : Nat → Int32} (h0 : 0 < d) (hd : d < 5) (hI : aI d z t a) (h : rU t a.2.2.2.2.2 f) (hk : t % k = 0 ∧ 0 < aB t a) (he : ¬ (a.2.1 + 1) % e = 0) : rU (t + 1) (al_s d e z k t a).2.2.2.2.2 (upd (upd f (t % 8) (-1)) ((t + d) % 8) (-1)) := by
  have h1 := rU_clear hd h (fun j hj => (hI.2.2.2.2.1 j hj).2)
  have eG : aG k t a = a.2.1 + 1 := if_pos hk
  have e1 : (al_s d e z k t a).2.2.2.2.2 = a.2.2.2.2.2 := if_neg (fun q => he (by rw [← eG]; exact q.2))
  rw [e1]
  intro i hi
  by_cases h4 : i + 1 = d
  · rw [show (t + 1 + i) % 8 = (t + d) % 8 by omega, pk_us, show t + 1 + i = t + d by omega, (hI.2.2.2.2.1 (t + d) (Nat.le_refl _)).2]
    rfl
  · rw [pk_un (show (t + 1 + i) % 8 ≠ (t + d) % 8 by omega)]
    exact h1 i hi
theorem rC_b {t : Nat} {a : AS} {f : Nat → Int32} (h : rC t a.2.2.2.2.1 f) : nI a.2.2.2.1 + f (t % 8) = nI (aB t a) := by
  have c0 : f (t % 8) = if a.2.2.2.2.1 t = true then 1 else 0 := h 0 (by omega)
  unfold aB
  rw [c0]
  split
  · exact nI_1 _
  · exact nI_add _ 0
theorem rU_k0 {t : Nat} {a : AS} {f : Nat → Int32} (hs : a.2.2.2.2.2 t < 2 ^ 31) (h : rU t a.2.2.2.2.2 f) (hc : f (t % 8) = -1) : nI a.2.2.1 = nI (aK t a) := by
  have c0 : f (t % 8) = if a.2.2.2.2.2 t = 0 then -1 else nI (a.2.2.2.2.2 t) := h 0 (by omega)
  unfold aK
  by_cases hu : a.2.2.2.2.2 t = 0
  · rw [if_pos hu]
  · rw [if_neg hu] at c0
    exact absurd (c0.symm.trans hc) (m1_ne hs)
theorem rU_k1 {t : Nat} {a : AS} {f : Nat → Int32} (h : rU t a.2.2.2.2.2 f) (hc : ¬ f (t % 8) = -1) : f (t % 8) = nI (aK t a) := by
  have c0 : f (t % 8) = if a.2.2.2.2.2 t = 0 then -1 else nI (a.2.2.2.2.2 t) := h 0 (by omega)
  unfold aK
  by_cases hu : a.2.2.2.2.2 t = 0
  · rw [if_pos hu] at c0
    exact absurd c0 hc
  · rw [if_neg hu] at c0 ⊢
    exact c0
theorem rC_0 {f : Nat → Int32} (h : ∀ j, j < 8 → f j = 0) : rC 0 (fun _ => false) f := fun i hi => h _ (by omega)
theorem rU_0 {f : Nat → Int32} (h : ∀ j, j < 8 → f j = -1) : rU 0 (fun _ => 0) f := fun i hi => h _ (by omega)
theorem pk_m1x {n : Nat} (h : ¬ nI n ≤ 0) : nI n + Int32.ofInt (-1) = nI (n - 1) := sb_m1 (Nat.pos_of_ne_zero (fun q => h (by rw [q]; decide)))
def okA (p0 p1 p2 p3 : Int32) : Prop := (1 ≤ p0 ∧ p0 ≤ 4) ∧ (1 ≤ p1 ∧ p1 ≤ 4) ∧ (1 ≤ p2 ∧ p2 ≤ 9) ∧ (1 ≤ p3 ∧ p3 ≤ 200)
theorem okA_of {p0 p1 p2 p3 : Int32} (h : ¬ ((p0 < 1 ∨ 4 < p0) ∨ (p1 < 1 ∨ 4 < p1) ∨ (p2 < 1 ∨ 9 < p2) ∨ (p3 < 1 ∨ 200 < p3))) : okA p0 p1 p2 p3 := ⟨out_in (fun q => h (Or.inl q)), out_in (fun q => h (Or.inr (Or.inl q))), out_in (fun q => h (Or.inr (Or.inr (Or.inl q)))), out_in (fun q => h (Or.inr (Or.inr (Or.inr q))))⟩
theorem okA_no {p0 p1 p2 p3 : Int32} (h : (p0 < 1 ∨ 4 < p0) ∨ (p1 < 1 ∨ 4 < p1) ∨ (p2 < 1 ∨ 9 < p2) ∨ (p3 < 1 ∨ 200 < p3)) : ¬ okA p0 p1 p2 p3 := fun q => h.elim (in_out q.1) (fun h => h.elim (in_out q.2.1) (fun h => h.elim (in_out q.2.2.1) (in_out q.2.2.2)))
/-- what alone answers -/
def alP (p0 p1 p2 p3 p4 r : Int32) : Prop := (okA p0 p1 p3 p4 ∧ (1 ≤ p2 ∧ p2 ≤ 30) → r = nI (al p0.toNatClampNeg p1.toNatClampNeg p2.toNatClampNeg p3.toNatClampNeg p4.toNatClampNeg).1) ∧ (¬ (okA p0 p1 p3 p4 ∧ (1 ≤ p2 ∧ p2 ≤ 30)) → r = -1)
theorem alP_eq {p0 p1 p2 p3 p4 r q : Int32} (h : alP p0 p1 p2 p3 p4 r) (h2 : alP p0 p1 p2 p3 p4 q) : r = q := by
  rcases Classical.em (okA p0 p1 p3 p4 ∧ (1 ≤ p2 ∧ p2 ≤ 30)) with c | c
  · rw [h.1 c, h2.1 c]
  · rw [h.2 c, h2.2 c]
theorem alP_y {d e z k n : Nat} (hd : d < 2 ^ 31) (he : e < 2 ^ 31) (hz : z < 2 ^ 31) (hk : k < 2 ^ 31) (hn : n < 2 ^ 31) (ok : okA (nI d) (nI e) (nI k) (nI n) ∧ (1 ≤ nI z ∧ nI z ≤ 30)) : alP (nI d) (nI e) (nI z) (nI k) (nI n) (nI (al d e z k n).1) := ⟨fun _ => by rw [nI_clamp hd, nI_clamp he, nI_clamp hz, nI_clamp hk, nI_clamp hn], fun c => absurd ok c⟩
/-- what full answers: of the class, of the reference -/
def fuC (p0 p1 p2 p3 r : Int32) : Prop := (okA p0 p1 p2 p3 → ∃ v : Nat, r = nI v ∧ 1 ≤ v ∧ v ≤ 30 ∧ (al p0.toNatClampNeg p1.toNatClampNeg v p2.toNatClampNeg p3.toNatClampNeg).1 = (al p0.toNatClampNeg p1.toNatClampNeg 30 p2.toNatClampNeg p3.toNatClampNeg).1 ∧ ∀ q, 1 ≤ q → q < v → ¬ (al p0.toNatClampNeg p1.toNatClampNeg q p2.toNatClampNeg p3.toNatClampNeg).1 = (al p0.toNatClampNeg p1.toNatClampNeg 30 p2.toNatClampNeg p3.toNatClampNeg).1) ∧ (¬ okA p0 p1 p2 p3 → r = -1)
def fuR (p0 p1 p2 p3 r : Int32) : Prop := (okA p0 p1 p2 p3 → ∃ v : Nat, r = nI v ∧ 1 ≤ v ∧ ¬ (al p0.toNatClampNeg p1.toNatClampNeg v p2.toNatClampNeg p3.toNatClampNeg).1 < (al p0.toNatClampNeg p1.toNatClampNeg 30 p2.toNatClampNeg p3.toNatClampNeg).1 ∧ ∀ q, 1 ≤ q → q < v → (al p0.toNatClampNeg p1.toNatClampNeg q p2.toNatClampNeg p3.toNatClampNeg).1 < (al p0.toNatClampNeg p1.toNatClampNeg 30 p2.toNatClampNeg p3.toNatClampNeg).1) ∧ (¬ okA p0 p1 p2 p3 → r = -1)
theorem fu_eq {p0 p1 p2 p3 r q : Int32} (h : fuC p0 p1 p2 p3 r) (h2 : fuR p0 p1 p2 p3 q) : r = q := by
  rcases Classical.em (okA p0 p1 p2 p3) with c | c
  · obtain ⟨v, rfl, v1, v2, v3, v4⟩ := h.1 c
    obtain ⟨w, rfl, w1, w3, w4⟩ := h2.1 c
    obtain ⟨d, d1, d2, rfl⟩ := rg (L := 1) (U := 4) rfl rfl (by decide) (by decide) c.1
    obtain ⟨e, e1, e2, rfl⟩ := rg (L := 1) (U := 4) rfl rfl (by decide) (by decide) c.2.1
    rw [nI_clamp (show d < 2 ^ 31 by omega), nI_clamp (show e < 2 ^ 31 by omega)] at v3 v4 w3 w4
    exact congrArg nI (full_eq (by omega) (by omega) (by omega) v1 v2 v3 v4 w1 w3 w4)
  · rw [h.2 c, h2.2 c]

theorem aU_lt {d z t : Nat} {a : AS} (h : aI d z t a) (ht : t ≤ 200) : a.2.2.2.2.2 t < 2 ^ 31 := by
  by_cases q : a.2.2.2.2.2 t = 0
  · rw [q]; decide
  · have h1 := (h.2.2.2.2.2.1 t (Nat.le_refl t) q).2
    have h2 := h.2.1
    have h3 := h.2.2.2.1
    omega
theorem okA_in {p0 p1 p2 p3 : Int32} (h : okA p0 p1 p2 p3) : (1 ≤ p0 ∧ p0 ≤ 4) ∧ (1 ≤ p1 ∧ p1 ≤ 4) ∧ (1 ≤ p2 ∧ p2 ≤ 9) ∧ (1 ≤ p3 ∧ p3 ≤ 200) := h

