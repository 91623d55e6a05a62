/-! a link alone, as numbers: sent, gone, known, in the buffer, cells and updates by the tick in which they come -/
abbrev AS : Type := Nat × Nat × Nat × Nat × (Nat → Bool) × (Nat → Nat)
def aB (t : Nat) (a : AS) : Nat := a.2.2.2.1 + (if a.2.2.2.2.1 t = true then 1 else 0)
def aK (t : Nat) (a : AS) : Nat := if a.2.2.2.2.2 t = 0 then a.2.2.1 else a.2.2.2.2.2 t
def aG (k t : Nat) (a : AS) : Nat := if t % k = 0 ∧ 0 < aB t a then a.2.1 + 1 else a.2.1
def al_s (d e z k t : Nat) (a : AS) : AS :=
  (if a.1 - aK t a < z then a.1 + 1 else a.1, aG k t a, aK t a, if t % k = 0 ∧ 0 < aB t a then aB t a - 1 else aB t a,
   if a.1 - aK t a < z then (fun j => if j = t + d then true else a.2.2.2.2.1 j) else a.2.2.2.2.1,
   if (t % k = 0 ∧ 0 < aB t a) ∧ aG k t a % e = 0 then (fun j => if j = t + d then aG k t a else a.2.2.2.2.2 j) else a.2.2.2.2.2)
def al (d e z k : Nat) : Nat → AS
  | 0 => (0, 0, 0, 0, fun _ => false, fun _ => 0)
  | t + 1 => al_s d e z k t (al d e z k t)
/-- cells that come in the n ticks from t on -/
def cs (C : Nat → Bool) (t : Nat) : Nat → Nat
  | 0 => 0
  | n + 1 => cs C t n + (if C (t + n) = true then 1 else 0)
theorem cs_shift (C : Nat → Bool) (t : Nat) : ∀ n, cs C t (n + 1) = (if C t = true then 1 else 0) + cs C (t + 1) n
  | 0 => by show 0 + (if C (t + 0) = true then 1 else 0) = (if C t = true then 1 else 0) + 0; rw [Nat.add_zero, Nat.zero_add, Nat.add_zero]
  | n + 1 => by
    have h := cs_shift C t n
    show cs C t (n + 1) + (if C (t + (n + 1)) = true then 1 else 0) = (if C t = true then 1 else 0) + (cs C (t + 1) n + (if C (t + 1 + n) = true then 1 else 0))
    rw [h, show t + (n + 1) = t + 1 + n by omega]
    omega
theorem cs_cong {C C' : Nat → Bool} {t : Nat} : ∀ {n : Nat}, (∀ i, i < n → C (t + i) = C' (t + i)) → cs C t n = cs C' t n
  | 0, _ => rfl
  | n + 1, h => by
    show cs C t n + (if C (t + n) = true then 1 else 0) = cs C' t n + (if C' (t + n) = true then 1 else 0)
    rw [cs_cong (fun i hi => h i (by omega)), h n (by omega)]
theorem cs_put {C : Nat → Bool} {t d : Nat} (hd : 0 < d) (hz : C (t + d) = false) : cs (fun j => if j = t + d then true else C j) (t + 1) d = cs C (t + 1) d + 1 := by
  obtain ⟨n, rfl⟩ : ∃ n, d = n + 1 := ⟨d - 1, by omega⟩
  show cs _ (t + 1) n + (if (if t + 1 + n = t + (n + 1) then true else C (t + 1 + n)) = true then 1 else 0) = cs C (t + 1) n + (if C (t + 1 + n) = true then 1 else 0) + 1
  have e1 : t + 1 + n = t + (n + 1) := by omega
  rw [if_pos e1, e1, hz, cs_cong (C' := C) (fun i hi => by rw [if_neg (show ¬ t + 1 + i = t + (n + 1) by omega)])]
  simp
/-- what holds of it at tick t -/
def aI (d z t : Nat) (a : AS) : Prop :=
  a.2.2.1 ≤ a.2.1 ∧ a.2.1 + a.2.2.2.1 + cs a.2.2.2.2.1 t d = a.1 ∧ a.1 ≤ a.2.2.1 + z ∧ a.1 ≤ t ∧ (∀ j, t + d ≤ j → a.2.2.2.2.1 j = false ∧ a.2.2.2.2.2 j = 0) ∧
  (∀ j, t ≤ j → ¬ a.2.2.2.2.2 j = 0 → a.2.2.1 ≤ a.2.2.2.2.2 j ∧ a.2.2.2.2.2 j ≤ a.2.1) ∧ (∀ i j, t ≤ i → i < j → ¬ a.2.2.2.2.2 i = 0 → ¬ a.2.2.2.2.2 j = 0 → a.2.2.2.2.2 i ≤ a.2.2.2.2.2 j)
theorem aI_0 (d z : Nat) : aI d z 0 (0, 0, 0, 0, fun _ => false, fun _ => 0) := by
  refine ⟨Nat.le_refl _, ?_, Nat.zero_le _, Nat.le_refl _, fun _ _ => ⟨rfl, rfl⟩, fun j _ h => absurd rfl h, fun i j _ _ h => absurd rfl h⟩
  show 0 + 0 + cs (fun _ => false) 0 d = 0
  have h : ∀ n, cs (fun _ => false) 0 n = 0 := by
    intro n
    induction n with
    | zero => rfl
    | succ n ih => show cs (fun _ => false) 0 n + (if false = true then 1 else 0) = 0; rw [ih]; rfl
  rw [h]
/-- what is known stays between what was known and what is gone -/
theorem aK_in {d z t : Nat} {a : AS} (h : aI d z t a) : a.2.2.1 ≤ aK t a ∧ aK t a ≤ a.2.1 := by
  unfold aK
  by_cases hu : a.2.2.2.2.2 t = 0
  · rw [if_pos hu]; exact ⟨Nat.le_refl _, h.1⟩
  · rw [if_neg hu]; exact h.2.2.2.2.2.1 t (Nat.le_refl t) hu
theorem aG_in (k t : Nat) (a : AS) : a.2.1 ≤ aG k t a ∧ aG k t a ≤ a.2.1 + 1 := by
  unfold aG
  split <;> omega
theorem aB_in {d z t : Nat} {a : AS} (hd : 0 < d) (h : aI d z t a) : a.2.1 + aB t a + cs a.2.2.2.2.1 (t + 1) (d - 1) = a.1 := by
  have h1 := h.2.1
  obtain ⟨n, rfl⟩ : ∃ n, d = n + 1 := ⟨d - 1, by omega⟩
  rw [cs_shift] at h1
  unfold aB
  rw [Nat.add_sub_cancel]
  omega
theorem cs_last {C : Nat → Bool} {t d : Nat} (hd : 0 < d) (hz : C (t + d) = false) : cs C (t + 1) d = cs C (t + 1) (d - 1) := by
  obtain ⟨n, rfl⟩ : ∃ n, d = n + 1 := ⟨d - 1, by omega⟩
  show cs C (t + 1) n + (if C (t + 1 + n) = true then 1 else 0) = cs C (t + 1) n
  rw [show t + 1 + n = t + (n + 1) by omega, hz]
  simp
theorem aI_s {d e z k t : Nat} {a : AS} (hd : 0 < d) (h : aI d z t a) : aI d z (t + 1) (al_s d e z k t a) := by
  have hK := aK_in h
  have hG := aG_in k t a
  have hB := aB_in hd h
  obtain ⟨h1, h2, h3, h4, h5, h6, h7⟩ := h
  have hcz := (h5 (t + d) (Nat.le_refl _)).1
  have huz := (h5 (t + d) (Nat.le_refl _)).2
  have hcl := cs_last hd hcz
  refine ⟨?_, ?_, ?_, ?_, ?_, ?_, ?_⟩
  · show aK t a ≤ aG k t a
    omega
  · show aG k t a + (if t % k = 0 ∧ 0 < aB t a then aB t a - 1 else aB t a) + cs (if a.1 - aK t a < z then (fun j => if j = t + d then true else a.2.2.2.2.1 j) else a.2.2.2.2.1) (t + 1) d = if a.1 - aK t a < z then a.1 + 1 else a.1
    have e1 : aG k t a + (if t % k = 0 ∧ 0 < aB t a then aB t a - 1 else aB t a) = a.2.1 + aB t a := by
      unfold aG
      by_cases ht : t % k = 0 ∧ 0 < aB t a
      · rw [if_pos ht, if_pos ht]; have := ht.2; omega
      · rw [if_neg ht, if_neg ht]
    rw [e1]
    by_cases hs : a.1 - aK t a < z
    · rw [if_pos hs, if_pos hs, cs_put hd hcz, hcl]; omega
    · rw [if_neg hs, if_neg hs, hcl]; omega
  · show (if a.1 - aK t a < z then a.1 + 1 else a.1) ≤ aK t a + z
    split <;> omega
  · show (if a.1 - aK t a < z then a.1 + 1 else a.1) ≤ t + 1
    split <;> omega
  · intro j hj
    refine ⟨?_, ?_⟩
    · show (if a.1 - aK t a < z then (fun j => if j = t + d then true else a.2.2.2.2.1 j) else a.2.2.2.2.1) j = false
      split
      · show (if j = t + d then true else a.2.2.2.2.1 j) = false
        rw [if_neg (show ¬ j = t + d by omega)]; exact (h5 j (by omega)).1
      · exact (h5 j (by omega)).1
    · show (if (t % k = 0 ∧ 0 < aB t a) ∧ aG k t a % e = 0 then (fun j => if j = t + d then aG k t a else a.2.2.2.2.2 j) else a.2.2.2.2.2) j = 0
      split
      · show (if j = t + d then aG k t a else a.2.2.2.2.2 j) = 0
        rw [if_neg (show ¬ j = t + d by omega)]; exact (h5 j (by omega)).2
      · exact (h5 j (by omega)).2
  · intro j hj
    show ¬ (if (t % k = 0 ∧ 0 < aB t a) ∧ aG k t a % e = 0 then (fun j => if j = t + d then aG k t a else a.2.2.2.2.2 j) else a.2.2.2.2.2) j = 0 → aK t a ≤ (if (t % k = 0 ∧ 0 < aB t a) ∧ aG k t a % e = 0 then (fun j => if j = t + d then aG k t a else a.2.2.2.2.2 j) else a.2.2.2.2.2) j ∧ (if (t % k = 0 ∧ 0 < aB t a) ∧ aG k t a % e = 0 then (fun j => if j = t + d then aG k t a else a.2.2.2.2.2 j) else a.2.2.2.2.2) j ≤ aG k t a
    have hold : ¬ a.2.2.2.2.2 j = 0 → aK t a ≤ a.2.2.2.2.2 j ∧ a.2.2.2.2.2 j ≤ aG k t a := by
      intro hn
      have q := h6 j (by omega) hn
      refine ⟨?_, by omega⟩
      unfold aK
      by_cases hu : a.2.2.2.2.2 t = 0
      · rw [if_pos hu]; exact q.1
      · rw [if_neg hu]; exact h7 t j (Nat.le_refl t) (by omega) hu hn
    split
    · show ¬ (if j = t + d then aG k t a else a.2.2.2.2.2 j) = 0 → aK t a ≤ (if j = t + d then aG k t a else a.2.2.2.2.2 j) ∧ (if j = t + d then aG k t a else a.2.2.2.2.2 j) ≤ aG k t a
      by_cases hj2 : j = t + d
      · rw [if_pos hj2]; intro _; omega
      · rw [if_neg hj2]; exact hold
    · exact hold
  · intro i j hi hij
    show ¬ (if (t % k = 0 ∧ 0 < aB t a) ∧ aG k t a % e = 0 then (fun j => if j = t + d then aG k t a else a.2.2.2.2.2 j) else a.2.2.2.2.2) i = 0 → ¬ (if (t % k = 0 ∧ 0 < aB t a) ∧ aG k t a % e = 0 then (fun j => if j = t + d then aG k t a else a.2.2.2.2.2 j) else a.2.2.2.2.2) j = 0 → (if (t % k = 0 ∧ 0 < aB t a) ∧ aG k t a % e = 0 then (fun j => if j = t + d then aG k t a else a.2.2.2.2.2 j) else a.2.2.2.2.2) i ≤ (if (t % k = 0 ∧ 0 < aB t a) ∧ aG k t a % e = 0 then (fun j => if j = t + d then aG k t a else a.2.2.2.2.2 j) else a.2.2.2.2.2) j
    split
    · show ¬ (if i = t + d then aG k t a else a.2.2.2.2.2 i) = 0 → ¬ (if j = t + d then aG k t a else a.2.2.2.2.2 j) = 0 → (if i = t + d then aG k t a else a.2.2.2.2.2 i) ≤ (if j = t + d then aG k t a else a.2.2.2.2.2 j)
      by_cases hi2 : i = t + d
      · have hj0 := (h5 j (by omega)).2
        rw [if_pos hi2, if_neg (show ¬ j = t + d by omega)]
        intro _ hn
        exact absurd hj0 hn
      · rw [if_neg hi2]
        by_cases hj2 : j = t + d
        · rw [if_pos hj2]
          intro hn _
          have q := h6 i (by omega) hn
          omega
        · rw [if_neg hj2]
          intro hn hm
          exact h7 i j (by omega) hij hn hm
    · intro hn hm
      exact h7 i j (by omega) hij hn hm
theorem aI_al (d e z k : Nat) (hd : 0 < d) : ∀ t, aI d z t (al d e z k t)
  | 0 => aI_0 d z
  | t + 1 => aI_s hd (aI_al d e z k hd t)
