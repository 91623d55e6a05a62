/-! the reference's words: here's answer, and what it says of the text -/
def tOK (T : Nat → Int32) : Prop := ∀ i : Nat, ¬ T i = -1
theorem he_lt {T : Nat → Int32} {n i : Nat} {y : Int32} (he : (if i < n then T i else (-1 : Int32)) = y) (q : ¬ y = -1) : i < n ∧ T i = y := by
  by_cases h : i < n
  · rw [if_pos h] at he
    exact ⟨h, he⟩
  · rw [if_neg h] at he
    exact absurd he.symm q
theorem he_b {T : Nat → Int32} {n i : Nat} {y : Int32} (he : (if i < n then T i else (-1 : Int32)) = y) (q : y = 32) : sB T n i = sB T n (i + 1) := by
  obtain ⟨h1, h2⟩ := he_lt he (by rw [q]; decide)
  exact sB_b h1 (h2.trans q)
theorem he_s {T : Nat → Int32} {n i : Nat} {y : Int32} (he : (if i < n then T i else (-1 : Int32)) = y) (q : ¬ y = 32) : sB T n i = i := by
  refine sB_s (fun h => q ?_)
  rw [if_pos h.1] at he
  exact he.symm.trans h.2
theorem he_m {T : Nat → Int32} {n i : Nat} {y : Int32} (hT : tOK T) (he : (if i < n then T i else (-1 : Int32)) = y) (q : y = -1) : ¬ i < n := fun h => by
  rw [if_pos h, q] at he
  exact hT i he
theorem pd_y {T : Nat → Int32} {n i j : Nat} (he : (if i < n then T i else (-1 : Int32)) = nI j) (h1 : 48 ≤ j) (h2 : j ≤ 57) : pD T n i ∧ T i = nI j := by
  obtain ⟨h3, h4⟩ := he_lt he (m1_ne (by omega))
  refine ⟨⟨h3, ?_, ?_⟩, h4⟩
  · rw [h4]; exact nI_le h1 (by omega)
  · rw [h4]; exact nI_le h2 (by decide)
theorem pd_n {T : Nat → Int32} {n i : Nat} {y : Int32} (he : (if i < n then T i else (-1 : Int32)) = y) (q : ¬ (48 ≤ y ∧ y ≤ 57)) : ¬ pD T n i := fun h => by
  rw [if_pos h.1] at he
  rw [← he] at q
  exact q h.2
theorem vN1 {a : Nat} (h : 48 ≤ a) : (0 : Int32) + nI a - 48 = nI (0 + a - 48) := by
  rw [show (0 : Int32) = nI 0 from rfl, show (48 : Int32) = nI 48 from rfl, nI_add, pk_sub (show 48 ≤ 0 + a by omega)]
theorem vN2 {a b : Nat} (h : 48 ≤ a) (h2 : 48 ≤ b) : (10 * ((0 : Int32) + nI a - 48) + nI b) - 48 = nI (10 * (0 + a - 48) + b - 48) := by
  rw [vN1 h, show (10 : Int32) = nI 10 from rfl, show (48 : Int32) = nI 48 from rfl, pk_mul, nI_add, pk_sub (by omega)]
/-- items, by here's answer -/
theorem iv_m {T : Nat → Int32} {n k f m i j : Nat} {y : Int32} (hj : j = sB T n i) (he : (if j < n then T j else (-1 : Int32)) = y) (h : itK k y = -1) : itR T n k (f + 1) m i = (-1, j) := by
  by_cases q : j < n
  · rw [if_pos q] at he
    exact itR_no hj (by rw [he]; exact h)
  · exact itR_end hj q
theorem iv_lt {T : Nat → Int32} {n k j q : Nat} {y : Int32} (he : (if j < n then T j else (-1 : Int32)) = y) (h : itK k y = nI q) (hq : q < 3) : j < n ∧ itK k (T j) = nI q := by
  have hy : ¬ y = -1 := fun e => by
    rw [e, itK_m] at h
    exact m1_ne (show q < 2 ^ 31 by omega) h.symm
  obtain ⟨h1, h2⟩ := he_lt he hy
  exact ⟨h1, by rw [h2]; exact h⟩
theorem kdN_h {h : Nat} (q : h < 3) : kdN (h + 1) = 1 := by
  rcases (show h = 0 ∨ h = 1 ∨ h = 2 by omega) with rfl | rfl | rfl <;> rfl
theorem kdN_c {h : Nat} (q : h < 3) : kdN (3 + (h + 1)) = 2 := by
  rcases (show h = 0 ∨ h = 1 ∨ h = 2 by omega) with rfl | rfl | rfl <;> rfl
