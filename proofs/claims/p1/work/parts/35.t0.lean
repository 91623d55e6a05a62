theorem lt9 : ∀ j : Nat, j < 9 → (j = 0 ∨ j = 1 ∨ j = 2 ∨ j = 3 ∨ j = 4 ∨ j = 5 ∨ j = 6 ∨ j = 7 ∨ j = 8) := by decide +kernel
theorem lt21 : ∀ j : Nat, j < 21 → (j = 0 ∨ j = 1 ∨ j = 2 ∨ j = 3 ∨ j = 4 ∨ j = 5 ∨ j = 6 ∨ j = 7 ∨ j = 8 ∨ j = 9 ∨ j = 10 ∨ j = 11 ∨ j = 12 ∨ j = 13 ∨ j = 14 ∨ j = 15 ∨ j = 16 ∨ j = 17 ∨ j = 18 ∨ j = 19 ∨ j = 20) := by decide +kernel
theorem sw_all (k : Nat) : (k = 0 ∨ k = 1 ∨ k = 2 ∨ k = 3 ∨ k = 4 ∨ k = 5 ∨ k = 6) ∨ (k = 7 ∨ k = 8 ∨ k = 9 ∨ k = 10 ∨ k = 11 ∨ k = 12 ∨ k = 13) ∨ (k = 14 ∨ k = 15 ∨ k = 16 ∨ k = 17 ∨ k = 18 ∨ k = 19 ∨ k = 20) ∨ (k = 21 ∨ k = 22 ∨ k = 23 ∨ k = 24 ∨ k = 25 ∨ k = 26 ∨ k = 27) ∨ (k = 28 ∨ k = 29 ∨ k = 30 ∨ k = 31 ∨ k = 32 ∨ k = 33 ∨ k = 34) ∨ (k = 35 ∨ k = 36 ∨ k = 37 ∨ k = 38 ∨ k = 39 ∨ k = 40 ∨ k = 41) ∨ 42 ≤ k := by
  rcases Nat.lt_or_ge k 7 with h0 | h0
  · exact Or.inl (by omega)
  rcases Nat.lt_or_ge k 14 with h1 | h1
  · exact Or.inr (Or.inl (by omega))
  rcases Nat.lt_or_ge k 21 with h2 | h2
  · exact Or.inr (Or.inr (Or.inl (by omega)))
  rcases Nat.lt_or_ge k 28 with h3 | h3
  · exact Or.inr (Or.inr (Or.inr (Or.inl (by omega))))
  rcases Nat.lt_or_ge k 35 with h4 | h4
  · exact Or.inr (Or.inr (Or.inr (Or.inr (Or.inl (by omega)))))
  rcases Nat.lt_or_ge k 42 with h5 | h5
  · exact Or.inr (Or.inr (Or.inr (Or.inr (Or.inr (Or.inl (by omega))))))
  exact Or.inr (Or.inr (Or.inr (Or.inr (Or.inr (Or.inr (h5))))))
