/-! answers of both sides that are told in two ways -/
theorem st_eq (w : Int32) : (if w < 0 ∨ 3 < w then (-1 : Int32) else 0) = (if 0 ≤ w ∧ w ≤ 3 then 0 else (-1)) := by
  by_cases h : 0 ≤ w ∧ w ≤ 3
  · rw [if_pos h, if_neg (in_out h)]
  · rw [if_neg h]
    exact if_pos (Classical.byContradiction (fun q => h (out_in q)))
theorem end_eq (w : Int32) : (if w < 0 ∨ 0 < w then (0 : Int32) else 1) = (if 0 ≤ w ∧ w ≤ 0 then 1 else 0) := by
  by_cases h : 0 ≤ w ∧ w ≤ 0
  · rw [if_pos h, if_neg (in_out h)]
  · rw [if_neg h]
    exact if_pos (Classical.byContradiction (fun q => h (out_in q)))
theorem law_eq (p0 p1 p2 : Int32) : (if (p0 < 1 ∨ 4 < p0) ∨ (p1 < 1 ∨ 4 < p1) ∨ (p2 < 1 ∨ 9 < p2) then (-1 : Int32) else ((((((2 * p0) + p2) - 1) / p2) + p1) - 1)) = (if (1 ≤ p0 ∧ p0 ≤ 4) ∧ (1 ≤ p1 ∧ p1 ≤ 4) ∧ (1 ≤ p2 ∧ p2 ≤ 9) then ((((((2 * p0) + p2) - 1) / p2) + p1) - 1) else (-1)) := by
  by_cases h : (1 ≤ p0 ∧ p0 ≤ 4) ∧ (1 ≤ p1 ∧ p1 ≤ 4) ∧ (1 ≤ p2 ∧ p2 ≤ 9)
  · rw [if_pos h, if_neg (fun q => q.elim (in_out h.1) (fun q => q.elim (in_out h.2.1) (in_out h.2.2)))]
  · rw [if_neg h]
    exact if_pos (Classical.byContradiction (fun q => h ⟨out_in (fun r => q (Or.inl r)), out_in (fun r => q (Or.inr (Or.inl r))), out_in (fun r => q (Or.inr (Or.inr r)))⟩))
