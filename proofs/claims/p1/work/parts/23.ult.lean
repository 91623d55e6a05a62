theorem aU_lt {d z t : Nat} {a : AS} (h : aI d z t a) (ht : t ≤ 200) : a.2.2.2.2.2 t < 2 ^ 31 := by
  by_cases q : a.2.2.2.2.2 t = 0
  · rw [q]; decide
  · have h1 := (h.2.2.2.2.2.1 t (Nat.le_refl t) q).2
    have h2 := h.2.1
    have h3 := h.2.2.2.1
    omega
theorem okA_in {p0 p1 p2 p3 : Int32} (h : okA p0 p1 p2 p3) : (1 ≤ p0 ∧ p0 ≤ 4) ∧ (1 ≤ p1 ∧ p1 ≤ 4) ∧ (1 ≤ p2 ∧ p2 ≤ 9) ∧ (1 ≤ p3 ∧ p3 ≤ 200) := h
