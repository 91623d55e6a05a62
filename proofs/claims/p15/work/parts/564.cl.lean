/-! how a clause ends -/
theorem cl_end {T : Nat → Int32} {n i cl j : Nat} {zf : Int32} {h ct h2 c2 : Nat} (e : hdR T n i zf h ct = (nI cl, h2, c2)) (hc : cl < 7) (hw : itR T n (kdN cl) 4 0 (sB T n i + 1) = (-1, j)) (hs : ¬ (j < n ∧ ¬ T j = 59)) : (-1 : Int32) = (clF T n i zf h ct).1 ∧ (h2, c2) = (clF T n i zf h ct).2.2 ∧ j = (clF T n i zf h ct).2.1 := by
  rw [clF_at e hc hw, if_neg hs]
  exact ⟨rfl, rfl, rfl⟩
theorem cl_bad {T : Nat → Int32} {n i cl j : Nat} {zf : Int32} {h ct h2 c2 : Nat} (e : hdR T n i zf h ct = (nI cl, h2, c2)) (hc : cl < 7) (hw : itR T n (kdN cl) 4 0 (sB T n i + 1) = (-1, j)) (h1 : j < n) (h3 : ¬ T j = 59) : nI j = (clF T n i zf h ct).1 ∧ (h2, c2) = (clF T n i zf h ct).2.2 := by
  rw [clF_at e hc hw, if_pos ⟨h1, h3⟩]
  exact ⟨rfl, rfl⟩
theorem cl_num {T : Nat → Int32} {n i cl : Nat} {zf w : Int32} {h ct h2 c2 : Nat} (e : hdR T n i zf h ct = (nI cl, h2, c2)) (hc : cl < 7) (hw : (itR T n (kdN cl) 4 0 (sB T n i + 1)).1 = w) (hn : ¬ w = -1) : w = (clF T n i zf h ct).1 ∧ (h2, c2) = (clF T n i zf h ct).2.2 := by
  obtain ⟨h1, h3⟩ := clF_w e hc hw hn
  exact ⟨h1.symm, h3.symm⟩
