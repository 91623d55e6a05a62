/-! the clauses, the whole text: which kind a clause is, which item a sign is, its bounds; m: which items were told (bit q: item q) -/
def kdN (cl : Nat) : Nat := if cl = 0 then 0 else if cl ≤ 3 then 1 else 2
theorem kdN_lt (cl : Nat) : kdN cl < 3 := by
  unfold kdN
  split
  · omega
  · split <;> omega
def itK (k : Nat) (c : Int32) : Int32 := if k = 0 then it0 c else if k = 1 then it1 c else it2 c
def loK (k q : Nat) : Int32 := if k = 0 then (if q = 0 then 1 else 0) else if k = 1 then 1 else 0
def hiK (k q : Nat) : Int32 := if k = 0 then (if q = 0 then 4 else if q = 1 then 20 else 9) else if k = 1 then (if q = 1 then 30 else 4) else (if q = 1 then 20 else 9)
theorem ite4 {P Q R : Prop} [Decidable P] [Decidable Q] [Decidable R] : (if P then (0 : Int32) else if Q then 1 else if R then 2 else -1) = -1 ∨ (if P then (0 : Int32) else if Q then 1 else if R then 2 else -1) = 0 ∨ (if P then (0 : Int32) else if Q then 1 else if R then 2 else -1) = 1 ∨ (if P then (0 : Int32) else if Q then 1 else if R then 2 else -1) = 2 := by
  by_cases h1 : P
  · rw [if_pos h1]; exact Or.inr (Or.inl rfl)
  · rw [if_neg h1]
    by_cases h2 : Q
    · rw [if_pos h2]; exact Or.inr (Or.inr (Or.inl rfl))
    · rw [if_neg h2]
      by_cases h3 : R
      · rw [if_pos h3]; exact Or.inr (Or.inr (Or.inr rfl))
      · rw [if_neg h3]; exact Or.inl rfl
theorem itK_c (k : Nat) (c : Int32) : itK k c = -1 ∨ itK k c = 0 ∨ itK k c = 1 ∨ itK k c = 2 := by
  unfold itK
  split
  · exact ite4
  · split
    · exact ite4
    · exact ite4
theorem itK_59 (k : Nat) : itK k 59 = -1 := by
  unfold itK
  split
  · decide
  · split <;> decide
theorem itK_m (k : Nat) : itK k (-1) = -1 := by
  unfold itK
  split
  · decide
  · split <;> decide
/-- the items of a clause of kind k, from i on: (wrong or -1, where it stands) -/
def itR (T : Nat → Int32) (n k : Nat) : Nat → Nat → Nat → Int32 × Nat
  | 0, _, i => (-1, sB T n i)
  | f + 1, m, i =>
    if sB T n i < n ∧ ¬ itK k (T (sB T n i)) = -1 ∧ m / 2 ^ (itK k (T (sB T n i))).toNatClampNeg % 2 = 0 then
      (if nmF T n (sB T n i + 1) (loK k (itK k (T (sB T n i))).toNatClampNeg) (hiK k (itK k (T (sB T n i))).toNatClampNeg) = -1 then itR T n k f (m + 2 ^ (itK k (T (sB T n i))).toNatClampNeg) (nmE T n (sB T n i + 1))
       else (nmF T n (sB T n i + 1) (loK k (itK k (T (sB T n i))).toNatClampNeg) (hiK k (itK k (T (sB T n i))).toNatClampNeg), sB T n i))
    else (-1, sB T n i)
theorem itR_end {T : Nat → Int32} {n k f m i j : Nat} (hj : j = sB T n i) (h : ¬ j < n) : itR T n k (f + 1) m i = (-1, j) := by
  subst hj
  exact if_neg (fun q => h q.1)
theorem itR_no {T : Nat → Int32} {n k f m i j : Nat} (hj : j = sB T n i) (h : itK k (T j) = -1) : itR T n k (f + 1) m i = (-1, j) := by
  subst hj
  exact if_neg (fun q => q.2.1 h)
theorem itR_again {T : Nat → Int32} {n k f m i j q : Nat} (hj : j = sB T n i) (h : itK k (T j) = nI q) (hq : q < 3) (hm : ¬ m / 2 ^ q % 2 = 0) : itR T n k (f + 1) m i = (-1, j) := by
  subst hj
  refine if_neg (fun x => hm ?_)
  have h2 := x.2.2
  rw [h, nI_clamp (show q < 2 ^ 31 by omega)] at h2
  exact h2
theorem itR_w {T : Nat → Int32} {n k f m i j q : Nat} (hj : j = sB T n i) (h1 : j < n) (h : itK k (T j) = nI q) (hq : q < 3) (hm : m / 2 ^ q % 2 = 0) (hw : ¬ nmF T n (j + 1) (loK k q) (hiK k q) = -1) : (itR T n k (f + 1) m i).1 = nmF T n (j + 1) (loK k q) (hiK k q) := by
  subst hj
  have e : (itK k (T (sB T n i))).toNatClampNeg = q := by rw [h, nI_clamp (show q < 2 ^ 31 by omega)]
  have hn : ¬ itK k (T (sB T n i)) = -1 := by rw [h]; exact m1_ne (by omega)
  unfold itR
  rw [e, if_pos ⟨h1, hn, hm⟩, if_neg hw]
theorem itR_go {T : Nat → Int32} {n k f m i j q : Nat} (hj : j = sB T n i) (h1 : j < n) (h : itK k (T j) = nI q) (hq : q < 3) (hm : m / 2 ^ q % 2 = 0) (hw : nmF T n (j + 1) (loK k q) (hiK k q) = -1) : itR T n k (f + 1) m i = itR T n k f (m + 2 ^ q) (nmE T n (j + 1)) := by
  subst hj
  have e : (itK k (T (sB T n i))).toNatClampNeg = q := by rw [h, nI_clamp (show q < 2 ^ 31 by omega)]
  have hn : ¬ itK k (T (sB T n i)) = -1 := by rw [h]; exact m1_ne (by omega)
  show (if sB T n i < n ∧ ¬ itK k (T (sB T n i)) = -1 ∧ m / 2 ^ (itK k (T (sB T n i))).toNatClampNeg % 2 = 0 then _ else _) = _
  rw [e, if_pos ⟨h1, hn, hm⟩, if_pos hw]
/-- a clause from i on: (wrong or -1, where it stands, HOPS and CIRCUITS told behind it) -/
def clF (T : Nat → Int32) (n i : Nat) (zf : Int32) (h ct : Nat) : Int32 × Nat × Nat × Nat :=
  if (hdR T n i zf h ct).1 = -1 then (nI (sB T n i), sB T n i, (hdR T n i zf h ct).2)
  else
    if (itR T n (kdN (hdR T n i zf h ct).1.toNatClampNeg) 4 0 (sB T n i + 1)).1 = -1 then
      (if (itR T n (kdN (hdR T n i zf h ct).1.toNatClampNeg) 4 0 (sB T n i + 1)).2 < n ∧ ¬ T (itR T n (kdN (hdR T n i zf h ct).1.toNatClampNeg) 4 0 (sB T n i + 1)).2 = 59 then (nI (itR T n (kdN (hdR T n i zf h ct).1.toNatClampNeg) 4 0 (sB T n i + 1)).2, (itR T n (kdN (hdR T n i zf h ct).1.toNatClampNeg) 4 0 (sB T n i + 1)).2, (hdR T n i zf h ct).2)
       else (-1, (itR T n (kdN (hdR T n i zf h ct).1.toNatClampNeg) 4 0 (sB T n i + 1)).2, (hdR T n i zf h ct).2))
    else ((itR T n (kdN (hdR T n i zf h ct).1.toNatClampNeg) 4 0 (sB T n i + 1)).1, (itR T n (kdN (hdR T n i zf h ct).1.toNatClampNeg) 4 0 (sB T n i + 1)).2, (hdR T n i zf h ct).2)
theorem clF_head {T : Nat → Int32} {n i : Nat} {zf : Int32} {h ct h2 c2 : Nat} (e : hdR T n i zf h ct = (-1, h2, c2)) : clF T n i zf h ct = (nI (sB T n i), sB T n i, h2, c2) := by
  unfold clF
  rw [e]
  exact if_pos rfl
/-- the clause's items went wrong, or stand at j -/
theorem clF_w {T : Nat → Int32} {n i cl : Nat} {zf w : Int32} {h ct h2 c2 : Nat} (e : hdR T n i zf h ct = (nI cl, h2, c2)) (hc : cl < 7) (hw : (itR T n (kdN cl) 4 0 (sB T n i + 1)).1 = w) (hn : ¬ w = -1) : (clF T n i zf h ct).1 = w ∧ (clF T n i zf h ct).2.2 = (h2, c2) := by
  unfold clF
  rw [e]
  show (if nI cl = -1 then _ else _ : Int32 × Nat × Nat × Nat).1 = w ∧ (if nI cl = -1 then _ else _ : Int32 × Nat × Nat × Nat).2.2 = (h2, c2)
  rw [if_neg (m1_ne (show cl < 2 ^ 31 by omega)), nI_clamp (show cl < 2 ^ 31 by omega), if_neg (show ¬ (itR T n (kdN cl) 4 0 (sB T n i + 1)).1 = -1 by rw [hw]; exact hn)]
  exact ⟨hw, rfl⟩
theorem clF_at {T : Nat → Int32} {n i cl j : Nat} {zf : Int32} {h ct h2 c2 : Nat} (e : hdR T n i zf h ct = (nI cl, h2, c2)) (hc : cl < 7) (hw : itR T n (kdN cl) 4 0 (sB T n i + 1) = (-1, j)) : clF T n i zf h ct = (if j < n ∧ ¬ T j = 59 then nI j else -1, j, h2, c2) := by
  unfold clF
  rw [e]
  show (if nI cl = -1 then _ else _ : Int32 × Nat × Nat × Nat) = _
  rw [if_neg (m1_ne (show cl < 2 ^ 31 by omega)), nI_clamp (show cl < 2 ^ 31 by omega), hw, if_pos rfl]
  by_cases q : j < n ∧ ¬ T j = 59
  · rw [if_pos q, if_pos q]
  · rw [if_neg q, if_neg q]
/-- the whole text: (wrong or -1, CIRCUITS told) -/
def rdF (T : Nat → Int32) (n : Nat) : Nat → Int32 → Nat → Nat → Nat → Int32 × Nat
  | 0, _, _, _, ct => (0, ct)
  | f + 1, zf, i, h, ct =>
    if (clF T n i zf h ct).1 = -1 then
      (if (clF T n i zf h ct).2.1 < n then rdF T n f 0 ((clF T n i zf h ct).2.1 + 1) (clF T n i zf h ct).2.2.1 (clF T n i zf h ct).2.2.2 else (-1, (clF T n i zf h ct).2.2.2))
    else ((clF T n i zf h ct).1, (clF T n i zf h ct).2.2.2)
theorem rdF_w {T : Nat → Int32} {n f i h ct h2 c2 : Nat} {zf w : Int32} (e1 : w = (clF T n i zf h ct).1) (e2 : (h2, c2) = (clF T n i zf h ct).2.2) (hn : ¬ w = -1) : rdF T n (f + 1) zf i h ct = (w, c2) := by
  show (if (clF T n i zf h ct).1 = -1 then _ else _) = _
  rw [← e1, if_neg hn, ← e2]
theorem rdF_end {T : Nat → Int32} {n f i h ct h2 c2 j : Nat} {zf : Int32} (e1 : (-1 : Int32) = (clF T n i zf h ct).1) (e2 : (h2, c2) = (clF T n i zf h ct).2.2) (e3 : j = (clF T n i zf h ct).2.1) (hj : ¬ j < n) : rdF T n (f + 1) zf i h ct = (-1, c2) := by
  show (if (clF T n i zf h ct).1 = -1 then _ else _) = _
  rw [← e1, if_pos rfl, ← e3, if_neg hj, ← e2]
theorem rdF_go {T : Nat → Int32} {n f i h ct h2 c2 j : Nat} {zf : Int32} (e1 : (-1 : Int32) = (clF T n i zf h ct).1) (e2 : (h2, c2) = (clF T n i zf h ct).2.2) (e3 : j = (clF T n i zf h ct).2.1) (hj : j < n) : rdF T n (f + 1) zf i h ct = rdF T n f 0 (j + 1) h2 c2 := by
  show (if (clF T n i zf h ct).1 = -1 then _ else _) = _
  rw [← e1, if_pos rfl, ← e3, if_pos hj, ← e2]
/-- the verdict of a TAPE, and its CIRCUITS -/
def rdV (T : Nat → Int32) (n : Nat) : Int32 × Nat := rdF T n (n + 1) 1 0 0 0
theorem clO_7 {c zf : Int32} {h ct : Nat} (hh : h ≤ 3) (hc : ct ≤ 3) : ok7 (clO c zf h ct).1 := by
  unfold clO
  split
  · exact Or.inr ⟨0, by omega, rfl⟩
  · split
    · rename_i q1 q2
      exact Or.inr ⟨h + 1, by omega, rfl⟩
    · split
      · rename_i q1 q2 q3
        exact Or.inr ⟨3 + (ct + 1), by omega, rfl⟩
      · exact Or.inl rfl
theorem hdR_7 {T : Nat → Int32} {n i : Nat} {zf : Int32} {h ct : Nat} (hh : h ≤ 3) (hc : ct ≤ 3) : ok7 (hdR T n i zf h ct).1 := by
  unfold hdR
  split
  · exact clO_7 hh hc
  · exact Or.inl rfl
theorem nmE_gt {T : Nat → Int32} {n i : Nat} (h : i ≤ n) : i ≤ nmE T n i ∧ nmE T n i ≤ n := by
  have h1 := sB_ge (T := T) h
  have h2 := sB_le (T := T) h
  unfold nmE
  split
  · rename_i q
    have q0 := q.1
    split
    · rename_i q2
      have q3 := q2.1
      exact ⟨by omega, by omega⟩
    · exact ⟨by omega, by omega⟩
  · exact ⟨h1, h2⟩
theorem vOK_rng {f : Nat → Int32} {k L U : Nat} {v lo hi : Int32} (h : vOK f) (hL : lo = nI L) (hU : hi = nI U) (bL : L < 2 ^ 31) (bU : U < 2 ^ 31) (hq : ¬ (v < lo ∨ hi < v)) (hk : U ≤ hiv k) : vOK (upd f k v) := by
  obtain ⟨j, h1, h2, rfl⟩ := rgo hL hU bL bU hq
  exact vOK_upd h (Nat.le_trans h2 hk)
