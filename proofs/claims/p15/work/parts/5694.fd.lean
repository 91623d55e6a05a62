/-! feed, end, net of a TAPE (its length, its signs), as both sides do it -/
/-- one byte fed -/
def pb (p : Nat × (Nat → Int32)) (v : Int32) : Nat × (Nat → Int32) := if ¬ v = 0 ∧ p.1 < 160 then (p.1 + 1, upd p.2 p.1 v) else p
def pbs (f : Nat → Int32) (p : Nat × (Nat → Int32)) : Nat → Nat × (Nat → Int32)
  | 0 => p
  | k + 1 => pb (pbs f p k) (f k)
/-- the j-th byte of a word -/
def bw (w : Int32) (j : Nat) : Int32 := (w.toUInt32 >>> ((nI (24 - 8 * j)).toUInt32 &&& Int32.toUInt32 31)).toInt32 &&& 255
theorem pb_0 {f : Nat → Int32} {p : Nat × (Nat → Int32)} {k a : Nat} {T : Nat → Int32} (h : (a, T) = pbs f p k) (q : f k = 0) : (a, T) = pbs f p (k + 1) := by
  show _ = pb (pbs f p k) (f k)
  rw [← h, q]
  exact (if_neg (fun x => x.1 rfl)).symm
theorem pb_f {f : Nat → Int32} {p : Nat × (Nat → Int32)} {k a : Nat} {T : Nat → Int32} (h : (a, T) = pbs f p k) (q : 160 ≤ a) : (a, T) = pbs f p (k + 1) := by
  show _ = pb (pbs f p k) (f k)
  rw [← h]
  exact (if_neg (fun x => absurd x.2 (Nat.not_lt.mpr q))).symm
theorem pb_1 {f : Nat → Int32} {p : Nat × (Nat → Int32)} {k a : Nat} {T : Nat → Int32} (h : (a, T) = pbs f p k) (q : ¬ f k = 0) (hl : a < 160) : (a + 1, upd T a (f k)) = pbs f p (k + 1) := by
  show _ = pb (pbs f p k) (f k)
  rw [← h]
  exact (if_pos ⟨q, hl⟩).symm
theorem pbs_len (f : Nat → Int32) (p : Nat × (Nat → Int32)) : ∀ k : Nat, p.1 + fct f k ≤ 160 → (pbs f p k).1 = p.1 + fct f k
  | 0, _ => rfl
  | k + 1, h => by
    have h1 : fct f (k + 1) = fct f k + bz (f k) := rfl
    have ih := pbs_len f p k (by omega)
    show (pb (pbs f p k) (f k)).1 = p.1 + fct f (k + 1)
    unfold pb
    by_cases q : f k = 0
    · rw [if_neg (fun x => x.1 q), ih, fct_0 q]
    · have h2 := fct_1 q
      rw [if_pos ⟨q, by omega⟩]
      show (pbs f p k).1 + 1 = _
      omega
theorem pbs_w {f : Nat → Int32} {p : Nat × (Nat → Int32)} {w : Int32} {m : Nat} (h0 : f m = bw w 0) (h1 : f (m + 1) = bw w 1) (h2 : f (m + 2) = bw w 2) (h3 : f (m + 3) = bw w 3) : pbs f p (m + 4) = pbs (bw w) (pbs f p m) 4 := by
  show pb (pb (pb (pb (pbs f p m) (f m)) (f (m + 1))) (f (m + 2))) (f (m + 3)) = pb (pb (pb (pb (pbs f p m) (bw w 0)) (bw w 1)) (bw w 2)) (bw w 3)
  rw [h0, h1, h2, h3]
theorem pbs_20 (a b c d e : Int32) (p : Nat × (Nat → Int32)) : pbs (byr a b c d e) p 20 = pbs (bw e) (pbs (bw d) (pbs (bw c) (pbs (bw b) (pbs (bw a) p 4) 4) 4) 4) 4 := by
  have h0 : pbs (byr a b c d e) p 4 = pbs (bw a) p 4 := pbs_w (m := 0) (by8 24 (by omega) a) (by8 16 (by omega) a) (by8 8 (by omega) a) (by8 0 (by omega) a)
  have h1 : pbs (byr a b c d e) p 8 = pbs (bw b) (pbs (byr a b c d e) p 4) 4 := pbs_w (m := 4) (by8 24 (by omega) b) (by8 16 (by omega) b) (by8 8 (by omega) b) (by8 0 (by omega) b)
  have h2 : pbs (byr a b c d e) p 12 = pbs (bw c) (pbs (byr a b c d e) p 8) 4 := pbs_w (m := 8) (by8 24 (by omega) c) (by8 16 (by omega) c) (by8 8 (by omega) c) (by8 0 (by omega) c)
  have h3 : pbs (byr a b c d e) p 16 = pbs (bw d) (pbs (byr a b c d e) p 12) 4 := pbs_w (m := 12) (by8 24 (by omega) d) (by8 16 (by omega) d) (by8 8 (by omega) d) (by8 0 (by omega) d)
  have h4 : pbs (byr a b c d e) p 20 = pbs (bw e) (pbs (byr a b c d e) p 16) 4 := pbs_w (m := 16) (by8 24 (by omega) e) (by8 16 (by omega) e) (by8 8 (by omega) e) (by8 0 (by omega) e)
  rw [h4, h3, h2, h1, h0]
theorem feed_n (a b c d e : Int32) : sg a + sg b + sg c + sg d + sg e = fct (byr a b c d e) 20 := by
  have h0 : fct (byr a b c d e) 4 = fct (byr a b c d e) 0 + sg a := (fct_4 _ 0).trans (by rw [sg_of]; rfl)
  have h1 : fct (byr a b c d e) 8 = fct (byr a b c d e) 4 + sg b := (fct_4 _ 4).trans (by rw [sg_of]; rfl)
  have h2 : fct (byr a b c d e) 12 = fct (byr a b c d e) 8 + sg c := (fct_4 _ 8).trans (by rw [sg_of]; rfl)
  have h3 : fct (byr a b c d e) 16 = fct (byr a b c d e) 12 + sg d := (fct_4 _ 12).trans (by rw [sg_of]; rfl)
  have h4 : fct (byr a b c d e) 20 = fct (byr a b c d e) 16 + sg e := (fct_4 _ 16).trans (by rw [sg_of]; rfl)
  have hz : fct (byr a b c d e) 0 = 0 := rfl
  omega
/-- feed: what it answers, the TAPE behind it -/
def fdR (p : Nat × (Nat → Int32)) (a b c d e : Int32) : Int32 × Nat × (Nat → Int32) := if p.1 + fct (byr a b c d e) 20 ≤ 160 then (nI (p.1 + fct (byr a b c d e) 20), pbs (byr a b c d e) p 20) else (-1, p)
theorem fd_no {tl : Nat} {T : Nat → Int32} {a b c d e : Int32} (h : 160 < tl + fct (byr a b c d e) 20) : (-1, tl, T) = fdR (tl, T) a b c d e := (if_neg (Nat.not_le.mpr h)).symm
theorem fd_yes {tl x : Nat} {T F : Nat → Int32} {a b c d e : Int32} (h : tl + fct (byr a b c d e) 20 ≤ 160) (hp : (x, F) = pbs (byr a b c d e) (tl, T) 20) : (nI x, x, F) = fdR (tl, T) a b c d e := by
  have h1 := pbs_len (byr a b c d e) (tl, T) 20 h
  rw [← hp] at h1
  have h1 : x = tl + fct (byr a b c d e) 20 := h1
  refine Eq.trans ?_ (if_pos h).symm
  rw [← hp, h1]
theorem fd_cls {tl x1 x2 x3 x4 x5 : Nat} {T F1 F2 F3 F4 F5 : Nat → Int32} {a b c d e : Int32} (h : tl + (sg a + sg b + sg c + sg d + sg e) ≤ 160) (h1 : (x1, F1) = pbs (bw a) (tl, T) 4) (h2 : (x2, F2) = pbs (bw b) (x1, F1) 4) (h3 : (x3, F3) = pbs (bw c) (x2, F2) 4) (h4 : (x4, F4) = pbs (bw d) (x3, F3) 4) (h5 : (x5, F5) = pbs (bw e) (x4, F4) 4) : (nI x5, x5, F5) = fdR (tl, T) a b c d e := by
  rw [feed_n] at h
  exact fd_yes h (by rw [h5, h4, h3, h2, h1, pbs_20])
theorem fd_cno {tl : Nat} {T : Nat → Int32} {a b c d e : Int32} (h : 160 < tl + (sg a + sg b + sg c + sg d + sg e)) : (-1, tl, T) = fdR (tl, T) a b c d e := by
  rw [feed_n] at h
  exact fd_no h
theorem b255 (x : Int32) : ¬ x &&& 255 = -1 := fun h => by
  have h1 : bt (x &&& 255) 31 = bt (-1) 31 := by rw [h]
  rw [b_and, b_255] at h1
  have h2 : bt (-1) 31 = true := by decide +kernel
  rw [h2] at h1
  simp at h1
theorem pbs_tOK {f : Nat → Int32} {p : Nat × (Nat → Int32)} (hf : ∀ k : Nat, ¬ f k = -1) (h : tOK p.2) : ∀ k : Nat, tOK (pbs f p k).2
  | 0 => h
  | k + 1 => by
    have ih := pbs_tOK hf h k
    show tOK (pb (pbs f p k) (f k)).2
    unfold pb
    by_cases q : ¬ f k = 0 ∧ (pbs f p k).1 < 160
    · rw [if_pos q]
      intro i
      show ¬ (if i = (pbs f p k).1 then f k else (pbs f p k).2 i) = -1
      by_cases e : i = (pbs f p k).1
      · rw [if_pos e]
        exact hf k
      · rw [if_neg e]
        exact ih i
    · rw [if_neg q]
      exact ih
theorem fdR_tOK {p : Nat × (Nat → Int32)} (a b c d e : Int32) (h : tOK p.2) : tOK (fdR p a b c d e).2.2 := by
  unfold fdR
  by_cases q : p.1 + fct (byr a b c d e) 20 ≤ 160
  · rw [if_pos q]
    exact pbs_tOK (fun k => b255 _) h 20
  · rw [if_neg q]
    exact h
/-- end -/
def edQ (tl : Nat) (n : Int32) : Int32 × Nat := if 0 ≤ n ∧ n ≤ nI tl then (1, n.toNatClampNeg) else (0, tl)
def edR (p : Nat × (Nat → Int32)) (n : Int32) : Int32 × Nat × (Nat → Int32) := ((edQ p.1 n).1, (edQ p.1 n).2, p.2)
theorem ed_no {tl : Nat} {n : Int32} (h : ¬ (0 ≤ n ∧ n ≤ nI tl)) : (0, tl) = edQ tl n := (if_neg h).symm
theorem ed_cno {tl : Nat} {n : Int32} (h : ¬ (if n < 0 ∨ nI tl < n then (1 : Int32) else 0) = 0) : (0, tl) = edQ tl n := ed_no (fun q => h (if_neg (fun z => z.elim (fun z => absurd z (Int32.not_lt.mpr q.1)) (fun z => absurd z (Int32.not_lt.mpr q.2)))))
theorem ed_yes {tl j : Nat} (h : j ≤ tl) (h2 : tl ≤ 160) : (1, j) = edQ tl (nI j) := by
  unfold edQ
  rw [if_pos ⟨nI_le (a := 0) (Nat.zero_le j) (by omega), nI_le h (by omega)⟩, nI_clamp (by omega)]
/-- net -/
def mx1 (n : Nat) : Nat := if n = 0 then 1 else n
theorem mx1_e {n : Nat} (h : n ≤ 3) : (if (1 : Int32) < nI n then nI n else (1 : Int32)) = nI (mx1 n) ∧ 1 ≤ mx1 n ∧ mx1 n ≤ 3 := by
  rcases (show n = 0 ∨ n = 1 ∨ n = 2 ∨ n = 3 by omega) with rfl | rfl | rfl | rfl
  · exact ⟨by decide, by decide, by decide⟩
  · exact ⟨by decide, by decide, by decide⟩
  · exact ⟨by decide, by decide, by decide⟩
  · exact ⟨by decide, by decide, by decide⟩
theorem mx1_or (n : Nat) : (n = 0 ∧ mx1 n = 1) ∨ (¬ n = 0 ∧ mx1 n = n) := by
  by_cases h : n = 0
  · exact Or.inl ⟨h, if_pos h⟩
  · exact Or.inr ⟨h, if_neg h⟩
theorem mx1_0 : mx1 0 = 1 := rfl
theorem mx1_s {n : Nat} (h : ¬ n = 0) : mx1 n = n := if_neg h
def ntQ (T : Nat → Int32) (n : Nat) : Int32 × Nat := if (rdV T n).1 = -1 then (nI (mx1 (rdV T n).2), 0) else (-1, n)
def ntR (p : Nat × (Nat → Int32)) : Int32 × Nat × (Nat → Int32) := ((ntQ p.2 p.1).1, (ntQ p.2 p.1).2, p.2)
theorem nt_no {T : Nat → Int32} {n c : Nat} {w : Int32} (h : (w, c) = rdV T n) (q : ¬ w = -1) : (-1, n) = ntQ T n := by
  unfold ntQ
  rw [← h]
  exact (if_neg q).symm
theorem nt_yes {T : Nat → Int32} {n c cc : Nat} {w : Int32} (h : (w, c) = rdV T n) (q : w = -1) (hc : cc = mx1 c) : (nI cc, 0) = ntQ T n := by
  unfold ntQ
  rw [← h, hc]
  exact (if_pos q).symm
theorem ed_p {p : Nat × (Nat → Int32)} {n r : Int32} {t : Nat} (h : (r, t) = edQ p.1 n) : (edR p n).2 = (t, p.2) ∧ r = (edR p n).1 := ⟨congrArg (fun q : Int32 × Nat => (q.2, p.2)) h.symm, congrArg Prod.fst h⟩
theorem nt_p {p : Nat × (Nat → Int32)} {r : Int32} {t : Nat} (h : (r, t) = ntQ p.2 p.1) : (ntR p).2 = (t, p.2) ∧ r = (ntR p).1 := ⟨congrArg (fun q : Int32 × Nat => (q.2, p.2)) h.symm, congrArg Prod.fst h⟩
