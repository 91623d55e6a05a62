/-! a clause's head and its end, as the reference has them -/
theorem hd_n {T : Nat → Int32} {n i j : Nat} {zf : Int32} {h ct : Nat} (hj : j = sB T n i) (h1 : j < n) (h2 : T j = 110) (hz : ¬ zf = 0) : hdR T n i zf h ct = (nI 0, h, ct) := by
  rw [hdR_1 hj h1, h2]
  exact if_pos ⟨rfl, hz⟩
theorem hd_h {T : Nat → Int32} {n i j : Nat} {zf : Int32} {h ct : Nat} (hj : j = sB T n i) (h1 : j < n) (h2 : T j = 104) (hh : h < 3) : hdR T n i zf h ct = (nI (h + 1), h + 1, ct) := by
  rw [hdR_1 hj h1, h2]
  unfold clO
  rw [if_neg (fun q => absurd q.1 (by decide)), if_pos ⟨rfl, hh⟩]
theorem hd_c {T : Nat → Int32} {n i j : Nat} {zf : Int32} {h ct : Nat} (hj : j = sB T n i) (h1 : j < n) (h2 : T j = 99) (hh : ct < 3) : hdR T n i zf h ct = (nI (3 + (ct + 1)), h, ct + 1) := by
  rw [hdR_1 hj h1, h2]
  unfold clO
  rw [if_neg (fun q => absurd q.1 (by decide)), if_neg (fun q => absurd q.1 (by decide)), if_pos ⟨rfl, hh⟩]
theorem hd_no {T : Nat → Int32} {n i j : Nat} {zf y : Int32} {h ct : Nat} (hj : j = sB T n i) (he : (if j < n then T j else (-1 : Int32)) = y) (k1 : ¬ (y = 110 ∧ ¬ zf = 0)) (k2 : ¬ (y = 104 ∧ h < 3)) (k3 : ¬ (y = 99 ∧ ct < 3)) : hdR T n i zf h ct = (-1, h, ct) := by
  by_cases q : j < n
  · rw [if_pos q] at he
    rw [hdR_1 hj q, he]
    unfold clO
    rw [if_neg k1, if_neg k2, if_neg k3]
  · exact hdR_0 hj q
theorem cq_i {T : Nat → Int32} {n i j k cl m : Nat} {w : Int32} (hk : kdN cl = k) (hj : j = sB T n i) (h1 : w = (itR T n k 4 0 (j + 1)).1) (h2 : w = -1 → m = (itR T n k 4 0 (j + 1)).2) (hm : j + 1 ≤ m) (hi : i ≤ j) : w = (itR T n (kdN cl) 4 0 (sB T n i + 1)).1 ∧ (w = -1 → m = (itR T n (kdN cl) 4 0 (sB T n i + 1)).2 ∧ i < m) := by
  subst hj
  subst hk
  exact ⟨h1, fun q => ⟨h2 q, by omega⟩⟩
theorem itR_sB {T : Nat → Int32} {n k : Nat} : ∀ (f m i : Nat), sB T n (itR T n k f m i).2 = (itR T n k f m i).2
  | 0, _, i => sB_sB
  | f + 1, m, i => by
    show sB T n (if sB T n i < n ∧ ¬ itK k (T (sB T n i)) = -1 ∧ m / 2 ^ (itK k (T (sB T n i))).toNatClampNeg % 2 = 0 then _ else _ : Int32 × Nat).2 = (if sB T n i < n ∧ ¬ itK k (T (sB T n i)) = -1 ∧ m / 2 ^ (itK k (T (sB T n i))).toNatClampNeg % 2 = 0 then _ else _ : Int32 × Nat).2
    split
    · split
      · exact itR_sB f _ _
      · exact sB_sB
    · exact sB_sB
theorem rq_no {T : Nat → Int32} {n f i h ct h2 c2 : Nat} {zf w : Int32} {V : Int32 × Nat} (hn : n < 2 ^ 31) (h1 : n + 1 ≤ f + i) (hi : i ≤ n) (hV : rdF T n f zf i h ct = V) (e : hdR T n i zf h ct = (-1, h2, c2)) (hw : w = nI (sB T n i)) : ¬ w = -1 ∧ (w, c2) = V := by
  have hl := sB_le (T := T) hi
  have hm : ¬ w = -1 := by rw [hw]; exact m1_ne (by omega)
  obtain ⟨g, rfl⟩ : ∃ g, f = g + 1 := ⟨f - 1, by omega⟩
  have hc := clF_head e
  refine ⟨hm, ?_⟩
  rw [← hV, rdF_w (w := w) (h2 := h2) (c2 := c2) (by rw [hc]; exact hw) (by rw [hc]) hm]
theorem rq_w {T : Nat → Int32} {n f i h ct h2 c2 cl : Nat} {zf w : Int32} {V : Int32 × Nat} (h1 : n + 1 ≤ f + i) (hi : i ≤ n) (hV : rdF T n f zf i h ct = V) (e : hdR T n i zf h ct = (nI cl, h2, c2)) (hc : cl < 7) (hw : w = (itR T n (kdN cl) 4 0 (sB T n i + 1)).1) (hm : ¬ w = -1) : ¬ w = -1 ∧ (w, c2) = V := by
  obtain ⟨g, rfl⟩ : ∃ g, f = g + 1 := ⟨f - 1, by omega⟩
  obtain ⟨k1, k2⟩ := clF_w e hc hw.symm hm
  refine ⟨hm, ?_⟩
  rw [← hV, rdF_w (w := w) (h2 := h2) (c2 := c2) k1.symm k2.symm hm]
theorem rq_59 {T : Nat → Int32} {n f i h ct h2 c2 cl m j : Nat} {zf : Int32} {V : Int32 × Nat} (h1 : n + 1 ≤ f + i) (hi : i ≤ n) (hV : rdF T n f zf i h ct = V) (e : hdR T n i zf h ct = (nI cl, h2, c2)) (hc : cl < 7) (hw : (-1 : Int32) = (itR T n (kdN cl) 4 0 (sB T n i + 1)).1) (hm : m = (itR T n (kdN cl) 4 0 (sB T n i + 1)).2 ∧ i < m) (hj : j = sB T n m) (q1 : j < n) (q2 : T j = 59) : ∃ g : Nat, n + 1 ≤ g + (j + 1) ∧ rdF T n g 0 (j + 1) h2 c2 = V := by
  obtain ⟨g, rfl⟩ : ∃ g, f = g + 1 := ⟨f - 1, by omega⟩
  have hjm : j = m := by rw [hj, hm.1, itR_sB]
  subst hjm
  have hR : itR T n (kdN cl) 4 0 (sB T n i + 1) = (-1, j) := Prod.ext hw.symm hm.1.symm
  obtain ⟨k1, k2, k3⟩ := cl_end e hc hR (fun q => q.2 q2)
  refine ⟨g, by have := hm.2; omega, ?_⟩
  rw [← hV, rdF_go k1 k2 k3 q1]
theorem rq_end {T : Nat → Int32} {n f i h ct h2 c2 cl m j : Nat} {zf : Int32} {V : Int32 × Nat} (hn : n < 2 ^ 31) (h1 : n + 1 ≤ f + i) (hi : i ≤ n) (hV : rdF T n f zf i h ct = V) (e : hdR T n i zf h ct = (nI cl, h2, c2)) (hc : cl < 7) (hw : (-1 : Int32) = (itR T n (kdN cl) 4 0 (sB T n i + 1)).1) (hm : m = (itR T n (kdN cl) 4 0 (sB T n i + 1)).2 ∧ i < m) (hj : j = sB T n m) (q : ¬ (j < n ∧ T j = 59)) : sB T n j = j ∧ ((if j < n then nI j else (-1 : Int32)), c2) = V := by
  obtain ⟨g, rfl⟩ : ∃ g, f = g + 1 := ⟨f - 1, by omega⟩
  have hjm : j = m := by rw [hj, hm.1, itR_sB]
  subst hjm
  have hR : itR T n (kdN cl) 4 0 (sB T n i + 1) = (-1, j) := Prod.ext hw.symm hm.1.symm
  refine ⟨hj.symm, ?_⟩
  by_cases q1 : j < n
  · obtain ⟨k1, k2⟩ := cl_bad e hc hR q1 (fun z => q ⟨q1, z⟩)
    rw [if_pos q1, ← hV, rdF_w k1 k2 (m1_ne (by omega))]
  · obtain ⟨k1, k2, k3⟩ := cl_end e hc hR (fun z => q1 z.1)
    rw [if_neg q1, ← hV, rdF_end k1 k2 k3 q1]
