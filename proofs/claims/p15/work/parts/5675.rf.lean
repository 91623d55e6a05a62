/-! how the whole text goes on -/
theorem rf_go {T : Nat → Int32} {n c i h ct h2 c2 j : Nat} {zf : Int32} {V : Int32 × Nat} (h3 : rdF T n (n + 1 - c) zf i h ct = V) (hc : c ≤ n) (e1 : (-1 : Int32) = (clF T n i zf h ct).1) (e2 : (h2, c2) = (clF T n i zf h ct).2.2) (e3 : j = (clF T n i zf h ct).2.1) (hj : j < n) : rdF T n (n + 1 - (c + 1)) (if c + 1 = 0 then 1 else 0) (j + 1) h2 c2 = V := by
  rw [if_neg (Nat.succ_ne_zero c), show n + 1 - (c + 1) = n - c by omega, ← rdF_go (f := n - c) e1 e2 e3 hj, ← show n + 1 - c = n - c + 1 by omega]
  exact h3
theorem rf_end {T : Nat → Int32} {n c i h ct h2 c2 j : Nat} {zf : Int32} {V : Int32 × Nat} (h3 : rdF T n (n + 1 - c) zf i h ct = V) (hc : c ≤ n) (e1 : (-1 : Int32) = (clF T n i zf h ct).1) (e2 : (h2, c2) = (clF T n i zf h ct).2.2) (e3 : j = (clF T n i zf h ct).2.1) (hj : ¬ j < n) : ((-1 : Int32), c2) = V := by
  rw [← h3, show n + 1 - c = n - c + 1 by omega, rdF_end (f := n - c) e1 e2 e3 hj]
theorem rf_w {T : Nat → Int32} {n c i h ct h2 c2 : Nat} {zf w : Int32} {V : Int32 × Nat} (h3 : rdF T n (n + 1 - c) zf i h ct = V) (hc : c ≤ n) (e1 : w = (clF T n i zf h ct).1) (e2 : (h2, c2) = (clF T n i zf h ct).2.2) (hn : ¬ w = -1) : (w, c2) = V := by
  rw [← h3, show n + 1 - c = n - c + 1 by omega, rdF_w (f := n - c) e1 e2 hn]
