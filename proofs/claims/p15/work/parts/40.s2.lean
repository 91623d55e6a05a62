/-! what Reading holds, and the NET as it is laid -/
def ch (x : Int32) : Prop := narrow .char (.int x) = .int x
def hiv (k : Nat) : Nat := if k < 3 then [4, 20, 9].getD k 0 else if k < 12 then [4, 30, 4].getD (k % 3) 0 else [9, 20, 9].getD (k % 3) 0
def vOK (f : Nat → Int32) : Prop := ∀ k, k < 21 → ∃ n : Nat, n ≤ hiv k ∧ f k = nI n
theorem vOK_0 : vOK (fun _ => 0) := fun k _ => ⟨0, Nat.zero_le _, rfl⟩
theorem vOK_upd {f : Nat → Int32} {k n : Nat} (h : vOK f) (hn : n ≤ hiv k) : vOK (upd f k (nI n)) := fun j hj => by
  by_cases q : j = k
  · subst q; rw [pk_us]; exact ⟨n, hn, rfl⟩
  · rw [pk_un q]; exact h j hj
theorem min160 {n : Nat} (h : n ≤ 160) : (if (160 : Int32) < nI n then (160 : Int32) else nI n) = nI n := by
  rw [if_neg]
  exact nI_nlt (a := 160) h (by decide)
theorem max1 {n : Nat} (h : n ≤ 3) : ∃ m : Nat, 1 ≤ m ∧ m ≤ 3 ∧ (if (1 : Int32) < nI n then nI n else (1 : Int32)) = nI m := by
  rcases (show n = 0 ∨ n = 1 ∨ n = 2 ∨ n = 3 by omega) with rfl | rfl | rfl | rfl
  · exact ⟨1, by decide, by decide, by decide⟩
  · exact ⟨1, by decide, by decide, by decide⟩
  · exact ⟨2, by decide, by decide, by decide⟩
  · exact ⟨3, by decide, by decide, by decide⟩
theorem o64_nat {x : Int32} (h : o64 x) : ∃ n : Nat, n ≤ 64 ∧ x = nI n := by
  obtain ⟨n, -, h2, e⟩ := rg (L := 0) (U := 64) (lo := 0) (hi := 64) rfl rfl (by decide) (by decide) h
  exact ⟨n, h2, e⟩
theorem lz_div {x : Int32} {c : Nat} (h : o64 x) (hc : 0 < c ∧ c < 4) : lz (x / nI c) := by
  obtain ⟨n, hn, rfl⟩ := o64_nat h
  rw [pk_div (by omega) hc.1 (by omega)]
  exact lz_n (Nat.le_trans (Nat.div_le_self _ _) hn)
/-- a NET that is laid: 1 .. 3 HOPS, 1 .. 3 CIRCUITS, a TICK of at most tb -/
def nOK (tb : Nat) (f : Nat → Int32) : Prop := ∃ hp cc t : Nat, 1 ≤ hp ∧ hp ≤ 3 ∧ 1 ≤ cc ∧ cc ≤ 3 ∧ t ≤ tb ∧ f 0 = nI hp ∧ f 1 = nI cc ∧ f 5 = nI t
def lf2 : List (Nat → Int32) → Nat → Nat → Int32
  | [], _ => fun _ => 0
  | x :: _, 0 => x
  | _ :: xs, n + 1 => lf2 xs n
