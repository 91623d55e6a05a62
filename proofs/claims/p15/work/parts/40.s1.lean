/-! bounds of ZONES and POOLS, codes of refusals, switches -/
def lz (x : Int32) : Prop := x ≤ 64
def o64 (x : Int32) : Prop := 0 ≤ x ∧ x ≤ 64
theorem o64_lz {x : Int32} (h : o64 x) : lz x := h.2
theorem lz_n {n : Nat} (h : n ≤ 64) : lz (nI n) := nI_le (b := 64) h (by decide)
theorem o64_n {n : Nat} (h : n ≤ 64) : o64 (nI n) := ⟨nI_pos' (by omega), lz_n h⟩
theorem lz_tr {x y : Int32} (h : x ≤ y) (hy : lz y) : lz x := Int32.le_trans h hy
theorem o64_and (x : Int32) : o64 (x &&& 63) := by
  obtain ⟨k, hk, e⟩ := pk_andE x (m := 63) 6 (by decide)
  rw [e]
  exact o64_n (by omega)
theorem lz_min_l {x y : Int32} (h : lz x) : lz (if y < x then y else x) := by
  by_cases q : y < x
  · rw [if_pos q]; exact lz_tr (Int32.le_of_lt q) h
  · rw [if_neg q]; exact h
theorem lz_min_r {x y : Int32} (h : lz y) : lz (if y < x then y else x) := by
  by_cases q : y < x
  · rw [if_pos q]; exact h
  · rw [if_neg q]; exact lz_tr (Int32.not_lt.mp q) h
theorem lz_max {x y : Int32} (h1 : lz x) (h2 : lz y) : lz (if x < y then y else x) := by
  by_cases q : x < y
  · rw [if_pos q]; exact h2
  · rw [if_neg q]; exact h1
theorem o64_max {x y : Int32} (h1 : lz x) (h2 : o64 y) : o64 (if x < y then y else x) := by
  by_cases q : x < y
  · rw [if_pos q]; exact h2
  · rw [if_neg q]; exact ⟨Int32.le_trans h2.1 (Int32.not_lt.mp q), h1⟩
theorem o64_max2 {x y : Int32} (h1 : o64 x) (h2 : lz y) : o64 (if x < y then y else x) := by
  by_cases q : x < y
  · rw [if_pos q]; exact ⟨Int32.le_trans h1.1 (Int32.le_of_lt q), h2⟩
  · rw [if_neg q]; exact h1
theorem o64_int {x : Int32} (h : o64 x) : 0 ≤ x.toInt ∧ x.toInt ≤ 64 := by
  have h1 := Int32.le_iff_toInt_le.mp h.1
  have h2 := Int32.le_iff_toInt_le.mp h.2
  have e0 : (0 : Int32).toInt = 0 := by decide
  have e1 : (64 : Int32).toInt = 64 := by decide
  omega
def lft (n : Nat) (x : Int32) : Prop := -64 * (n : Int) ≤ x.toInt ∧ x.toInt ≤ 64
theorem lft_0 {n : Nat} {x : Int32} (h : o64 x) : lft n x := by
  have q := o64_int h
  exact ⟨by omega, q.2⟩
theorem lft_mono {n m : Nat} {x : Int32} (h : lft n x) (hm : n ≤ m) : lft m x := ⟨by have := h.1; omega, h.2⟩
theorem lft_sub {n : Nat} {x y : Int32} (h : lft n x) (hy : o64 y) (hn : n ≤ 1000) : lft (n + 1) (x - y) := by
  have q := o64_int hy
  obtain ⟨h1, h2⟩ := h
  have e : (x - y).toInt = x.toInt - y.toInt := by
    rw [Int32.toInt_sub]
    show (x.toInt - y.toInt).bmod 4294967296 = x.toInt - y.toInt
    exact Int.bmod_eq_of_le (by omega) (by omega)
  unfold lft
  rw [e]
  omega
theorem lft_lz {n : Nat} {x : Int32} (h : lft n x) : lz x := by
  have e1 : (64 : Int32).toInt = 64 := by decide
  have h2 := h.2
  exact Int32.le_iff_toInt_le.mpr (by omega)
theorem ms_le {i y : Int32} (h : i ≤ y) (hy : lz y) : (y.toInt + 1 - (i + 1).toInt).toNat < (y.toInt + 1 - i.toInt).toNat := by
  have h1 := Int32.le_iff_toInt_le.mp h
  have h2 := Int32.le_iff_toInt_le.mp hy
  have e1 : (64 : Int32).toInt = 64 := by decide
  have h3 := Int32.le_toInt i
  have e : (i + 1).toInt = i.toInt + 1 := by
    rw [Int32.toInt_add, show (1 : Int32).toInt = 1 from by decide]
    show (i.toInt + 1).bmod 4294967296 = i.toInt + 1
    exact Int.bmod_eq_of_le (by omega) (by omega)
  rw [e]
  omega
theorem m1_ne {n : Nat} (h : n < 2 ^ 31) : ¬ nI n = -1 := fun q => by
  have e1 := congrArg Int32.toInt q
  rw [nI_toInt h] at e1
  have e2 : (-1 : Int32).toInt = -1 := by decide
  omega
def ok4 (x : Int32) : Prop := x = -1 ∨ ∃ j : Nat, j < 4 ∧ x = nI j
theorem ok4_m : ok4 (-1) := Or.inl rfl
theorem ok4_n {j : Nat} (h : j < 4) : ok4 (nI j) := Or.inr ⟨j, h, rfl⟩
theorem ok4_j {x : Int32} (h : ok4 x) (hn : ¬ x = -1) : ∃ j : Nat, j < 4 ∧ x = nI j := h.resolve_left hn
def ok7 (x : Int32) : Prop := x = -1 ∨ ∃ j : Nat, j < 7 ∧ x = nI j
theorem ok7_m : ok7 (-1) := Or.inl rfl
theorem ok7_n {j : Nat} (h : j < 7) : ok7 (nI j) := Or.inr ⟨j, h, rfl⟩
theorem ok7_j {x : Int32} (h : ok7 x) (hn : ¬ x = -1) : ∃ j : Nat, j < 7 ∧ x = nI j := h.resolve_left hn
theorem sw_0_2 (x : Int32) : x = 0 ∨ x = 1 ∨ x = 2 ∨ (x.toInt < 0 ∨ 2 < x.toInt) := by
  rcases (show x.toInt = 0 ∨ x.toInt = 1 ∨ x.toInt = 2 ∨ (x.toInt < 0 ∨ 2 < x.toInt) by omega) with h | h | h | h
  · exact Or.inl (Int32.toInt_inj.mp (h.trans (by decide)))
  · exact Or.inr (Or.inl (Int32.toInt_inj.mp (h.trans (by decide))))
  · exact Or.inr (Or.inr (Or.inl (Int32.toInt_inj.mp (h.trans (by decide)))))
  · exact Or.inr (Or.inr (Or.inr (h)))
theorem sw_0_5 (x : Int32) : x = 0 ∨ x = 1 ∨ x = 2 ∨ x = 3 ∨ x = 4 ∨ x = 5 ∨ (x.toInt < 0 ∨ 5 < x.toInt) := by
  rcases (show x.toInt = 0 ∨ x.toInt = 1 ∨ x.toInt = 2 ∨ x.toInt = 3 ∨ x.toInt = 4 ∨ x.toInt = 5 ∨ (x.toInt < 0 ∨ 5 < x.toInt) by omega) with h | h | h | h | h | h | h
  · exact Or.inl (Int32.toInt_inj.mp (h.trans (by decide)))
  · exact Or.inr (Or.inl (Int32.toInt_inj.mp (h.trans (by decide))))
  · exact Or.inr (Or.inr (Or.inl (Int32.toInt_inj.mp (h.trans (by decide)))))
  · exact Or.inr (Or.inr (Or.inr (Or.inl (Int32.toInt_inj.mp (h.trans (by decide))))))
  · exact Or.inr (Or.inr (Or.inr (Or.inr (Or.inl (Int32.toInt_inj.mp (h.trans (by decide)))))))
  · exact Or.inr (Or.inr (Or.inr (Or.inr (Or.inr (Or.inl (Int32.toInt_inj.mp (h.trans (by decide))))))))
  · exact Or.inr (Or.inr (Or.inr (Or.inr (Or.inr (Or.inr (h))))))
theorem sw_0_8 (x : Int32) : x = 0 ∨ x = 1 ∨ x = 2 ∨ x = 3 ∨ x = 4 ∨ x = 5 ∨ x = 6 ∨ x = 7 ∨ x = 8 ∨ (x.toInt < 0 ∨ 8 < x.toInt) := by
  rcases (show x.toInt = 0 ∨ x.toInt = 1 ∨ x.toInt = 2 ∨ x.toInt = 3 ∨ x.toInt = 4 ∨ x.toInt = 5 ∨ x.toInt = 6 ∨ x.toInt = 7 ∨ x.toInt = 8 ∨ (x.toInt < 0 ∨ 8 < x.toInt) by omega) with h | h | h | h | h | h | h | h | h | h
  · exact Or.inl (Int32.toInt_inj.mp (h.trans (by decide)))
  · exact Or.inr (Or.inl (Int32.toInt_inj.mp (h.trans (by decide))))
  · exact Or.inr (Or.inr (Or.inl (Int32.toInt_inj.mp (h.trans (by decide)))))
  · exact Or.inr (Or.inr (Or.inr (Or.inl (Int32.toInt_inj.mp (h.trans (by decide))))))
  · exact Or.inr (Or.inr (Or.inr (Or.inr (Or.inl (Int32.toInt_inj.mp (h.trans (by decide)))))))
  · exact Or.inr (Or.inr (Or.inr (Or.inr (Or.inr (Or.inl (Int32.toInt_inj.mp (h.trans (by decide))))))))
  · exact Or.inr (Or.inr (Or.inr (Or.inr (Or.inr (Or.inr (Or.inl (Int32.toInt_inj.mp (h.trans (by decide)))))))))
  · exact Or.inr (Or.inr (Or.inr (Or.inr (Or.inr (Or.inr (Or.inr (Or.inl (Int32.toInt_inj.mp (h.trans (by decide))))))))))
  · exact Or.inr (Or.inr (Or.inr (Or.inr (Or.inr (Or.inr (Or.inr (Or.inr (Or.inl (Int32.toInt_inj.mp (h.trans (by decide)))))))))))
  · exact Or.inr (Or.inr (Or.inr (Or.inr (Or.inr (Or.inr (Or.inr (Or.inr (Or.inr (h)))))))))
theorem sw_1_5 (x : Int32) : x = 1 ∨ x = 2 ∨ x = 3 ∨ x = 4 ∨ x = 5 ∨ (x.toInt < 1 ∨ 5 < x.toInt) := by
  rcases (show x.toInt = 1 ∨ x.toInt = 2 ∨ x.toInt = 3 ∨ x.toInt = 4 ∨ x.toInt = 5 ∨ (x.toInt < 1 ∨ 5 < x.toInt) by omega) with h | h | h | h | h | h
  · exact Or.inl (Int32.toInt_inj.mp (h.trans (by decide)))
  · exact Or.inr (Or.inl (Int32.toInt_inj.mp (h.trans (by decide))))
  · exact Or.inr (Or.inr (Or.inl (Int32.toInt_inj.mp (h.trans (by decide)))))
  · exact Or.inr (Or.inr (Or.inr (Or.inl (Int32.toInt_inj.mp (h.trans (by decide))))))
  · exact Or.inr (Or.inr (Or.inr (Or.inr (Or.inl (Int32.toInt_inj.mp (h.trans (by decide)))))))
  · exact Or.inr (Or.inr (Or.inr (Or.inr (Or.inr (h)))))
section SG
variable {p : Program} {l : Launch} {e : Env} {R : Room} {s : State} {m : MethodId} {args : Array Value} {below : List Frame} {meth : Method} {c : Code} {H : Heap} {locs : List Loc} {cells slots : Nat} {Q : State → Prop} {pc : Nat} {ls : Array Slot} {rest : List Value}
theorem lv_topP {x : Int32} {P : Int32 → Prop} (h : P x) (k : ∀ y : Int32, P y → W p l e R s m args below meth c H locs cells slots Q (F0 m pc ls (.int y :: rest))) : W p l e R s m args below meth c H locs cells slots Q (F0 m pc ls (.int x :: rest)) := k x h
end SG
