/-! what the contracts "it returns and keeps its shape" rest on: numbers that are NONE or 0, 1, 2; booleans; bounds -/
def okc (x : Int32) : Prop := x = -1 ∨ ∃ j : Nat, j < 3 ∧ x = nI j
def okF (f : Nat → Int32) : Prop := ∀ k, okc (f k)
def zb (x : Int32) : Prop := x = 0 ∨ x = 1
def lf : List Int32 → Nat → Int32
  | [], _ => 0
  | x :: _, 0 => x
  | _ :: xs, n + 1 => lf xs n
theorem okc_m : okc (-1) := Or.inl rfl
theorem okc_n {j : Nat} (h : j < 3) : okc (nI j) := Or.inr ⟨j, h, rfl⟩
theorem okc_j {x : Int32} (h : okc x) (hn : ¬ x = -1) : ∃ j : Nat, j < 3 ∧ x = nI j := h.resolve_left hn
theorem okc_add {x : Int32} {i : Nat} (h : okc x) (hi : 1 ≤ i) : ∃ m : Nat, m ≤ i + 2 ∧ x + nI i = nI m := by
  rcases h with rfl | ⟨j, hj, rfl⟩
  · obtain ⟨k, rfl⟩ : ∃ k, i = k + 1 := ⟨i - 1, by omega⟩
    exact ⟨k, by omega, by rw [Int32.add_comm]; exact pk_m1 k⟩
  · exact ⟨j + i, by omega, nI_add j i⟩
theorem okF_0 : okF (fun _ => 0) := fun _ => okc_n (j := 0) (by decide)
theorem okF_upd {f : Nat → Int32} {i : Nat} {x : Int32} (hf : okF f) (hx : okc x) : okF (upd f i x) := fun k => by
  by_cases q : k = i
  · subst q; rw [pk_us]; exact hx
  · rw [pk_un q]; exact hf k
theorem okF_cpy {f g : Nat → Int32} {a b n : Nat} (hf : okF f) (hg : okF g) : okF (va_cpy f g a b n) := fun k => by
  by_cases q : b ≤ k ∧ k < b + n
  · rw [pk_cpy_in q.1 q.2]; exact hf _
  · rw [pk_cpy_out (by omega)]; exact hg _
theorem zb_0 : zb 0 := Or.inl rfl
theorem zb_1 : zb 1 := Or.inr rfl
theorem zb_ite {P : Prop} [Decidable P] : zb (if P then (1 : Int32) else 0) := by
  by_cases h : P
  · rw [if_pos h]; exact zb_1
  · rw [if_neg h]; exact zb_0
theorem zb_nar {x : Int32} (h : zb x) : narrow .boolean (.int x) = .int x := by
  rcases h with rfl | rfl <;> rfl
theorem zb_fit {x : Int32} (h : zb x) : fits .boolean (.int x) = true := by
  rcases h with rfl | rfl <;> rfl
theorem nz_le {x : Int32} (h : ¬ x ≤ 0) : ¬ x = 0 := fun q => h (by rw [q]; decide)
theorem nz_gt {x : Int32} (h : 0 < x) : ¬ x = 0 := fun q => by rw [q] at h; exact absurd h (by decide)
theorem ms_lt {i y : Int32} (h : i < y) : (y.toInt - (i + 1).toInt).toNat < (y.toInt - i.toInt).toNat := by
  have h1 := Int32.lt_iff_toInt_lt.mp h
  have h2 := Int32.toInt_lt y
  have h3 := Int32.le_toInt i
  have e : (i + 1).toInt = i.toInt + 1 := by
    rw [Int32.toInt_add, show (1 : Int32).toInt = 1 from by decide]
    show (i.toInt + 1).bmod 4294967296 = i.toInt + 1
    exact Int.bmod_eq_of_le (by omega) (by omega)
  rw [e]
  omega
theorem out_in {x lo hi : Int32} (h : ¬ (x < lo ∨ hi < x)) : lo ≤ x ∧ x ≤ hi := ⟨Int32.not_lt.mp (fun q => h (Or.inl q)), Int32.not_lt.mp (fun q => h (Or.inr q))⟩
theorem in_out {x lo hi : Int32} (h : lo ≤ x ∧ x ≤ hi) : ¬ (x < lo ∨ hi < x) := fun q => q.elim (fun q => absurd h.1 (Int32.not_le.mpr q)) (fun q => absurd h.2 (Int32.not_le.mpr q))
theorem rg {x lo hi : Int32} {L U : Nat} (hL : lo = nI L) (hU : hi = nI U) (bL : L < 2 ^ 31) (bU : U < 2 ^ 31) (h : lo ≤ x ∧ x ≤ hi) : ∃ n : Nat, L ≤ n ∧ n ≤ U ∧ x = nI n := by
  subst hL
  subst hU
  have h0 : ¬ x < 0 := by
    have q := Int32.le_iff_toInt_le.mp h.1
    rw [nI_toInt bL] at q
    rw [Int32.lt_iff_toInt_lt]
    have e0 : (0 : Int32).toInt = 0 := by decide
    omega
  obtain ⟨n, hn, rfl⟩ := nI_of h0
  exact ⟨n, (nI_leI bL hn).mp h.1, (nI_leI hn bU).mp h.2, rfl⟩
theorem rgo {x lo hi : Int32} {L U : Nat} (hL : lo = nI L) (hU : hi = nI U) (bL : L < 2 ^ 31) (bU : U < 2 ^ 31) (h : ¬ (x < lo ∨ hi < x)) : ∃ n : Nat, L ≤ n ∧ n ≤ U ∧ x = nI n := rg hL hU bL bU (out_in h)
theorem rgi {x : Int32} {U : Nat} (bU : U < 2 ^ 31) (h : 0 ≤ x ∧ x < nI U) : ∃ n : Nat, 0 ≤ n ∧ n < U ∧ x = nI n := by
  obtain ⟨n, hn, rfl⟩ := nI_of (Int32.not_lt.mpr h.1)
  exact ⟨n, Nat.zero_le _, (nI_ltI hn bU).mp h.2, rfl⟩
theorem and255 (x : Int32) : ∃ j : Nat, j < 256 ∧ x &&& 255 = nI j := by
  obtain ⟨k, hk, e⟩ := pk_andE x (m := 255) 8 (by decide)
  exact ⟨k, hk, e⟩
section SF
variable {p : Program} {l : Launch} {e : Env} {R : Room} {s : State} {m : MethodId} {args : Array Value} {below : List Frame} {meth : Method} {c : Code} {H : Heap} {locs : List Loc} {cells slots : Nat} {Q : State → Prop} {pc : Nat} {ls : Array Slot} {rest : List Value}
theorem lv_topc {x : Int32} (h : okc x) (k : ∀ y : Int32, okc y → W p l e R s m args below meth c H locs cells slots Q (F0 m pc ls (.int y :: rest))) : W p l e R s m args below meth c H locs cells slots Q (F0 m pc ls (.int x :: rest)) := k x h
end SF
