/-! the reference's row: where NONE or a CIRCUIT stands (cidx), where a count stands that indexes (nidx), the TICK -/
def cidx (e : Nat) : Prop := (66 ≤ e ∧ e < 69) ∨ (69 ≤ e ∧ e < 189 ∧ (e - 69) % 5 = 0)
def nidx (e : Nat) : Prop := e = 204 ∨ e = 213 ∨ e = 222 ∨ e = 206 ∨ e = 215 ∨ e = 224
def mfree (e : Nat) : Prop := e ≠ 1764 ∧ (e < 66 ∨ 69 ≤ e) ∧ (e < 69 ∨ 189 ≤ e ∨ (e - 69) % 5 ≠ 0) ∧ e ≠ 204 ∧ e ≠ 213 ∧ e ≠ 222 ∧ e ≠ 206 ∧ e ≠ 215 ∧ e ≠ 224
def mOK (T U : Nat) (f : Nat → Int32) : Prop := (∃ t : Nat, t ≤ T ∧ f 1764 = nI t) ∧ (∀ e, cidx e → okc (f e)) ∧ (∀ e, nidx e → ∃ n : Nat, n ≤ U ∧ f e = nI n)
theorem mOK_t {T U : Nat} {f : Nat → Int32} (h : mOK T U f) : ∃ t : Nat, t ≤ T ∧ f 1764 = nI t := h.1
theorem mOK_c {T U e : Nat} {f : Nat → Int32} (h : mOK T U f) (he : cidx e) : okc (f e) := h.2.1 e he
theorem mOK_n {T U e : Nat} {f : Nat → Int32} (h : mOK T U f) (he : nidx e) : ∃ n : Nat, n ≤ U ∧ f e = nI n := h.2.2 e he
theorem mOK_le {T U T1 U1 : Nat} {f : Nat → Int32} (h : mOK T U f) (hT : T ≤ T1) (hU : U ≤ U1) : mOK T1 U1 f := by
  obtain ⟨⟨t, h1, h2⟩, h3, h4⟩ := h
  refine ⟨⟨t, Nat.le_trans h1 hT, h2⟩, h3, fun e he => ?_⟩
  obtain ⟨n, h5, h6⟩ := h4 e he
  exact ⟨n, Nat.le_trans h5 hU, h6⟩
theorem mOK_0 {T U : Nat} : mOK T U (fun _ => 0) := ⟨⟨0, Nat.zero_le _, rfl⟩, fun _ _ => okc_n (j := 0) (by decide), fun _ _ => ⟨0, Nat.zero_le _, rfl⟩⟩
theorem mOK_free {T U e : Nat} {f : Nat → Int32} {x : Int32} (h : mOK T U f) (he : mfree e) : mOK T U (upd f e x) := by
  obtain ⟨h1, h2, h3⟩ := h
  refine ⟨?_, fun j hj => ?_, fun j hj => ?_⟩
  · rw [pk_un (show (1764 : Nat) ≠ e by unfold mfree at he; omega)]; exact h1
  · rw [pk_un (show j ≠ e by unfold mfree at he; unfold cidx at hj; omega)]; exact h2 j hj
  · rw [pk_un (show j ≠ e by unfold mfree at he; unfold nidx at hj; omega)]; exact h3 j hj
theorem mOK_okc {T U e : Nat} {f : Nat → Int32} {x : Int32} (h : mOK T U f) (hx : okc x) (he : e < 189) : mOK T U (upd f e x) := by
  obtain ⟨h1, h2, h3⟩ := h
  refine ⟨?_, fun j hj => ?_, fun j hj => ?_⟩
  · rw [pk_un (show (1764 : Nat) ≠ e by omega)]; exact h1
  · by_cases q : j = e
    · subst q; rw [pk_us]; exact hx
    · rw [pk_un q]; exact h2 j hj
  · rw [pk_un (show j ≠ e by unfold nidx at hj; omega)]; exact h3 j hj
theorem mOK_cnt {T U e n : Nat} {f : Nat → Int32} (h : mOK T U f) (he : 201 ≤ e ∧ e < 1764) (hn : n ≤ U + 1) : mOK T (U + 1) (upd f e (nI n)) := by
  obtain ⟨h1, h2, h3⟩ := mOK_le h (Nat.le_refl T) (Nat.le_succ U)
  refine ⟨?_, fun j hj => ?_, fun j hj => ?_⟩
  · rw [pk_un (show (1764 : Nat) ≠ e by omega)]; exact h1
  · rw [pk_un (show j ≠ e by unfold cidx at hj; omega)]; exact h2 j hj
  · by_cases q : j = e
    · subst q; rw [pk_us]; exact ⟨n, hn, rfl⟩
    · rw [pk_un q]; exact h3 j hj
theorem mOK_tick {T U n : Nat} {f : Nat → Int32} (h : mOK T U f) (hn : n ≤ T + 1) : mOK (T + 1) U (upd f 1764 (nI n)) := by
  obtain ⟨-, h2, h3⟩ := h
  refine ⟨⟨n, hn, pk_us⟩, fun j hj => ?_, fun j hj => ?_⟩
  · rw [pk_un (show j ≠ 1764 by unfold cidx at hj; omega)]; exact h2 j hj
  · rw [pk_un (show j ≠ 1764 by unfold nidx at hj; omega)]; exact h3 j hj
def agr (k : Nat) (f F : Nat → Int32) : Prop := ∀ j, j < k → F j = f j
theorem agr_0 {f F : Nat → Int32} : agr 0 f F := fun j h => absurd h (Nat.not_lt_zero j)
theorem agr_upd {i : Nat} {f F : Nat → Int32} (h : agr i f F) : agr (i + 1) f (upd F i (f i)) := fun j hj => by
  by_cases q : j = i
  · subst q; exact pk_us
  · rw [pk_un q]; exact h j (by omega)
theorem mOK_agr {T U i : Nat} {f F : Nat → Int32} (h : mOK T U f) (ha : agr i f F) (hi : 1767 ≤ i) : mOK T U F := by
  obtain ⟨⟨t, h0, h1⟩, h2, h3⟩ := h
  refine ⟨⟨t, h0, ?_⟩, fun j hj => ?_, fun j hj => ?_⟩
  · rw [ha 1764 (by omega)]; exact h1
  · rw [ha j (by unfold cidx at hj; omega)]; exact h2 j hj
  · rw [ha j (by unfold nidx at hj; omega)]; exact h3 j hj
def n3 (f : Nat → Int32) : Prop := ∀ k, ∃ n : Nat, n ≤ 300 ∧ f k = nI n
theorem n3_0 : n3 (fun _ => 0) := fun _ => ⟨0, Nat.zero_le _, rfl⟩
theorem n3_upd {f : Nat → Int32} {k n : Nat} (h : n3 f) (hn : n ≤ 300) : n3 (upd f k (nI n)) := fun j => by
  by_cases q : j = k
  · subst q; rw [pk_us]; exact ⟨n, hn, rfl⟩
  · rw [pk_un q]; exact h j
def n1 (f : Nat → Int32) : Prop := ∀ k, ∃ n : Nat, n ≤ 99 ∧ f k = nI n
theorem n1_0 : n1 (fun _ => 0) := fun _ => ⟨0, Nat.zero_le _, rfl⟩
theorem n1_upd {f : Nat → Int32} {k n : Nat} (h : n1 f) (hn : n ≤ 99) : n1 (upd f k (nI n)) := fun j => by
  by_cases q : j = k
  · subst q; rw [pk_us]; exact ⟨n, hn, rfl⟩
  · rw [pk_un q]; exact h j
theorem max_nat {a b N : Nat} (ha : a ≤ N) (hb : b ≤ N) : ∃ m : Nat, m ≤ N ∧ (if nI a < nI b then nI b else nI a) = nI m := by
  by_cases q : nI a < nI b
  · exact ⟨b, hb, if_pos q⟩
  · exact ⟨a, ha, if_neg q⟩
theorem here_lt {y : Int32} {m t : Nat} {f : Nat → Int32} (h : y = if m < t then f m else (-1)) (hn : ¬ y = -1) : m < t := by
  by_cases q : m < t
  · exact q
  · rw [if_neg q] at h; exact absurd h hn
theorem mOK_zero {T U e : Nat} {f : Nat → Int32} (h : mOK T U f) : mOK T U (upd f e 0) := by
  obtain ⟨h1, h2, h3⟩ := h
  refine ⟨?_, fun j hj => ?_, fun j hj => ?_⟩
  · by_cases q : 1764 = e
    · subst q; exact ⟨0, Nat.zero_le _, pk_us⟩
    · rw [pk_un q]; exact h1
  · by_cases q : j = e
    · subst q; rw [pk_us]; exact okc_n (j := 0) (by decide)
    · rw [pk_un q]; exact h2 j hj
  · by_cases q : j = e
    · subst q; exact ⟨0, Nat.zero_le _, pk_us⟩
    · rw [pk_un q]; exact h3 j hj
