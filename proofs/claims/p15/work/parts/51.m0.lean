/-! the reference's row: where NONE or a CIRCUIT stands (cidx), where a count stands that indexes (nidx), what nobody but source, takes, net writes (gidx), the TICK -/
def cidx (e : Nat) : Prop := (66 ≤ e ∧ e < 69) ∨ (69 ≤ e ∧ e < 189 ∧ (e - 69) % 5 = 0)
def nidx (e : Nat) : Prop := e = 204 ∨ e = 213 ∨ e = 222 ∨ e = 206 ∨ e = 215 ∨ e = 224
def gidx (e : Nat) : Prop := 201 ≤ e ∧ e < 228 ∧ (e - 201) % 9 < 3
def mfree (e : Nat) : Prop := e ≠ 1764 ∧ (e < 66 ∨ 69 ≤ e) ∧ (e < 69 ∨ 189 ≤ e ∨ (e - 69) % 5 ≠ 0) ∧ e ≠ 204 ∧ e ≠ 213 ∧ e ≠ 222 ∧ e ≠ 206 ∧ e ≠ 215 ∧ e ≠ 224 ∧ (e < 201 ∨ 228 ≤ e ∨ 3 ≤ (e - 201) % 9)
def mOK (G : Nat → Int32) (T U : Nat) (f : Nat → Int32) : Prop := f 1764 = nI T ∧ (∀ e, cidx e → okc (f e)) ∧ (∀ e, nidx e → ∃ n : Nat, n ≤ U ∧ f e = nI n) ∧ (∀ e, gidx e → f e = G e)
theorem mOK_t {G : Nat → Int32} {T U : Nat} {f : Nat → Int32} (h : mOK G T U f) : ∃ t : Nat, t = T ∧ f 1764 = nI t := ⟨T, rfl, h.1⟩
theorem mOK_c {G : Nat → Int32} {T U e : Nat} {f : Nat → Int32} (h : mOK G T U f) (he : cidx e) : okc (f e) := h.2.1 e he
theorem mOK_n {G : Nat → Int32} {T U e : Nat} {f : Nat → Int32} (h : mOK G T U f) (he : nidx e) : ∃ n : Nat, n ≤ U ∧ f e = nI n := h.2.2.1 e he
theorem mOK_G {G : Nat → Int32} {T U e : Nat} {f : Nat → Int32} (h : mOK G T U f) (he : gidx e) : f e = G e := h.2.2.2 e he
theorem mOK_self {G : Nat → Int32} {T U : Nat} {f : Nat → Int32} (h : mOK G T U f) : mOK f T U f := ⟨h.1, h.2.1, h.2.2.1, fun _ _ => rfl⟩
theorem mOK_le {G : Nat → Int32} {T U T1 U1 : Nat} {f : Nat → Int32} (h : mOK G T U f) (hT : T = T1) (hU : U ≤ U1) : mOK G T1 U1 f := by
  obtain ⟨h2, h3, h4, h5⟩ := h
  subst hT
  refine ⟨h2, h3, fun e he => ?_, h5⟩
  obtain ⟨n, h5, h6⟩ := h4 e he
  exact ⟨n, Nat.le_trans h5 hU, h6⟩
theorem mOK_0 {U : Nat} : mOK (fun _ => 0) 0 U (fun _ => 0) := ⟨rfl, fun _ _ => okc_n (j := 0) (by decide), fun _ _ => ⟨0, Nat.zero_le _, rfl⟩, fun _ _ => rfl⟩
theorem mOK_free {G : Nat → Int32} {T U e : Nat} {f : Nat → Int32} {x : Int32} (h : mOK G T U f) (he : mfree e) : mOK G T U (upd f e x) := by
  obtain ⟨h1, h2, h3, h4⟩ := h
  refine ⟨?_, fun j hj => ?_, fun j hj => ?_, fun j hj => ?_⟩
  · rw [pk_un (show (1764 : Nat) ≠ e by unfold mfree at he; omega)]; exact h1
  · rw [pk_un (show j ≠ e by unfold mfree at he; unfold cidx at hj; omega)]; exact h2 j hj
  · rw [pk_un (show j ≠ e by unfold mfree at he; unfold nidx at hj; omega)]; exact h3 j hj
  · rw [pk_un (show j ≠ e by unfold mfree at he; unfold gidx at hj; omega)]; exact h4 j hj
theorem mOK_g {G : Nat → Int32} {T U e : Nat} {f : Nat → Int32} {x : Int32} (h : mOK G T U f) (he : gidx e) : mOK (upd f e x) T U (upd f e x) := by
  obtain ⟨h1, h2, h3, h4⟩ := h
  refine ⟨?_, fun j hj => ?_, fun j hj => ?_, fun _ _ => rfl⟩
  · rw [pk_un (show (1764 : Nat) ≠ e by unfold gidx at he; omega)]; exact h1
  · rw [pk_un (show j ≠ e by unfold gidx at he; unfold cidx at hj; omega)]; exact h2 j hj
  · rw [pk_un (show j ≠ e by unfold gidx at he; unfold nidx at hj; omega)]; exact h3 j hj
theorem mOK_okc {G : Nat → Int32} {T U e : Nat} {f : Nat → Int32} {x : Int32} (h : mOK G T U f) (hx : okc x) (he : e < 189) : mOK G T U (upd f e x) := by
  obtain ⟨h1, h2, h3, h4⟩ := h
  refine ⟨?_, fun j hj => ?_, fun j hj => ?_, fun j hj => ?_⟩
  · rw [pk_un (show (1764 : Nat) ≠ e by omega)]; exact h1
  · by_cases q : j = e
    · subst q; rw [pk_us]; exact hx
    · rw [pk_un q]; exact h2 j hj
  · rw [pk_un (show j ≠ e by unfold nidx at hj; omega)]; exact h3 j hj
  · rw [pk_un (show j ≠ e by unfold gidx at hj; omega)]; exact h4 j hj
theorem mOK_cnt {G : Nat → Int32} {T U e n : Nat} {f : Nat → Int32} (h : mOK G T U f) (he : (201 ≤ e ∧ e < 1764) ∧ (e < 201 ∨ 228 ≤ e ∨ 3 ≤ (e - 201) % 9)) (hn : n ≤ U + 1) : mOK G T (U + 1) (upd f e (nI n)) := by
  obtain ⟨h1, h2, h3, h4⟩ := mOK_le h (Eq.refl T) (Nat.le_succ U)
  refine ⟨?_, fun j hj => ?_, fun j hj => ?_, fun j hj => ?_⟩
  · rw [pk_un (show (1764 : Nat) ≠ e by omega)]; exact h1
  · rw [pk_un (show j ≠ e by unfold cidx at hj; omega)]; exact h2 j hj
  · by_cases q : j = e
    · subst q; rw [pk_us]; exact ⟨n, hn, rfl⟩
    · rw [pk_un q]; exact h3 j hj
  · rw [pk_un (show j ≠ e by unfold gidx at hj; omega)]; exact h4 j hj
theorem mOK_tick {G : Nat → Int32} {T U n : Nat} {f : Nat → Int32} (h : mOK G T U f) (hn : n = T + 1) : mOK G (T + 1) U (upd f 1764 (nI n)) := by
  obtain ⟨-, h2, h3, h4⟩ := h
  subst hn
  refine ⟨pk_us, fun j hj => ?_, fun j hj => ?_, fun j hj => ?_⟩
  · rw [pk_un (show j ≠ 1764 by unfold cidx at hj; omega)]; exact h2 j hj
  · rw [pk_un (show j ≠ 1764 by unfold nidx at hj; omega)]; exact h3 j hj
  · rw [pk_un (show j ≠ 1764 by unfold gidx at hj; omega)]; exact h4 j hj
def agr (k : Nat) (f F : Nat → Int32) : Prop := ∀ j, j < k → F j = f j
theorem agr_0 {f F : Nat → Int32} : agr 0 f F := fun j h => absurd h (Nat.not_lt_zero j)
theorem agr_upd {i : Nat} {f F : Nat → Int32} (h : agr i f F) : agr (i + 1) f (upd F i (f i)) := fun j hj => by
  by_cases q : j = i
  · subst q; exact pk_us
  · rw [pk_un q]; exact h j (by omega)
theorem mOK_agr {G : Nat → Int32} {T U i : Nat} {f F : Nat → Int32} (h : mOK G T U f) (ha : agr i f F) (hi : 1767 ≤ i) : mOK G T U F := by
  obtain ⟨h1, h2, h3, h4⟩ := h
  refine ⟨?_, fun j hj => ?_, fun j hj => ?_, fun j hj => ?_⟩
  · rw [ha 1764 (by omega)]; exact h1
  · rw [ha j (by unfold cidx at hj; omega)]; exact h2 j hj
  · rw [ha j (by unfold nidx at hj; omega)]; exact h3 j hj
  · rw [ha j (by unfold gidx at hj; omega)]; exact h4 j hj
/-- the row laid to 0 up to k -/
def zer (k : Nat) (F : Nat → Int32) : Prop := ∀ j, j < k → F j = 0
theorem zer_0 {F : Nat → Int32} : zer 0 F := fun j h => absurd h (Nat.not_lt_zero j)
theorem zer_s {k : Nat} {F : Nat → Int32} (h : zer k F) : zer (k + 1) (upd F k 0) := fun j hj => by
  by_cases q : j = k
  · subst q; exact pk_us
  · rw [pk_un q]; exact h j (by omega)
theorem zer_mOK {k U : Nat} {F : Nat → Int32} (h : zer k F) (hk : 1767 ≤ k) : mOK F 0 U F := by
  refine ⟨h 1764 (by omega), fun e he => ?_, fun e he => ⟨0, Nat.zero_le _, h e (by unfold nidx at he; omega)⟩, fun _ _ => rfl⟩
  rw [h e (by unfold cidx at he; omega)]
  exact okc_n (j := 0) (by decide)
/-- go: what it answers, the TICK behind it -/
def goA (t : Nat) (k : Int32) : Int32 × Nat := if 1 ≤ k ∧ k ≤ 60 then (nI (t + k.toNatClampNeg), t + k.toNatClampNeg) else (-1, t)
theorem goA_y {t j x : Nat} (h1 : 1 ≤ j) (h2 : j ≤ 60) (hx : x = t + j) : (nI x, x) = goA t (nI j) := by
  subst hx
  unfold goA
  rw [if_pos ⟨nI_le (a := 1) h1 (by omega), nI_le h2 (by decide)⟩, nI_clamp (by omega)]
theorem goA_n {t : Nat} {k : Int32} (h : ¬ (1 ≤ k ∧ k ≤ 60)) : (-1, t) = goA t k := (if_neg h).symm
theorem goA_c {t : Nat} {k : Int32} (h : k < 1 ∨ 60 < k) : (-1, t) = goA t k := goA_n (fun q => h.elim (fun z => absurd z (Int32.not_lt.mpr q.1)) (fun z => absurd z (Int32.not_lt.mpr q.2)))
theorem goA_le {t t2 : Nat} {k r : Int32} (h : (r, t2) = goA t k) : t2 ≤ t + 60 := by
  unfold goA at h
  by_cases q : 1 ≤ k ∧ k ≤ 60
  · rw [if_pos q] at h
    have h1 : t2 = t + k.toNatClampNeg := congrArg Prod.snd h
    have h3 := q.2
    rw [Int32.le_iff_toInt_le] at h3
    have e : (60 : Int32).toInt = 60 := by decide
    have h4 : k.toInt.toNat ≤ 60 := by omega
    have h5 : k.toNatClampNeg ≤ 60 := h4
    omega
  · rw [if_neg q] at h
    have h1 : t2 = t := congrArg Prod.snd h
    omega
def n3 (f : Nat → Int32) : Prop := ∀ k, ∃ n : Nat, n ≤ 300 ∧ f k = nI n
theorem n3_0 : n3 (fun _ => 0) := fun _ => ⟨0, Nat.zero_le _, rfl⟩
theorem n3_upd {f : Nat → Int32} {k n : Nat} (h : n3 f) (hn : n ≤ 300) : n3 (upd f k (nI n)) := fun j => by
  by_cases q : j = k
  · subst q; rw [pk_us]; exact ⟨n, hn, rfl⟩
  · rw [pk_un q]; exact h j
def n1 (f : Nat → Int32) : Prop := ∀ k, ∃ n : Nat, n ≤ 99 ∧ f k = nI n
theorem n1_0 : n1 (fun _ => 0) := fun _ => ⟨0, Nat.zero_le _, rfl⟩
theorem n1_upd {f : Nat → Int32} {k n : Nat} (h : n1 f) (hn : n ≤ 99) : n1 (upd f k (nI n)) := fun j => by
  by_cases q : j = k
  · subst q; rw [pk_us]; exact ⟨n, hn, rfl⟩
  · rw [pk_un q]; exact h j
theorem max_nat {a b N : Nat} (ha : a ≤ N) (hb : b ≤ N) : ∃ m : Nat, m ≤ N ∧ (if nI a < nI b then nI b else nI a) = nI m := by
  by_cases q : nI a < nI b
  · exact ⟨b, hb, if_pos q⟩
  · exact ⟨a, ha, if_neg q⟩
theorem here_lt {y : Int32} {m t : Nat} {f : Nat → Int32} (h : y = if m < t then f m else (-1)) (hn : ¬ y = -1) : m < t := by
  by_cases q : m < t
  · exact q
  · rw [if_neg q] at h; exact absurd h hn
