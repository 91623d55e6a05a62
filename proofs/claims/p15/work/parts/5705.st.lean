/-! rule, go, source, takes: what they answer, what they leave of the state (pure) -/
theorem up_e {f : Nat → Int32} {k j : Nat} {x : Int32} (h : j = k) : upd f k x j = x := if_pos h
theorem nin_o {x lo hi : Int32} (h : x < lo ∨ hi < x) : ¬ (lo ≤ x ∧ x ≤ hi) := fun q => h.elim (fun z => absurd z (Int32.not_lt.mpr q.1)) (fun z => absurd z (Int32.not_lt.mpr q.2))
def ruC (a b c d e f w : Int32) : Int32 := if w = 0 then a else if w = 1 then b else if w = 2 then c else if w = 3 then d else if w = 4 then e else if w = 5 then f else -1000000
theorem ruC_0 {a b c d e f : Int32} : a = ruC a b c d e f 0 := by
  unfold ruC
  rw [if_pos (rfl : (0 : Int32) = 0)]
theorem ruC_1 {a b c d e f : Int32} : b = ruC a b c d e f 1 := by
  unfold ruC
  rw [if_neg (show ¬ (1 : Int32) = 0 by decide), if_pos (rfl : (1 : Int32) = 1)]
theorem ruC_2 {a b c d e f : Int32} : c = ruC a b c d e f 2 := by
  unfold ruC
  rw [if_neg (show ¬ (2 : Int32) = 0 by decide), if_neg (show ¬ (2 : Int32) = 1 by decide), if_pos (rfl : (2 : Int32) = 2)]
theorem ruC_3 {a b c d e f : Int32} : d = ruC a b c d e f 3 := by
  unfold ruC
  rw [if_neg (show ¬ (3 : Int32) = 0 by decide), if_neg (show ¬ (3 : Int32) = 1 by decide), if_neg (show ¬ (3 : Int32) = 2 by decide), if_pos (rfl : (3 : Int32) = 3)]
theorem ruC_4 {a b c d e f : Int32} : e = ruC a b c d e f 4 := by
  unfold ruC
  rw [if_neg (show ¬ (4 : Int32) = 0 by decide), if_neg (show ¬ (4 : Int32) = 1 by decide), if_neg (show ¬ (4 : Int32) = 2 by decide), if_neg (show ¬ (4 : Int32) = 3 by decide), if_pos (rfl : (4 : Int32) = 4)]
theorem ruC_5 {a b c d e f : Int32} : f = ruC a b c d e f 5 := by
  unfold ruC
  rw [if_neg (show ¬ (5 : Int32) = 0 by decide), if_neg (show ¬ (5 : Int32) = 1 by decide), if_neg (show ¬ (5 : Int32) = 2 by decide), if_neg (show ¬ (5 : Int32) = 3 by decide), if_neg (show ¬ (5 : Int32) = 4 by decide), if_pos (rfl : (5 : Int32) = 5)]
theorem ruC_n {a b c d e f w : Int32} (h : ¬ (0 ≤ w ∧ w ≤ 5)) : -1000000 = ruC a b c d e f w := by
  unfold ruC
  rw [if_neg (show ¬ w = 0 from fun q => h (by rw [q]; decide)), if_neg (show ¬ w = 1 from fun q => h (by rw [q]; decide)), if_neg (show ¬ w = 2 from fun q => h (by rw [q]; decide)), if_neg (show ¬ w = 3 from fun q => h (by rw [q]; decide)), if_neg (show ¬ w = 4 from fun q => h (by rw [q]; decide)), if_neg (show ¬ w = 5 from fun q => h (by rw [q]; decide))]
theorem ruC_o {a b c d e f w : Int32} (h : w.toInt < 0 ∨ 5 < w.toInt) : -1000000 = ruC a b c d e f w := ruC_n (fun q => by
  have h1 := q.1
  have h2 := q.2
  rw [Int32.le_iff_toInt_le] at h1 h2
  have e0 : (0 : Int32).toInt = 0 := by decide
  have e5 : (5 : Int32).toInt = 5 := by decide
  omega)
theorem nC_m {zc : Int32} {cc : Nat} (h : ¬ (0 ≤ zc ∧ zc ≤ nI (cc - 1))) (h1 : 1 ≤ cc) (h3 : cc ≤ 3) : ¬ (0 ≤ zc ∧ zc < nI cc) := fun q => h ⟨q.1, by
  have h2 := q.2
  rw [Int32.lt_iff_toInt_lt, nI_toInt (show cc < 2 ^ 31 by omega)] at h2
  rw [Int32.le_iff_toInt_le, nI_toInt (show cc - 1 < 2 ^ 31 by omega)]
  omega⟩
def soQ (q : Nat → Int32) (g s r : Int32) (p : Nat → Int32) : Prop := (g = q 0 ∧ s = q 1 ∧ r = -1 ∧ p = q) ∨ (¬ (g = q 0 ∧ s = q 1) ∧ r = q 0 ∧ p 0 = g ∧ p 1 = s ∧ p 2 = q 2)
def tkQ (q : Nat → Int32) (g r : Int32) (p : Nat → Int32) : Prop := (g = q 2 ∧ r = -1 ∧ p = q) ∨ (¬ g = q 2 ∧ r = q 2 ∧ p 0 = q 0 ∧ p 1 = q 1 ∧ p 2 = g)
def soC (cc : Nat) (zc zg zs : Int32) (q0 q1 q2 : Nat → Int32) (r : Int32) (p0 p1 p2 : Nat → Int32) : Prop := ((¬ (0 ≤ zc ∧ zc < nI cc) ∨ ¬ (0 ≤ zg ∧ zg ≤ 9) ∨ ¬ (0 ≤ zs ∧ zs ≤ 999)) ∧ r = -1 ∧ p0 = q0 ∧ p1 = q1 ∧ p2 = q2) ∨ (0 ≤ zg ∧ zg ≤ 9 ∧ 0 ≤ zs ∧ zs ≤ 999 ∧ ((zc = 0 ∧ 0 < cc ∧ soQ q0 zg zs r p0 ∧ p1 = q1 ∧ p2 = q2) ∨ (zc = 1 ∧ 1 < cc ∧ soQ q1 zg zs r p1 ∧ p0 = q0 ∧ p2 = q2) ∨ (zc = 2 ∧ 2 < cc ∧ soQ q2 zg zs r p2 ∧ p0 = q0 ∧ p1 = q1)))
def tkC (cc : Nat) (zc zg : Int32) (q0 q1 q2 : Nat → Int32) (r : Int32) (p0 p1 p2 : Nat → Int32) : Prop := ((¬ (0 ≤ zc ∧ zc < nI cc) ∨ ¬ (0 ≤ zg ∧ zg ≤ 9)) ∧ r = -1 ∧ p0 = q0 ∧ p1 = q1 ∧ p2 = q2) ∨ (0 ≤ zg ∧ zg ≤ 9 ∧ ((zc = 0 ∧ 0 < cc ∧ tkQ q0 zg r p0 ∧ p1 = q1 ∧ p2 = q2) ∨ (zc = 1 ∧ 1 < cc ∧ tkQ q1 zg r p1 ∧ p0 = q0 ∧ p2 = q2) ∨ (zc = 2 ∧ 2 < cc ∧ tkQ q2 zg r p2 ∧ p0 = q0 ∧ p1 = q1)))
def soM (cc : Nat) (zc zg zs : Int32) (f : Nat → Int32) (r : Int32) (fx : Nat → Int32) : Prop := ((¬ (0 ≤ zc ∧ zc < nI cc) ∨ ¬ (0 ≤ zg ∧ zg ≤ 9) ∨ ¬ (0 ≤ zs ∧ zs ≤ 999)) ∧ r = -1 ∧ fx = f) ∨ (0 ≤ zg ∧ zg ≤ 9 ∧ 0 ≤ zs ∧ zs ≤ 999 ∧ ∃ c : Nat, c < cc ∧ zc = nI c ∧ ((zg = f (201 + 9 * c + 0) ∧ zs = f (201 + 9 * c + 1) ∧ r = -1 ∧ fx = f) ∨ (¬ (zg = f (201 + 9 * c + 0) ∧ zs = f (201 + 9 * c + 1)) ∧ r = f (201 + 9 * c + 0) ∧ fx = upd (upd f (201 + 9 * c + 0) zg) (201 + 9 * c + 1) zs)))
def tkM (cc : Nat) (zc zg : Int32) (f : Nat → Int32) (r : Int32) (fx : Nat → Int32) : Prop := ((¬ (0 ≤ zc ∧ zc < nI cc) ∨ ¬ (0 ≤ zg ∧ zg ≤ 9)) ∧ r = -1 ∧ fx = f) ∨ (0 ≤ zg ∧ zg ≤ 9 ∧ ∃ c : Nat, c < cc ∧ zc = nI c ∧ ((zg = f (201 + 9 * c + 2) ∧ r = -1 ∧ fx = f) ∨ (¬ zg = f (201 + 9 * c + 2) ∧ r = f (201 + 9 * c + 2) ∧ fx = upd f (201 + 9 * c + 2) zg)))
/-- source, takes on the values -/
def soS (cc : Nat) (V : Nat → Int32) (zc zg zs : Int32) : Int32 × (Nat → Int32) := if (0 ≤ zc ∧ zc < nI cc) ∧ (0 ≤ zg ∧ zg ≤ 9) ∧ (0 ≤ zs ∧ zs ≤ 999) ∧ ¬ (zg = V (12 + 3 * zc.toNatClampNeg) ∧ zs = V (13 + 3 * zc.toNatClampNeg)) then (V (12 + 3 * zc.toNatClampNeg), upd (upd V (12 + 3 * zc.toNatClampNeg) zg) (13 + 3 * zc.toNatClampNeg) zs) else (-1, V)
def tkS (cc : Nat) (V : Nat → Int32) (zc zg : Int32) : Int32 × (Nat → Int32) := if (0 ≤ zc ∧ zc < nI cc) ∧ (0 ≤ zg ∧ zg ≤ 9) ∧ ¬ zg = V (14 + 3 * zc.toNatClampNeg) then (V (14 + 3 * zc.toNatClampNeg), upd V (14 + 3 * zc.toNatClampNeg) zg) else (-1, V)
theorem so_no {cc : Nat} {V : Nat → Int32} {zc zg zs : Int32} (h : ¬ (0 ≤ zc ∧ zc < nI cc) ∨ ¬ (0 ≤ zg ∧ zg ≤ 9) ∨ ¬ (0 ≤ zs ∧ zs ≤ 999)) : soS cc V zc zg zs = (-1, V) := if_neg (fun q => h.elim (fun z => z q.1) (fun z => z.elim (fun z => z q.2.1) (fun z => z q.2.2.1)))
theorem tk_no {cc : Nat} {V : Nat → Int32} {zc zg : Int32} (h : ¬ (0 ≤ zc ∧ zc < nI cc) ∨ ¬ (0 ≤ zg ∧ zg ≤ 9)) : tkS cc V zc zg = (-1, V) := if_neg (fun q => h.elim (fun z => z q.1) (fun z => z q.2.1))
theorem so_same {cc c : Nat} {V : Nat → Int32} {zc zg zs : Int32} (e : zc = nI c) (hc : c < 3) (h : zg = V (12 + 3 * c) ∧ zs = V (13 + 3 * c)) : soS cc V zc zg zs = (-1, V) := by
  have k : zc.toNatClampNeg = c := by rw [e, nI_clamp (by omega)]
  unfold soS
  rw [k]
  exact if_neg (fun q => q.2.2.2 h)
theorem tk_same {cc c : Nat} {V : Nat → Int32} {zc zg : Int32} (e : zc = nI c) (hc : c < 3) (h : zg = V (14 + 3 * c)) : tkS cc V zc zg = (-1, V) := by
  have k : zc.toNatClampNeg = c := by rw [e, nI_clamp (by omega)]
  unfold tkS
  rw [k]
  exact if_neg (fun q => q.2.2 h)
theorem zc_in {cc c : Nat} {zc : Int32} (e : zc = nI c) (hc : c < cc) (h3 : cc ≤ 3) : 0 ≤ zc ∧ zc < nI cc := by
  rw [e]
  exact ⟨nI_le (a := 0) (Nat.zero_le _) (by omega), nI_lt hc (by omega)⟩
theorem so_yes {cc c : Nat} {V : Nat → Int32} {zc zg zs : Int32} (e : zc = nI c) (hc : c < cc) (h3 : cc ≤ 3) (hg : 0 ≤ zg ∧ zg ≤ 9) (hs : 0 ≤ zs ∧ zs ≤ 999) (h : ¬ (zg = V (12 + 3 * c) ∧ zs = V (13 + 3 * c))) : soS cc V zc zg zs = (V (12 + 3 * c), upd (upd V (12 + 3 * c) zg) (13 + 3 * c) zs) := by
  have k : zc.toNatClampNeg = c := by rw [e, nI_clamp (by omega)]
  have z := zc_in e hc h3
  unfold soS
  rw [k]
  exact if_pos ⟨z, hg, hs, h⟩
theorem tk_yes {cc c : Nat} {V : Nat → Int32} {zc zg : Int32} (e : zc = nI c) (hc : c < cc) (h3 : cc ≤ 3) (hg : 0 ≤ zg ∧ zg ≤ 9) (h : ¬ zg = V (14 + 3 * c)) : tkS cc V zc zg = (V (14 + 3 * c), upd V (14 + 3 * c) zg) := by
  have k : zc.toNatClampNeg = c := by rw [e, nI_clamp (by omega)]
  have z := zc_in e hc h3
  unfold tkS
  rw [k]
  exact if_pos ⟨z, hg, h⟩
theorem fl_so0 {V q0 q1 q2 p : Nat → Int32} {cc : Nat} {g s : Int32} (h : flW V q0 q1 q2 cc) (h0 : p 0 = g) (h1 : p 1 = s) (h2 : p 2 = q0 2) : flW (upd (upd V (12 + 3 * 0) g) (13 + 3 * 0) s) p q1 q2 cc := k3_of (⟨fun z => by rw [pk_un (show 12 + 0 ≠ 13 + 3 * 0 by omega), up_e (show 12 + 0 = 12 + 3 * 0 by omega)]; exact h0, fun z => by rw [pk_un (show 15 + 0 ≠ 13 + 3 * 0 by omega), pk_un (show 15 + 0 ≠ 12 + 3 * 0 by omega)]; exact (h 0 (by omega)).2.1 z, fun z => by rw [pk_un (show 18 + 0 ≠ 13 + 3 * 0 by omega), pk_un (show 18 + 0 ≠ 12 + 3 * 0 by omega)]; exact (h 0 (by omega)).2.2 z⟩) (⟨fun z => by rw [up_e (show 12 + 1 = 13 + 3 * 0 by omega)]; exact h1, fun z => by rw [pk_un (show 15 + 1 ≠ 13 + 3 * 0 by omega), pk_un (show 15 + 1 ≠ 12 + 3 * 0 by omega)]; exact (h 1 (by omega)).2.1 z, fun z => by rw [pk_un (show 18 + 1 ≠ 13 + 3 * 0 by omega), pk_un (show 18 + 1 ≠ 12 + 3 * 0 by omega)]; exact (h 1 (by omega)).2.2 z⟩) (⟨fun z => by rw [pk_un (show 12 + 2 ≠ 13 + 3 * 0 by omega), pk_un (show 12 + 2 ≠ 12 + 3 * 0 by omega)]; exact h2.trans ((h 2 (by omega)).1 z), fun z => by rw [pk_un (show 15 + 2 ≠ 13 + 3 * 0 by omega), pk_un (show 15 + 2 ≠ 12 + 3 * 0 by omega)]; exact (h 2 (by omega)).2.1 z, fun z => by rw [pk_un (show 18 + 2 ≠ 13 + 3 * 0 by omega), pk_un (show 18 + 2 ≠ 12 + 3 * 0 by omega)]; exact (h 2 (by omega)).2.2 z⟩)
theorem fl_so1 {V q0 q1 q2 p : Nat → Int32} {cc : Nat} {g s : Int32} (h : flW V q0 q1 q2 cc) (h0 : p 0 = g) (h1 : p 1 = s) (h2 : p 2 = q1 2) : flW (upd (upd V (12 + 3 * 1) g) (13 + 3 * 1) s) q0 p q2 cc := k3_of (⟨fun z => by rw [pk_un (show 12 + 0 ≠ 13 + 3 * 1 by omega), pk_un (show 12 + 0 ≠ 12 + 3 * 1 by omega)]; exact (h 0 (by omega)).1 z, fun z => by rw [pk_un (show 15 + 0 ≠ 13 + 3 * 1 by omega), up_e (show 15 + 0 = 12 + 3 * 1 by omega)]; exact h0, fun z => by rw [pk_un (show 18 + 0 ≠ 13 + 3 * 1 by omega), pk_un (show 18 + 0 ≠ 12 + 3 * 1 by omega)]; exact (h 0 (by omega)).2.2 z⟩) (⟨fun z => by rw [pk_un (show 12 + 1 ≠ 13 + 3 * 1 by omega), pk_un (show 12 + 1 ≠ 12 + 3 * 1 by omega)]; exact (h 1 (by omega)).1 z, fun z => by rw [up_e (show 15 + 1 = 13 + 3 * 1 by omega)]; exact h1, fun z => by rw [pk_un (show 18 + 1 ≠ 13 + 3 * 1 by omega), pk_un (show 18 + 1 ≠ 12 + 3 * 1 by omega)]; exact (h 1 (by omega)).2.2 z⟩) (⟨fun z => by rw [pk_un (show 12 + 2 ≠ 13 + 3 * 1 by omega), pk_un (show 12 + 2 ≠ 12 + 3 * 1 by omega)]; exact (h 2 (by omega)).1 z, fun z => by rw [pk_un (show 15 + 2 ≠ 13 + 3 * 1 by omega), pk_un (show 15 + 2 ≠ 12 + 3 * 1 by omega)]; exact h2.trans ((h 2 (by omega)).2.1 z), fun z => by rw [pk_un (show 18 + 2 ≠ 13 + 3 * 1 by omega), pk_un (show 18 + 2 ≠ 12 + 3 * 1 by omega)]; exact (h 2 (by omega)).2.2 z⟩)
theorem fl_so2 {V q0 q1 q2 p : Nat → Int32} {cc : Nat} {g s : Int32} (h : flW V q0 q1 q2 cc) (h0 : p 0 = g) (h1 : p 1 = s) (h2 : p 2 = q2 2) : flW (upd (upd V (12 + 3 * 2) g) (13 + 3 * 2) s) q0 q1 p cc := k3_of (⟨fun z => by rw [pk_un (show 12 + 0 ≠ 13 + 3 * 2 by omega), pk_un (show 12 + 0 ≠ 12 + 3 * 2 by omega)]; exact (h 0 (by omega)).1 z, fun z => by rw [pk_un (show 15 + 0 ≠ 13 + 3 * 2 by omega), pk_un (show 15 + 0 ≠ 12 + 3 * 2 by omega)]; exact (h 0 (by omega)).2.1 z, fun z => by rw [pk_un (show 18 + 0 ≠ 13 + 3 * 2 by omega), up_e (show 18 + 0 = 12 + 3 * 2 by omega)]; exact h0⟩) (⟨fun z => by rw [pk_un (show 12 + 1 ≠ 13 + 3 * 2 by omega), pk_un (show 12 + 1 ≠ 12 + 3 * 2 by omega)]; exact (h 1 (by omega)).1 z, fun z => by rw [pk_un (show 15 + 1 ≠ 13 + 3 * 2 by omega), pk_un (show 15 + 1 ≠ 12 + 3 * 2 by omega)]; exact (h 1 (by omega)).2.1 z, fun z => by rw [up_e (show 18 + 1 = 13 + 3 * 2 by omega)]; exact h1⟩) (⟨fun z => by rw [pk_un (show 12 + 2 ≠ 13 + 3 * 2 by omega), pk_un (show 12 + 2 ≠ 12 + 3 * 2 by omega)]; exact (h 2 (by omega)).1 z, fun z => by rw [pk_un (show 15 + 2 ≠ 13 + 3 * 2 by omega), pk_un (show 15 + 2 ≠ 12 + 3 * 2 by omega)]; exact (h 2 (by omega)).2.1 z, fun z => by rw [pk_un (show 18 + 2 ≠ 13 + 3 * 2 by omega), pk_un (show 18 + 2 ≠ 12 + 3 * 2 by omega)]; exact h2.trans ((h 2 (by omega)).2.2 z)⟩)
theorem fl_tk0 {V q0 q1 q2 p : Nat → Int32} {cc : Nat} {g : Int32} (h : flW V q0 q1 q2 cc) (h0 : p 0 = q0 0) (h1 : p 1 = q0 1) (h2 : p 2 = g) : flW (upd V (14 + 3 * 0) g) p q1 q2 cc := k3_of (⟨fun z => by rw [pk_un (show 12 + 0 ≠ 14 + 3 * 0 by omega)]; exact h0.trans ((h 0 (by omega)).1 z), fun z => by rw [pk_un (show 15 + 0 ≠ 14 + 3 * 0 by omega)]; exact (h 0 (by omega)).2.1 z, fun z => by rw [pk_un (show 18 + 0 ≠ 14 + 3 * 0 by omega)]; exact (h 0 (by omega)).2.2 z⟩) (⟨fun z => by rw [pk_un (show 12 + 1 ≠ 14 + 3 * 0 by omega)]; exact h1.trans ((h 1 (by omega)).1 z), fun z => by rw [pk_un (show 15 + 1 ≠ 14 + 3 * 0 by omega)]; exact (h 1 (by omega)).2.1 z, fun z => by rw [pk_un (show 18 + 1 ≠ 14 + 3 * 0 by omega)]; exact (h 1 (by omega)).2.2 z⟩) (⟨fun z => by rw [up_e (show 12 + 2 = 14 + 3 * 0 by omega)]; exact h2, fun z => by rw [pk_un (show 15 + 2 ≠ 14 + 3 * 0 by omega)]; exact (h 2 (by omega)).2.1 z, fun z => by rw [pk_un (show 18 + 2 ≠ 14 + 3 * 0 by omega)]; exact (h 2 (by omega)).2.2 z⟩)
theorem fl_tk1 {V q0 q1 q2 p : Nat → Int32} {cc : Nat} {g : Int32} (h : flW V q0 q1 q2 cc) (h0 : p 0 = q1 0) (h1 : p 1 = q1 1) (h2 : p 2 = g) : flW (upd V (14 + 3 * 1) g) q0 p q2 cc := k3_of (⟨fun z => by rw [pk_un (show 12 + 0 ≠ 14 + 3 * 1 by omega)]; exact (h 0 (by omega)).1 z, fun z => by rw [pk_un (show 15 + 0 ≠ 14 + 3 * 1 by omega)]; exact h0.trans ((h 0 (by omega)).2.1 z), fun z => by rw [pk_un (show 18 + 0 ≠ 14 + 3 * 1 by omega)]; exact (h 0 (by omega)).2.2 z⟩) (⟨fun z => by rw [pk_un (show 12 + 1 ≠ 14 + 3 * 1 by omega)]; exact (h 1 (by omega)).1 z, fun z => by rw [pk_un (show 15 + 1 ≠ 14 + 3 * 1 by omega)]; exact h1.trans ((h 1 (by omega)).2.1 z), fun z => by rw [pk_un (show 18 + 1 ≠ 14 + 3 * 1 by omega)]; exact (h 1 (by omega)).2.2 z⟩) (⟨fun z => by rw [pk_un (show 12 + 2 ≠ 14 + 3 * 1 by omega)]; exact (h 2 (by omega)).1 z, fun z => by rw [up_e (show 15 + 2 = 14 + 3 * 1 by omega)]; exact h2, fun z => by rw [pk_un (show 18 + 2 ≠ 14 + 3 * 1 by omega)]; exact (h 2 (by omega)).2.2 z⟩)
theorem fl_tk2 {V q0 q1 q2 p : Nat → Int32} {cc : Nat} {g : Int32} (h : flW V q0 q1 q2 cc) (h0 : p 0 = q2 0) (h1 : p 1 = q2 1) (h2 : p 2 = g) : flW (upd V (14 + 3 * 2) g) q0 q1 p cc := k3_of (⟨fun z => by rw [pk_un (show 12 + 0 ≠ 14 + 3 * 2 by omega)]; exact (h 0 (by omega)).1 z, fun z => by rw [pk_un (show 15 + 0 ≠ 14 + 3 * 2 by omega)]; exact (h 0 (by omega)).2.1 z, fun z => by rw [pk_un (show 18 + 0 ≠ 14 + 3 * 2 by omega)]; exact h0.trans ((h 0 (by omega)).2.2 z)⟩) (⟨fun z => by rw [pk_un (show 12 + 1 ≠ 14 + 3 * 2 by omega)]; exact (h 1 (by omega)).1 z, fun z => by rw [pk_un (show 15 + 1 ≠ 14 + 3 * 2 by omega)]; exact (h 1 (by omega)).2.1 z, fun z => by rw [pk_un (show 18 + 1 ≠ 14 + 3 * 2 by omega)]; exact h1.trans ((h 1 (by omega)).2.2 z)⟩) (⟨fun z => by rw [pk_un (show 12 + 2 ≠ 14 + 3 * 2 by omega)]; exact (h 2 (by omega)).1 z, fun z => by rw [pk_un (show 15 + 2 ≠ 14 + 3 * 2 by omega)]; exact (h 2 (by omega)).2.1 z, fun z => by rw [up_e (show 18 + 2 = 14 + 3 * 2 by omega)]; exact h2⟩)
theorem so_C {cc : Nat} {V q0 q1 q2 p0 p1 p2 : Nat → Int32} {zc zg zs r : Int32} (hF : flW V q0 q1 q2 cc) (h3 : cc ≤ 3) (h : soC cc zc zg zs q0 q1 q2 r p0 p1 p2) : r = (soS cc V zc zg zs).1 ∧ flW (soS cc V zc zg zs).2 p0 p1 p2 cc := by
  rcases h with ⟨hb, rfl, rfl, rfl, rfl⟩ | ⟨r1, r2, r3, r4, h⟩
  · rw [so_no hb]
    exact ⟨rfl, hF⟩
  · rcases h with ⟨e, hc, h, rfl, rfl⟩ | ⟨e, hc, h, rfl, rfl⟩ | ⟨e, hc, h, rfl, rfl⟩
    · have ha := ((hF 0 (by omega)).1 hc)
      have hb := ((hF 1 (by omega)).1 hc)
      rcases h with ⟨a1, a2, rfl, rfl⟩ | ⟨a1, rfl, a3, a4, a5⟩
      · rw [so_same (c := 0) e (by omega) ⟨a1.trans ha, a2.trans hb⟩]
        exact ⟨rfl, hF⟩
      · rw [so_yes (c := 0) e hc h3 ⟨r1, r2⟩ ⟨r3, r4⟩ (fun q => a1 ⟨q.1.trans ha.symm, q.2.trans hb.symm⟩)]
        exact ⟨ha, fl_so0 hF a3 a4 a5⟩
    · have ha := ((hF 0 (by omega)).2.1 hc)
      have hb := ((hF 1 (by omega)).2.1 hc)
      rcases h with ⟨a1, a2, rfl, rfl⟩ | ⟨a1, rfl, a3, a4, a5⟩
      · rw [so_same (c := 1) e (by omega) ⟨a1.trans ha, a2.trans hb⟩]
        exact ⟨rfl, hF⟩
      · rw [so_yes (c := 1) e hc h3 ⟨r1, r2⟩ ⟨r3, r4⟩ (fun q => a1 ⟨q.1.trans ha.symm, q.2.trans hb.symm⟩)]
        exact ⟨ha, fl_so1 hF a3 a4 a5⟩
    · have ha := ((hF 0 (by omega)).2.2 hc)
      have hb := ((hF 1 (by omega)).2.2 hc)
      rcases h with ⟨a1, a2, rfl, rfl⟩ | ⟨a1, rfl, a3, a4, a5⟩
      · rw [so_same (c := 2) e (by omega) ⟨a1.trans ha, a2.trans hb⟩]
        exact ⟨rfl, hF⟩
      · rw [so_yes (c := 2) e hc h3 ⟨r1, r2⟩ ⟨r3, r4⟩ (fun q => a1 ⟨q.1.trans ha.symm, q.2.trans hb.symm⟩)]
        exact ⟨ha, fl_so2 hF a3 a4 a5⟩
theorem tk_C {cc : Nat} {V q0 q1 q2 p0 p1 p2 : Nat → Int32} {zc zg r : Int32} (hF : flW V q0 q1 q2 cc) (h3 : cc ≤ 3) (h : tkC cc zc zg q0 q1 q2 r p0 p1 p2) : r = (tkS cc V zc zg).1 ∧ flW (tkS cc V zc zg).2 p0 p1 p2 cc := by
  rcases h with ⟨hb, rfl, rfl, rfl, rfl⟩ | ⟨r1, r2, h⟩
  · rw [tk_no hb]
    exact ⟨rfl, hF⟩
  · rcases h with ⟨e, hc, h, rfl, rfl⟩ | ⟨e, hc, h, rfl, rfl⟩ | ⟨e, hc, h, rfl, rfl⟩
    · have ha := ((hF 2 (by omega)).1 hc)
      rcases h with ⟨a1, rfl, rfl⟩ | ⟨a1, rfl, a3, a4, a5⟩
      · rw [tk_same (c := 0) e (by omega) (a1.trans ha)]
        exact ⟨rfl, hF⟩
      · rw [tk_yes (c := 0) e hc h3 ⟨r1, r2⟩ (fun q => a1 (q.trans ha.symm))]
        exact ⟨ha, fl_tk0 hF a3 a4 a5⟩
    · have ha := ((hF 2 (by omega)).2.1 hc)
      rcases h with ⟨a1, rfl, rfl⟩ | ⟨a1, rfl, a3, a4, a5⟩
      · rw [tk_same (c := 1) e (by omega) (a1.trans ha)]
        exact ⟨rfl, hF⟩
      · rw [tk_yes (c := 1) e hc h3 ⟨r1, r2⟩ (fun q => a1 (q.trans ha.symm))]
        exact ⟨ha, fl_tk1 hF a3 a4 a5⟩
    · have ha := ((hF 2 (by omega)).2.2 hc)
      rcases h with ⟨a1, rfl, rfl⟩ | ⟨a1, rfl, a3, a4, a5⟩
      · rw [tk_same (c := 2) e (by omega) (a1.trans ha)]
        exact ⟨rfl, hF⟩
      · rw [tk_yes (c := 2) e hc h3 ⟨r1, r2⟩ (fun q => a1 (q.trans ha.symm))]
        exact ⟨ha, fl_tk2 hF a3 a4 a5⟩
/-- GAP, START, TAKES in the reference's row -/
def flM (V f : Nat → Int32) (cc : Nat) : Prop := ∀ j, j < cc → ∀ q, q < 3 → f (201 + 9 * j + q) = V (3 * (3 + (j + 1)) + q)
theorem fm_at {V f : Nat → Int32} {cc c q : Nat} (h : flM V f cc) (hc : c < cc) (hq : q < 3) : f (201 + 9 * c + q) = V (12 + q + 3 * c) := by
  have e := h c hc q hq
  rw [show 3 * (3 + (c + 1)) + q = 12 + q + 3 * c by omega] at e
  exact e
theorem so_M {cc : Nat} {V f fx : Nat → Int32} {zc zg zs r : Int32} (hF : flM V f cc) (h3 : cc ≤ 3) (h : soM cc zc zg zs f r fx) : r = (soS cc V zc zg zs).1 ∧ flM (soS cc V zc zg zs).2 fx cc := by
  rcases h with ⟨hb, rfl, rfl⟩ | ⟨r1, r2, r3, r4, c, hc, e, h⟩
  · rw [so_no hb]
    exact ⟨rfl, hF⟩
  · have ha : f (201 + 9 * c + 0) = V (12 + 3 * c) := fm_at (q := 0) hF hc (by omega)
    have hb : f (201 + 9 * c + 1) = V (13 + 3 * c) := fm_at (q := 1) hF hc (by omega)
    rcases h with ⟨a1, a2, rfl, rfl⟩ | ⟨a1, rfl, rfl⟩
    · rw [so_same e (by omega) ⟨a1.trans ha, a2.trans hb⟩]
      exact ⟨rfl, hF⟩
    · rw [so_yes e hc h3 ⟨r1, r2⟩ ⟨r3, r4⟩ (fun q => a1 ⟨q.1.trans ha.symm, q.2.trans hb.symm⟩)]
      refine ⟨ha, fun j hj q hq => ?_⟩
      show upd (upd f (201 + 9 * c + 0) zg) (201 + 9 * c + 1) zs (201 + 9 * j + q) = upd (upd V (12 + 3 * c) zg) (13 + 3 * c) zs (3 * (3 + (j + 1)) + q)
      by_cases e1 : j = c ∧ q = 1
      · rw [up_e (show 201 + 9 * j + q = 201 + 9 * c + 1 by omega), up_e (show 3 * (3 + (j + 1)) + q = 13 + 3 * c by omega)]
      · rw [pk_un (show 201 + 9 * j + q ≠ 201 + 9 * c + 1 by omega), pk_un (show 3 * (3 + (j + 1)) + q ≠ 13 + 3 * c by omega)]
        by_cases e0 : j = c ∧ q = 0
        · rw [up_e (show 201 + 9 * j + q = 201 + 9 * c + 0 by omega), up_e (show 3 * (3 + (j + 1)) + q = 12 + 3 * c by omega)]
        · rw [pk_un (show 201 + 9 * j + q ≠ 201 + 9 * c + 0 by omega), pk_un (show 3 * (3 + (j + 1)) + q ≠ 12 + 3 * c by omega)]
          exact hF j hj q hq
theorem tk_M {cc : Nat} {V f fx : Nat → Int32} {zc zg r : Int32} (hF : flM V f cc) (h3 : cc ≤ 3) (h : tkM cc zc zg f r fx) : r = (tkS cc V zc zg).1 ∧ flM (tkS cc V zc zg).2 fx cc := by
  rcases h with ⟨hb, rfl, rfl⟩ | ⟨r1, r2, c, hc, e, h⟩
  · rw [tk_no hb]
    exact ⟨rfl, hF⟩
  · have ha : f (201 + 9 * c + 2) = V (14 + 3 * c) := fm_at (q := 2) hF hc (by omega)
    rcases h with ⟨a1, rfl, rfl⟩ | ⟨a1, rfl, rfl⟩
    · rw [tk_same e (by omega) (a1.trans ha)]
      exact ⟨rfl, hF⟩
    · rw [tk_yes e hc h3 ⟨r1, r2⟩ (fun q => a1 (q.trans ha.symm))]
      refine ⟨ha, fun j hj q hq => ?_⟩
      show upd f (201 + 9 * c + 2) zg (201 + 9 * j + q) = upd V (14 + 3 * c) zg (3 * (3 + (j + 1)) + q)
      by_cases e1 : j = c ∧ q = 2
      · rw [up_e (show 201 + 9 * j + q = 201 + 9 * c + 2 by omega), up_e (show 3 * (3 + (j + 1)) + q = 14 + 3 * c by omega)]
      · rw [pk_un (show 201 + 9 * j + q ≠ 201 + 9 * c + 2 by omega), pk_un (show 3 * (3 + (j + 1)) + q ≠ 14 + 3 * c by omega)]
        exact hF j hj q hq
theorem flM_G {V f F : Nat → Int32} {T U cc : Nat} (h : flM V f cc) (h3 : cc ≤ 3) (hF : mOK f T U F) : flM V F cc := fun j hj q hq => (mOK_G hF (show gidx (201 + 9 * j + q) by unfold gidx; omega)).trans (h j hj q hq)
/-! the state beside the TAPE: laid, HOPS, CIRCUITS, TICK, the values -/
def ntS (p : Nat × (Nat → Int32)) (q : Nat × Nat × Nat × Nat × (Nat → Int32)) : Nat × Nat × Nat × Nat × (Nat → Int32) := if (rdV p.2 p.1).1 = -1 then (1, mx1 (rdWV p.2 p.1).1, mx1 (rdV p.2 p.1).2, 0, (rdWV p.2 p.1).2) else q
def goS (q : Nat × Nat × Nat × Nat × (Nat → Int32)) (k : Int32) : Int32 × (Nat × Nat × Nat × Nat × (Nat → Int32)) := if q.1 = 1 then ((goA q.2.2.2.1 k).1, (1, q.2.1, q.2.2.1, (goA q.2.2.2.1 k).2, q.2.2.2.2)) else (-1, q)
def srS (q : Nat × Nat × Nat × Nat × (Nat → Int32)) (zc zg zs : Int32) : Int32 × (Nat × Nat × Nat × Nat × (Nat → Int32)) := if q.1 = 1 then ((soS q.2.2.1 q.2.2.2.2 zc zg zs).1, (1, q.2.1, q.2.2.1, q.2.2.2.1, (soS q.2.2.1 q.2.2.2.2 zc zg zs).2)) else (-1, q)
def tsS (q : Nat × Nat × Nat × Nat × (Nat → Int32)) (zc zg : Int32) : Int32 × (Nat × Nat × Nat × Nat × (Nat → Int32)) := if q.1 = 1 then ((tkS q.2.2.1 q.2.2.2.2 zc zg).1, (1, q.2.1, q.2.2.1, q.2.2.2.1, (tkS q.2.2.1 q.2.2.2.2 zc zg).2)) else (-1, q)
def ruS (q : Nat × Nat × Nat × Nat × (Nat → Int32)) (w : Int32) : Int32 := if q.1 = 1 then ruC (nI q.2.1) (nI q.2.2.1) (q.2.2.2.2 0) (q.2.2.2.2 1) (q.2.2.2.2 2) (nI q.2.2.2.1) w else -1000000
theorem rdF_3 {T : Nat → Int32} {n : Nat} : ∀ (f : Nat) (zf : Int32) (i h ct : Nat), h ≤ 3 → ct ≤ 3 → (rdF T n f zf i h ct).2 ≤ 3
  | 0, _, _, _, _, _, hc => hc
  | f + 1, zf, i, h, ct, hh, hc => by
    have h3 := hdR_3 (T := T) (n := n) (i := i) (zf := zf) hh hc
    rw [← clF_22] at h3
    show (if (clF T n i zf h ct).1 = -1 then (if (clF T n i zf h ct).2.1 < n then rdF T n f 0 ((clF T n i zf h ct).2.1 + 1) (clF T n i zf h ct).2.2.1 (clF T n i zf h ct).2.2.2 else (-1, (clF T n i zf h ct).2.2.2)) else ((clF T n i zf h ct).1, (clF T n i zf h ct).2.2.2) : Int32 × Nat).2 ≤ 3
    split
    · split
      · exact rdF_3 f _ _ _ _ h3.1 h3.2
      · exact h3.2
    · exact h3.2
theorem rdV_3 {T : Nat → Int32} {n : Nat} : (rdV T n).2 ≤ 3 := rdF_3 _ _ _ _ _ (by omega) (by omega)
theorem nt_m1 {T : Nat → Int32} {n t : Nat} {r : Int32} (h : (r, t) = ntQ T n) (q : (rdV T n).1 = -1) : ¬ r = -1 := by
  unfold ntQ at h
  rw [if_pos q] at h
  have h1 : r = nI (mx1 (rdV T n).2) := congrArg Prod.fst h
  rw [h1]
  have h2 := (mx1_e (rdV_3 (T := T) (n := n))).2.2
  exact m1_ne (by omega)
theorem nt_m0 {T : Nat → Int32} {n t : Nat} {r : Int32} (h : (r, t) = ntQ T n) (q : ¬ (rdV T n).1 = -1) : r = -1 := by
  unfold ntQ at h
  rw [if_neg q] at h
  exact congrArg Prod.fst h
theorem nI_inj {a b : Nat} (h : nI a = nI b) (ha : a < 2 ^ 31) (hb : b < 2 ^ 31) : a = b := by
  have h1 := congrArg Int32.toNatClampNeg h
  rw [nI_clamp ha, nI_clamp hb] at h1
  exact h1
/-- the class's NET and that state -/
def cQ (q : Nat × Nat × Nat × Nat × (Nat → Int32)) (hp cc t : Nat) (a b c : Int32) (q0 q1 q2 : Nat → Int32) : Prop := q.1 = 1 ∧ q.2.1 = hp ∧ q.2.2.1 = cc ∧ q.2.2.2.1 = t ∧ a = q.2.2.2.2 0 ∧ b = q.2.2.2.2 1 ∧ c = q.2.2.2.2 2 ∧ flW q.2.2.2.2 q0 q1 q2 cc
theorem q1_u {q : Nat × Nat × Nat × Nat × (Nat → Int32)} (h : q.1 = 0) : ¬ q.1 = 1 := by
  rw [h]
  decide
theorem go_c {q : Nat × Nat × Nat × Nat × (Nat → Int32)} {hp cc t t2 : Nat} {a b c k r : Int32} {q0 q1 q2 : Nat → Int32} (hQ : cQ q hp cc t a b c q0 q1 q2) (h : (r, t2) = goA t k) : cQ (goS q k).2 hp cc t2 a b c q0 q1 q2 ∧ r = (goS q k).1 := by
  obtain ⟨h1, h2, h3, h4, h5⟩ := hQ
  unfold goS
  rw [if_pos h1, h4, ← h]
  exact ⟨⟨rfl, h2, h3, rfl, h5⟩, rfl⟩
theorem go_u {q : Nat × Nat × Nat × Nat × (Nat → Int32)} {k : Int32} (h : q.1 = 0) : goS q k = (-1, q) := if_neg (q1_u h)
theorem so_lt {cc i : Nat} {V : Nat → Int32} {zc zg zs : Int32} (hi : i < 12) : (soS cc V zc zg zs).2 i = V i := by
  unfold soS
  split
  · show upd (upd V (12 + 3 * zc.toNatClampNeg) zg) (13 + 3 * zc.toNatClampNeg) zs i = V i
    rw [pk_un (show i ≠ 13 + 3 * zc.toNatClampNeg by omega), pk_un (show i ≠ 12 + 3 * zc.toNatClampNeg by omega)]
  · rfl
theorem tk_lt {cc i : Nat} {V : Nat → Int32} {zc zg : Int32} (hi : i < 12) : (tkS cc V zc zg).2 i = V i := by
  unfold tkS
  split
  · show upd V (14 + 3 * zc.toNatClampNeg) zg i = V i
    rw [pk_un (show i ≠ 14 + 3 * zc.toNatClampNeg by omega)]
  · rfl
theorem sr_c {q : Nat × Nat × Nat × Nat × (Nat → Int32)} {hp cc t : Nat} {a b c zc zg zs r : Int32} {q0 q1 q2 p0 p1 p2 : Nat → Int32} (hQ : cQ q hp cc t a b c q0 q1 q2) (h3 : cc ≤ 3) (h : soC cc zc zg zs q0 q1 q2 r p0 p1 p2) : cQ (srS q zc zg zs).2 hp cc t a b c p0 p1 p2 ∧ r = (srS q zc zg zs).1 := by
  obtain ⟨h1, h2, h4, h5, ha, hb, hc, hF⟩ := hQ
  obtain ⟨k1, k2⟩ := so_C hF h3 h
  unfold srS
  rw [if_pos h1, h4]
  exact ⟨⟨rfl, h2, rfl, h5, ha.trans (so_lt (by omega)).symm, hb.trans (so_lt (by omega)).symm, hc.trans (so_lt (by omega)).symm, k2⟩, k1⟩
theorem sr_u {q : Nat × Nat × Nat × Nat × (Nat → Int32)} {zc zg zs : Int32} (h : q.1 = 0) : srS q zc zg zs = (-1, q) := if_neg (q1_u h)
theorem ts_c {q : Nat × Nat × Nat × Nat × (Nat → Int32)} {hp cc t : Nat} {a b c zc zg r : Int32} {q0 q1 q2 p0 p1 p2 : Nat → Int32} (hQ : cQ q hp cc t a b c q0 q1 q2) (h3 : cc ≤ 3) (h : tkC cc zc zg q0 q1 q2 r p0 p1 p2) : cQ (tsS q zc zg).2 hp cc t a b c p0 p1 p2 ∧ r = (tsS q zc zg).1 := by
  obtain ⟨h1, h2, h4, h5, ha, hb, hc, hF⟩ := hQ
  obtain ⟨k1, k2⟩ := tk_C hF h3 h
  unfold tsS
  rw [if_pos h1, h4]
  exact ⟨⟨rfl, h2, rfl, h5, ha.trans (tk_lt (by omega)).symm, hb.trans (tk_lt (by omega)).symm, hc.trans (tk_lt (by omega)).symm, k2⟩, k1⟩
theorem ts_u {q : Nat × Nat × Nat × Nat × (Nat → Int32)} {zc zg : Int32} (h : q.1 = 0) : tsS q zc zg = (-1, q) := if_neg (q1_u h)
theorem ru_c {q : Nat × Nat × Nat × Nat × (Nat → Int32)} {hp cc t : Nat} {a b c w r : Int32} {q0 q1 q2 : Nat → Int32} (hQ : cQ q hp cc t a b c q0 q1 q2) (h : r = ruC (nI hp) (nI cc) a b c (nI t) w) : r = ruS q w := by
  obtain ⟨h1, h2, h4, h5, ha, hb, hc, hF⟩ := hQ
  unfold ruS
  rw [if_pos h1, h2, h4, h5, ← ha, ← hb, ← hc]
  exact h
theorem ru_u {q : Nat × Nat × Nat × Nat × (Nat → Int32)} {w : Int32} (h : q.1 = 0) : ruS q w = -1000000 := if_neg (q1_u h)
theorem nt_cno {q : Nat × Nat × Nat × Nat × (Nat → Int32)} {h0 c0 t0 hp cc t : Nat} {a b c z6 z7 : Int32} {fn q0 q1 q2 p0 p1 p2 : Nat → Int32} (hQ : cQ q h0 c0 t0 a b c q0 q1 q2) (e : fn = lf [nI h0, nI c0, a, b, c, nI t0, z6, z7]) (f5 : fn 0 = nI hp) (f6 : fn 1 = nI cc) (f7 : fn 5 = nI t) (b0 : h0 < 2 ^ 31) (b1 : c0 < 2 ^ 31) (b2 : t0 < 2 ^ 31) (b3 : hp < 2 ^ 31) (b4 : cc < 2 ^ 31) (b5 : t < 2 ^ 31) (e0 : p0 = q0) (e1 : p1 = q1) (e2 : p2 = q2) : cQ q hp cc t (fn 2) (fn 3) (fn 4) p0 p1 p2 := by
  subst e
  subst e0
  subst e1
  subst e2
  obtain rfl : h0 = hp := nI_inj f5 b0 b3
  obtain rfl : c0 = cc := nI_inj f6 b1 b4
  obtain rfl : t0 = t := nI_inj f7 b2 b5
  exact hQ
theorem ntS_no {p : Nat × (Nat → Int32)} {q : Nat × Nat × Nat × Nat × (Nat → Int32)} (h : ¬ (rdV p.2 p.1).1 = -1) : ntS p q = q := if_neg h
theorem nt_cyes {T : Nat → Int32} {n : Nat} {q : Nat × Nat × Nat × Nat × (Nat → Int32)} {ld : Int32} {hp cc t : Nat} {fn q0 q1 q2 : Nat → Int32} (hw : ntW T n ld fn q0 q1 q2) (hv : (rdV T n).1 = -1) (f5 : fn 0 = nI hp) (f6 : fn 1 = nI cc) (f7 : fn 5 = nI t) (b0 : hp < 2 ^ 31) (b1 : cc < 2 ^ 31) (b2 : t < 2 ^ 31) (b3 : (rdWV T n).1 ≤ 3) : cQ (ntS (n, T) q) hp cc t (fn 2) (fn 3) (fn 4) q0 q1 q2 := by
  obtain ⟨h0, h1, h2, h3, h4, h5, h6, h7⟩ := hw
  have m0 := (mx1_e b3).2.2
  have m1 := (mx1_e (rdV_3 (T := T) (n := n))).2.2
  have e : ntS (n, T) q = (1, mx1 (rdWV T n).1, mx1 (rdV T n).2, 0, (rdWV T n).2) := if_pos hv
  have k0 : mx1 (rdWV T n).1 = hp := nI_inj (h1.symm.trans f5) (by omega) b0
  have k1 : mx1 (rdV T n).2 = cc := nI_inj (h2.symm.trans f6) (by omega) b1
  have k2 : 0 = t := nI_inj (h6.symm.trans f7) (by omega) b2
  rw [e]
  subst k0
  subst k1
  subst k2
  exact ⟨rfl, rfl, rfl, rfl, h3, h4, h5, h7⟩
theorem rdW_3 {T : Nat → Int32} {n : Nat} : ∀ (f : Nat) (zf : Int32) (i h ct : Nat) (V : Nat → Int32), h ≤ 3 → ct ≤ 3 → (rdW T n f zf i h ct V).1 ≤ 3
  | 0, _, _, _, _, _, hh, _ => hh
  | f + 1, zf, i, h, ct, V, hh, hc => by
    have h3 := hdR_3 (T := T) (n := n) (i := i) (zf := zf) hh hc
    rw [← clF_22] at h3
    show (if (clF T n i zf h ct).1 = -1 then (if (clF T n i zf h ct).2.1 < n then rdW T n f 0 ((clF T n i zf h ct).2.1 + 1) (clF T n i zf h ct).2.2.1 (clF T n i zf h ct).2.2.2 (clW T n i zf h ct V) else ((clF T n i zf h ct).2.2.1, clW T n i zf h ct V)) else (h, V) : Nat × (Nat → Int32)).1 ≤ 3
    split
    · split
      · exact rdW_3 f _ _ _ _ _ h3.1 h3.2
      · exact h3.1
    · exact hh
theorem rdWV_3 {T : Nat → Int32} {n : Nat} : (rdWV T n).1 ≤ 3 := rdW_3 _ _ _ _ _ _ (by omega) (by omega)
/-- the reference's NET and that state -/
def mQ (q : Nat × Nat × Nat × Nat × (Nat → Int32)) (hp cc t : Nat) (fm fo : Nat → Int32) : Prop := q.1 = 1 ∧ q.2.1 = hp ∧ q.2.2.1 = cc ∧ q.2.2.2.1 = t ∧ (∀ k, k < 3 → fm k = q.2.2.2.2 k) ∧ flM q.2.2.2.2 fo cc
theorem mQ_G {q : Nat × Nat × Nat × Nat × (Nat → Int32)} {hp cc t T U : Nat} {fm fo F : Nat → Int32} (hQ : mQ q hp cc t fm fo) (h3 : cc ≤ 3) (hF : mOK fo T U F) : mQ q hp cc t fm F := ⟨hQ.1, hQ.2.1, hQ.2.2.1, hQ.2.2.2.1, hQ.2.2.2.2.1, flM_G hQ.2.2.2.2.2 h3 hF⟩
theorem go_k {q : Nat × Nat × Nat × Nat × (Nat → Int32)} {hp cc t t2 U : Nat} {k r : Int32} {fm fo F : Nat → Int32} (hQ : mQ q hp cc t fm fo) (h3 : cc ≤ 3) (hF : mOK fo t2 U F) (h : (r, t2) = goA t k) : mQ (goS q k).2 hp cc t2 fm F ∧ r = (goS q k).1 := by
  obtain ⟨h1, h2, h4, h5, h6, h7⟩ := hQ
  unfold goS
  rw [if_pos h1, h5, ← h]
  exact ⟨⟨rfl, h2, h4, rfl, h6, flM_G h7 h3 hF⟩, rfl⟩
theorem sr_k {q : Nat × Nat × Nat × Nat × (Nat → Int32)} {hp cc t : Nat} {zc zg zs r : Int32} {fm fo F : Nat → Int32} (hQ : mQ q hp cc t fm fo) (h3 : cc ≤ 3) (h : soM cc zc zg zs fo r F) : mQ (srS q zc zg zs).2 hp cc t fm F ∧ r = (srS q zc zg zs).1 := by
  obtain ⟨h1, h2, h4, h5, h6, h7⟩ := hQ
  obtain ⟨k1, k2⟩ := so_M h7 h3 h
  unfold srS
  rw [if_pos h1, h4]
  exact ⟨⟨rfl, h2, rfl, h5, fun k hk => (h6 k hk).trans (so_lt (by omega)).symm, k2⟩, k1⟩
theorem ts_k {q : Nat × Nat × Nat × Nat × (Nat → Int32)} {hp cc t : Nat} {zc zg r : Int32} {fm fo F : Nat → Int32} (hQ : mQ q hp cc t fm fo) (h3 : cc ≤ 3) (h : tkM cc zc zg fo r F) : mQ (tsS q zc zg).2 hp cc t fm F ∧ r = (tsS q zc zg).1 := by
  obtain ⟨h1, h2, h4, h5, h6, h7⟩ := hQ
  obtain ⟨k1, k2⟩ := tk_M h7 h3 h
  unfold tsS
  rw [if_pos h1, h4]
  exact ⟨⟨rfl, h2, rfl, h5, fun k hk => (h6 k hk).trans (tk_lt (by omega)).symm, k2⟩, k1⟩
theorem ru_k {q : Nat × Nat × Nat × Nat × (Nat → Int32)} {hp cc t : Nat} {w r : Int32} {fm fo : Nat → Int32} (hQ : mQ q hp cc t fm fo) (h : r = ruC (nI hp) (nI cc) (fm 0) (fm 1) (fm 2) (nI t) w) : r = ruS q w := by
  obtain ⟨h1, h2, h4, h5, h6, h7⟩ := hQ
  unfold ruS
  rw [if_pos h1, h2, h4, h5, ← h6 0 (by omega), ← h6 1 (by omega), ← h6 2 (by omega)]
  exact h
theorem nt_kno {q : Nat × Nat × Nat × Nat × (Nat → Int32)} {h0 c0 t0 hp cc t : Nat} {fm fo fm2 fo2 : Nat → Int32} (hQ : mQ q h0 c0 t0 fm fo) (e : t = t0 ∧ hp = h0 ∧ cc = c0 ∧ fm2 = fm ∧ fo2 = fo) : mQ q hp cc t fm2 fo2 := by
  obtain ⟨rfl, rfl, rfl, rfl, rfl⟩ := e
  exact hQ
theorem nt_kyes {T : Nat → Int32} {n : Nat} {q : Nat × Nat × Nat × Nat × (Nat → Int32)} {hp cc t : Nat} {fm fo : Nat → Int32} (hv : (rdV T n).1 = -1) (e : t = 0 ∧ ntM T n fm fo hp cc) : mQ (ntS (n, T) q) hp cc t fm fo := by
  obtain ⟨rfl, rfl, rfl, h2, h3⟩ := e
  have e : ntS (n, T) q = (1, mx1 (rdWV T n).1, mx1 (rdV T n).2, 0, (rdWV T n).2) := if_pos hv
  rw [e]
  exact ⟨rfl, rfl, rfl, rfl, h2, h3⟩
