/-! small facts on ints that are 0 or 1, and on bounds -/
theorem b01_0 {P : Prop} [Decidable P] : (if P then (1 : Int32) else 0) = 0 ↔ ¬ P := by
  by_cases h : P
  · rw [if_pos h]; exact ⟨fun e => absurd e (by decide), fun n => absurd h n⟩
  · rw [if_neg h]; exact ⟨fun _ => h, fun _ => rfl⟩
theorem b01_1 {P : Prop} [Decidable P] : ¬ (if P then (1 : Int32) else 0) = 0 ↔ P := by
  by_cases h : P
  · rw [if_pos h]; exact ⟨fun _ => h, fun _ => by decide⟩
  · rw [if_neg h]; exact ⟨fun e => absurd rfl e, fun n => absurd n h⟩
theorem ifm_n {P : Prop} [Decidable P] (h : (if P then (0 : Int32) else (-1)) = -1) : ¬ P := fun p => by
  rw [if_pos p] at h
  exact absurd h (by decide)
theorem ifm_y {P : Prop} [Decidable P] (h : ¬ (if P then (0 : Int32) else (-1)) = -1) : P := by
  by_cases p : P
  · exact p
  · rw [if_neg p] at h; exact absurd rfl h
theorem in_none (v : Int32) : (if (0 : Int32) ≤ v ∧ v ≤ (-1) then (1 : Int32) else 0) = 0 := by
  refine if_neg (fun h => ?_)
  have h1 := Int32.le_iff_toInt_le.mp h.1
  have h2 := Int32.le_iff_toInt_le.mp h.2
  have e0 : (0 : Int32).toInt = 0 := by decide
  have e1 : (-1 : Int32).toInt = -1 := by decide
  omega
theorem st_in {w : Int32} (h : (if w < 0 ∨ 3 < w then (1 : Int32) else 0) = 0) : vp_in w 4 := by
  have hn := b01_0.mp h
  rw [vp_in_iff]
  have e0 : (0 : Int32).toInt = 0 := by decide
  have e3 : (3 : Int32).toInt = 3 := by decide
  refine ⟨?_, ?_⟩
  · have h1 : ¬ w < 0 := fun q => hn (Or.inl q)
    rw [Int32.lt_iff_toInt_lt] at h1
    omega
  · have h1 : ¬ (3 : Int32) < w := fun q => hn (Or.inr q)
    rw [Int32.lt_iff_toInt_lt] at h1
    omega
theorem st_in2 {w : Int32} (h : ¬ (if 0 ≤ w ∧ w ≤ 3 then (1 : Int32) else 0) = 0) : vp_in w 4 := by
  have hn := b01_1.mp h
  rw [vp_in_iff]
  have e0 : (0 : Int32).toInt = 0 := by decide
  have e3 : (3 : Int32).toInt = 3 := by decide
  have h1 := Int32.le_iff_toInt_le.mp hn.1
  have h2 := Int32.le_iff_toInt_le.mp hn.2
  omega
theorem lw_nz {w : Int32} (h : ¬ (w < 1 ∨ 9 < w)) : ¬ w = 0 := fun e => h (Or.inl (by rw [e]; decide))
theorem lw_nz2 {w : Int32} (h : 1 ≤ w ∧ w ≤ 9) : ¬ w = 0 := fun e => by rw [e] at h; exact absurd h.1 (by decide)
theorem nz01 {P : Prop} [Decidable P] : narrow .boolean (.int (if P then (1 : Int32) else 0)) = .int (if P then (1 : Int32) else 0) := by
  by_cases h : P
  · rw [if_pos h]; rfl
  · rw [if_neg h]; rfl
/-- a byte counts, if it isn't 0 -/
def bz (v : Int32) : Nat := if v = 0 then 0 else 1
theorem bz_0 {v : Int32} (h : v = 0) : bz v = 0 := if_pos h
theorem bz_1 {v : Int32} (h : ¬ v = 0) : bz v = 1 := if_neg h
theorem bz_le (v : Int32) : bz v ≤ 1 := by unfold bz; split <;> omega
/-- the bytes of a word that count -/
def sg (w : Int32) : Nat := bz ((w.toUInt32 >>> ((24 : Int32).toUInt32 &&& Int32.toUInt32 31)).toInt32 &&& 255) + bz ((w.toUInt32 >>> ((16 : Int32).toUInt32 &&& Int32.toUInt32 31)).toInt32 &&& 255) + bz ((w.toUInt32 >>> ((8 : Int32).toUInt32 &&& Int32.toUInt32 31)).toInt32 &&& 255) + bz ((w.toUInt32 >>> ((0 : Int32).toUInt32 &&& Int32.toUInt32 31)).toInt32 &&& 255)
theorem sg_le (w : Int32) : sg w ≤ 4 := by
  unfold sg
  have h1 := bz_le ((w.toUInt32 >>> ((24 : Int32).toUInt32 &&& Int32.toUInt32 31)).toInt32 &&& 255)
  have h2 := bz_le ((w.toUInt32 >>> ((16 : Int32).toUInt32 &&& Int32.toUInt32 31)).toInt32 &&& 255)
  have h3 := bz_le ((w.toUInt32 >>> ((8 : Int32).toUInt32 &&& Int32.toUInt32 31)).toInt32 &&& 255)
  have h4 := bz_le ((w.toUInt32 >>> ((0 : Int32).toUInt32 &&& Int32.toUInt32 31)).toInt32 &&& 255)
  omega
