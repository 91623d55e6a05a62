/-! bits of an int: out of kit/laws/BITS.to-paste -/
def bt (x : Int32) (i : Nat) : Bool := x.toBitVec.getLsbD i
theorem b_ext {x y : Int32} (h : ∀ i, i < 32 → bt x i = bt y i) : x = y := Int32.toBitVec_inj.mp (BitVec.eq_of_getLsbD_eq (fun i hi => h i hi))
theorem b_and (x y : Int32) (i : Nat) : bt (x &&& y) i = (bt x i && bt y i) := by unfold bt; rw [Int32.toBitVec_and, BitVec.getLsbD_and]
theorem b_big {x : Int32} {i : Nat} (h : 32 ≤ i) : bt x i = false := BitVec.getLsbD_of_ge _ _ h
theorem b_255 (i : Nat) : bt 255 i = decide (i < 8) := by
  rcases Nat.lt_or_ge i 32 with h | h
  · exact (by decide +kernel : ∀ i, i < 32 → bt 255 i = decide (i < 8)) i h
  · rw [b_big h, decide_eq_false (by omega)]
theorem s_l : ∀ n, n < 32 → ((nI n &&& 31).toBitVec.smod 32).toNat = n := by decide +kernel
theorem s_u : ∀ n, n < 32 → (((nI n).toUInt32 &&& Int32.toUInt32 31).toBitVec % 32).toNat = n := by decide +kernel
theorem b_ushr (n : Nat) (hn : n < 32) (x : Int32) (i : Nat) : bt ((x.toUInt32 >>> ((nI n).toUInt32 &&& Int32.toUInt32 31)).toInt32) i = bt x (n + i) := by
  show (x.toUInt32 >>> ((nI n).toUInt32 &&& Int32.toUInt32 31)).toBitVec.getLsbD i = x.toUInt32.toBitVec.getLsbD (n + i)
  rw [UInt32.toBitVec_shiftRight]
  show (x.toUInt32.toBitVec >>> (((nI n).toUInt32 &&& Int32.toUInt32 31).toBitVec % 32).toNat).getLsbD i = _
  rw [s_u n hn, BitVec.getLsbD_ushiftRight]
theorem b_sshr (n : Nat) (hn : n < 32) (x : Int32) {i : Nat} (hi : i < 32) : bt (x >>> (nI n &&& 31)) i = if n + i < 32 then bt x (n + i) else bt x 31 := by
  unfold bt
  rw [Int32.toBitVec_shiftRight]
  show (x.toBitVec.sshiftRight ((nI n &&& 31).toBitVec.smod 32).toNat).getLsbD i = _
  rw [s_l n hn, BitVec.getLsbD_sshiftRight, BitVec.msb_eq_getLsbD_last]
  simp [hi]
/-- a byte, shifted down with or without the sign -/
theorem by8 (n : Nat) (hn : n ≤ 24) (w : Int32) : (w >>> (nI n &&& 31)) &&& 255 = (w.toUInt32 >>> ((nI n).toUInt32 &&& Int32.toUInt32 31)).toInt32 &&& 255 := by
  refine b_ext (fun i hi => ?_)
  rw [b_and, b_and, b_255, b_sshr n (by omega) w hi, b_ushr n (by omega)]
  by_cases h : i < 8
  · rw [if_pos (show n + i < 32 by omega)]
  · simp [h]
/-- the k-th byte of five words, as the reference takes it -/
def byr (a b c d e : Int32) (k : Nat) : Int32 := ((if k < 4 then a else if k < 8 then b else if k < 12 then c else if k < 16 then d else e) >>> (nI (24 - 8 * (k % 4)) &&& 31)) &&& 255
/-- how many of the first bytes count -/
def fct (f : Nat → Int32) : Nat → Nat
  | 0 => 0
  | k + 1 => fct f k + bz (f k)
theorem fct_le (f : Nat → Int32) : ∀ k, fct f k ≤ k
  | 0 => Nat.le_refl 0
  | k + 1 => by
    have h1 := fct_le f k
    have h2 := bz_le (f k)
    show fct f k + bz (f k) ≤ k + 1
    omega
theorem fct_0 {f : Nat → Int32} {k : Nat} (h : f k = 0) : fct f (k + 1) = fct f k := by
  show fct f k + bz (f k) = fct f k
  rw [bz_0 h, Nat.add_zero]
theorem fct_1 {f : Nat → Int32} {k : Nat} (h : ¬ f k = 0) : fct f (k + 1) = fct f k + 1 := by
  show fct f k + bz (f k) = fct f k + 1
  rw [bz_1 h]
theorem fct_4 (f : Nat → Int32) (k : Nat) : fct f (k + 4) = fct f k + (bz (f k) + bz (f (k + 1)) + bz (f (k + 2)) + bz (f (k + 3))) := by
  show fct f k + bz (f k) + bz (f (k + 1)) + bz (f (k + 2)) + bz (f (k + 3)) = _
  omega
theorem sg_of (w : Int32) : sg w = bz ((w >>> (nI 24 &&& 31)) &&& 255) + bz ((w >>> (nI 16 &&& 31)) &&& 255) + bz ((w >>> (nI 8 &&& 31)) &&& 255) + bz ((w >>> (nI 0 &&& 31)) &&& 255) := by
  rw [by8 24 (by omega), by8 16 (by omega), by8 8 (by omega), by8 0 (by omega)]
  rfl
/-- both count alike -/
theorem feed_eq (a b c d e : Int32) : nI (0 + sg a + sg b + sg c + sg d + sg e) = nI (fct (byr a b c d e) 20) := by
  have h0 : fct (byr a b c d e) 4 = fct (byr a b c d e) 0 + sg a := (fct_4 _ 0).trans (by rw [sg_of]; rfl)
  have h1 : fct (byr a b c d e) 8 = fct (byr a b c d e) 4 + sg b := (fct_4 _ 4).trans (by rw [sg_of]; rfl)
  have h2 : fct (byr a b c d e) 12 = fct (byr a b c d e) 8 + sg c := (fct_4 _ 8).trans (by rw [sg_of]; rfl)
  have h3 : fct (byr a b c d e) 16 = fct (byr a b c d e) 12 + sg d := (fct_4 _ 12).trans (by rw [sg_of]; rfl)
  have h4 : fct (byr a b c d e) 20 = fct (byr a b c d e) 16 + sg e := (fct_4 _ 16).trans (by rw [sg_of]; rfl)
  have hz : fct (byr a b c d e) 0 = 0 := rfl
  exact congrArg nI (by omega)
