/-! the values that a TAPE's text gives: places 3 * clause + item -/
theorem itK_q {k : Nat} {c : Int32} (h : ¬ itK k c = -1) : (itK k c).toNatClampNeg < 3 := by
  rcases itK_c k c with h1 | h1 | h1 | h1
  · exact absurd h1 h
  · rw [h1]; decide
  · rw [h1]; decide
  · rw [h1]; decide
/-- the values behind the items of a clause whose values stand from b on -/
def itW (T : Nat → Int32) (n k b : Nat) : Nat → Nat → Nat → (Nat → Int32) → (Nat → Int32)
  | 0, _, _, V => V
  | f + 1, m, i, V => if sB T n i < n ∧ ¬ itK k (T (sB T n i)) = -1 ∧ m / 2 ^ (itK k (T (sB T n i))).toNatClampNeg % 2 = 0 then (if nmF T n (sB T n i + 1) (loK k (itK k (T (sB T n i))).toNatClampNeg) (hiK k (itK k (T (sB T n i))).toNatClampNeg) = -1 then itW T n k b f (m + 2 ^ (itK k (T (sB T n i))).toNatClampNeg) (nmE T n (sB T n i + 1)) (upd V (b + (itK k (T (sB T n i))).toNatClampNeg) (nmV T n (sB T n i + 1))) else V) else V
theorem itW_y {T : Nat → Int32} {n k b f m i : Nat} {V : Nat → Int32} (hc : sB T n i < n ∧ ¬ itK k (T (sB T n i)) = -1 ∧ m / 2 ^ (itK k (T (sB T n i))).toNatClampNeg % 2 = 0) (hw : nmF T n (sB T n i + 1) (loK k (itK k (T (sB T n i))).toNatClampNeg) (hiK k (itK k (T (sB T n i))).toNatClampNeg) = -1) : itW T n k b (f + 1) m i V = itW T n k b f (m + 2 ^ (itK k (T (sB T n i))).toNatClampNeg) (nmE T n (sB T n i + 1)) (upd V (b + (itK k (T (sB T n i))).toNatClampNeg) (nmV T n (sB T n i + 1))) := by
  show (if sB T n i < n ∧ ¬ itK k (T (sB T n i)) = -1 ∧ m / 2 ^ (itK k (T (sB T n i))).toNatClampNeg % 2 = 0 then _ else _) = _
  rw [if_pos hc, if_pos hw]
theorem itW_n1 {T : Nat → Int32} {n k b f m i : Nat} {V : Nat → Int32} (hc : ¬ (sB T n i < n ∧ ¬ itK k (T (sB T n i)) = -1 ∧ m / 2 ^ (itK k (T (sB T n i))).toNatClampNeg % 2 = 0)) : itW T n k b (f + 1) m i V = V := if_neg hc
theorem itW_n2 {T : Nat → Int32} {n k b f m i : Nat} {V : Nat → Int32} (hc : sB T n i < n ∧ ¬ itK k (T (sB T n i)) = -1 ∧ m / 2 ^ (itK k (T (sB T n i))).toNatClampNeg % 2 = 0) (hw : ¬ nmF T n (sB T n i + 1) (loK k (itK k (T (sB T n i))).toNatClampNeg) (hiK k (itK k (T (sB T n i))).toNatClampNeg) = -1) : itW T n k b (f + 1) m i V = V := by
  show (if sB T n i < n ∧ ¬ itK k (T (sB T n i)) = -1 ∧ m / 2 ^ (itK k (T (sB T n i))).toNatClampNeg % 2 = 0 then _ else _) = _
  rw [if_pos hc, if_neg hw]
theorem itW_end {T : Nat → Int32} {n k b f m i j : Nat} {V : Nat → Int32} (hj : j = sB T n i) (h : ¬ j < n) : itW T n k b (f + 1) m i V = V := by
  subst hj
  exact itW_n1 (fun q => h q.1)
theorem itW_no {T : Nat → Int32} {n k b f m i j : Nat} {V : Nat → Int32} (hj : j = sB T n i) (h : itK k (T j) = -1) : itW T n k b (f + 1) m i V = V := by
  subst hj
  exact itW_n1 (fun q => q.2.1 h)
theorem itW_again {T : Nat → Int32} {n k b f m i j q : Nat} {V : Nat → Int32} (hj : j = sB T n i) (h : itK k (T j) = nI q) (hq : q < 3) (hm : ¬ m / 2 ^ q % 2 = 0) : itW T n k b (f + 1) m i V = V := by
  subst hj
  refine itW_n1 (fun x => hm ?_)
  have h2 := x.2.2
  rw [h, nI_clamp (show q < 2 ^ 31 by omega)] at h2
  exact h2
theorem itW_go {T : Nat → Int32} {n k b f m i j q : Nat} {V : Nat → Int32} (hj : j = sB T n i) (h1 : j < n) (h : itK k (T j) = nI q) (hq : q < 3) (hm : m / 2 ^ q % 2 = 0) (hw : nmF T n (j + 1) (loK k q) (hiK k q) = -1) : itW T n k b (f + 1) m i V = itW T n k b f (m + 2 ^ q) (nmE T n (j + 1)) (upd V (b + q) (nmV T n (j + 1))) := by
  subst hj
  have e : (itK k (T (sB T n i))).toNatClampNeg = q := by rw [h, nI_clamp (show q < 2 ^ 31 by omega)]
  have hn : ¬ itK k (T (sB T n i)) = -1 := by rw [h]; exact m1_ne (by omega)
  have hc : sB T n i < n ∧ ¬ itK k (T (sB T n i)) = -1 ∧ m / 2 ^ (itK k (T (sB T n i))).toNatClampNeg % 2 = 0 := ⟨h1, hn, by rw [e]; exact hm⟩
  have hw2 : nmF T n (sB T n i + 1) (loK k (itK k (T (sB T n i))).toNatClampNeg) (hiK k (itK k (T (sB T n i))).toNatClampNeg) = -1 := by rw [e]; exact hw
  rw [itW_y (b := b) (f := f) (V := V) hc hw2, e]
theorem iw_m {T : Nat → Int32} {n k b f m i j : Nat} {V : Nat → Int32} {y : Int32} (hj : j = sB T n i) (he : (if j < n then T j else (-1 : Int32)) = y) (h : itK k y = -1) : itW T n k b (f + 1) m i V = V := by
  by_cases q : j < n
  · rw [if_pos q] at he
    exact itW_no hj (by rw [he]; exact h)
  · exact itW_end hj q
theorem itW_rel {T : Nat → Int32} {n k a b : Nat} : ∀ (f m i : Nat) (F V : Nat → Int32), (∀ q, q < 3 → F (a + q) = V (b + q)) → ∀ q, q < 3 → itW T n k a f m i F (a + q) = itW T n k b f m i V (b + q)
  | 0, _, _, _, _, h => h
  | f + 1, m, i, F, V, h => by
    by_cases hc : sB T n i < n ∧ ¬ itK k (T (sB T n i)) = -1 ∧ m / 2 ^ (itK k (T (sB T n i))).toNatClampNeg % 2 = 0
    · by_cases hw : nmF T n (sB T n i + 1) (loK k (itK k (T (sB T n i))).toNatClampNeg) (hiK k (itK k (T (sB T n i))).toNatClampNeg) = -1
      · rw [itW_y (b := a) (V := F) hc hw, itW_y (b := b) (V := V) hc hw]
        refine itW_rel f _ _ _ _ (fun q hq => ?_)
        have h3 := itK_q hc.2.1
        by_cases e : q = (itK k (T (sB T n i))).toNatClampNeg
        · rw [e, pk_us, pk_us]
        · rw [pk_un (show a + q ≠ a + (itK k (T (sB T n i))).toNatClampNeg by omega), pk_un (show b + q ≠ b + (itK k (T (sB T n i))).toNatClampNeg by omega)]
          exact h q hq
      · rw [itW_n2 (b := a) (V := F) hc hw, itW_n2 (b := b) (V := V) hc hw]
        exact h
    · rw [itW_n1 (b := a) (V := F) hc, itW_n1 (b := b) (V := V) hc]
      exact h
theorem itW_out {T : Nat → Int32} {n k b j : Nat} (hj : j < b ∨ b + 3 ≤ j) : ∀ (f m i : Nat) (V : Nat → Int32), itW T n k b f m i V j = V j
  | 0, _, _, _ => rfl
  | f + 1, m, i, V => by
    by_cases hc : sB T n i < n ∧ ¬ itK k (T (sB T n i)) = -1 ∧ m / 2 ^ (itK k (T (sB T n i))).toNatClampNeg % 2 = 0
    · by_cases hw : nmF T n (sB T n i + 1) (loK k (itK k (T (sB T n i))).toNatClampNeg) (hiK k (itK k (T (sB T n i))).toNatClampNeg) = -1
      · have h3 := itK_q hc.2.1
        rw [itW_y hc hw, itW_out hj f, pk_un (show j ≠ b + (itK k (T (sB T n i))).toNatClampNeg by omega)]
      · rw [itW_n2 hc hw]
    · rw [itW_n1 hc]
/-- the values behind a clause -/
def clW (T : Nat → Int32) (n i : Nat) (zf : Int32) (h ct : Nat) (V : Nat → Int32) : Nat → Int32 := if (hdR T n i zf h ct).1 = -1 then V else itW T n (kdN (hdR T n i zf h ct).1.toNatClampNeg) (3 * (hdR T n i zf h ct).1.toNatClampNeg) 4 0 (sB T n i + 1) V
theorem clW_cl {T : Nat → Int32} {n i cl : Nat} {zf : Int32} {h ct h2 c2 : Nat} {V : Nat → Int32} (e : hdR T n i zf h ct = (nI cl, h2, c2)) (hc : cl < 7) : clW T n i zf h ct V = itW T n (kdN cl) (3 * cl) 4 0 (sB T n i + 1) V := by
  have e1 : (hdR T n i zf h ct).1 = nI cl := by rw [e]
  unfold clW
  rw [e1, if_neg (m1_ne (show cl < 2 ^ 31 by omega)), nI_clamp (show cl < 2 ^ 31 by omega)]
/-- HOPS told and the values of the whole text -/
def rdW (T : Nat → Int32) (n : Nat) : Nat → Int32 → Nat → Nat → Nat → (Nat → Int32) → Nat × (Nat → Int32)
  | 0, _, _, h, _, V => (h, V)
  | f + 1, zf, i, h, ct, V =>
    if (clF T n i zf h ct).1 = -1 then
      (if (clF T n i zf h ct).2.1 < n then rdW T n f 0 ((clF T n i zf h ct).2.1 + 1) (clF T n i zf h ct).2.2.1 (clF T n i zf h ct).2.2.2 (clW T n i zf h ct V) else ((clF T n i zf h ct).2.2.1, clW T n i zf h ct V))
    else (h, V)
theorem rdW_end {T : Nat → Int32} {n f i h ct h2 c2 j : Nat} {zf : Int32} {V : Nat → Int32} (e1 : (-1 : Int32) = (clF T n i zf h ct).1) (e2 : (h2, c2) = (clF T n i zf h ct).2.2) (e3 : j = (clF T n i zf h ct).2.1) (hj : ¬ j < n) : rdW T n (f + 1) zf i h ct V = (h2, clW T n i zf h ct V) := by
  show (if (clF T n i zf h ct).1 = -1 then _ else _) = _
  rw [← e1, if_pos rfl, ← e3, if_neg hj, ← e2]
theorem rdW_go {T : Nat → Int32} {n f i h ct h2 c2 j : Nat} {zf : Int32} {V : Nat → Int32} (e1 : (-1 : Int32) = (clF T n i zf h ct).1) (e2 : (h2, c2) = (clF T n i zf h ct).2.2) (e3 : j = (clF T n i zf h ct).2.1) (hj : j < n) : rdW T n (f + 1) zf i h ct V = rdW T n f 0 (j + 1) h2 c2 (clW T n i zf h ct V) := by
  show (if (clF T n i zf h ct).1 = -1 then _ else _) = _
  rw [← e1, if_pos rfl, ← e3, if_pos hj, ← e2]
def usK (k q : Nat) : Int32 := if k = 0 then (if q = 0 then 1 else 0) else if k = 1 then (if q = 1 then 12 else 1) else (if q = 1 then 0 else 1)
def us21 (i : Nat) : Int32 := usK (kdN (i / 3)) (i % 3)
/-- HOPS told and the values, of a TAPE -/
def rdWV (T : Nat → Int32) (n : Nat) : Nat × (Nat → Int32) := rdW T n (n + 1) 1 0 0 0 us21
def V21 (F V : Nat → Int32) : Prop := ∀ i, i < 21 → F i = V i
theorem itW_21 {T : Nat → Int32} {n k cl f m i : Nat} {F V : Nat → Int32} (hc : cl < 7) (h : V21 F V) : V21 (itW T n k (3 * cl) f m i F) (itW T n k (3 * cl) f m i V) := fun j hj => by
  by_cases q : 3 * cl ≤ j ∧ j < 3 * cl + 3
  · have e := itW_rel (T := T) (n := n) (k := k) (a := 3 * cl) (b := 3 * cl) f m i F V (fun q hq => h _ (by omega)) (j - 3 * cl) (by omega)
    rw [show 3 * cl + (j - 3 * cl) = j by omega] at e
    exact e
  · rw [itW_out (by omega) f m i F, itW_out (by omega) f m i V]
    exact h j hj
theorem clW_21 {T : Nat → Int32} {n i : Nat} {zf : Int32} {h ct : Nat} {F V : Nat → Int32} (hh : h ≤ 3) (hc : ct ≤ 3) (hV : V21 F V) : V21 (clW T n i zf h ct F) (clW T n i zf h ct V) := by
  rcases hdR_7 (T := T) (n := n) (i := i) (zf := zf) hh hc with e | ⟨cl, hcl, e⟩
  · unfold clW
    rw [if_pos e, if_pos e]
    exact hV
  · have hn : ¬ (hdR T n i zf h ct).1 = -1 := by rw [e]; exact m1_ne (by omega)
    unfold clW
    rw [if_neg hn, if_neg hn, e, nI_clamp (show cl < 2 ^ 31 by omega)]
    exact itW_21 hcl hV
theorem clO_3 {c zf : Int32} {h ct : Nat} (hh : h ≤ 3) (hc : ct ≤ 3) : (clO c zf h ct).2.1 ≤ 3 ∧ (clO c zf h ct).2.2 ≤ 3 := by
  unfold clO
  split
  · exact ⟨hh, hc⟩
  · split
    · rename_i q1 q2
      exact ⟨q2.2, hc⟩
    · split
      · rename_i q1 q2 q3
        exact ⟨hh, q3.2⟩
      · exact ⟨hh, hc⟩
theorem hdR_3 {T : Nat → Int32} {n i : Nat} {zf : Int32} {h ct : Nat} (hh : h ≤ 3) (hc : ct ≤ 3) : (hdR T n i zf h ct).2.1 ≤ 3 ∧ (hdR T n i zf h ct).2.2 ≤ 3 := by
  unfold hdR
  split
  · exact clO_3 hh hc
  · exact ⟨hh, hc⟩
theorem clF_22 {T : Nat → Int32} {n i : Nat} {zf : Int32} {h ct : Nat} : (clF T n i zf h ct).2.2 = (hdR T n i zf h ct).2 := by
  unfold clF
  split
  · rfl
  · split
    · split
      · rfl
      · rfl
    · rfl
theorem rdW_21 {T : Nat → Int32} {n : Nat} : ∀ (f : Nat) (zf : Int32) (i h ct : Nat) (F V : Nat → Int32), h ≤ 3 → ct ≤ 3 → V21 F V → (rdW T n f zf i h ct F).1 = (rdW T n f zf i h ct V).1 ∧ V21 (rdW T n f zf i h ct F).2 (rdW T n f zf i h ct V).2
  | 0, _, _, _, _, _, _, _, _, hV => ⟨rfl, hV⟩
  | f + 1, zf, i, h, ct, F, V, hh, hc, hV => by
    have h3 := hdR_3 (T := T) (n := n) (i := i) (zf := zf) hh hc
    rw [← clF_22] at h3
    by_cases q : (-1 : Int32) = (clF T n i zf h ct).1
    · by_cases q2 : (clF T n i zf h ct).2.1 < n
      · rw [rdW_go (V := F) (h2 := (clF T n i zf h ct).2.2.1) (c2 := (clF T n i zf h ct).2.2.2) (j := (clF T n i zf h ct).2.1) q rfl rfl q2, rdW_go (V := V) (h2 := (clF T n i zf h ct).2.2.1) (c2 := (clF T n i zf h ct).2.2.2) (j := (clF T n i zf h ct).2.1) q rfl rfl q2]
        exact rdW_21 f 0 _ _ _ _ _ h3.1 h3.2 (clW_21 hh hc hV)
      · rw [rdW_end (V := F) (h2 := (clF T n i zf h ct).2.2.1) (c2 := (clF T n i zf h ct).2.2.2) (j := (clF T n i zf h ct).2.1) q rfl rfl q2, rdW_end (V := V) (h2 := (clF T n i zf h ct).2.2.1) (c2 := (clF T n i zf h ct).2.2.2) (j := (clF T n i zf h ct).2.1) q rfl rfl q2]
        exact ⟨rfl, clW_21 hh hc hV⟩
    · have e : ∀ W : Nat → Int32, rdW T n (f + 1) zf i h ct W = (h, W) := fun W => if_neg (fun z => q z.symm)
      rw [e F, e V]
      exact ⟨rfl, hV⟩
/-! the class's text: how its values go on from clause to clause -/
theorem rw_go {T : Nat → Int32} {n c i h ct h2 c2 j : Nat} {zf : Int32} {F : Nat → Int32} {W : Nat × (Nat → Int32)} (h3 : rdW T n (n + 1 - c) zf i h ct F = W) (hc : c ≤ n) (e1 : (-1 : Int32) = (clF T n i zf h ct).1) (e2 : (h2, c2) = (clF T n i zf h ct).2.2) (e3 : j = (clF T n i zf h ct).2.1) (hj : j < n) : rdW T n (n + 1 - (c + 1)) (if c + 1 = 0 then 1 else 0) (j + 1) h2 c2 (clW T n i zf h ct F) = W := by
  rw [if_neg (Nat.succ_ne_zero c), show n + 1 - (c + 1) = n - c by omega, ← rdW_go (f := n - c) e1 e2 e3 hj, ← show n + 1 - c = n - c + 1 by omega]
  exact h3
theorem rw_end {T : Nat → Int32} {n c i h ct h2 c2 j : Nat} {zf : Int32} {F : Nat → Int32} {W : Nat × (Nat → Int32)} (h3 : rdW T n (n + 1 - c) zf i h ct F = W) (hc : c ≤ n) (e1 : (-1 : Int32) = (clF T n i zf h ct).1) (e2 : (h2, c2) = (clF T n i zf h ct).2.2) (e3 : j = (clF T n i zf h ct).2.1) (hj : ¬ j < n) : (h2, clW T n i zf h ct F) = W := by
  rw [← h3, show n + 1 - c = n - c + 1 by omega, rdW_end (f := n - c) e1 e2 e3 hj]
theorem rw_fin {T : Nat → Int32} {n h : Nat} {F F0 : Nat → Int32} (h0 : V21 F0 us21) (e : (h, F) = rdW T n (n + 1) 1 0 0 0 F0) : h = (rdWV T n).1 ∧ V21 F (rdWV T n).2 := by
  have h1 := rdW_21 (T := T) (n := n) (n + 1) 1 0 0 0 F0 us21 (by omega) (by omega) h0
  rw [← e] at h1
  exact h1
/-! the reference's rows beside those values -/
def us3 (k b : Nat) (F : Nat → Int32) : Nat → Int32 := upd (upd (upd F (b + 0) (usK k 0)) (b + 1) (usK k 1)) (b + 2) (usK k 2)
theorem us3_in {k b q : Nat} {F : Nat → Int32} (hq : q < 3) : us3 k b F (b + q) = usK k q := by
  unfold us3
  rcases (show q = 0 ∨ q = 1 ∨ q = 2 by omega) with rfl | rfl | rfl
  · rw [pk_un (show b + 0 ≠ b + 2 by omega), pk_un (show b + 0 ≠ b + 1 by omega), pk_us]
  · rw [pk_un (show b + 1 ≠ b + 2 by omega), pk_us]
  · rw [pk_us]
theorem us3_0 {k : Nat} {F F2 : Nat → Int32} (e : F2 = us3 k 0 F) : ∀ q, q < 3 → F2 q = usK k q := fun q hq => by
  have h := us3_in (k := k) (b := 0) (F := F) hq
  rw [show 0 + q = q by omega] at h
  rw [e]
  exact h
theorem us3_out {k b j : Nat} {F : Nat → Int32} (hj : j < b ∨ b + 3 ≤ j) : us3 k b F j = F j := by
  unfold us3
  rw [pk_un (show j ≠ b + 2 by omega), pk_un (show j ≠ b + 1 by omega), pk_un (show j ≠ b + 0 by omega)]
def rlW (fr fh fc : Nat → Int32) (h ct : Nat) (V : Nat → Int32) : Prop := (∀ q, q < 3 → fr q = V q) ∧ (∀ j, j < h → ∀ q, q < 3 → fh (3 * j + q) = V (3 * (j + 1) + q)) ∧ (∀ j, j < ct → ∀ q, q < 3 → fc (3 * j + q) = V (3 * (3 + (j + 1)) + q)) ∧ (∀ j, h ≤ j → j < 3 → ∀ q, q < 3 → V (3 * (j + 1) + q) = usK 1 q) ∧ (∀ j, ct ≤ j → j < 3 → ∀ q, q < 3 → V (3 * (3 + (j + 1)) + q) = usK 2 q)
theorem us21_k {c q : Nat} (hq : q < 3) : us21 (3 * c + q) = usK (kdN c) q := by
  unfold us21
  rw [show (3 * c + q) / 3 = c by omega, show (3 * c + q) % 3 = q by omega]
theorem rlW_0 {fr fh fc : Nat → Int32} (h : ∀ q, q < 3 → fr q = usK 0 q) : rlW fr fh fc 0 0 us21 := by
  refine ⟨fun q hq => ?_, fun j hj => absurd hj (Nat.not_lt_zero j), fun j hj => absurd hj (Nat.not_lt_zero j), fun j _ hj q hq => ?_, fun j _ hj q hq => ?_⟩
  · have e := us21_k (c := 0) hq
    rw [show 3 * 0 + q = q by omega] at e
    exact (h q hq).trans e.symm
  · rw [us21_k hq, kdN_h hj]
  · rw [us21_k hq, kdN_c hj]
/-- what a clause leaves in the reference's rows -/
def cqW (T : Nat → Int32) (n i : Nat) (zf : Int32) (h ct : Nat) (fr fh fc fr2 fh2 fc2 : Nat → Int32) : Prop :=
  (hdR T n i zf h ct = (nI 0, h, ct) ∧ ¬ zf = 0 ∧ fr2 = itW T n 0 0 4 0 (sB T n i + 1) (us3 0 0 fr) ∧ fh2 = fh ∧ fc2 = fc)
  ∨ (h < 3 ∧ hdR T n i zf h ct = (nI (h + 1), h + 1, ct) ∧ fr2 = fr ∧ fh2 = itW T n 1 (3 * h) 4 0 (sB T n i + 1) (us3 1 (3 * h) fh) ∧ fc2 = fc)
  ∨ (ct < 3 ∧ hdR T n i zf h ct = (nI (3 + (ct + 1)), h, ct + 1) ∧ fr2 = fr ∧ fh2 = fh ∧ fc2 = itW T n 2 (3 * ct) 4 0 (sB T n i + 1) (us3 2 (3 * ct) fc))
theorem rlW_step {T : Nat → Int32} {n i : Nat} {zf : Int32} {h ct h2 c2 : Nat} {fr fh fc fr2 fh2 fc2 V : Nat → Int32} (hh3 : h ≤ 3) (hR : rlW fr fh fc h ct V) (hz : ¬ zf = 0 → ∀ q, q < 3 → V q = usK 0 q) (hC : cqW T n i zf h ct fr fh fc fr2 fh2 fc2) (e2 : (h2, c2) = (clF T n i zf h ct).2.2) : rlW fr2 fh2 fc2 h2 c2 (clW T n i zf h ct V) := by
  obtain ⟨r0, r1, r2, r3, r4⟩ := hR
  rw [clF_22] at e2
  rcases hC with ⟨e, z, rfl, rfl, rfl⟩ | ⟨hh, e, rfl, rfl, rfl⟩ | ⟨hh, e, rfl, rfl, rfl⟩
  · rw [e] at e2
    obtain ⟨rfl, rfl⟩ := Prod.mk.inj e2
    rw [clW_cl e (by omega)]
    refine ⟨fun q hq => ?_, fun j hj q hq => ?_, fun j hj q hq => ?_, fun j hj hj3 q hq => ?_, fun j hj hj3 q hq => ?_⟩
    · have h1 := itW_rel (T := T) (n := n) (k := 0) (a := 0) (b := 3 * 0) 4 0 (sB T n i + 1) (us3 0 0 fr) V (fun q hq => by rw [us3_in hq, show 3 * 0 + q = q by omega, hz z q hq]) q hq
      have e1 : 0 + q = q := by omega
      have e2 : 3 * 0 + q = q := by omega
      first
        | (rw [e1, e2] at h1; exact h1)
        | (rw [e1] at h1; exact h1)
    · rw [itW_out (by omega) 4 0 (sB T n i + 1) V]
      exact r1 j hj q hq
    · rw [itW_out (by omega) 4 0 (sB T n i + 1) V]
      exact r2 j hj q hq
    · rw [itW_out (by omega) 4 0 (sB T n i + 1) V]
      exact r3 j hj hj3 q hq
    · rw [itW_out (by omega) 4 0 (sB T n i + 1) V]
      exact r4 j hj hj3 q hq
  · rw [e] at e2
    obtain ⟨rfl, rfl⟩ := Prod.mk.inj e2
    rw [clW_cl e (by omega), kdN_h hh]
    refine ⟨fun q hq => ?_, fun j hj q hq => ?_, fun j hj q hq => ?_, fun j hj hj3 q hq => ?_, fun j hj hj3 q hq => ?_⟩
    · rw [itW_out (by omega) 4 0 (sB T n i + 1) V]
      exact r0 q hq
    · by_cases ej : j = h
      · rw [ej]
        exact itW_rel (T := T) (n := n) (k := 1) (a := 3 * h) (b := 3 * (h + 1)) 4 0 (sB T n i + 1) (us3 1 (3 * h) fh) V (fun q hq => by rw [us3_in hq, r3 h (Nat.le_refl h) hh q hq]) q hq
      · rw [itW_out (by omega) 4 0 (sB T n i + 1) V, itW_out (by omega) 4 0 (sB T n i + 1) (us3 1 (3 * h) fh), us3_out (by omega)]
        exact r1 j (by omega) q hq
    · rw [itW_out (by omega) 4 0 (sB T n i + 1) V]
      exact r2 j hj q hq
    · rw [itW_out (by omega) 4 0 (sB T n i + 1) V]
      exact r3 j (by omega) hj3 q hq
    · rw [itW_out (by omega) 4 0 (sB T n i + 1) V]
      exact r4 j hj hj3 q hq
  · rw [e] at e2
    obtain ⟨rfl, rfl⟩ := Prod.mk.inj e2
    rw [clW_cl e (by omega), kdN_c hh]
    refine ⟨fun q hq => ?_, fun j hj q hq => ?_, fun j hj q hq => ?_, fun j hj hj3 q hq => ?_, fun j hj hj3 q hq => ?_⟩
    · rw [itW_out (by omega) 4 0 (sB T n i + 1) V]
      exact r0 q hq
    · rw [itW_out (by omega) 4 0 (sB T n i + 1) V]
      exact r1 j hj q hq
    · by_cases ej : j = ct
      · rw [ej]
        exact itW_rel (T := T) (n := n) (k := 2) (a := 3 * ct) (b := 3 * (3 + (ct + 1))) 4 0 (sB T n i + 1) (us3 2 (3 * ct) fc) V (fun q hq => by rw [us3_in hq, r4 ct (Nat.le_refl ct) hh q hq]) q hq
      · rw [itW_out (by omega) 4 0 (sB T n i + 1) V, itW_out (by omega) 4 0 (sB T n i + 1) (us3 2 (3 * ct) fc), us3_out (by omega)]
        exact r2 j (by omega) q hq
    · rw [itW_out (by omega) 4 0 (sB T n i + 1) V]
      exact r3 j hj hj3 q hq
    · rw [itW_out (by omega) 4 0 (sB T n i + 1) V]
      exact r4 j (by omega) hj3 q hq
/-- the reference's loop over the clauses: its rows go with the values -/
def rnW (T : Nat → Int32) (n mo : Nat) (z : Int32) (i h ct : Nat) (fr fh fc : Nat → Int32) : Prop := ¬ mo = 0 → ∃ (f : Nat) (V : Nat → Int32), n + 1 ≤ f + i ∧ rlW fr fh fc h ct V ∧ (¬ z = 0 → ∀ q, q < 3 → V q = usK 0 q) ∧ rdW T n f z i h ct V = rdWV T n
theorem rnW_0 {T : Nat → Int32} {n mo : Nat} {fr fh fc : Nat → Int32} (h : ∀ q, q < 3 → fr q = usK 0 q) : rnW T n mo 1 0 0 0 fr fh fc := fun _ => ⟨n + 1, us21, Nat.le_refl _, rlW_0 h, fun _ q hq => by
  have e := us21_k (c := 0) hq
  rw [show 3 * 0 + q = q by omega] at e
  exact e, rfl⟩
theorem rnW_no {T : Nat → Int32} {n : Nat} {z : Int32} {i h ct : Nat} {fr fh fc : Nat → Int32} : rnW T n 0 z i h ct fr fh fc := fun q => absurd rfl q
/-- a clause that ends in ; -/
theorem rnW_59 {T : Nat → Int32} {n mo mo2 i h ct h2 c2 cl m j : Nat} {zf : Int32} {fr fh fc fr2 fh2 fc2 : Nat → Int32} (hh3 : h ≤ 3) (hW : rnW T n mo zf i h ct fr fh fc) (hmo : ¬ mo = 0) (hi : i ≤ n) (e : hdR T n i zf h ct = (nI cl, h2, c2)) (hc : cl < 7) (hw : (-1 : Int32) = (itR T n (kdN cl) 4 0 (sB T n i + 1)).1) (hm : m = (itR T n (kdN cl) 4 0 (sB T n i + 1)).2 ∧ i < m) (hC : cqW T n i zf h ct fr fh fc fr2 fh2 fc2) (hj : j = sB T n m) (q1 : j < n) (q2 : T j = 59) : rnW T n mo2 0 (j + 1) h2 c2 fr2 fh2 fc2 := by
  obtain ⟨f, V, h1, hR, hz, hV⟩ := hW hmo
  obtain ⟨g, rfl⟩ : ∃ g, f = g + 1 := ⟨f - 1, by omega⟩
  have hjm : j = m := by rw [hj, hm.1, itR_sB]
  subst hjm
  have hR2 : itR T n (kdN cl) 4 0 (sB T n i + 1) = (-1, j) := Prod.ext hw.symm hm.1.symm
  obtain ⟨k1, k2, k3⟩ := cl_end e hc hR2 (fun q => q.2 q2)
  refine fun _ => ⟨g, clW T n i zf h ct V, by have := hm.2; omega, rlW_step hh3 hR hz hC k2, fun q => absurd rfl q, ?_⟩
  rw [← hV, rdW_go k1 k2 k3 q1]
/-- the last clause -/
theorem rnW_end {T : Nat → Int32} {n mo i h ct h2 c2 cl m j : Nat} {zf : Int32} {fr fh fc fr2 fh2 fc2 : Nat → Int32} (hh3 : h ≤ 3) (hW : rnW T n mo zf i h ct fr fh fc) (hmo : ¬ mo = 0) (hi : i ≤ n) (e : hdR T n i zf h ct = (nI cl, h2, c2)) (hc : cl < 7) (hw : (-1 : Int32) = (itR T n (kdN cl) 4 0 (sB T n i + 1)).1) (hm : m = (itR T n (kdN cl) 4 0 (sB T n i + 1)).2 ∧ i < m) (hC : cqW T n i zf h ct fr fh fc fr2 fh2 fc2) (hj : j = sB T n m) (q : ¬ j < n) : h2 = (rdWV T n).1 ∧ rlW fr2 fh2 fc2 h2 c2 (rdWV T n).2 := by
  obtain ⟨f, V, h1, hR, hz, hV⟩ := hW hmo
  obtain ⟨g, rfl⟩ : ∃ g, f = g + 1 := ⟨f - 1, by omega⟩
  have hjm : j = m := by rw [hj, hm.1, itR_sB]
  subst hjm
  have hR2 : itR T n (kdN cl) 4 0 (sB T n i + 1) = (-1, j) := Prod.ext hw.symm hm.1.symm
  obtain ⟨k1, k2, k3⟩ := cl_end e hc hR2 (fun z => q z.1)
  have h5 := rdW_end (f := g) (V := V) k1 k2 k3 q
  rw [hV] at h5
  rw [h5]
  exact ⟨rfl, rlW_step hh3 hR hz hC k2⟩
theorem v21_of {F V : Nat → Int32} (h0 : F 0 = V 0) (h1 : F 1 = V 1) (h2 : F 2 = V 2) (h3 : F 3 = V 3) (h4 : F 4 = V 4) (h5 : F 5 = V 5) (h6 : F 6 = V 6) (h7 : F 7 = V 7) (h8 : F 8 = V 8) (h9 : F 9 = V 9) (h10 : F 10 = V 10) (h11 : F 11 = V 11) (h12 : F 12 = V 12) (h13 : F 13 = V 13) (h14 : F 14 = V 14) (h15 : F 15 = V 15) (h16 : F 16 = V 16) (h17 : F 17 = V 17) (h18 : F 18 = V 18) (h19 : F 19 = V 19) (h20 : F 20 = V 20) : V21 F V := fun i hi => match i, hi with
  | 0, _ => h0
  | 1, _ => h1
  | 2, _ => h2
  | 3, _ => h3
  | 4, _ => h4
  | 5, _ => h5
  | 6, _ => h6
  | 7, _ => h7
  | 8, _ => h8
  | 9, _ => h9
  | 10, _ => h10
  | 11, _ => h11
  | 12, _ => h12
  | 13, _ => h13
  | 14, _ => h14
  | 15, _ => h15
  | 16, _ => h16
  | 17, _ => h17
  | 18, _ => h18
  | 19, _ => h19
  | 20, _ => h20
  | n + 21, h => absurd h (by omega)
/-- GAP, START, TAKES of the CIRCUITS that there are -/
def flW (V q0 q1 q2 : Nat → Int32) (cc : Nat) : Prop := ∀ k, k < 3 → (0 < cc → q0 k = V (12 + k)) ∧ (1 < cc → q1 k = V (15 + k)) ∧ (2 < cc → q2 k = V (18 + k))
theorem fl_0 {V q0 q1 q2 : Nat → Int32} : flW V q0 q1 q2 0 := fun _ _ => ⟨fun h => absurd h (by omega), fun h => absurd h (by omega), fun h => absurd h (by omega)⟩
theorem k3_of {P : Nat → Prop} (h0 : P 0) (h1 : P 1) (h2 : P 2) : ∀ k, k < 3 → P k := fun k hk => match k, hk with
  | 0, _ => h0
  | 1, _ => h1
  | 2, _ => h2
  | n + 3, h => absurd h (by omega)
theorem fl_s0 {V q0 q1 q2 : Nat → Int32} (h0 : q0 0 = V 12) (h1 : q0 1 = V 13) (h2 : q0 2 = V 14) : flW V q0 q1 q2 1 := k3_of ⟨fun _ => h0, fun h => absurd h (by omega), fun h => absurd h (by omega)⟩ ⟨fun _ => h1, fun h => absurd h (by omega), fun h => absurd h (by omega)⟩ ⟨fun _ => h2, fun h => absurd h (by omega), fun h => absurd h (by omega)⟩
theorem fl_s1 {V q0 q1 q2 w1 : Nat → Int32} (h : flW V q0 w1 q2 1) (h0 : q1 0 = V 15) (h1 : q1 1 = V 16) (h2 : q1 2 = V 17) : flW V q0 q1 q2 2 := k3_of ⟨fun _ => (h 0 (by omega)).1 (by omega), fun _ => h0, fun h => absurd h (by omega)⟩ ⟨fun _ => (h 1 (by omega)).1 (by omega), fun _ => h1, fun h => absurd h (by omega)⟩ ⟨fun _ => (h 2 (by omega)).1 (by omega), fun _ => h2, fun h => absurd h (by omega)⟩
theorem fl_s2 {V q0 q1 q2 w2 : Nat → Int32} (h : flW V q0 q1 w2 2) (h0 : q2 0 = V 18) (h1 : q2 1 = V 19) (h2 : q2 2 = V 20) : flW V q0 q1 q2 3 := k3_of ⟨fun _ => (h 0 (by omega)).1 (by omega), fun _ => (h 0 (by omega)).2.1 (by omega), fun _ => h0⟩ ⟨fun _ => (h 1 (by omega)).1 (by omega), fun _ => (h 1 (by omega)).2.1 (by omega), fun _ => h1⟩ ⟨fun _ => (h 2 (by omega)).1 (by omega), fun _ => (h 2 (by omega)).2.1 (by omega), fun _ => h2⟩
theorem fl_eq {V q0 q1 q2 : Nat → Int32} {i c : Nat} (h : flW V q0 q1 q2 i) (e : i = c) : flW V q0 q1 q2 c := e ▸ h
theorem fl_V {F V q0 q1 q2 : Nat → Int32} {c : Nat} (h : flW F q0 q1 q2 c) (hV : V21 F V) : flW V q0 q1 q2 c := fun k hk => ⟨fun z => ((h k hk).1 z).trans (hV _ (by omega)), fun z => ((h k hk).2.1 z).trans (hV _ (by omega)), fun z => ((h k hk).2.2 z).trans (hV _ (by omega))⟩
/-- the class's NET as a text that is in order lays it -/
def ntW (T : Nat → Int32) (n : Nat) (ld : Int32) (fn q0 q1 q2 : Nat → Int32) : Prop := ld = 1 ∧ fn 0 = nI (mx1 (rdWV T n).1) ∧ fn 1 = nI (mx1 (rdV T n).2) ∧ fn 2 = (rdWV T n).2 0 ∧ fn 3 = (rdWV T n).2 1 ∧ fn 4 = (rdWV T n).2 2 ∧ fn 5 = 0 ∧ flW (rdWV T n).2 q0 q1 q2 (mx1 (rdV T n).2)
theorem nw_i {T : Nat → Int32} {n h ct hp cc : Nat} {w z2 z3 z4 : Int32} {F fn q0 q1 q2 : Nat → Int32} (hV : h = (rdWV T n).1 ∧ V21 F (rdWV T n).2) (hc : (w, ct) = rdV T n) (e0 : hp = mx1 h) (e1 : cc = mx1 ct) (e2 : z2 = F 0) (e3 : z3 = F 1) (e4 : z4 = F 2) (hf : flW F q0 q1 q2 cc) (k0 : fn 0 = nI hp) (k1 : fn 1 = nI cc) (k2 : fn 2 = z2) (k3 : fn 3 = z3) (k4 : fn 4 = z4) (k5 : fn 5 = 0) : ntW T n 1 fn q0 q1 q2 := by
  obtain ⟨hh, hV⟩ := hV
  have hct : ct = (rdV T n).2 := congrArg Prod.snd hc
  refine ⟨rfl, ?_, ?_, ?_, ?_, ?_, k5, ?_⟩
  · rw [k0, e0, hh]
  · rw [k1, e1, hct]
  · rw [k2, e2, hV 0 (by omega)]
  · rw [k3, e3, hV 1 (by omega)]
  · rw [k4, e4, hV 2 (by omega)]
  · rw [← hct, ← e1]
    exact fl_V hf hV
/-! the reference's NET as a text that is in order lays it -/
def gA (c : Nat) (F R : Nat → Int32) : Prop := ∀ j, j < c → ∀ q, q < 3 → F (201 + 9 * j + q) = R (3 * j + q)
def gB (c k : Nat) (F R : Nat → Int32) : Prop := ∀ q, q < k → F (201 + 9 * c + q) = R (3 * c + q)
theorem gA_0 {F R : Nat → Int32} : gA 0 F R := fun j hj => absurd hj (Nat.not_lt_zero j)
theorem gB_0 {c : Nat} {F R : Nat → Int32} : gB c 0 F R := fun q hq => absurd hq (Nat.not_lt_zero q)
theorem gA_s {c k : Nat} {x : Int32} {F R : Nat → Int32} (h : gA c F R) (hk : k < 3) : gA c (upd F (201 + 9 * c + k) x) R := fun j hj q hq => by
  rw [pk_un (show 201 + 9 * j + q ≠ 201 + 9 * c + k by omega)]
  exact h j hj q hq
theorem gB_s {c k : Nat} {x : Int32} {F R : Nat → Int32} (h : gB c k F R) (e : R (3 * c + k) = x) : gB c (k + 1) (upd F (201 + 9 * c + k) x) R := fun q hq => by
  by_cases z : q = k
  · rw [z, pk_us, e]
  · rw [pk_un (show 201 + 9 * c + q ≠ 201 + 9 * c + k by omega)]
    exact h q (by omega)
theorem gA_n {c k : Nat} {x : Int32} {F R : Nat → Int32} (h : gA c F R) (hB : gB c k F R) (hk : 3 ≤ k) : gA (c + 1) (upd F (201 + 9 * c + 6) x) R := fun j hj q hq => by
  rw [pk_un (show 201 + 9 * j + q ≠ 201 + 9 * c + 6 by omega)]
  by_cases z : j = c
  · rw [z]
    exact hB q (by omega)
  · exact h j (by omega) q hq
theorem gA_f {c i : Nat} {F R : Nat → Int32} (h : gA i F R) (hc : c ≤ i) : gA c F R := fun j hj q hq => h j (by omega) q hq
theorem ag_s {k : Nat} {x : Int32} {R F : Nat → Int32} (h : agr k R F) (e : R k = x) : agr (k + 1) R (upd F k x) := fun j hj => by
  by_cases z : j = k
  · rw [z, pk_us, e]
  · rw [pk_un z]
    exact h j (by omega)
theorem ag_f {k : Nat} {R F : Nat → Int32} (h : agr k R F) (hk : 3 ≤ k) : ∀ q, q < 3 → F q = R q := fun q hq => h q (by omega)
def ntM (T : Nat → Int32) (n : Nat) (fm fo : Nat → Int32) (hp cc : Nat) : Prop := hp = mx1 (rdWV T n).1 ∧ cc = mx1 (rdV T n).2 ∧ (∀ q, q < 3 → fm q = (rdWV T n).2 q) ∧ (∀ j, j < cc → ∀ q, q < 3 → fo (201 + 9 * j + q) = (rdWV T n).2 (3 * (3 + (j + 1)) + q))
theorem nk_c {T fr fh fc fm fo : Nat → Int32} {n h c hp cc : Nat} {w : Int32} (hV : h = (rdWV T n).1 ∧ rlW fr fh fc h c (rdWV T n).2) (hrd : (w, c) = rdV T n) (e0 : hp = mx1 h) (e1 : cc = mx1 c) (hc : ¬ c = 0) (hr : ∀ q, q < 3 → fm q = fr q) (hA : gA cc fo fc) : ntM T n fm fo hp cc := by
  obtain ⟨hh, r0, r1, r2, r3, r4⟩ := hV
  have hct : c = (rdV T n).2 := congrArg Prod.snd hrd
  refine ⟨e0.trans (congrArg mx1 hh), e1.trans (congrArg mx1 hct), fun q hq => (hr q hq).trans (r0 q hq), fun j hj q hq => ?_⟩
  have hj2 : j < c := by
    rw [e1, mx1_s hc] at hj
    exact hj
  exact (hA j hj q hq).trans (r2 j hj2 q hq)
theorem nk_0 {T fr fh fc fc2 fm fo : Nat → Int32} {n h c hp cc : Nat} {w : Int32} (hV : h = (rdWV T n).1 ∧ rlW fr fh fc h c (rdWV T n).2) (hrd : (w, c) = rdV T n) (e0 : hp = mx1 h) (e1 : cc = mx1 c) (hu : fc2 = us3 2 0 fc) (hc : c = 0) (hr : ∀ q, q < 3 → fm q = fr q) (hA : gA cc fo fc2) : ntM T n fm fo hp cc := by
  obtain ⟨hh, r0, r1, r2, r3, r4⟩ := hV
  have hct : c = (rdV T n).2 := congrArg Prod.snd hrd
  refine ⟨e0.trans (congrArg mx1 hh), e1.trans (congrArg mx1 hct), fun q hq => (hr q hq).trans (r0 q hq), fun j hj q hq => ?_⟩
  have hj0 : j = 0 := by
    rw [e1, hc, mx1_0] at hj
    omega
  have h1 := hA j hj q hq
  have h2 := us3_in (k := 2) (b := 0) (F := fc) hq
  have h3 := r4 j (by omega) (by omega) q hq
  rw [hu, show 3 * j + q = 0 + q by omega, h2] at h1
  exact h1.trans h3.symm
/-- what source, takes do -/
def inR (x lo hi : Int32) : Prop := lo ≤ x ∧ x ≤ hi
