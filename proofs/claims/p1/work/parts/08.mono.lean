/-! the same numbers by what was sent and gone so many ticks ago; more zone, no fewer sent -/
section Mono
variable {d e z k : Nat}
theorem al_1 (t : Nat) : (al d e z k (t + 1)).1 = if (al d e z k t).1 - aK t (al d e z k t) < z then (al d e z k t).1 + 1 else (al d e z k t).1 := rfl
theorem al_2 (t : Nat) : (al d e z k (t + 1)).2.1 = if t % k = 0 ∧ 0 < aB t (al d e z k t) then (al d e z k t).2.1 + 1 else (al d e z k t).2.1 := rfl
theorem al_3 (t : Nat) : (al d e z k (t + 1)).2.2.1 = aK t (al d e z k t) := rfl
theorem al_4 (t : Nat) : (al d e z k (t + 1)).2.2.2.1 = if t % k = 0 ∧ 0 < aB t (al d e z k t) then aB t (al d e z k t) - 1 else aB t (al d e z k t) := rfl
theorem al_S (t : Nat) : (al d e z k t).1 ≤ (al d e z k (t + 1)).1 ∧ (al d e z k (t + 1)).1 ≤ (al d e z k t).1 + 1 := by
  rw [al_1]
  split <;> omega
theorem al_Gs (t : Nat) : (al d e z k t).2.1 ≤ (al d e z k (t + 1)).2.1 ∧ (al d e z k (t + 1)).2.1 ≤ (al d e z k t).2.1 + 1 := by
  rw [al_2]
  split <;> omega
theorem al_C : ∀ t j, ((al d e z k t).2.2.2.2.1 j = true ↔ d ≤ j ∧ j - d < t ∧ (al d e z k (j - d + 1)).1 = (al d e z k (j - d)).1 + 1)
  | 0, j => ⟨fun h => absurd h (by show ¬ false = true; decide), fun h => absurd h.2.1 (Nat.not_lt_zero _)⟩
  | t + 1, j => by
    have ih := al_C t j
    show ((if (al d e z k t).1 - aK t (al d e z k t) < z then (fun j => if j = t + d then true else (al d e z k t).2.2.2.2.1 j) else (al d e z k t).2.2.2.2.1) j = true ↔ _)
    by_cases hj : j = t + d
    · subst hj
      rw [show t + d - d = t by omega, al_1]
      rw [show t + d - d = t by omega] at ih
      have hno : ¬ (al d e z k t).2.2.2.2.1 (t + d) = true := fun q => absurd (ih.mp q).2.1 (Nat.lt_irrefl t)
      by_cases hs : (al d e z k t).1 - aK t (al d e z k t) < z
      · rw [if_pos hs, if_pos hs]
        show ((if t + d = t + d then true else _) = true ↔ _)
        rw [if_pos rfl]
        exact ⟨fun _ => ⟨by omega, by omega, rfl⟩, fun _ => rfl⟩
      · rw [if_neg hs, if_neg hs]
        exact ⟨fun q => absurd q hno, fun q => absurd q.2.2 (by omega)⟩
    · have e1 : (if (al d e z k t).1 - aK t (al d e z k t) < z then (fun j => if j = t + d then true else (al d e z k t).2.2.2.2.1 j) else (al d e z k t).2.2.2.2.1) j = (al d e z k t).2.2.2.2.1 j := by
        split
        · show (if j = t + d then true else _) = _
          rw [if_neg hj]
        · rfl
      rw [e1, ih]
      exact ⟨fun q => ⟨q.1, by omega, q.2.2⟩, fun q => ⟨q.1, by omega, q.2.2⟩⟩
theorem al_U : ∀ t j, (al d e z k t).2.2.2.2.2 j = if d ≤ j ∧ j - d < t ∧ (al d e z k (j - d + 1)).2.1 = (al d e z k (j - d)).2.1 + 1 ∧ (al d e z k (j - d + 1)).2.1 % e = 0 then (al d e z k (j - d + 1)).2.1 else 0
  | 0, j => by rw [if_neg (fun h => absurd h.2.1 (Nat.not_lt_zero _))]; rfl
  | t + 1, j => by
    have ih := al_U t j
    show (if (t % k = 0 ∧ 0 < aB t (al d e z k t)) ∧ aG k t (al d e z k t) % e = 0 then (fun j => if j = t + d then aG k t (al d e z k t) else (al d e z k t).2.2.2.2.2 j) else (al d e z k t).2.2.2.2.2) j = _
    have eG : (al d e z k (t + 1)).2.1 = aG k t (al d e z k t) := rfl
    by_cases hj : j = t + d
    · subst hj
      rw [show t + d - d = t by omega] at ih ⊢
      rw [if_neg (fun h => absurd h.2.1 (Nat.lt_irrefl t))] at ih
      by_cases hk : (t % k = 0 ∧ 0 < aB t (al d e z k t)) ∧ aG k t (al d e z k t) % e = 0
      · have hc2 : d ≤ t + d ∧ t < t + 1 ∧ (al d e z k (t + 1)).2.1 = (al d e z k t).2.1 + 1 ∧ (al d e z k (t + 1)).2.1 % e = 0 := ⟨by omega, by omega, by rw [al_2, if_pos hk.1], by rw [eG]; exact hk.2⟩
        rw [if_pos hk]
        show (if t + d = t + d then aG k t (al d e z k t) else (al d e z k t).2.2.2.2.2 (t + d)) = _
        rw [if_pos rfl, if_pos hc2, eG]
      · rw [if_neg hk, if_neg (fun h => hk ⟨by
          by_cases q : t % k = 0 ∧ 0 < aB t (al d e z k t)
          · exact q
          · have h2 := h.2.2.1
            rw [al_2, if_neg q] at h2
            omega, by rw [← eG]; exact h.2.2.2⟩), ih]
    · have e1 : (if (t % k = 0 ∧ 0 < aB t (al d e z k t)) ∧ aG k t (al d e z k t) % e = 0 then (fun j => if j = t + d then aG k t (al d e z k t) else (al d e z k t).2.2.2.2.2 j) else (al d e z k t).2.2.2.2.2) j = (al d e z k t).2.2.2.2.2 j := by
        split
        · show (if j = t + d then _ else _) = _
          rw [if_neg hj]
        · rfl
      rw [e1, ih]
      by_cases hc : d ≤ j ∧ j - d < t ∧ (al d e z k (j - d + 1)).2.1 = (al d e z k (j - d)).2.1 + 1 ∧ (al d e z k (j - d + 1)).2.1 % e = 0
      · rw [if_pos hc, if_pos ⟨hc.1, by omega, hc.2.2⟩]
      · rw [if_neg hc, if_neg (fun q => hc ⟨q.1, by omega, q.2.2⟩)]
theorem al_P1 (t : Nat) : (al d e z k (t + 1)).2.1 + (al d e z k (t + 1)).2.2.2.1 = (al d e z k t).2.1 + aB t (al d e z k t) := by
  rw [al_2, al_4]
  by_cases h : t % k = 0 ∧ 0 < aB t (al d e z k t)
  · rw [if_pos h, if_pos h]; have := h.2; omega
  · rw [if_neg h, if_neg h]
theorem al_P (hd : 0 < d) : ∀ t, (al d e z k t).2.1 + (al d e z k t).2.2.2.1 = (al d e z k (t - d)).1
  | 0 => by rw [Nat.zero_sub]; rfl
  | t + 1 => by
    have ih := al_P hd t
    rw [al_P1]
    unfold aB
    have hc := al_C (d := d) (e := e) (z := z) (k := k) t t
    by_cases hq : (al d e z k t).2.2.2.2.1 t = true
    · have q := hc.mp hq
      rw [if_pos hq, show t + 1 - d = t - d + 1 by omega, q.2.2]
      omega
    · rw [if_neg hq]
      by_cases h1 : d ≤ t
      · have hs := al_S (d := d) (e := e) (z := z) (k := k) (t - d)
        have hn : ¬ (al d e z k (t - d + 1)).1 = (al d e z k (t - d)).1 + 1 := fun q => hq (hc.mpr ⟨h1, by omega, q⟩)
        rw [show t + 1 - d = t - d + 1 by omega]
        omega
      · rw [show t + 1 - d = t - d by omega]
        omega
theorem al_B (hd : 0 < d) (t : Nat) : (al d e z k t).2.1 + aB t (al d e z k t) = (al d e z k (t + 1 - d)).1 := by
  rw [← al_P1, al_P hd]
theorem fl_e {G e : Nat} (h0 : 0 < e) (h5 : e < 5) (h : (G + 1) % e = 0) : (G + 1) / e * e = G + 1 := by
  rcases (show e = 1 ∨ e = 2 ∨ e = 3 ∨ e = 4 by omega) with rfl | rfl | rfl | rfl <;> omega
theorem fl_n {G e : Nat} (h0 : 0 < e) (h5 : e < 5) (h : ¬ (G + 1) % e = 0) : (G + 1) / e * e = G / e * e := by
  rcases (show e = 1 ∨ e = 2 ∨ e = 3 ∨ e = 4 by omega) with rfl | rfl | rfl | rfl <;> omega
theorem fl_m {a b e : Nat} (h0 : 0 < e) (h5 : e < 5) (h : a ≤ b) : a / e * e ≤ b / e * e := Nat.mul_le_mul_right _ (Nat.div_le_div_right h)
theorem al_K (hd : 0 < d) (h0 : 0 < e) (h5 : e < 5) : ∀ t, (al d e z k t).2.2.1 = (al d e z k (t - d)).2.1 / e * e
  | 0 => by rw [Nat.zero_sub]; show 0 = 0 / e * e; rw [Nat.zero_div, Nat.zero_mul]
  | t + 1 => by
    have ih := al_K hd h0 h5 t
    rw [al_3]
    unfold aK
    have hU := al_U (d := d) (e := e) (z := z) (k := k) t t
    by_cases h1 : d ≤ t
    · rw [show t + 1 - d = t - d + 1 by omega]
      have hg := al_Gs (d := d) (e := e) (z := z) (k := k) (t - d)
      by_cases h2 : (al d e z k (t - d + 1)).2.1 = (al d e z k (t - d)).2.1 + 1
      · by_cases h3 : (al d e z k (t - d + 1)).2.1 % e = 0
        · have hc2 : d ≤ t ∧ t - d < t ∧ (al d e z k (t - d + 1)).2.1 = (al d e z k (t - d)).2.1 + 1 ∧ (al d e z k (t - d + 1)).2.1 % e = 0 := ⟨h1, by omega, h2, h3⟩
          rw [if_pos hc2] at hU
          rw [hU, if_neg (show ¬ (al d e z k (t - d + 1)).2.1 = 0 by omega), h2]
          exact (fl_e h0 h5 (by rw [← h2]; exact h3)).symm
        · have hc2 : ¬ (d ≤ t ∧ t - d < t ∧ (al d e z k (t - d + 1)).2.1 = (al d e z k (t - d)).2.1 + 1 ∧ (al d e z k (t - d + 1)).2.1 % e = 0) := fun q => h3 q.2.2.2
          rw [if_neg hc2] at hU
          rw [hU, if_pos rfl, ih, h2]
          exact (fl_n h0 h5 (by rw [← h2]; exact h3)).symm
      · have hc2 : ¬ (d ≤ t ∧ t - d < t ∧ (al d e z k (t - d + 1)).2.1 = (al d e z k (t - d)).2.1 + 1 ∧ (al d e z k (t - d + 1)).2.1 % e = 0) := fun q => h2 q.2.2.1
        rw [if_neg hc2] at hU
        rw [hU, if_pos rfl, ih, show (al d e z k (t - d + 1)).2.1 = (al d e z k (t - d)).2.1 by omega]
    · have hc2 : ¬ (d ≤ t ∧ t - d < t ∧ (al d e z k (t - d + 1)).2.1 = (al d e z k (t - d)).2.1 + 1 ∧ (al d e z k (t - d + 1)).2.1 % e = 0) := fun q => h1 q.1
      rw [if_neg hc2] at hU
      rw [hU, if_pos rfl, ih, show t + 1 - d = t - d by omega]
theorem al_K1 (hd : 0 < d) (h0 : 0 < e) (h5 : e < 5) (t : Nat) : aK t (al d e z k t) = (al d e z k (t + 1 - d)).2.1 / e * e := by
  rw [← al_3, al_K hd h0 h5]
theorem al_mono {y : Nat} (hd : 0 < d) (h0 : 0 < e) (h5 : e < 5) (hy : z ≤ y) : ∀ t, ∀ i, i ≤ t → (al d e z k i).1 ≤ (al d e y k i).1 ∧ (al d e z k i).2.1 ≤ (al d e y k i).2.1
  | 0, i, hi => by
    rw [show i = 0 by omega]
    exact ⟨Nat.le_refl _, Nat.le_refl _⟩
  | t + 1, i, hi => by
    have ih := al_mono (y := y) hd h0 h5 hy t
    by_cases hl : i ≤ t
    · exact ih i hl
    · rw [show i = t + 1 by omega]
      have ht := ih t (Nat.le_refl t)
      have hb := ih (t + 1 - d) (by omega)
      have b1 := al_B (e := e) (z := z) (k := k) hd t
      have b2 := al_B (e := e) (z := y) (k := k) hd t
      have k1 := al_K1 (z := z) (k := k) hd h0 h5 t
      have k2 := al_K1 (z := y) (k := k) hd h0 h5 t
      have km := fl_m h0 h5 hb.2
      have i1 := aI_al d e z k hd t
      have i2 := aI_al d e y k hd t
      have q1 := aK_in i1
      have q2 := aK_in i2
      have r1 := aB_in hd i1
      have r2 := aB_in hd i2
      refine ⟨?_, ?_⟩
      · rw [al_1, al_1]
        by_cases hs : (al d e z k t).1 - aK t (al d e z k t) < z
        · rw [if_pos hs]
          by_cases hs2 : (al d e y k t).1 - aK t (al d e y k t) < y
          · rw [if_pos hs2]; omega
          · rw [if_neg hs2]; omega
        · rw [if_neg hs]
          split <;> omega
      · rw [al_2, al_2]
        by_cases hs : t % k = 0 ∧ 0 < aB t (al d e z k t)
        · rw [if_pos hs]
          have hp := hs.2
          by_cases hs2 : t % k = 0 ∧ 0 < aB t (al d e y k t)
          · rw [if_pos hs2]; omega
          · rw [if_neg hs2]
            have hn : ¬ 0 < aB t (al d e y k t) := fun q => hs2 ⟨hs.1, q⟩
            omega
        · rw [if_neg hs]
          split <;> omega
end Mono
/-- the least zone, looked for in two ways -/
theorem full_eq {d e k n v w : Nat} (hd : 0 < d) (h0 : 0 < e) (h5 : e < 5) (v1 : 1 ≤ v) (v30 : v ≤ 30) (vE : (al d e v k n).1 = (al d e 30 k n).1) (vm : ∀ q, 1 ≤ q → q < v → ¬ (al d e q k n).1 = (al d e 30 k n).1)
    (w1 : 1 ≤ w) (wE : ¬ (al d e w k n).1 < (al d e 30 k n).1) (wm : ∀ q, 1 ≤ q → q < w → (al d e q k n).1 < (al d e 30 k n).1) : v = w := by
  rcases Nat.lt_trichotomy v w with h | h | h
  · have q := wm v v1 h
    omega
  · exact h
  · have q := (al_mono (z := w) (y := 30) (k := k) hd h0 h5 (by omega) n n (Nat.le_refl n)).1
    exact absurd (by omega) (vm w w1 h)
/-! the reference's slots -/
def rC (t : Nat) (C : Nat → Bool) (f : Nat → Int32) : Prop := ∀ i, i < 8 → f ((t + i) % 8) = if C (t + i) = true then 1 else 0
def rU (t : Nat) (U : Nat → Nat) (f : Nat → Int32) : Prop := ∀ i, i < 8 → f ((t + i) % 8) = if U (t + i) = 0 then -1 else nI (U (t + i))
theorem rC_clear {t d : Nat} {C : Nat → Bool} {f : Nat → Int32} (hd : d < 5) (h : rC t C f) (hz : ∀ j, t + d ≤ j → C j = false) : rC (t + 1) C (upd f (t % 8) 0) := by
  intro i hi
  by_cases h4 : i = 7
  · subst h4
    rw [show (t + 1 + 7) % 8 = t % 8 by omega, pk_us, hz (t + 1 + 7) (by omega)]
    rfl
  · rw [pk_un (show (t + 1 + i) % 8 ≠ t % 8 by omega), show t + 1 + i = t + (i + 1) by omega]
    exact h (i + 1) (by omega)
theorem rU_clear {t d : Nat} {U : Nat → Nat} {f : Nat → Int32} (hd : d < 5) (h : rU t U f) (hz : ∀ j, t + d ≤ j → U j = 0) : rU (t + 1) U (upd f (t % 8) (-1)) := by
  intro i hi
  by_cases h4 : i = 7
  · subst h4
    rw [show (t + 1 + 7) % 8 = t % 8 by omega, pk_us, hz (t + 1 + 7) (by omega)]
    rfl
  · rw [pk_un (show (t + 1 + i) % 8 ≠ t % 8 by omega), show t + 1 + i = t + (i + 1) by omega]
    exact h (i + 1) (by omega)
theorem rC_y {d e z k t : Nat} {a : AS} {f : Nat → Int32} (h0 : 0 < d) (hd : d < 5) (hI : aI d z t a) (h : rC t a.2.2.2.2.1 f) (hs : a.1 - aK t a < z) : rC (t + 1) (al_s d e z k t a).2.2.2.2.1 (upd (upd f (t % 8) 0) ((t + d) % 8) 1) := by
  have h1 := rC_clear hd h (fun j hj => (hI.2.2.2.2.1 j hj).1)
  intro i hi
  show upd (upd f (t % 8) 0) ((t + d) % 8) 1 ((t + 1 + i) % 8) = if (if a.1 - aK t a < z then (fun j => if j = t + d then true else a.2.2.2.2.1 j) else a.2.2.2.2.1) (t + 1 + i) = true then 1 else 0
  rw [if_pos hs]
  show _ = if (if t + 1 + i = t + d then true else a.2.2.2.2.1 (t + 1 + i)) = true then 1 else 0
  by_cases h4 : i + 1 = d
  · rw [show (t + 1 + i) % 8 = (t + d) % 8 by omega, pk_us, if_pos (show t + 1 + i = t + d by omega)]
    rfl
  · rw [pk_un (show (t + 1 + i) % 8 ≠ (t + d) % 8 by omega), if_neg (show ¬ t + 1 + i = t + d by omega)]
    exact h1 i hi
theorem rC_n {d e z k t : Nat} {a : AS} {f : Nat → Int32} (hd : d < 5) (hI : aI d z t a) (h : rC t a.2.2.2.2.1 f) (hs : ¬ a.1 - aK t a < z) : rC (t + 1) (al_s d e z k t a).2.2.2.2.1 (upd f (t % 8) 0) := by
  have e1 : (al_s d e z k t a).2.2.2.2.1 = a.2.2.2.2.1 := if_neg hs
  rw [e1]
  exact rC_clear hd h (fun j hj => (hI.2.2.2.2.1 j hj).1)
theorem rU_n {d e z k t : Nat} {a : AS} {f : Nat → Int32} (hd : d < 5) (hI : aI d z t a) (h : rU t a.2.2.2.2.2 f) (hk : ¬ (t % k = 0 ∧ 0 < aB t a)) : rU (t + 1) (al_s d e z k t a).2.2.2.2.2 (upd f (t % 8) (-1)) := by
  have e1 : (al_s d e z k t a).2.2.2.2.2 = a.2.2.2.2.2 := if_neg (fun q => hk q.1)
  rw [e1]
  exact rU_clear hd h (fun j hj => (hI.2.2.2.2.1 j hj).2)
theorem rU_y {d e z k t : Nat} {a : AS} {f : Nat → Int32} (h0 : 0 < d) (hd : d < 5) (hI : aI d z t a) (h : rU t a.2.2.2.2.2 f) (hk : t % k = 0 ∧ 0 < aB t a) (he : (a.2.1 + 1) % e = 0) : rU (t + 1) (al_s d e z k t a).2.2.2.2.2 (upd (upd f (t % 8) (-1)) ((t + d) % 8) (nI (a.2.1 + 1))) := by
  have h1 := rU_clear hd h (fun j hj => (hI.2.2.2.2.1 j hj).2)
  have eG : aG k t a = a.2.1 + 1 := if_pos hk
  have e1 : (al_s d e z k t a).2.2.2.2.2 = (fun j => if j = t + d then aG k t a else a.2.2.2.2.2 j) := if_pos ⟨hk, by rw [eG]; exact he⟩
  rw [e1, eG]
  intro i hi
  show _ = if (if t + 1 + i = t + d then a.2.1 + 1 else a.2.2.2.2.2 (t + 1 + i)) = 0 then -1 else nI (if t + 1 + i = t + d then a.2.1 + 1 else a.2.2.2.2.2 (t + 1 + i))
  by_cases h4 : i + 1 = d
  · rw [show (t + 1 + i) % 8 = (t + d) % 8 by omega, pk_us, if_pos (show t + 1 + i = t + d by omega), if_neg (by omega)]
  · rw [pk_un (show (t + 1 + i) % 8 ≠ (t + d) % 8 by omega), if_neg (show ¬ t + 1 + i = t + d by omega)]
    exact h1 i hi
theorem rU_x {d e z k t : Nat} {a : AS} {f : Nat → Int32} (h0 : 0 < d) (hd : d < 5) (hI : aI d z t a) (h : rU t a.2.2.2.2.2 f) (hk : t % k = 0 ∧ 0 < aB t a) (he : ¬ (a.2.1 + 1) % e = 0) : rU (t + 1) (al_s d e z k t a).2.2.2.2.2 (upd (upd f (t % 8) (-1)) ((t + d) % 8) (-1)) := by
  have h1 := rU_clear hd h (fun j hj => (hI.2.2.2.2.1 j hj).2)
  have eG : aG k t a = a.2.1 + 1 := if_pos hk
  have e1 : (al_s d e z k t a).2.2.2.2.2 = a.2.2.2.2.2 := if_neg (fun q => he (by rw [← eG]; exact q.2))
  rw [e1]
  intro i hi
  by_cases h4 : i + 1 = d
  · rw [show (t + 1 + i) % 8 = (t + d) % 8 by omega, pk_us, show t + 1 + i = t + d by omega, (hI.2.2.2.2.1 (t + d) (Nat.le_refl _)).2]
    rfl
  · rw [pk_un (show (t + 1 + i) % 8 ≠ (t + d) % 8 by omega)]
    exact h1 i hi
theorem rC_b {t : Nat} {a : AS} {f : Nat → Int32} (h : rC t a.2.2.2.2.1 f) : nI a.2.2.2.1 + f (t % 8) = nI (aB t a) := by
  have c0 : f (t % 8) = if a.2.2.2.2.1 t = true then 1 else 0 := h 0 (by omega)
  unfold aB
  rw [c0]
  split
  · exact nI_1 _
  · exact nI_add _ 0
theorem rU_k0 {t : Nat} {a : AS} {f : Nat → Int32} (hs : a.2.2.2.2.2 t < 2 ^ 31) (h : rU t a.2.2.2.2.2 f) (hc : f (t % 8) = -1) : nI a.2.2.1 = nI (aK t a) := by
  have c0 : f (t % 8) = if a.2.2.2.2.2 t = 0 then -1 else nI (a.2.2.2.2.2 t) := h 0 (by omega)
  unfold aK
  by_cases hu : a.2.2.2.2.2 t = 0
  · rw [if_pos hu]
  · rw [if_neg hu] at c0
    exact absurd (c0.symm.trans hc) (m1_ne hs)
theorem rU_k1 {t : Nat} {a : AS} {f : Nat → Int32} (h : rU t a.2.2.2.2.2 f) (hc : ¬ f (t % 8) = -1) : f (t % 8) = nI (aK t a) := by
  have c0 : f (t % 8) = if a.2.2.2.2.2 t = 0 then -1 else nI (a.2.2.2.2.2 t) := h 0 (by omega)
  unfold aK
  by_cases hu : a.2.2.2.2.2 t = 0
  · rw [if_pos hu] at c0
    exact absurd c0 hc
  · rw [if_neg hu] at c0 ⊢
    exact c0
theorem rC_0 {f : Nat → Int32} (h : ∀ j, j < 8 → f j = 0) : rC 0 (fun _ => false) f := fun i hi => h _ (by omega)
theorem rU_0 {f : Nat → Int32} (h : ∀ j, j < 8 → f j = -1) : rU 0 (fun _ => 0) f := fun i hi => h _ (by omega)
theorem pk_m1x {n : Nat} (h : ¬ nI n ≤ 0) : nI n + Int32.ofInt (-1) = nI (n - 1) := sb_m1 (Nat.pos_of_ne_zero (fun q => h (by rw [q]; decide)))
/-- an int within bounds, as a number -/
theorem rg {x lo hi : Int32} {L U : Nat} (hL : lo = nI L) (hU : hi = nI U) (bL : L < 2 ^ 31) (bU : U < 2 ^ 31) (h : lo ≤ x ∧ x ≤ hi) : ∃ n : Nat, L ≤ n ∧ n ≤ U ∧ x = nI n := by
  subst hL
  subst hU
  have h0 : ¬ x < 0 := by
    have q := Int32.le_iff_toInt_le.mp h.1
    rw [nI_toInt bL] at q
    rw [Int32.lt_iff_toInt_lt]
    have e0 : (0 : Int32).toInt = 0 := by decide
    omega
  obtain ⟨n, hn, rfl⟩ := nI_of h0
  exact ⟨n, (nI_leI bL hn).mp h.1, (nI_leI hn bU).mp h.2, rfl⟩
def okA (p0 p1 p2 p3 : Int32) : Prop := (1 ≤ p0 ∧ p0 ≤ 4) ∧ (1 ≤ p1 ∧ p1 ≤ 4) ∧ (1 ≤ p2 ∧ p2 ≤ 9) ∧ (1 ≤ p3 ∧ p3 ≤ 200)
theorem out_in {x lo hi : Int32} (h : ¬ (x < lo ∨ hi < x)) : lo ≤ x ∧ x ≤ hi := ⟨Int32.not_lt.mp (fun q => h (Or.inl q)), Int32.not_lt.mp (fun q => h (Or.inr q))⟩
theorem in_out {x lo hi : Int32} (h : lo ≤ x ∧ x ≤ hi) : ¬ (x < lo ∨ hi < x) := fun q => q.elim (fun q => absurd h.1 (Int32.not_le.mpr q)) (fun q => absurd h.2 (Int32.not_le.mpr q))
theorem okA_of {p0 p1 p2 p3 : Int32} (h : ¬ ((p0 < 1 ∨ 4 < p0) ∨ (p1 < 1 ∨ 4 < p1) ∨ (p2 < 1 ∨ 9 < p2) ∨ (p3 < 1 ∨ 200 < p3))) : okA p0 p1 p2 p3 := ⟨out_in (fun q => h (Or.inl q)), out_in (fun q => h (Or.inr (Or.inl q))), out_in (fun q => h (Or.inr (Or.inr (Or.inl q)))), out_in (fun q => h (Or.inr (Or.inr (Or.inr q))))⟩
theorem okA_no {p0 p1 p2 p3 : Int32} (h : (p0 < 1 ∨ 4 < p0) ∨ (p1 < 1 ∨ 4 < p1) ∨ (p2 < 1 ∨ 9 < p2) ∨ (p3 < 1 ∨ 200 < p3)) : ¬ okA p0 p1 p2 p3 := fun q => h.elim (in_out q.1) (fun h => h.elim (in_out q.2.1) (fun h => h.elim (in_out q.2.2.1) (in_out q.2.2.2)))
/-- what alone answers -/
def alP (p0 p1 p2 p3 p4 r : Int32) : Prop := (okA p0 p1 p3 p4 ∧ (1 ≤ p2 ∧ p2 ≤ 30) → r = nI (al p0.toNatClampNeg p1.toNatClampNeg p2.toNatClampNeg p3.toNatClampNeg p4.toNatClampNeg).1) ∧ (¬ (okA p0 p1 p3 p4 ∧ (1 ≤ p2 ∧ p2 ≤ 30)) → r = -1)
theorem alP_eq {p0 p1 p2 p3 p4 r q : Int32} (h : alP p0 p1 p2 p3 p4 r) (h2 : alP p0 p1 p2 p3 p4 q) : r = q := by
  rcases Classical.em (okA p0 p1 p3 p4 ∧ (1 ≤ p2 ∧ p2 ≤ 30)) with c | c
  · rw [h.1 c, h2.1 c]
  · rw [h.2 c, h2.2 c]
theorem alP_y {d e z k n : Nat} (hd : d < 2 ^ 31) (he : e < 2 ^ 31) (hz : z < 2 ^ 31) (hk : k < 2 ^ 31) (hn : n < 2 ^ 31) (ok : okA (nI d) (nI e) (nI k) (nI n) ∧ (1 ≤ nI z ∧ nI z ≤ 30)) : alP (nI d) (nI e) (nI z) (nI k) (nI n) (nI (al d e z k n).1) := ⟨fun _ => by rw [nI_clamp hd, nI_clamp he, nI_clamp hz, nI_clamp hk, nI_clamp hn], fun c => absurd ok c⟩
/-- what full answers: of the class, of the reference -/
def fuC (p0 p1 p2 p3 r : Int32) : Prop := (okA p0 p1 p2 p3 → ∃ v : Nat, r = nI v ∧ 1 ≤ v ∧ v ≤ 30 ∧ (al p0.toNatClampNeg p1.toNatClampNeg v p2.toNatClampNeg p3.toNatClampNeg).1 = (al p0.toNatClampNeg p1.toNatClampNeg 30 p2.toNatClampNeg p3.toNatClampNeg).1 ∧ ∀ q, 1 ≤ q → q < v → ¬ (al p0.toNatClampNeg p1.toNatClampNeg q p2.toNatClampNeg p3.toNatClampNeg).1 = (al p0.toNatClampNeg p1.toNatClampNeg 30 p2.toNatClampNeg p3.toNatClampNeg).1) ∧ (¬ okA p0 p1 p2 p3 → r = -1)
def fuR (p0 p1 p2 p3 r : Int32) : Prop := (okA p0 p1 p2 p3 → ∃ v : Nat, r = nI v ∧ 1 ≤ v ∧ ¬ (al p0.toNatClampNeg p1.toNatClampNeg v p2.toNatClampNeg p3.toNatClampNeg).1 < (al p0.toNatClampNeg p1.toNatClampNeg 30 p2.toNatClampNeg p3.toNatClampNeg).1 ∧ ∀ q, 1 ≤ q → q < v → (al p0.toNatClampNeg p1.toNatClampNeg q p2.toNatClampNeg p3.toNatClampNeg).1 < (al p0.toNatClampNeg p1.toNatClampNeg 30 p2.toNatClampNeg p3.toNatClampNeg).1) ∧ (¬ okA p0 p1 p2 p3 → r = -1)
theorem fu_eq {p0 p1 p2 p3 r q : Int32} (h : fuC p0 p1 p2 p3 r) (h2 : fuR p0 p1 p2 p3 q) : r = q := by
  rcases Classical.em (okA p0 p1 p2 p3) with c | c
  · obtain ⟨v, rfl, v1, v2, v3, v4⟩ := h.1 c
    obtain ⟨w, rfl, w1, w3, w4⟩ := h2.1 c
    obtain ⟨d, d1, d2, rfl⟩ := rg (L := 1) (U := 4) rfl rfl (by decide) (by decide) c.1
    obtain ⟨e, e1, e2, rfl⟩ := rg (L := 1) (U := 4) rfl rfl (by decide) (by decide) c.2.1
    rw [nI_clamp (show d < 2 ^ 31 by omega), nI_clamp (show e < 2 ^ 31 by omega)] at v3 v4 w3 w4
    exact congrArg nI (full_eq (by omega) (by omega) (by omega) v1 v2 v3 v4 w1 w3 w4)
  · rw [h.2 c, h2.2 c]
