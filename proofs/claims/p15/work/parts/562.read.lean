/-! TAPE's text read: one pure reading that both sides keep. T: the signs, n: how many -/
abbrev pD (T : Nat → Int32) (n i : Nat) : Prop := i < n ∧ 48 ≤ T i ∧ T i ≤ 57
def skf (T : Nat → Int32) (n : Nat) : Nat → Nat → Nat
  | 0, i => i
  | f + 1, i => if i < n ∧ T i = 32 then skf T n f (i + 1) else i
/-- behind the blanks at i -/
def sB (T : Nat → Int32) (n i : Nat) : Nat := skf T n (n - i) i
theorem sB_b {T : Nat → Int32} {n i : Nat} (h1 : i < n) (h2 : T i = 32) : sB T n i = sB T n (i + 1) := by
  unfold sB
  rw [show n - i = (n - (i + 1)) + 1 by omega]
  show (if i < n ∧ T i = 32 then skf T n (n - (i + 1)) (i + 1) else i) = _
  rw [if_pos ⟨h1, h2⟩]
theorem sB_s {T : Nat → Int32} {n i : Nat} (h : ¬ (i < n ∧ T i = 32)) : sB T n i = i := by
  unfold sB
  cases n - i with
  | zero => rfl
  | succ f => exact if_neg h
theorem skf_le {T : Nat → Int32} {n : Nat} : ∀ (f i : Nat), i ≤ n → i ≤ skf T n f i ∧ skf T n f i ≤ n
  | 0, i, h => ⟨Nat.le_refl _, h⟩
  | f + 1, i, h => by
    show i ≤ (if i < n ∧ T i = 32 then skf T n f (i + 1) else i) ∧ (if i < n ∧ T i = 32 then skf T n f (i + 1) else i) ≤ n
    by_cases q : i < n ∧ T i = 32
    · rw [if_pos q]
      obtain ⟨h1, h2⟩ := skf_le (T := T) (n := n) f (i + 1) q.1
      exact ⟨by omega, h2⟩
    · rw [if_neg q]
      exact ⟨Nat.le_refl _, h⟩
theorem sB_le {T : Nat → Int32} {n i : Nat} (h : i ≤ n) : sB T n i ≤ n := (skf_le _ _ h).2
theorem sB_ge {T : Nat → Int32} {n i : Nat} (h : i ≤ n) : i ≤ sB T n i := (skf_le _ _ h).1
theorem skf_stop {T : Nat → Int32} {n : Nat} : ∀ (f i : Nat), n - i ≤ f → ¬ (skf T n f i < n ∧ T (skf T n f i) = 32)
  | 0, i, h => fun q => by
    have h1 : i < n := q.1
    omega
  | f + 1, i, h => by
    show ¬ ((if i < n ∧ T i = 32 then skf T n f (i + 1) else i) < n ∧ T (if i < n ∧ T i = 32 then skf T n f (i + 1) else i) = 32)
    by_cases q : i < n ∧ T i = 32
    · rw [if_pos q]
      exact skf_stop (T := T) (n := n) f (i + 1) (by omega)
    · rw [if_neg q]
      exact q
theorem sB_stop {T : Nat → Int32} {n i : Nat} : ¬ (sB T n i < n ∧ T (sB T n i) = 32) := skf_stop _ _ (Nat.le_refl _)
theorem sB_sB {T : Nat → Int32} {n i : Nat} : sB T n (sB T n i) = sB T n i := sB_s sB_stop
/-- a number at i: where its digits end, its value, where it is wrong (or -1) -/
def nmE (T : Nat → Int32) (n i : Nat) : Nat := if pD T n (sB T n i) then (if pD T n (sB T n i + 1) then sB T n i + 2 else sB T n i + 1) else sB T n i
def nmV (T : Nat → Int32) (n i : Nat) : Int32 := if pD T n (sB T n i + 1) then (10 * (0 + T (sB T n i) - 48) + T (sB T n i + 1)) - 48 else 0 + T (sB T n i) - 48
def nmF (T : Nat → Int32) (n i : Nat) (lo hi : Int32) : Int32 :=
  if pD T n (sB T n i) then
    (if pD T n (sB T n i + 1) ∧ pD T n (sB T n i + 2) then nI (sB T n i + 2)
     else if nmV T n i < lo ∨ hi < nmV T n i then nI (nmE T n i - 1)
     else -1)
  else nI (sB T n i)
theorem nm_0 {T : Nat → Int32} {n i j : Nat} {lo hi : Int32} (hj : j = sB T n i) (h : ¬ pD T n j) : nmF T n i lo hi = nI j := by
  subst hj
  exact if_neg h
theorem nm_1 {T : Nat → Int32} {n i j : Nat} (hj : j = sB T n i) (h : pD T n j) (h1 : ¬ pD T n (j + 1)) : nmE T n i = j + 1 ∧ nmV T n i = 0 + T j - 48 := by
  subst hj
  exact ⟨by unfold nmE; rw [if_pos h, if_neg h1], if_neg h1⟩
theorem nm_2 {T : Nat → Int32} {n i j : Nat} (hj : j = sB T n i) (h : pD T n j) (h1 : pD T n (j + 1)) : nmE T n i = j + 2 ∧ nmV T n i = (10 * (0 + T j - 48) + T (j + 1)) - 48 := by
  subst hj
  exact ⟨by unfold nmE; rw [if_pos h, if_pos h1], if_pos h1⟩
theorem nm_3 {T : Nat → Int32} {n i j : Nat} {lo hi : Int32} (hj : j = sB T n i) (h : pD T n j) (h1 : pD T n (j + 1)) (h2 : pD T n (j + 2)) : nmF T n i lo hi = nI (j + 2) := by
  subst hj
  unfold nmF
  rw [if_pos h, if_pos ⟨h1, h2⟩]
/-- behind one digit, or two and no third: the bounds decide -/
theorem nm_b {T : Nat → Int32} {n i j : Nat} {lo hi : Int32} (hj : j = sB T n i) (h : pD T n j) (h2 : ¬ (pD T n (j + 1) ∧ pD T n (j + 2))) : nmF T n i lo hi = if nmV T n i < lo ∨ hi < nmV T n i then nI (nmE T n i - 1) else -1 := by
  subst hj
  show (if pD T n (sB T n i) then (if pD T n (sB T n i + 1) ∧ pD T n (sB T n i + 2) then nI (sB T n i + 2) else if nmV T n i < lo ∨ hi < nmV T n i then nI (nmE T n i - 1) else -1) else nI (sB T n i)) = _
  rw [if_pos h, if_neg h2]
/-- which item of a clause of a kind a sign is -/
def itO (kd : Nat) (c : Int32) : Option Nat :=
  if kd = 0 then (if c = 114 then some 0 else if c = 97 then some 1 else if c = 112 then some 2 else none)
  else if kd = 1 then (if c = 100 then some 0 else if c = 98 then some 1 else if c = 101 then some 2 else none)
  else (if c = 103 then some 0 else if c = 115 then some 1 else if c = 116 then some 2 else none)
def itLo (kd k : Nat) : Int32 := ([1, 0, 0, 1, 1, 1, 0, 0, 0] : List Int32).getD (3 * kd + k) 0
def itHi (kd k : Nat) : Int32 := ([4, 20, 9, 4, 30, 4, 9, 20, 9] : List Int32).getD (3 * kd + k) 0
def itUs (kd k : Nat) : Int32 := ([1, 0, 0, 1, 12, 1, 1, 0, 1] : List Int32).getD (3 * kd + k) 0
/-- the items of a clause from i on: g tells which were given, v their values; (where it stands, wrong or -1, given, values) -/
def itm (T : Nat → Int32) (n kd : Nat) : Nat → Nat → (Nat → Bool) → (Nat → Int32) → Nat × Int32 × (Nat → Int32)
  | 0, i, _, v => (sB T n i, -1, v)
  | f + 1, i, g, v =>
    if sB T n i < n then
      match itO kd (T (sB T n i)) with
      | none => (sB T n i, -1, v)
      | some k =>
        if g k = true then (sB T n i, -1, v)
        else if nmF T n (sB T n i + 1) (itLo kd k) (itHi kd k) = -1 then itm T n kd f (nmE T n (sB T n i + 1)) (fun j => if j = k then true else g j) (fun j => if j = k then nmV T n (sB T n i + 1) else v j)
        else (sB T n i, nmF T n (sB T n i + 1) (itLo kd k) (itHi kd k), v)
    else (sB T n i, -1, v)
def it0 (c : Int32) : Int32 := if c = 114 then 0 else if c = 97 then 1 else if c = 112 then 2 else -1
def it1 (c : Int32) : Int32 := if c = 100 then 0 else if c = 98 then 1 else if c = 101 then 2 else -1
def it2 (c : Int32) : Int32 := if c = 103 then 0 else if c = 115 then 1 else if c = 116 then 2 else -1
/-- a clause's head: which clause it is (or -1), HOPS and CIRCUITS told -/
def clO (c zf : Int32) (h ct : Nat) : Int32 × Nat × Nat := if c = 110 ∧ ¬ zf = 0 then (0, h, ct) else if c = 104 ∧ h < 3 then (nI (h + 1), h + 1, ct) else if c = 99 ∧ ct < 3 then (nI (3 + (ct + 1)), h, ct + 1) else (-1, h, ct)
def hdR (T : Nat → Int32) (n i : Nat) (zf : Int32) (h ct : Nat) : Int32 × Nat × Nat := if sB T n i < n then clO (T (sB T n i)) zf h ct else (-1, h, ct)
theorem hdR_0 {T : Nat → Int32} {n i j : Nat} {zf : Int32} {h ct : Nat} (hj : j = sB T n i) (q : ¬ j < n) : hdR T n i zf h ct = (-1, h, ct) := by
  subst hj
  exact if_neg q
theorem hdR_1 {T : Nat → Int32} {n i j : Nat} {zf : Int32} {h ct : Nat} (hj : j = sB T n i) (q : j < n) : hdR T n i zf h ct = clO (T j) zf h ct := by
  subst hj
  exact if_pos q
/-- one clause from i on: its kind by its head; none where the head is wrong -/
def hdO (c : Int32) (first : Bool) (h ct : Nat) : Option Nat :=
  if c = 110 ∧ first = true then some 0 else if c = 104 ∧ h < 3 then some 1 else if c = 99 ∧ ct < 3 then some 2 else none
/-- the whole text from i on: (wrong or -1, HOPS told, CIRCUITS told, the rules, the HOPS' items, the CIRCUITS' items) -/
def rdT (T : Nat → Int32) (n : Nat) : Nat → Nat → Bool → Nat → Nat → (Nat → Nat → Int32) → Int32 × Nat × Nat × (Nat → Nat → Int32)
  | 0, i, _, h, ct, v => (nI (sB T n i), h, ct, v)
  | f + 1, i, first, h, ct, v =>
    if sB T n i < n then
      match hdO (T (sB T n i)) first h ct with
      | none => (nI (sB T n i), h, ct, v)
      | some kd =>
        match itm T n kd 4 (sB T n i + 1) (fun _ => false) (itUs kd) with
        | (j, w, u) =>
          if w = -1 then
            (if j < n then
              (if T j = 59 then rdT T n f (j + 1) false (if kd = 1 then h + 1 else h) (if kd = 2 then ct + 1 else ct) (fun cl => if cl = (if kd = 0 then 0 else if kd = 1 then 1 + h else 4 + ct) then u else v cl)
               else (nI j, if kd = 1 then h + 1 else h, if kd = 2 then ct + 1 else ct, v))
             else (-1, if kd = 1 then h + 1 else h, if kd = 2 then ct + 1 else ct, fun cl => if cl = (if kd = 0 then 0 else if kd = 1 then 1 + h else 4 + ct) then u else v cl))
          else (w, if kd = 1 then h + 1 else h, if kd = 2 then ct + 1 else ct, v)
    else (nI (sB T n i), h, ct, v)
