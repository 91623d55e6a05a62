/-! the law's loop -/
def lwA (s : State) : Nat → Prop := fun q => s.heap.size ≤ q
abbrev lwO (g : Nat → ClassId) (o_ : Nat) (fo : Nat → Int64) : va_W := [(o_, .inl (g 5, 1, .inr (.inl fo)))]
theorem sx_in {n L : Nat} (h : n < L) (hL : L ≤ 3072) : vp_in (nI n) L := by
  unfold vp_in
  rintro (q | q)
  · rw [Int32.lt_iff_toInt_lt, nI_toInt (by omega)] at q
    have e0 : (0 : Int32).toInt = 0 := by decide
    omega
  · rw [nI_clamp (by omega)] at q
    omega
theorem lw_cmp {i L : Nat} (hi : i ≤ 3072) (hL : L ≤ 3072) (h : ¬ (Int32.ofNat L - 6 < nI i)) : i + 6 ≤ L := by
  rw [Int32.lt_iff_toInt_lt, nI_toInt (by omega), Int32.toInt_sub, show (Int32.ofNat L).toInt = (L : Int) from nI_toInt (n := L) (by omega), show (6 : Int32).toInt = 6 from by decide] at h
  have e : ((L : Int) - 6).bmod 4294967296 = (L : Int) - 6 := Int.bmod_eq_of_le (by omega) (by omega)
  rw [e] at h
  omega
section LWR
variable {p : Program} {l : Launch} {e : Env} {R : Room} {s : State} {m : MethodId} {args : Array Value} {below : List Frame} {meth : Method} {c : Code} {H : Heap} {locs : List Loc} {cells slots : Nat} {Q : State → Prop} {pc : Nat} {ls : Array Slot} {rest : List Value} {A : Nat → Prop}
/-- the script's int at i + k -/
theorem lw_ld (hx : p.tables.exec = Jvm.exec) (hb : c.code = cL_law) {b L : Nat} {xs : Nat → Int32} (hX : va_X b L xs s s.heap) (hbl : b < s.heap.size) (hbA : ¬ A b) (hS : va_S A s.heap H locs) {i : Nat} (k : Nat) {n : Int} (hi : i + k < L) (hL : L ≤ 3072) (h0 : ls[0]? = some (.val (.ref b))) (h4 : ls[4]? = some (.val (.int (nI i)))) (hk : Int32.ofInt n = nI k)
    (d0 : decode cL_law pc = .ok (.aload_n 0, 1)) (d1 : decode cL_law (pc + 1) = .ok (.iload 4, 2)) (d2 : decode cL_law (pc + 3) = .ok (.iconst n, 1)) (d3 : decode cL_law (pc + 4) = .ok (.iadd, 1)) (d4 : decode cL_law (pc + 5) = .ok (.iaload, 1))
    (kk : W p l e R s m args below meth c H locs cells slots Q (F0 m (pc + 6) ls (.int (xs (i + k)) :: rest))) : W p l e R s m args below meth c H locs cells slots Q (F0 m pc ls rest) := by
  refine lv_aload_n hx hb d0 rfl h0 ?_
  refine lv_iload hx hb d1 h4 ?_
  refine lv_iconst (v := nI k) hx hb d2 hk ?_
  refine lv_iadd hx hb d3 ?_
  refine lv_eqi (y := nI (i + k)) (nI_add i k) ?_
  refine va_sld hx hb hX hbl hbA hS (sx_in hi hL) d4 ?_
  refine lv_eqi (y := xs (i + k)) (by rw [nI_clamp (by omega)]) ?_
  exact kk
end LWR
/-- behind a case: the loop goes on with one call more -/
def lw_K (p : Program) (l : Launch) (e : Env) (s : State) (m : MethodId) (below : List Frame) (meth : Method) (c : Code) (b : Nat) (D : va_G) (g : Nat → ClassId) (A B : Nat → Nat) (o_ j nc ns : Nat) : Prop :=
  ∀ (pt : Nat × (Nat → Int32)) (qt : Nat × Nat × Nat × Nat × (Nat → Int32)) (wC wM : va_W) (fo : Nat → Int64) (H : Heap) (locs : List Loc) (ls : Array Slot), CK g A (j + 1) pt qt wC → MK g B (j + 1) pt qt wM → va_P D vwCl (wC ++ (wM ++ lwO g o_ fo)) H → va_D (lwA s) (wC ++ (wM ++ lwO g o_ fo)) → va_S (lwA s) s.heap H locs → lv_has ls 7 [(4, .int (nI (6 * j))), (3, .ref o_), (2, .ref (B 0)), (1, .ref (A 0)), (0, .ref b)] →
    W p l e room_1 s m #[Value.ref b] below meth c H locs (nc + 1) (ns + 6) (lw_Z below #[Value.ref b] s) (F0 m 1844 ls [])
