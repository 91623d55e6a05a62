set_option maxHeartbeats 4000000 in
set_option maxRecDepth 100000 in
/-- the loop, from its head, with j calls done -/
theorem lw_loop {p : Program} {e : Env} {s : State} {m : MethodId} {below : List Frame} {meth : Method} {c : Code} (l : Launch) (hl9 : l.stackTraces = false) {b L : Nat} {xs : Nat → Int32} (C0 : lw_At p s m meth c b L xs) (hL : L ≤ 3072) (D : va_G) (g : Nat → ClassId) (hK : va_K D vwCl (kY g) s) (hN : kn g s) (hZ : ks g (lwA s) s s.heap) (A B : Nat → Nat) (o_ : Nat) : ∀ (f j : Nat), j + f = 512 → ∀ (pt : Nat × (Nat → Int32)) (qt : Nat × Nat × Nat × Nat × (Nat → Int32)) (wC wM : va_W) (fo : Nat → Int64) (H : Heap) (locs : List Loc) (ls : Array Slot), CK g A j pt qt wC → MK g B j pt qt wM → va_P D vwCl (wC ++ (wM ++ lwO g o_ fo)) H → va_D (lwA s) (wC ++ (wM ++ lwO g o_ fo)) → va_S (lwA s) s.heap H locs → lv_has ls 7 [(4, .int (nI (6 * j))), (3, .ref o_), (2, .ref (B 0)), (1, .ref (A 0)), (0, .ref b)] →
    W p l e room_1 s m #[Value.ref b] below meth c H locs (91 + j) (5288 + 6 * j) (lw_Z below #[Value.ref b] s) (F0 m 23 ls []) := by
  intro f
  induction f with
  | zero =>
    intro j hj pt qt wC wM fo H locs ls hC hM hP hD hS hl
    obtain ⟨hx, hb, hr, hml, hown, hts0, hX, hbl, hlocks, hgv⟩ := id C0
    have hbA : ¬ lwA s b := Nat.not_le.mpr hbl
    refine lv_iload hx hb dL_law_23 (lv_at hl 0 rfl) ?_
    refine lv_aload_n hx hb dL_law_25 rfl (lv_at hl 4 rfl) ?_
    refine va_slen hx hb hX hbl hbA hS dL_law_26 ?_
    refine lv_bipush (v := 6) hx hb dL_law_27 (by decide) ?_
    refine lv_isub hx hb dL_law_29 ?_
    refine lv_icmp_gt (tgt := 1850) hx hb dL_law_30 (by decide) (fun _ => ?_) (fun cb => absurd (lw_cmp (by omega) hL cb) (by omega))
    refine lv_iconst (v := 1) hx hb dL_law_1850 (by decide) ?_
    refine W.widen (k := 601024) (n := 7293034) (by omega) (by omega) ?_
    refine va_forget (fun q hq => hS.2.2 q hq) ?_
    exact lw_ret hx hb hr hlocks dL_law_1851
  | succ f ih =>
    intro j hj pt qt wC wM fo H locs ls hC hM hP hD hS hl
    obtain ⟨hx, hb, hr, hml, hown, hts0, hX, hbl, hlocks, hgv⟩ := id C0
    have hbA : ¬ lwA s b := Nat.not_le.mpr hbl
    refine lv_iload hx hb dL_law_23 (lv_at hl 0 rfl) ?_
    refine lv_aload_n hx hb dL_law_25 rfl (lv_at hl 4 rfl) ?_
    refine va_slen hx hb hX hbl hbA hS dL_law_26 ?_
    refine lv_bipush (v := 6) hx hb dL_law_27 (by decide) ?_
    refine lv_isub hx hb dL_law_29 ?_
    refine lv_icmp_gt (tgt := 1850) hx hb dL_law_30 (by decide) (fun _ => ?_) (fun cb => ?_)
    · refine lv_iconst (v := 1) hx hb dL_law_1850 (by decide) ?_
      refine W.widen (k := 601024) (n := 7293034) (by omega) (by omega) ?_
      refine va_forget (fun q hq => hS.2.2 q hq) ?_
      exact lw_ret hx hb hr hlocks dL_law_1851
    · have hi : 6 * j + 6 ≤ L := lw_cmp (by omega) hL cb
      refine lv_aload_n hx hb dL_law_33 rfl (lv_at hl 4 rfl) ?_
      refine lv_iload hx hb dL_law_34 (lv_at hl 0 rfl) ?_
      refine va_sld hx hb hX hbl hbA hS (sx_in (by omega) hL) dL_law_36 ?_
      refine lv_bipush (v := 63) hx hb dL_law_37 (by decide) ?_
      refine lv_iand hx hb dL_law_39 ?_
      obtain ⟨k, hk, ek⟩ := pk_andE (xs (nI (6 * j)).toNatClampNeg) (m := 63) 6 (by decide)
      refine lv_eqi (y := nI k) ek ?_
      refine lsw l hl9 C0 hL D g hK hN hZ A B o_ j (91 + j) (5288 + 6 * j) (by omega) hi (show 91 + j + 1 ≤ 601024 by omega) (show 5288 + 6 * j + 6 ≤ 7293034 by omega) fo hC hM hP hD hS hl ?_ hk
      intro pt qt wC wM fo H locs ls hC hM hP hD hS hl
      refine lv_iinc (v := nI (6 * (j + 1))) (lv' := [(4, .int (nI (6 * (j + 1)))), (3, .ref o_), (2, .ref (B 0)), (1, .ref (A 0)), (0, .ref b)]) hx hb dL_law_1844 hl (k := 0) rfl (nI_add (6 * j) 6) (by decide) rfl (fun ls hl => ?_)
      refine lv_goto (tgt := 23) hx hb dL_law_1847 (by decide) ?_
      exact ih (j + 1) (by omega) pt qt wC wM fo H locs ls hC hM hP hD hS hl
