set_option maxHeartbeats 4000000 in
set_option maxRecDepth 100000 in
/-- zone -/
theorem lc_14 {p : Program} {e : Env} {s : State} {m : MethodId} {below : List Frame} {meth : Method} {c : Code} (l : Launch) (hl9 : l.stackTraces = false) {b L : Nat} {xs : Nat → Int32} (C0 : lw_At p s m meth c b L xs) (hL : L ≤ 3072) (D : va_G) (g : Nat → ClassId) (hK : va_K D vwCl (kY g) s) (hN : kn g s) (hZ : ks g (lwA s) s s.heap) (A B : Nat → Nat) (o_ j nc ns : Nat) (hj : j ≤ 512) (hi : 6 * j + 6 ≤ L) (hnc : nc + 1 ≤ room_1.cells) (hns : ns + 6 ≤ room_1.slots) {pt : Nat × (Nat → Int32)} {qt : Nat × Nat × Nat × Nat × (Nat → Int32)} {wC wM : va_W} (fo : Nat → Int64) {H : Heap} {locs : List Loc} {ls : Array Slot} (hC : CK g A j pt qt wC) (hM : MK g B j pt qt wM) (hP : va_P D vwCl (wC ++ (wM ++ lwO g o_ fo)) H) (hD : va_D (lwA s) (wC ++ (wM ++ lwO g o_ fo))) (hS : va_S (lwA s) s.heap H locs) (hl : lv_has ls 7 [(4, .int (nI (6 * j))), (3, .ref o_), (2, .ref (B 0)), (1, .ref (A 0)), (0, .ref b)]) (kk : lw_K p l e s m below meth c b D g A B o_ j nc ns) : W p l e room_1 s m #[Value.ref b] below meth c H locs nc ns (lw_Z below #[Value.ref b] s) (F0 m 736 ls []) := by
  obtain ⟨hx, hb, hr, hml, hown, hts0, hX, hbl, hlocks, hgv⟩ := id C0
  have hts : ∀ w ∈ wsL_law, w.before #[Value.ref b] s = true := fun w h => hts0 w (wsL_law_in w h)
  have hA : ∀ q : Nat, s.heap.size ≤ q → lwA s q := fun _ h => h
  have hbA : ¬ lwA s b := Nat.not_le.mpr hbl
  have hf0 : nc + 0 ≤ room_1.cells ∧ ns + 0 ≤ room_1.slots := ⟨by omega, by omega⟩
  have hf1 : nc + 1 ≤ room_1.cells ∧ ns + 6 ≤ room_1.slots := ⟨hnc, hns⟩
  refine lv_aload_n hx hb dL_law_736 rfl (lv_at hl 3 rfl) ?_
  refine lw_ld hx hb hX hbl hbA hS 1 (by omega) hL (lv_at hl 4 rfl) (lv_at hl 0 rfl) (by decide) dL_law_737 dL_law_738 dL_law_740 dL_law_741 dL_law_742 ?_
  refine lw_ld hx hb hX hbl hbA hS 2 (by omega) hL (lv_at hl 4 rfl) (lv_at hl 0 rfl) (by decide) dL_law_743 dL_law_744 dL_law_746 dL_law_747 dL_law_748 ?_
  refine lw_ld hx hb hX hbl hbA hS 3 (by omega) hL (lv_at hl 4 rfl) (lv_at hl 0 rfl) (by decide) dL_law_749 dL_law_750 dL_law_752 dL_law_753 dL_law_754 ?_
  obtain ⟨fs0, he0⟩ := hC.x
  refine ka_V (As := [.int (xs (6 * j + 1)), .int (xs (6 * j + 2)), .int (xs (6 * j + 3))]) (rest := []) ⟨hx, hb, hml, hown, hts⟩ ⟨hK, hN⟩ hZ hP hD hS hA (ck_zone l D g H.size A j hj (xs (6 * j + 1)) (xs (6 * j + 2)) (xs (6 * j + 3)) hC) (cwV 3 hts gL_law_X6_zone rfl rfl rfl (by decide +kernel) ⟨(Nat.le_of_ble_eq_true rfl), (Nat.le_of_ble_eq_true rfl)⟩) 6 he0 rfl rfl rfl hl.1 rfl (Nat.le_of_ble_eq_true rfl) dL_law_755 hf0 (fun r1 u1 H locs hC1 hP hD hS => ?_)
  rw [List.append_assoc] at hP hD
  refine lv_pop hx hb dL_law_758 rfl ?_
  refine lv_aload_n hx hb dL_law_759 rfl (lv_at hl 2 rfl) ?_
  refine lw_ld hx hb hX hbl hbA hS 1 (by omega) hL (lv_at hl 4 rfl) (lv_at hl 0 rfl) (by decide) dL_law_760 dL_law_761 dL_law_763 dL_law_764 dL_law_765 ?_
  refine lw_ld hx hb hX hbl hbA hS 2 (by omega) hL (lv_at hl 4 rfl) (lv_at hl 0 rfl) (by decide) dL_law_766 dL_law_767 dL_law_769 dL_law_770 dL_law_771 ?_
  refine lw_ld hx hb hX hbl hbA hS 3 (by omega) hL (lv_at hl 4 rfl) (lv_at hl 0 rfl) (by decide) dL_law_772 dL_law_773 dL_law_775 dL_law_776 dL_law_777 ?_
  obtain ⟨fs1, he1⟩ := hM.x
  refine ka_V (As := [.int (xs (6 * j + 1)), .int (xs (6 * j + 2)), .int (xs (6 * j + 3))]) (rest := []) ⟨hx, hb, hml, hown, hts⟩ ⟨hK, hN⟩ hZ hP hD hS hA (mk_zone l D g H.size B j hj (xs (6 * j + 1)) (xs (6 * j + 2)) (xs (6 * j + 3)) hM) (cwV 3 hts gL_law_X7_zone rfl rfl rfl (by decide +kernel) ⟨(Nat.le_of_ble_eq_true rfl), (Nat.le_of_ble_eq_true rfl)⟩) 7 he1 rfl rfl rfl hl.1 rfl (Nat.le_of_ble_eq_true rfl) dL_law_778 hf0 (fun r2 u2 H locs hM1 hP hD hS => ?_)
  refine lv_pop hx hb dL_law_781 rfl ?_
  refine lv_goto (tgt := 1844) hx hb dL_law_782 (by decide) ?_
  refine W.widen (k := nc + 1) (n := ns + 6) (by omega) (by omega) ?_
  exact kk _ _ _ _ _ _ _ _ hC1 hM1 (turn_P hP) (turn_D hD) hS (lv_sub hl [0, 1, 2, 3, 4] rfl)
set_option maxHeartbeats 4000000 in
set_option maxRecDepth 100000 in
/-- probe -/
theorem lc_15 {p : Program} {e : Env} {s : State} {m : MethodId} {below : List Frame} {meth : Method} {c : Code} (l : Launch) (hl9 : l.stackTraces = false) {b L : Nat} {xs : Nat → Int32} (C0 : lw_At p s m meth c b L xs) (hL : L ≤ 3072) (D : va_G) (g : Nat → ClassId) (hK : va_K D vwCl (kY g) s) (hN : kn g s) (hZ : ks g (lwA s) s s.heap) (A B : Nat → Nat) (o_ j nc ns : Nat) (hj : j ≤ 512) (hi : 6 * j + 6 ≤ L) (hnc : nc + 1 ≤ room_1.cells) (hns : ns + 6 ≤ room_1.slots) {pt : Nat × (Nat → Int32)} {qt : Nat × Nat × Nat × Nat × (Nat → Int32)} {wC wM : va_W} (fo : Nat → Int64) {H : Heap} {locs : List Loc} {ls : Array Slot} (hC : CK g A j pt qt wC) (hM : MK g B j pt qt wM) (hP : va_P D vwCl (wC ++ (wM ++ lwO g o_ fo)) H) (hD : va_D (lwA s) (wC ++ (wM ++ lwO g o_ fo))) (hS : va_S (lwA s) s.heap H locs) (hl : lv_has ls 7 [(4, .int (nI (6 * j))), (3, .ref o_), (2, .ref (B 0)), (1, .ref (A 0)), (0, .ref b)]) (kk : lw_K p l e s m below meth c b D g A B o_ j nc ns) : W p l e room_1 s m #[Value.ref b] below meth c H locs nc ns (lw_Z below #[Value.ref b] s) (F0 m 785 ls []) := by
  obtain ⟨hx, hb, hr, hml, hown, hts0, hX, hbl, hlocks, hgv⟩ := id C0
  have hts : ∀ w ∈ wsL_law, w.before #[Value.ref b] s = true := fun w h => hts0 w (wsL_law_in w h)
  have hA : ∀ q : Nat, s.heap.size ≤ q → lwA s q := fun _ h => h
  have hbA : ¬ lwA s b := Nat.not_le.mpr hbl
  have hf0 : nc + 0 ≤ room_1.cells ∧ ns + 0 ≤ room_1.slots := ⟨by omega, by omega⟩
  have hf1 : nc + 1 ≤ room_1.cells ∧ ns + 6 ≤ room_1.slots := ⟨hnc, hns⟩
  refine lv_aload_n hx hb dL_law_785 rfl (lv_at hl 3 rfl) ?_
  refine lw_ld hx hb hX hbl hbA hS 1 (by omega) hL (lv_at hl 4 rfl) (lv_at hl 0 rfl) (by decide) dL_law_786 dL_law_787 dL_law_789 dL_law_790 dL_law_791 ?_
  refine lw_ld hx hb hX hbl hbA hS 2 (by omega) hL (lv_at hl 4 rfl) (lv_at hl 0 rfl) (by decide) dL_law_792 dL_law_793 dL_law_795 dL_law_796 dL_law_797 ?_
  obtain ⟨fs0, he0⟩ := hC.x
  refine ka_V (As := [.int (xs (6 * j + 1)), .int (xs (6 * j + 2))]) (rest := []) ⟨hx, hb, hml, hown, hts⟩ ⟨hK, hN⟩ hZ hP hD hS hA (ck_probe l D g H.size A j hj (xs (6 * j + 1)) (xs (6 * j + 2)) hC) (cwV 2 hts gL_law_X6_probe rfl rfl rfl (by decide +kernel) ⟨(Nat.le_of_ble_eq_true rfl), (Nat.le_of_ble_eq_true rfl)⟩) 6 he0 rfl rfl rfl hl.1 rfl (Nat.le_of_ble_eq_true rfl) dL_law_798 hf0 (fun r1 u1 H locs hC1 hP hD hS => ?_)
  rw [List.append_assoc] at hP hD
  refine lv_pop hx hb dL_law_801 rfl ?_
  refine lv_aload_n hx hb dL_law_802 rfl (lv_at hl 2 rfl) ?_
  refine lw_ld hx hb hX hbl hbA hS 1 (by omega) hL (lv_at hl 4 rfl) (lv_at hl 0 rfl) (by decide) dL_law_803 dL_law_804 dL_law_806 dL_law_807 dL_law_808 ?_
  refine lw_ld hx hb hX hbl hbA hS 2 (by omega) hL (lv_at hl 4 rfl) (lv_at hl 0 rfl) (by decide) dL_law_809 dL_law_810 dL_law_812 dL_law_813 dL_law_814 ?_
  obtain ⟨fs1, he1⟩ := hM.x
  refine ka_V (As := [.int (xs (6 * j + 1)), .int (xs (6 * j + 2))]) (rest := []) ⟨hx, hb, hml, hown, hts⟩ ⟨hK, hN⟩ hZ hP hD hS hA (mk_probe l D g H.size B j hj (xs (6 * j + 1)) (xs (6 * j + 2)) hM) (cwV 2 hts gL_law_X7_probe rfl rfl rfl (by decide +kernel) ⟨(Nat.le_of_ble_eq_true rfl), (Nat.le_of_ble_eq_true rfl)⟩) 7 he1 rfl rfl rfl hl.1 rfl (Nat.le_of_ble_eq_true rfl) dL_law_815 hf0 (fun r2 u2 H locs hM1 hP hD hS => ?_)
  refine lv_pop hx hb dL_law_818 rfl ?_
  refine lv_goto (tgt := 1844) hx hb dL_law_819 (by decide) ?_
  refine W.widen (k := nc + 1) (n := ns + 6) (by omega) (by omega) ?_
  exact kk _ _ _ _ _ _ _ _ hC1 hM1 (turn_P hP) (turn_D hD) hS (lv_sub hl [0, 1, 2, 3, 4] rfl)
set_option maxHeartbeats 4000000 in
set_option maxRecDepth 100000 in
/-- status -/
theorem lc_16 {p : Program} {e : Env} {s : State} {m : MethodId} {below : List Frame} {meth : Method} {c : Code} (l : Launch) (hl9 : l.stackTraces = false) {b L : Nat} {xs : Nat → Int32} (C0 : lw_At p s m meth c b L xs) (hL : L ≤ 3072) (D : va_G) (g : Nat → ClassId) (hK : va_K D vwCl (kY g) s) (hN : kn g s) (hZ : ks g (lwA s) s s.heap) (A B : Nat → Nat) (o_ j nc ns : Nat) (hj : j ≤ 512) (hi : 6 * j + 6 ≤ L) (hnc : nc + 1 ≤ room_1.cells) (hns : ns + 6 ≤ room_1.slots) {pt : Nat × (Nat → Int32)} {qt : Nat × Nat × Nat × Nat × (Nat → Int32)} {wC wM : va_W} (fo : Nat → Int64) {H : Heap} {locs : List Loc} {ls : Array Slot} (hC : CK g A j pt qt wC) (hM : MK g B j pt qt wM) (hP : va_P D vwCl (wC ++ (wM ++ lwO g o_ fo)) H) (hD : va_D (lwA s) (wC ++ (wM ++ lwO g o_ fo))) (hS : va_S (lwA s) s.heap H locs) (hl : lv_has ls 7 [(4, .int (nI (6 * j))), (3, .ref o_), (2, .ref (B 0)), (1, .ref (A 0)), (0, .ref b)]) (kk : lw_K p l e s m below meth c b D g A B o_ j nc ns) : W p l e room_1 s m #[Value.ref b] below meth c H locs nc ns (lw_Z below #[Value.ref b] s) (F0 m 822 ls []) := by
  obtain ⟨hx, hb, hr, hml, hown, hts0, hX, hbl, hlocks, hgv⟩ := id C0
  have hts : ∀ w ∈ wsL_law, w.before #[Value.ref b] s = true := fun w h => hts0 w (wsL_law_in w h)
  have hA : ∀ q : Nat, s.heap.size ≤ q → lwA s q := fun _ h => h
  have hbA : ¬ lwA s b := Nat.not_le.mpr hbl
  have hf0 : nc + 0 ≤ room_1.cells ∧ ns + 0 ≤ room_1.slots := ⟨by omega, by omega⟩
  have hf1 : nc + 1 ≤ room_1.cells ∧ ns + 6 ≤ room_1.slots := ⟨hnc, hns⟩
  refine lv_aload_n hx hb dL_law_822 rfl (lv_at hl 3 rfl) ?_
  refine lw_ld hx hb hX hbl hbA hS 1 (by omega) hL (lv_at hl 4 rfl) (lv_at hl 0 rfl) (by decide) dL_law_823 dL_law_824 dL_law_826 dL_law_827 dL_law_828 ?_
  obtain ⟨fs0, he0⟩ := hC.x
  refine ka_V (As := [.int (xs (6 * j + 1))]) (rest := []) ⟨hx, hb, hml, hown, hts⟩ ⟨hK, hN⟩ hZ hP hD hS hA (ck_status l D g H.size A j hj (xs (6 * j + 1)) hC) (cwV 1 hts gL_law_X6_status rfl rfl rfl (by decide +kernel) ⟨(Nat.le_of_ble_eq_true rfl), (Nat.le_of_ble_eq_true rfl)⟩) 6 he0 rfl rfl rfl hl.1 rfl (Nat.le_of_ble_eq_true rfl) dL_law_829 hf0 (fun r1 u1 H locs hC1 hP hD hS => ?_)
  rw [List.append_assoc] at hP hD
  refine lv_pop hx hb dL_law_832 rfl ?_
  refine lv_aload_n hx hb dL_law_833 rfl (lv_at hl 2 rfl) ?_
  refine lw_ld hx hb hX hbl hbA hS 1 (by omega) hL (lv_at hl 4 rfl) (lv_at hl 0 rfl) (by decide) dL_law_834 dL_law_835 dL_law_837 dL_law_838 dL_law_839 ?_
  obtain ⟨fs1, he1⟩ := hM.x
  refine ka_V (As := [.int (xs (6 * j + 1))]) (rest := []) ⟨hx, hb, hml, hown, hts⟩ ⟨hK, hN⟩ hZ hP hD hS hA (mk_status l D g H.size B j hj (xs (6 * j + 1)) hM) (cwV 1 hts gL_law_X7_status rfl rfl rfl (by decide +kernel) ⟨(Nat.le_of_ble_eq_true rfl), (Nat.le_of_ble_eq_true rfl)⟩) 7 he1 rfl rfl rfl hl.1 rfl (Nat.le_of_ble_eq_true rfl) dL_law_840 hf0 (fun r2 u2 H locs hM1 hP hD hS => ?_)
  refine lv_pop hx hb dL_law_843 rfl ?_
  refine lv_goto (tgt := 1844) hx hb dL_law_844 (by decide) ?_
  refine W.widen (k := nc + 1) (n := ns + 6) (by omega) (by omega) ?_
  exact kk _ _ _ _ _ _ _ _ hC1 hM1 (turn_P hP) (turn_D hD) hS (lv_sub hl [0, 1, 2, 3, 4] rfl)
set_option maxHeartbeats 4000000 in
set_option maxRecDepth 100000 in
/-- laneAhead -/
theorem lc_17 {p : Program} {e : Env} {s : State} {m : MethodId} {below : List Frame} {meth : Method} {c : Code} (l : Launch) (hl9 : l.stackTraces = false) {b L : Nat} {xs : Nat → Int32} (C0 : lw_At p s m meth c b L xs) (hL : L ≤ 3072) (D : va_G) (g : Nat → ClassId) (hK : va_K D vwCl (kY g) s) (hN : kn g s) (hZ : ks g (lwA s) s s.heap) (A B : Nat → Nat) (o_ j nc ns : Nat) (hj : j ≤ 512) (hi : 6 * j + 6 ≤ L) (hnc : nc + 1 ≤ room_1.cells) (hns : ns + 6 ≤ room_1.slots) {pt : Nat × (Nat → Int32)} {qt : Nat × Nat × Nat × Nat × (Nat → Int32)} {wC wM : va_W} (fo : Nat → Int64) {H : Heap} {locs : List Loc} {ls : Array Slot} (hC : CK g A j pt qt wC) (hM : MK g B j pt qt wM) (hP : va_P D vwCl (wC ++ (wM ++ lwO g o_ fo)) H) (hD : va_D (lwA s) (wC ++ (wM ++ lwO g o_ fo))) (hS : va_S (lwA s) s.heap H locs) (hl : lv_has ls 7 [(4, .int (nI (6 * j))), (3, .ref o_), (2, .ref (B 0)), (1, .ref (A 0)), (0, .ref b)]) (kk : lw_K p l e s m below meth c b D g A B o_ j nc ns) : W p l e room_1 s m #[Value.ref b] below meth c H locs nc ns (lw_Z below #[Value.ref b] s) (F0 m 847 ls []) := by
  obtain ⟨hx, hb, hr, hml, hown, hts0, hX, hbl, hlocks, hgv⟩ := id C0
  have hts : ∀ w ∈ wsL_law, w.before #[Value.ref b] s = true := fun w h => hts0 w (wsL_law_in w h)
  have hA : ∀ q : Nat, s.heap.size ≤ q → lwA s q := fun _ h => h
  have hbA : ¬ lwA s b := Nat.not_le.mpr hbl
  have hf0 : nc + 0 ≤ room_1.cells ∧ ns + 0 ≤ room_1.slots := ⟨by omega, by omega⟩
  have hf1 : nc + 1 ≤ room_1.cells ∧ ns + 6 ≤ room_1.slots := ⟨hnc, hns⟩
  refine lv_aload_n hx hb dL_law_847 rfl (lv_at hl 3 rfl) ?_
  refine lw_ld hx hb hX hbl hbA hS 1 (by omega) hL (lv_at hl 4 rfl) (lv_at hl 0 rfl) (by decide) dL_law_848 dL_law_849 dL_law_851 dL_law_852 dL_law_853 ?_
  refine lw_ld hx hb hX hbl hbA hS 2 (by omega) hL (lv_at hl 4 rfl) (lv_at hl 0 rfl) (by decide) dL_law_854 dL_law_855 dL_law_857 dL_law_858 dL_law_859 ?_
  refine lw_ld hx hb hX hbl hbA hS 3 (by omega) hL (lv_at hl 4 rfl) (lv_at hl 0 rfl) (by decide) dL_law_860 dL_law_861 dL_law_863 dL_law_864 dL_law_865 ?_
  refine lw_ld hx hb hX hbl hbA hS 4 (by omega) hL (lv_at hl 4 rfl) (lv_at hl 0 rfl) (by decide) dL_law_866 dL_law_867 dL_law_869 dL_law_870 dL_law_871 ?_
  obtain ⟨fs0, he0⟩ := hC.x
  refine ka_V (As := [.int (xs (6 * j + 1)), .int (xs (6 * j + 2)), .int (xs (6 * j + 3)), .int (xs (6 * j + 4))]) (rest := []) ⟨hx, hb, hml, hown, hts⟩ ⟨hK, hN⟩ hZ hP hD hS hA (ck_laneAhead l D g H.size A j hj (xs (6 * j + 1)) (xs (6 * j + 2)) (xs (6 * j + 3)) (xs (6 * j + 4)) hC) (cwV 4 hts gL_law_X6_laneAhead rfl rfl rfl (by decide +kernel) ⟨(Nat.le_of_ble_eq_true rfl), (Nat.le_of_ble_eq_true rfl)⟩) 6 he0 rfl rfl rfl hl.1 rfl (Nat.le_of_ble_eq_true rfl) dL_law_872 hf0 (fun r1 u1 H locs hC1 hP hD hS => ?_)
  rw [List.append_assoc] at hP hD
  refine lv_pop hx hb dL_law_875 rfl ?_
  refine lv_aload_n hx hb dL_law_876 rfl (lv_at hl 2 rfl) ?_
  refine lw_ld hx hb hX hbl hbA hS 1 (by omega) hL (lv_at hl 4 rfl) (lv_at hl 0 rfl) (by decide) dL_law_877 dL_law_878 dL_law_880 dL_law_881 dL_law_882 ?_
  refine lw_ld hx hb hX hbl hbA hS 2 (by omega) hL (lv_at hl 4 rfl) (lv_at hl 0 rfl) (by decide) dL_law_883 dL_law_884 dL_law_886 dL_law_887 dL_law_888 ?_
  refine lw_ld hx hb hX hbl hbA hS 3 (by omega) hL (lv_at hl 4 rfl) (lv_at hl 0 rfl) (by decide) dL_law_889 dL_law_890 dL_law_892 dL_law_893 dL_law_894 ?_
  refine lw_ld hx hb hX hbl hbA hS 4 (by omega) hL (lv_at hl 4 rfl) (lv_at hl 0 rfl) (by decide) dL_law_895 dL_law_896 dL_law_898 dL_law_899 dL_law_900 ?_
  obtain ⟨fs1, he1⟩ := hM.x
  refine ka_V (As := [.int (xs (6 * j + 1)), .int (xs (6 * j + 2)), .int (xs (6 * j + 3)), .int (xs (6 * j + 4))]) (rest := []) ⟨hx, hb, hml, hown, hts⟩ ⟨hK, hN⟩ hZ hP hD hS hA (mk_laneAhead l D g H.size B j hj (xs (6 * j + 1)) (xs (6 * j + 2)) (xs (6 * j + 3)) (xs (6 * j + 4)) hM) (cwV 4 hts gL_law_X7_laneAhead rfl rfl rfl (by decide +kernel) ⟨(Nat.le_of_ble_eq_true rfl), (Nat.le_of_ble_eq_true rfl)⟩) 7 he1 rfl rfl rfl hl.1 rfl (Nat.le_of_ble_eq_true rfl) dL_law_901 hf0 (fun r2 u2 H locs hM1 hP hD hS => ?_)
  refine lv_pop hx hb dL_law_904 rfl ?_
  refine lv_goto (tgt := 1844) hx hb dL_law_905 (by decide) ?_
  refine W.widen (k := nc + 1) (n := ns + 6) (by omega) (by omega) ?_
  exact kk _ _ _ _ _ _ _ _ hC1 hM1 (turn_P hP) (turn_D hD) hS (lv_sub hl [0, 1, 2, 3, 4] rfl)
set_option maxHeartbeats 4000000 in
set_option maxRecDepth 100000 in
/-- bufferAhead -/
theorem lc_18 {p : Program} {e : Env} {s : State} {m : MethodId} {below : List Frame} {meth : Method} {c : Code} (l : Launch) (hl9 : l.stackTraces = false) {b L : Nat} {xs : Nat → Int32} (C0 : lw_At p s m meth c b L xs) (hL : L ≤ 3072) (D : va_G) (g : Nat → ClassId) (hK : va_K D vwCl (kY g) s) (hN : kn g s) (hZ : ks g (lwA s) s s.heap) (A B : Nat → Nat) (o_ j nc ns : Nat) (hj : j ≤ 512) (hi : 6 * j + 6 ≤ L) (hnc : nc + 1 ≤ room_1.cells) (hns : ns + 6 ≤ room_1.slots) {pt : Nat × (Nat → Int32)} {qt : Nat × Nat × Nat × Nat × (Nat → Int32)} {wC wM : va_W} (fo : Nat → Int64) {H : Heap} {locs : List Loc} {ls : Array Slot} (hC : CK g A j pt qt wC) (hM : MK g B j pt qt wM) (hP : va_P D vwCl (wC ++ (wM ++ lwO g o_ fo)) H) (hD : va_D (lwA s) (wC ++ (wM ++ lwO g o_ fo))) (hS : va_S (lwA s) s.heap H locs) (hl : lv_has ls 7 [(4, .int (nI (6 * j))), (3, .ref o_), (2, .ref (B 0)), (1, .ref (A 0)), (0, .ref b)]) (kk : lw_K p l e s m below meth c b D g A B o_ j nc ns) : W p l e room_1 s m #[Value.ref b] below meth c H locs nc ns (lw_Z below #[Value.ref b] s) (F0 m 908 ls []) := by
  obtain ⟨hx, hb, hr, hml, hown, hts0, hX, hbl, hlocks, hgv⟩ := id C0
  have hts : ∀ w ∈ wsL_law, w.before #[Value.ref b] s = true := fun w h => hts0 w (wsL_law_in w h)
  have hA : ∀ q : Nat, s.heap.size ≤ q → lwA s q := fun _ h => h
  have hbA : ¬ lwA s b := Nat.not_le.mpr hbl
  have hf0 : nc + 0 ≤ room_1.cells ∧ ns + 0 ≤ room_1.slots := ⟨by omega, by omega⟩
  have hf1 : nc + 1 ≤ room_1.cells ∧ ns + 6 ≤ room_1.slots := ⟨hnc, hns⟩
  refine lv_aload_n hx hb dL_law_908 rfl (lv_at hl 3 rfl) ?_
  refine lw_ld hx hb hX hbl hbA hS 1 (by omega) hL (lv_at hl 4 rfl) (lv_at hl 0 rfl) (by decide) dL_law_909 dL_law_910 dL_law_912 dL_law_913 dL_law_914 ?_
  refine lw_ld hx hb hX hbl hbA hS 2 (by omega) hL (lv_at hl 4 rfl) (lv_at hl 0 rfl) (by decide) dL_law_915 dL_law_916 dL_law_918 dL_law_919 dL_law_920 ?_
  refine lw_ld hx hb hX hbl hbA hS 3 (by omega) hL (lv_at hl 4 rfl) (lv_at hl 0 rfl) (by decide) dL_law_921 dL_law_922 dL_law_924 dL_law_925 dL_law_926 ?_
  obtain ⟨fs0, he0⟩ := hC.x
  refine ka_V (As := [.int (xs (6 * j + 1)), .int (xs (6 * j + 2)), .int (xs (6 * j + 3))]) (rest := []) ⟨hx, hb, hml, hown, hts⟩ ⟨hK, hN⟩ hZ hP hD hS hA (ck_bufferAhead l D g H.size A j hj (xs (6 * j + 1)) (xs (6 * j + 2)) (xs (6 * j + 3)) hC) (cwV 3 hts gL_law_X6_bufferAhead rfl rfl rfl (by decide +kernel) ⟨(Nat.le_of_ble_eq_true rfl), (Nat.le_of_ble_eq_true rfl)⟩) 6 he0 rfl rfl rfl hl.1 rfl (Nat.le_of_ble_eq_true rfl) dL_law_927 hf0 (fun r1 u1 H locs hC1 hP hD hS => ?_)
  rw [List.append_assoc] at hP hD
  refine lv_pop hx hb dL_law_930 rfl ?_
  refine lv_aload_n hx hb dL_law_931 rfl (lv_at hl 2 rfl) ?_
  refine lw_ld hx hb hX hbl hbA hS 1 (by omega) hL (lv_at hl 4 rfl) (lv_at hl 0 rfl) (by decide) dL_law_932 dL_law_933 dL_law_935 dL_law_936 dL_law_937 ?_
  refine lw_ld hx hb hX hbl hbA hS 2 (by omega) hL (lv_at hl 4 rfl) (lv_at hl 0 rfl) (by decide) dL_law_938 dL_law_939 dL_law_941 dL_law_942 dL_law_943 ?_
  refine lw_ld hx hb hX hbl hbA hS 3 (by omega) hL (lv_at hl 4 rfl) (lv_at hl 0 rfl) (by decide) dL_law_944 dL_law_945 dL_law_947 dL_law_948 dL_law_949 ?_
  obtain ⟨fs1, he1⟩ := hM.x
  refine ka_V (As := [.int (xs (6 * j + 1)), .int (xs (6 * j + 2)), .int (xs (6 * j + 3))]) (rest := []) ⟨hx, hb, hml, hown, hts⟩ ⟨hK, hN⟩ hZ hP hD hS hA (mk_bufferAhead l D g H.size B j hj (xs (6 * j + 1)) (xs (6 * j + 2)) (xs (6 * j + 3)) hM) (cwV 3 hts gL_law_X7_bufferAhead rfl rfl rfl (by decide +kernel) ⟨(Nat.le_of_ble_eq_true rfl), (Nat.le_of_ble_eq_true rfl)⟩) 7 he1 rfl rfl rfl hl.1 rfl (Nat.le_of_ble_eq_true rfl) dL_law_950 hf0 (fun r2 u2 H locs hM1 hP hD hS => ?_)
  refine lv_pop hx hb dL_law_953 rfl ?_
  refine lv_goto (tgt := 1844) hx hb dL_law_954 (by decide) ?_
  refine W.widen (k := nc + 1) (n := ns + 6) (by omega) (by omega) ?_
  exact kk _ _ _ _ _ _ _ _ hC1 hM1 (turn_P hP) (turn_D hD) hS (lv_sub hl [0, 1, 2, 3, 4] rfl)
set_option maxHeartbeats 4000000 in
set_option maxRecDepth 100000 in
/-- delivered -/
theorem lc_19 {p : Program} {e : Env} {s : State} {m : MethodId} {below : List Frame} {meth : Method} {c : Code} (l : Launch) (hl9 : l.stackTraces = false) {b L : Nat} {xs : Nat → Int32} (C0 : lw_At p s m meth c b L xs) (hL : L ≤ 3072) (D : va_G) (g : Nat → ClassId) (hK : va_K D vwCl (kY g) s) (hN : kn g s) (hZ : ks g (lwA s) s s.heap) (A B : Nat → Nat) (o_ j nc ns : Nat) (hj : j ≤ 512) (hi : 6 * j + 6 ≤ L) (hnc : nc + 1 ≤ room_1.cells) (hns : ns + 6 ≤ room_1.slots) {pt : Nat × (Nat → Int32)} {qt : Nat × Nat × Nat × Nat × (Nat → Int32)} {wC wM : va_W} (fo : Nat → Int64) {H : Heap} {locs : List Loc} {ls : Array Slot} (hC : CK g A j pt qt wC) (hM : MK g B j pt qt wM) (hP : va_P D vwCl (wC ++ (wM ++ lwO g o_ fo)) H) (hD : va_D (lwA s) (wC ++ (wM ++ lwO g o_ fo))) (hS : va_S (lwA s) s.heap H locs) (hl : lv_has ls 7 [(4, .int (nI (6 * j))), (3, .ref o_), (2, .ref (B 0)), (1, .ref (A 0)), (0, .ref b)]) (kk : lw_K p l e s m below meth c b D g A B o_ j nc ns) : W p l e room_1 s m #[Value.ref b] below meth c H locs nc ns (lw_Z below #[Value.ref b] s) (F0 m 957 ls []) := by
  obtain ⟨hx, hb, hr, hml, hown, hts0, hX, hbl, hlocks, hgv⟩ := id C0
  have hts : ∀ w ∈ wsL_law, w.before #[Value.ref b] s = true := fun w h => hts0 w (wsL_law_in w h)
  have hA : ∀ q : Nat, s.heap.size ≤ q → lwA s q := fun _ h => h
  have hbA : ¬ lwA s b := Nat.not_le.mpr hbl
  have hf0 : nc + 0 ≤ room_1.cells ∧ ns + 0 ≤ room_1.slots := ⟨by omega, by omega⟩
  have hf1 : nc + 1 ≤ room_1.cells ∧ ns + 6 ≤ room_1.slots := ⟨hnc, hns⟩
  refine lv_aload_n hx hb dL_law_957 rfl (lv_at hl 3 rfl) ?_
  refine lw_ld hx hb hX hbl hbA hS 1 (by omega) hL (lv_at hl 4 rfl) (lv_at hl 0 rfl) (by decide) dL_law_958 dL_law_959 dL_law_961 dL_law_962 dL_law_963 ?_
  refine lw_ld hx hb hX hbl hbA hS 2 (by omega) hL (lv_at hl 4 rfl) (lv_at hl 0 rfl) (by decide) dL_law_964 dL_law_965 dL_law_967 dL_law_968 dL_law_969 ?_
  obtain ⟨fs0, he0⟩ := hC.x
  refine ka_V (As := [.int (xs (6 * j + 1)), .int (xs (6 * j + 2))]) (rest := []) ⟨hx, hb, hml, hown, hts⟩ ⟨hK, hN⟩ hZ hP hD hS hA (ck_delivered l D g H.size A j hj (xs (6 * j + 1)) (xs (6 * j + 2)) hC) (cwV 2 hts gL_law_X6_delivered rfl rfl rfl (by decide +kernel) ⟨(Nat.le_of_ble_eq_true rfl), (Nat.le_of_ble_eq_true rfl)⟩) 6 he0 rfl rfl rfl hl.1 rfl (Nat.le_of_ble_eq_true rfl) dL_law_970 hf0 (fun r1 u1 H locs hC1 hP hD hS => ?_)
  rw [List.append_assoc] at hP hD
  refine lv_pop hx hb dL_law_973 rfl ?_
  refine lv_aload_n hx hb dL_law_974 rfl (lv_at hl 2 rfl) ?_
  refine lw_ld hx hb hX hbl hbA hS 1 (by omega) hL (lv_at hl 4 rfl) (lv_at hl 0 rfl) (by decide) dL_law_975 dL_law_976 dL_law_978 dL_law_979 dL_law_980 ?_
  refine lw_ld hx hb hX hbl hbA hS 2 (by omega) hL (lv_at hl 4 rfl) (lv_at hl 0 rfl) (by decide) dL_law_981 dL_law_982 dL_law_984 dL_law_985 dL_law_986 ?_
  obtain ⟨fs1, he1⟩ := hM.x
  refine ka_V (As := [.int (xs (6 * j + 1)), .int (xs (6 * j + 2))]) (rest := []) ⟨hx, hb, hml, hown, hts⟩ ⟨hK, hN⟩ hZ hP hD hS hA (mk_delivered l D g H.size B j hj (xs (6 * j + 1)) (xs (6 * j + 2)) hM) (cwV 2 hts gL_law_X7_delivered rfl rfl rfl (by decide +kernel) ⟨(Nat.le_of_ble_eq_true rfl), (Nat.le_of_ble_eq_true rfl)⟩) 7 he1 rfl rfl rfl hl.1 rfl (Nat.le_of_ble_eq_true rfl) dL_law_987 hf0 (fun r2 u2 H locs hM1 hP hD hS => ?_)
  refine lv_pop hx hb dL_law_990 rfl ?_
  refine lv_goto (tgt := 1844) hx hb dL_law_991 (by decide) ?_
  refine W.widen (k := nc + 1) (n := ns + 6) (by omega) (by omega) ?_
  exact kk _ _ _ _ _ _ _ _ hC1 hM1 (turn_P hP) (turn_D hD) hS (lv_sub hl [0, 1, 2, 3, 4] rfl)
set_option maxHeartbeats 4000000 in
set_option maxRecDepth 100000 in
/-- heldUp -/
theorem lc_20 {p : Program} {e : Env} {s : State} {m : MethodId} {below : List Frame} {meth : Method} {c : Code} (l : Launch) (hl9 : l.stackTraces = false) {b L : Nat} {xs : Nat → Int32} (C0 : lw_At p s m meth c b L xs) (hL : L ≤ 3072) (D : va_G) (g : Nat → ClassId) (hK : va_K D vwCl (kY g) s) (hN : kn g s) (hZ : ks g (lwA s) s s.heap) (A B : Nat → Nat) (o_ j nc ns : Nat) (hj : j ≤ 512) (hi : 6 * j + 6 ≤ L) (hnc : nc + 1 ≤ room_1.cells) (hns : ns + 6 ≤ room_1.slots) {pt : Nat × (Nat → Int32)} {qt : Nat × Nat × Nat × Nat × (Nat → Int32)} {wC wM : va_W} (fo : Nat → Int64) {H : Heap} {locs : List Loc} {ls : Array Slot} (hC : CK g A j pt qt wC) (hM : MK g B j pt qt wM) (hP : va_P D vwCl (wC ++ (wM ++ lwO g o_ fo)) H) (hD : va_D (lwA s) (wC ++ (wM ++ lwO g o_ fo))) (hS : va_S (lwA s) s.heap H locs) (hl : lv_has ls 7 [(4, .int (nI (6 * j))), (3, .ref o_), (2, .ref (B 0)), (1, .ref (A 0)), (0, .ref b)]) (kk : lw_K p l e s m below meth c b D g A B o_ j nc ns) : W p l e room_1 s m #[Value.ref b] below meth c H locs nc ns (lw_Z below #[Value.ref b] s) (F0 m 994 ls []) := by
  obtain ⟨hx, hb, hr, hml, hown, hts0, hX, hbl, hlocks, hgv⟩ := id C0
  have hts : ∀ w ∈ wsL_law, w.before #[Value.ref b] s = true := fun w h => hts0 w (wsL_law_in w h)
  have hA : ∀ q : Nat, s.heap.size ≤ q → lwA s q := fun _ h => h
  have hbA : ¬ lwA s b := Nat.not_le.mpr hbl
  have hf0 : nc + 0 ≤ room_1.cells ∧ ns + 0 ≤ room_1.slots := ⟨by omega, by omega⟩
  have hf1 : nc + 1 ≤ room_1.cells ∧ ns + 6 ≤ room_1.slots := ⟨hnc, hns⟩
  refine lv_aload_n hx hb dL_law_994 rfl (lv_at hl 3 rfl) ?_
  refine lw_ld hx hb hX hbl hbA hS 1 (by omega) hL (lv_at hl 4 rfl) (lv_at hl 0 rfl) (by decide) dL_law_995 dL_law_996 dL_law_998 dL_law_999 dL_law_1000 ?_
  refine lw_ld hx hb hX hbl hbA hS 2 (by omega) hL (lv_at hl 4 rfl) (lv_at hl 0 rfl) (by decide) dL_law_1001 dL_law_1002 dL_law_1004 dL_law_1005 dL_law_1006 ?_
  obtain ⟨fs0, he0⟩ := hC.x
  refine ka_V (As := [.int (xs (6 * j + 1)), .int (xs (6 * j + 2))]) (rest := []) ⟨hx, hb, hml, hown, hts⟩ ⟨hK, hN⟩ hZ hP hD hS hA (ck_heldUp l D g H.size A j hj (xs (6 * j + 1)) (xs (6 * j + 2)) hC) (cwV 2 hts gL_law_X6_heldUp rfl rfl rfl (by decide +kernel) ⟨(Nat.le_of_ble_eq_true rfl), (Nat.le_of_ble_eq_true rfl)⟩) 6 he0 rfl rfl rfl hl.1 rfl (Nat.le_of_ble_eq_true rfl) dL_law_1007 hf0 (fun r1 u1 H locs hC1 hP hD hS => ?_)
  rw [List.append_assoc] at hP hD
  refine lv_pop hx hb dL_law_1010 rfl ?_
  refine lv_aload_n hx hb dL_law_1011 rfl (lv_at hl 2 rfl) ?_
  refine lw_ld hx hb hX hbl hbA hS 1 (by omega) hL (lv_at hl 4 rfl) (lv_at hl 0 rfl) (by decide) dL_law_1012 dL_law_1013 dL_law_1015 dL_law_1016 dL_law_1017 ?_
  refine lw_ld hx hb hX hbl hbA hS 2 (by omega) hL (lv_at hl 4 rfl) (lv_at hl 0 rfl) (by decide) dL_law_1018 dL_law_1019 dL_law_1021 dL_law_1022 dL_law_1023 ?_
  obtain ⟨fs1, he1⟩ := hM.x
  refine ka_V (As := [.int (xs (6 * j + 1)), .int (xs (6 * j + 2))]) (rest := []) ⟨hx, hb, hml, hown, hts⟩ ⟨hK, hN⟩ hZ hP hD hS hA (mk_heldUp l D g H.size B j hj (xs (6 * j + 1)) (xs (6 * j + 2)) hM) (cwV 2 hts gL_law_X7_heldUp rfl rfl rfl (by decide +kernel) ⟨(Nat.le_of_ble_eq_true rfl), (Nat.le_of_ble_eq_true rfl)⟩) 7 he1 rfl rfl rfl hl.1 rfl (Nat.le_of_ble_eq_true rfl) dL_law_1024 hf0 (fun r2 u2 H locs hM1 hP hD hS => ?_)
  refine lv_pop hx hb dL_law_1027 rfl ?_
  refine lv_goto (tgt := 1844) hx hb dL_law_1028 (by decide) ?_
  refine W.widen (k := nc + 1) (n := ns + 6) (by omega) (by omega) ?_
  exact kk _ _ _ _ _ _ _ _ hC1 hM1 (turn_P hP) (turn_D hD) hS (lv_sub hl [0, 1, 2, 3, 4] rfl)
set_option maxHeartbeats 4000000 in
set_option maxRecDepth 100000 in
/-- idle -/
theorem lc_21 {p : Program} {e : Env} {s : State} {m : MethodId} {below : List Frame} {meth : Method} {c : Code} (l : Launch) (hl9 : l.stackTraces = false) {b L : Nat} {xs : Nat → Int32} (C0 : lw_At p s m meth c b L xs) (hL : L ≤ 3072) (D : va_G) (g : Nat → ClassId) (hK : va_K D vwCl (kY g) s) (hN : kn g s) (hZ : ks g (lwA s) s s.heap) (A B : Nat → Nat) (o_ j nc ns : Nat) (hj : j ≤ 512) (hi : 6 * j + 6 ≤ L) (hnc : nc + 1 ≤ room_1.cells) (hns : ns + 6 ≤ room_1.slots) {pt : Nat × (Nat → Int32)} {qt : Nat × Nat × Nat × Nat × (Nat → Int32)} {wC wM : va_W} (fo : Nat → Int64) {H : Heap} {locs : List Loc} {ls : Array Slot} (hC : CK g A j pt qt wC) (hM : MK g B j pt qt wM) (hP : va_P D vwCl (wC ++ (wM ++ lwO g o_ fo)) H) (hD : va_D (lwA s) (wC ++ (wM ++ lwO g o_ fo))) (hS : va_S (lwA s) s.heap H locs) (hl : lv_has ls 7 [(4, .int (nI (6 * j))), (3, .ref o_), (2, .ref (B 0)), (1, .ref (A 0)), (0, .ref b)]) (kk : lw_K p l e s m below meth c b D g A B o_ j nc ns) : W p l e room_1 s m #[Value.ref b] below meth c H locs nc ns (lw_Z below #[Value.ref b] s) (F0 m 1031 ls []) := by
  obtain ⟨hx, hb, hr, hml, hown, hts0, hX, hbl, hlocks, hgv⟩ := id C0
  have hts : ∀ w ∈ wsL_law, w.before #[Value.ref b] s = true := fun w h => hts0 w (wsL_law_in w h)
  have hA : ∀ q : Nat, s.heap.size ≤ q → lwA s q := fun _ h => h
  have hbA : ¬ lwA s b := Nat.not_le.mpr hbl
  have hf0 : nc + 0 ≤ room_1.cells ∧ ns + 0 ≤ room_1.slots := ⟨by omega, by omega⟩
  have hf1 : nc + 1 ≤ room_1.cells ∧ ns + 6 ≤ room_1.slots := ⟨hnc, hns⟩
  refine lv_aload_n hx hb dL_law_1031 rfl (lv_at hl 3 rfl) ?_
  refine lw_ld hx hb hX hbl hbA hS 1 (by omega) hL (lv_at hl 4 rfl) (lv_at hl 0 rfl) (by decide) dL_law_1032 dL_law_1033 dL_law_1035 dL_law_1036 dL_law_1037 ?_
  refine lw_ld hx hb hX hbl hbA hS 2 (by omega) hL (lv_at hl 4 rfl) (lv_at hl 0 rfl) (by decide) dL_law_1038 dL_law_1039 dL_law_1041 dL_law_1042 dL_law_1043 ?_
  obtain ⟨fs0, he0⟩ := hC.x
  refine ka_V (As := [.int (xs (6 * j + 1)), .int (xs (6 * j + 2))]) (rest := []) ⟨hx, hb, hml, hown, hts⟩ ⟨hK, hN⟩ hZ hP hD hS hA (ck_idle l D g H.size A j hj (xs (6 * j + 1)) (xs (6 * j + 2)) hC) (cwV 2 hts gL_law_X6_idle rfl rfl rfl (by decide +kernel) ⟨(Nat.le_of_ble_eq_true rfl), (Nat.le_of_ble_eq_true rfl)⟩) 6 he0 rfl rfl rfl hl.1 rfl (Nat.le_of_ble_eq_true rfl) dL_law_1044 hf0 (fun r1 u1 H locs hC1 hP hD hS => ?_)
  rw [List.append_assoc] at hP hD
  refine lv_pop hx hb dL_law_1047 rfl ?_
  refine lv_aload_n hx hb dL_law_1048 rfl (lv_at hl 2 rfl) ?_
  refine lw_ld hx hb hX hbl hbA hS 1 (by omega) hL (lv_at hl 4 rfl) (lv_at hl 0 rfl) (by decide) dL_law_1049 dL_law_1050 dL_law_1052 dL_law_1053 dL_law_1054 ?_
  refine lw_ld hx hb hX hbl hbA hS 2 (by omega) hL (lv_at hl 4 rfl) (lv_at hl 0 rfl) (by decide) dL_law_1055 dL_law_1056 dL_law_1058 dL_law_1059 dL_law_1060 ?_
  obtain ⟨fs1, he1⟩ := hM.x
  refine ka_V (As := [.int (xs (6 * j + 1)), .int (xs (6 * j + 2))]) (rest := []) ⟨hx, hb, hml, hown, hts⟩ ⟨hK, hN⟩ hZ hP hD hS hA (mk_idle l D g H.size B j hj (xs (6 * j + 1)) (xs (6 * j + 2)) hM) (cwV 2 hts gL_law_X7_idle rfl rfl rfl (by decide +kernel) ⟨(Nat.le_of_ble_eq_true rfl), (Nat.le_of_ble_eq_true rfl)⟩) 7 he1 rfl rfl rfl hl.1 rfl (Nat.le_of_ble_eq_true rfl) dL_law_1061 hf0 (fun r2 u2 H locs hM1 hP hD hS => ?_)
  refine lv_pop hx hb dL_law_1064 rfl ?_
  refine lv_goto (tgt := 1844) hx hb dL_law_1065 (by decide) ?_
  refine W.widen (k := nc + 1) (n := ns + 6) (by omega) (by omega) ?_
  exact kk _ _ _ _ _ _ _ _ hC1 hM1 (turn_P hP) (turn_D hD) hS (lv_sub hl [0, 1, 2, 3, 4] rfl)
set_option maxHeartbeats 4000000 in
set_option maxRecDepth 100000 in
/-- most -/
theorem lc_22 {p : Program} {e : Env} {s : State} {m : MethodId} {below : List Frame} {meth : Method} {c : Code} (l : Launch) (hl9 : l.stackTraces = false) {b L : Nat} {xs : Nat → Int32} (C0 : lw_At p s m meth c b L xs) (hL : L ≤ 3072) (D : va_G) (g : Nat → ClassId) (hK : va_K D vwCl (kY g) s) (hN : kn g s) (hZ : ks g (lwA s) s s.heap) (A B : Nat → Nat) (o_ j nc ns : Nat) (hj : j ≤ 512) (hi : 6 * j + 6 ≤ L) (hnc : nc + 1 ≤ room_1.cells) (hns : ns + 6 ≤ room_1.slots) {pt : Nat × (Nat → Int32)} {qt : Nat × Nat × Nat × Nat × (Nat → Int32)} {wC wM : va_W} (fo : Nat → Int64) {H : Heap} {locs : List Loc} {ls : Array Slot} (hC : CK g A j pt qt wC) (hM : MK g B j pt qt wM) (hP : va_P D vwCl (wC ++ (wM ++ lwO g o_ fo)) H) (hD : va_D (lwA s) (wC ++ (wM ++ lwO g o_ fo))) (hS : va_S (lwA s) s.heap H locs) (hl : lv_has ls 7 [(4, .int (nI (6 * j))), (3, .ref o_), (2, .ref (B 0)), (1, .ref (A 0)), (0, .ref b)]) (kk : lw_K p l e s m below meth c b D g A B o_ j nc ns) : W p l e room_1 s m #[Value.ref b] below meth c H locs nc ns (lw_Z below #[Value.ref b] s) (F0 m 1068 ls []) := by
  obtain ⟨hx, hb, hr, hml, hown, hts0, hX, hbl, hlocks, hgv⟩ := id C0
  have hts : ∀ w ∈ wsL_law, w.before #[Value.ref b] s = true := fun w h => hts0 w (wsL_law_in w h)
  have hA : ∀ q : Nat, s.heap.size ≤ q → lwA s q := fun _ h => h
  have hbA : ¬ lwA s b := Nat.not_le.mpr hbl
  have hf0 : nc + 0 ≤ room_1.cells ∧ ns + 0 ≤ room_1.slots := ⟨by omega, by omega⟩
  have hf1 : nc + 1 ≤ room_1.cells ∧ ns + 6 ≤ room_1.slots := ⟨hnc, hns⟩
  refine lv_aload_n hx hb dL_law_1068 rfl (lv_at hl 3 rfl) ?_
  refine lw_ld hx hb hX hbl hbA hS 1 (by omega) hL (lv_at hl 4 rfl) (lv_at hl 0 rfl) (by decide) dL_law_1069 dL_law_1070 dL_law_1072 dL_law_1073 dL_law_1074 ?_
  refine lw_ld hx hb hX hbl hbA hS 2 (by omega) hL (lv_at hl 4 rfl) (lv_at hl 0 rfl) (by decide) dL_law_1075 dL_law_1076 dL_law_1078 dL_law_1079 dL_law_1080 ?_
  refine lw_ld hx hb hX hbl hbA hS 3 (by omega) hL (lv_at hl 4 rfl) (lv_at hl 0 rfl) (by decide) dL_law_1081 dL_law_1082 dL_law_1084 dL_law_1085 dL_law_1086 ?_
  refine lw_ld hx hb hX hbl hbA hS 4 (by omega) hL (lv_at hl 4 rfl) (lv_at hl 0 rfl) (by decide) dL_law_1087 dL_law_1088 dL_law_1090 dL_law_1091 dL_law_1092 ?_
  obtain ⟨fs0, he0⟩ := hC.x
  refine ka_V (As := [.int (xs (6 * j + 1)), .int (xs (6 * j + 2)), .int (xs (6 * j + 3)), .int (xs (6 * j + 4))]) (rest := []) ⟨hx, hb, hml, hown, hts⟩ ⟨hK, hN⟩ hZ hP hD hS hA (ck_most l D g H.size A j hj (xs (6 * j + 1)) (xs (6 * j + 2)) (xs (6 * j + 3)) (xs (6 * j + 4)) hC) (cwV 4 hts gL_law_X6_most rfl rfl rfl (by decide +kernel) ⟨(Nat.le_of_ble_eq_true rfl), (Nat.le_of_ble_eq_true rfl)⟩) 6 he0 rfl rfl rfl hl.1 rfl (Nat.le_of_ble_eq_true rfl) dL_law_1093 hf0 (fun r1 u1 H locs hC1 hP hD hS => ?_)
  rw [List.append_assoc] at hP hD
  refine lv_pop hx hb dL_law_1096 rfl ?_
  refine lv_aload_n hx hb dL_law_1097 rfl (lv_at hl 2 rfl) ?_
  refine lw_ld hx hb hX hbl hbA hS 1 (by omega) hL (lv_at hl 4 rfl) (lv_at hl 0 rfl) (by decide) dL_law_1098 dL_law_1099 dL_law_1101 dL_law_1102 dL_law_1103 ?_
  refine lw_ld hx hb hX hbl hbA hS 2 (by omega) hL (lv_at hl 4 rfl) (lv_at hl 0 rfl) (by decide) dL_law_1104 dL_law_1105 dL_law_1107 dL_law_1108 dL_law_1109 ?_
  refine lw_ld hx hb hX hbl hbA hS 3 (by omega) hL (lv_at hl 4 rfl) (lv_at hl 0 rfl) (by decide) dL_law_1110 dL_law_1111 dL_law_1113 dL_law_1114 dL_law_1115 ?_
  refine lw_ld hx hb hX hbl hbA hS 4 (by omega) hL (lv_at hl 4 rfl) (lv_at hl 0 rfl) (by decide) dL_law_1116 dL_law_1117 dL_law_1119 dL_law_1120 dL_law_1121 ?_
  obtain ⟨fs1, he1⟩ := hM.x
  refine ka_V (As := [.int (xs (6 * j + 1)), .int (xs (6 * j + 2)), .int (xs (6 * j + 3)), .int (xs (6 * j + 4))]) (rest := []) ⟨hx, hb, hml, hown, hts⟩ ⟨hK, hN⟩ hZ hP hD hS hA (mk_most l D g H.size B j hj (xs (6 * j + 1)) (xs (6 * j + 2)) (xs (6 * j + 3)) (xs (6 * j + 4)) hM) (cwV 4 hts gL_law_X7_most rfl rfl rfl (by decide +kernel) ⟨(Nat.le_of_ble_eq_true rfl), (Nat.le_of_ble_eq_true rfl)⟩) 7 he1 rfl rfl rfl hl.1 rfl (Nat.le_of_ble_eq_true rfl) dL_law_1122 hf0 (fun r2 u2 H locs hM1 hP hD hS => ?_)
  refine lv_pop hx hb dL_law_1125 rfl ?_
  refine lv_goto (tgt := 1844) hx hb dL_law_1126 (by decide) ?_
  refine W.widen (k := nc + 1) (n := ns + 6) (by omega) (by omega) ?_
  exact kk _ _ _ _ _ _ _ _ hC1 hM1 (turn_P hP) (turn_D hD) hS (lv_sub hl [0, 1, 2, 3, 4] rfl)
set_option maxHeartbeats 4000000 in
set_option maxRecDepth 100000 in
/-- healed -/
theorem lc_23 {p : Program} {e : Env} {s : State} {m : MethodId} {below : List Frame} {meth : Method} {c : Code} (l : Launch) (hl9 : l.stackTraces = false) {b L : Nat} {xs : Nat → Int32} (C0 : lw_At p s m meth c b L xs) (hL : L ≤ 3072) (D : va_G) (g : Nat → ClassId) (hK : va_K D vwCl (kY g) s) (hN : kn g s) (hZ : ks g (lwA s) s s.heap) (A B : Nat → Nat) (o_ j nc ns : Nat) (hj : j ≤ 512) (hi : 6 * j + 6 ≤ L) (hnc : nc + 1 ≤ room_1.cells) (hns : ns + 6 ≤ room_1.slots) {pt : Nat × (Nat → Int32)} {qt : Nat × Nat × Nat × Nat × (Nat → Int32)} {wC wM : va_W} (fo : Nat → Int64) {H : Heap} {locs : List Loc} {ls : Array Slot} (hC : CK g A j pt qt wC) (hM : MK g B j pt qt wM) (hP : va_P D vwCl (wC ++ (wM ++ lwO g o_ fo)) H) (hD : va_D (lwA s) (wC ++ (wM ++ lwO g o_ fo))) (hS : va_S (lwA s) s.heap H locs) (hl : lv_has ls 7 [(4, .int (nI (6 * j))), (3, .ref o_), (2, .ref (B 0)), (1, .ref (A 0)), (0, .ref b)]) (kk : lw_K p l e s m below meth c b D g A B o_ j nc ns) : W p l e room_1 s m #[Value.ref b] below meth c H locs nc ns (lw_Z below #[Value.ref b] s) (F0 m 1129 ls []) := by
  obtain ⟨hx, hb, hr, hml, hown, hts0, hX, hbl, hlocks, hgv⟩ := id C0
  have hts : ∀ w ∈ wsL_law, w.before #[Value.ref b] s = true := fun w h => hts0 w (wsL_law_in w h)
  have hA : ∀ q : Nat, s.heap.size ≤ q → lwA s q := fun _ h => h
  have hbA : ¬ lwA s b := Nat.not_le.mpr hbl
  have hf0 : nc + 0 ≤ room_1.cells ∧ ns + 0 ≤ room_1.slots := ⟨by omega, by omega⟩
  have hf1 : nc + 1 ≤ room_1.cells ∧ ns + 6 ≤ room_1.slots := ⟨hnc, hns⟩
  refine lv_aload_n hx hb dL_law_1129 rfl (lv_at hl 3 rfl) ?_
  obtain ⟨fs0, he0⟩ := hC.x
  refine ka_V (As := []) (rest := []) ⟨hx, hb, hml, hown, hts⟩ ⟨hK, hN⟩ hZ hP hD hS hA (ck_healed l D g H.size A j hj hC) (cwV 0 hts gL_law_X6_healed rfl rfl rfl (by decide +kernel) ⟨(Nat.le_of_ble_eq_true rfl), (Nat.le_of_ble_eq_true rfl)⟩) 6 he0 rfl rfl rfl hl.1 rfl (Nat.le_of_ble_eq_true rfl) dL_law_1130 hf0 (fun r1 u1 H locs hC1 hP hD hS => ?_)
  rw [List.append_assoc] at hP hD
  refine lv_pop hx hb dL_law_1133 rfl ?_
  refine lv_aload_n hx hb dL_law_1134 rfl (lv_at hl 2 rfl) ?_
  obtain ⟨fs1, he1⟩ := hM.x
  refine ka_V (As := []) (rest := []) ⟨hx, hb, hml, hown, hts⟩ ⟨hK, hN⟩ hZ hP hD hS hA (mk_healed l D g H.size B j hj hM) (cwV 0 hts gL_law_X7_healed rfl rfl rfl (by decide +kernel) ⟨(Nat.le_of_ble_eq_true rfl), (Nat.le_of_ble_eq_true rfl)⟩) 7 he1 rfl rfl rfl hl.1 rfl (Nat.le_of_ble_eq_true rfl) dL_law_1135 hf0 (fun r2 u2 H locs hM1 hP hD hS => ?_)
  refine lv_pop hx hb dL_law_1138 rfl ?_
  refine lv_goto (tgt := 1844) hx hb dL_law_1139 (by decide) ?_
  refine W.widen (k := nc + 1) (n := ns + 6) (by omega) (by omega) ?_
  exact kk _ _ _ _ _ _ _ _ hC1 hM1 (turn_P hP) (turn_D hD) hS (lv_sub hl [0, 1, 2, 3, 4] rfl)
set_option maxHeartbeats 4000000 in
set_option maxRecDepth 100000 in
/-- loss -/
theorem lc_24 {p : Program} {e : Env} {s : State} {m : MethodId} {below : List Frame} {meth : Method} {c : Code} (l : Launch) (hl9 : l.stackTraces = false) {b L : Nat} {xs : Nat → Int32} (C0 : lw_At p s m meth c b L xs) (hL : L ≤ 3072) (D : va_G) (g : Nat → ClassId) (hK : va_K D vwCl (kY g) s) (hN : kn g s) (hZ : ks g (lwA s) s s.heap) (A B : Nat → Nat) (o_ j nc ns : Nat) (hj : j ≤ 512) (hi : 6 * j + 6 ≤ L) (hnc : nc + 1 ≤ room_1.cells) (hns : ns + 6 ≤ room_1.slots) {pt : Nat × (Nat → Int32)} {qt : Nat × Nat × Nat × Nat × (Nat → Int32)} {wC wM : va_W} (fo : Nat → Int64) {H : Heap} {locs : List Loc} {ls : Array Slot} (hC : CK g A j pt qt wC) (hM : MK g B j pt qt wM) (hP : va_P D vwCl (wC ++ (wM ++ lwO g o_ fo)) H) (hD : va_D (lwA s) (wC ++ (wM ++ lwO g o_ fo))) (hS : va_S (lwA s) s.heap H locs) (hl : lv_has ls 7 [(4, .int (nI (6 * j))), (3, .ref o_), (2, .ref (B 0)), (1, .ref (A 0)), (0, .ref b)]) (kk : lw_K p l e s m below meth c b D g A B o_ j nc ns) : W p l e room_1 s m #[Value.ref b] below meth c H locs nc ns (lw_Z below #[Value.ref b] s) (F0 m 1142 ls []) := by
  obtain ⟨hx, hb, hr, hml, hown, hts0, hX, hbl, hlocks, hgv⟩ := id C0
  have hts : ∀ w ∈ wsL_law, w.before #[Value.ref b] s = true := fun w h => hts0 w (wsL_law_in w h)
  have hA : ∀ q : Nat, s.heap.size ≤ q → lwA s q := fun _ h => h
  have hbA : ¬ lwA s b := Nat.not_le.mpr hbl
  have hf0 : nc + 0 ≤ room_1.cells ∧ ns + 0 ≤ room_1.slots := ⟨by omega, by omega⟩
  have hf1 : nc + 1 ≤ room_1.cells ∧ ns + 6 ≤ room_1.slots := ⟨hnc, hns⟩
  refine lv_aload_n hx hb dL_law_1142 rfl (lv_at hl 3 rfl) ?_
  refine lw_ld hx hb hX hbl hbA hS 1 (by omega) hL (lv_at hl 4 rfl) (lv_at hl 0 rfl) (by decide) dL_law_1143 dL_law_1144 dL_law_1146 dL_law_1147 dL_law_1148 ?_
  refine lw_ld hx hb hX hbl hbA hS 2 (by omega) hL (lv_at hl 4 rfl) (lv_at hl 0 rfl) (by decide) dL_law_1149 dL_law_1150 dL_law_1152 dL_law_1153 dL_law_1154 ?_
  obtain ⟨fs0, he0⟩ := hC.x
  refine ka_V (As := [.int (xs (6 * j + 1)), .int (xs (6 * j + 2))]) (rest := []) ⟨hx, hb, hml, hown, hts⟩ ⟨hK, hN⟩ hZ hP hD hS hA (ck_loss l D g H.size A j hj (xs (6 * j + 1)) (xs (6 * j + 2)) hC) (cwV 2 hts gL_law_X6_loss rfl rfl rfl (by decide +kernel) ⟨(Nat.le_of_ble_eq_true rfl), (Nat.le_of_ble_eq_true rfl)⟩) 6 he0 rfl rfl rfl hl.1 rfl (Nat.le_of_ble_eq_true rfl) dL_law_1155 hf0 (fun r1 u1 H locs hC1 hP hD hS => ?_)
  rw [List.append_assoc] at hP hD
  refine lv_pop hx hb dL_law_1158 rfl ?_
  refine lv_aload_n hx hb dL_law_1159 rfl (lv_at hl 2 rfl) ?_
  refine lw_ld hx hb hX hbl hbA hS 1 (by omega) hL (lv_at hl 4 rfl) (lv_at hl 0 rfl) (by decide) dL_law_1160 dL_law_1161 dL_law_1163 dL_law_1164 dL_law_1165 ?_
  refine lw_ld hx hb hX hbl hbA hS 2 (by omega) hL (lv_at hl 4 rfl) (lv_at hl 0 rfl) (by decide) dL_law_1166 dL_law_1167 dL_law_1169 dL_law_1170 dL_law_1171 ?_
  obtain ⟨fs1, he1⟩ := hM.x
  refine ka_V (As := [.int (xs (6 * j + 1)), .int (xs (6 * j + 2))]) (rest := []) ⟨hx, hb, hml, hown, hts⟩ ⟨hK, hN⟩ hZ hP hD hS hA (mk_loss l D g H.size B j hj (xs (6 * j + 1)) (xs (6 * j + 2)) hM) (cwV 2 hts gL_law_X7_loss rfl rfl rfl (by decide +kernel) ⟨(Nat.le_of_ble_eq_true rfl), (Nat.le_of_ble_eq_true rfl)⟩) 7 he1 rfl rfl rfl hl.1 rfl (Nat.le_of_ble_eq_true rfl) dL_law_1172 hf0 (fun r2 u2 H locs hM1 hP hD hS => ?_)
  refine lv_pop hx hb dL_law_1175 rfl ?_
  refine lv_goto (tgt := 1844) hx hb dL_law_1176 (by decide) ?_
  refine W.widen (k := nc + 1) (n := ns + 6) (by omega) (by omega) ?_
  exact kk _ _ _ _ _ _ _ _ hC1 hM1 (turn_P hP) (turn_D hD) hS (lv_sub hl [0, 1, 2, 3, 4] rfl)
set_option maxHeartbeats 4000000 in
set_option maxRecDepth 100000 in
/-- fair -/
theorem lc_25 {p : Program} {e : Env} {s : State} {m : MethodId} {below : List Frame} {meth : Method} {c : Code} (l : Launch) (hl9 : l.stackTraces = false) {b L : Nat} {xs : Nat → Int32} (C0 : lw_At p s m meth c b L xs) (hL : L ≤ 3072) (D : va_G) (g : Nat → ClassId) (hK : va_K D vwCl (kY g) s) (hN : kn g s) (hZ : ks g (lwA s) s s.heap) (A B : Nat → Nat) (o_ j nc ns : Nat) (hj : j ≤ 512) (hi : 6 * j + 6 ≤ L) (hnc : nc + 1 ≤ room_1.cells) (hns : ns + 6 ≤ room_1.slots) {pt : Nat × (Nat → Int32)} {qt : Nat × Nat × Nat × Nat × (Nat → Int32)} {wC wM : va_W} (fo : Nat → Int64) {H : Heap} {locs : List Loc} {ls : Array Slot} (hC : CK g A j pt qt wC) (hM : MK g B j pt qt wM) (hP : va_P D vwCl (wC ++ (wM ++ lwO g o_ fo)) H) (hD : va_D (lwA s) (wC ++ (wM ++ lwO g o_ fo))) (hS : va_S (lwA s) s.heap H locs) (hl : lv_has ls 7 [(4, .int (nI (6 * j))), (3, .ref o_), (2, .ref (B 0)), (1, .ref (A 0)), (0, .ref b)]) (kk : lw_K p l e s m below meth c b D g A B o_ j nc ns) : W p l e room_1 s m #[Value.ref b] below meth c H locs nc ns (lw_Z below #[Value.ref b] s) (F0 m 1179 ls []) := by
  obtain ⟨hx, hb, hr, hml, hown, hts0, hX, hbl, hlocks, hgv⟩ := id C0
  have hts : ∀ w ∈ wsL_law, w.before #[Value.ref b] s = true := fun w h => hts0 w (wsL_law_in w h)
  have hA : ∀ q : Nat, s.heap.size ≤ q → lwA s q := fun _ h => h
  have hbA : ¬ lwA s b := Nat.not_le.mpr hbl
  have hf0 : nc + 0 ≤ room_1.cells ∧ ns + 0 ≤ room_1.slots := ⟨by omega, by omega⟩
  have hf1 : nc + 1 ≤ room_1.cells ∧ ns + 6 ≤ room_1.slots := ⟨hnc, hns⟩
  refine lv_aload_n hx hb dL_law_1179 rfl (lv_at hl 3 rfl) ?_
  refine lw_ld hx hb hX hbl hbA hS 1 (by omega) hL (lv_at hl 4 rfl) (lv_at hl 0 rfl) (by decide) dL_law_1180 dL_law_1181 dL_law_1183 dL_law_1184 dL_law_1185 ?_
  obtain ⟨fs0, he0⟩ := hC.x
  refine ka_V (As := [.int (xs (6 * j + 1))]) (rest := []) ⟨hx, hb, hml, hown, hts⟩ ⟨hK, hN⟩ hZ hP hD hS hA (ck_fair l D g H.size A j hj (xs (6 * j + 1)) hC) (cwV 1 hts gL_law_X6_fair rfl rfl rfl (by decide +kernel) ⟨(Nat.le_of_ble_eq_true rfl), (Nat.le_of_ble_eq_true rfl)⟩) 6 he0 rfl rfl rfl hl.1 rfl (Nat.le_of_ble_eq_true rfl) dL_law_1186 hf0 (fun r1 u1 H locs hC1 hP hD hS => ?_)
  rw [List.append_assoc] at hP hD
  refine lv_pop hx hb dL_law_1189 rfl ?_
  refine lv_aload_n hx hb dL_law_1190 rfl (lv_at hl 2 rfl) ?_
  refine lw_ld hx hb hX hbl hbA hS 1 (by omega) hL (lv_at hl 4 rfl) (lv_at hl 0 rfl) (by decide) dL_law_1191 dL_law_1192 dL_law_1194 dL_law_1195 dL_law_1196 ?_
  obtain ⟨fs1, he1⟩ := hM.x
  refine ka_V (As := [.int (xs (6 * j + 1))]) (rest := []) ⟨hx, hb, hml, hown, hts⟩ ⟨hK, hN⟩ hZ hP hD hS hA (mk_fair l D g H.size B j hj (xs (6 * j + 1)) hM) (cwV 1 hts gL_law_X7_fair rfl rfl rfl (by decide +kernel) ⟨(Nat.le_of_ble_eq_true rfl), (Nat.le_of_ble_eq_true rfl)⟩) 7 he1 rfl rfl rfl hl.1 rfl (Nat.le_of_ble_eq_true rfl) dL_law_1197 hf0 (fun r2 u2 H locs hM1 hP hD hS => ?_)
  refine lv_pop hx hb dL_law_1200 rfl ?_
  refine lv_goto (tgt := 1844) hx hb dL_law_1201 (by decide) ?_
  refine W.widen (k := nc + 1) (n := ns + 6) (by omega) (by omega) ?_
  exact kk _ _ _ _ _ _ _ _ hC1 hM1 (turn_P hP) (turn_D hD) hS (lv_sub hl [0, 1, 2, 3, 4] rfl)
set_option maxHeartbeats 4000000 in
set_option maxRecDepth 100000 in
/-- alone -/
theorem lc_26 {p : Program} {e : Env} {s : State} {m : MethodId} {below : List Frame} {meth : Method} {c : Code} (l : Launch) (hl9 : l.stackTraces = false) {b L : Nat} {xs : Nat → Int32} (C0 : lw_At p s m meth c b L xs) (hL : L ≤ 3072) (D : va_G) (g : Nat → ClassId) (hK : va_K D vwCl (kY g) s) (hN : kn g s) (hZ : ks g (lwA s) s s.heap) (A B : Nat → Nat) (o_ j nc ns : Nat) (hj : j ≤ 512) (hi : 6 * j + 6 ≤ L) (hnc : nc + 1 ≤ room_1.cells) (hns : ns + 6 ≤ room_1.slots) {pt : Nat × (Nat → Int32)} {qt : Nat × Nat × Nat × Nat × (Nat → Int32)} {wC wM : va_W} (fo : Nat → Int64) {H : Heap} {locs : List Loc} {ls : Array Slot} (hC : CK g A j pt qt wC) (hM : MK g B j pt qt wM) (hP : va_P D vwCl (wC ++ (wM ++ lwO g o_ fo)) H) (hD : va_D (lwA s) (wC ++ (wM ++ lwO g o_ fo))) (hS : va_S (lwA s) s.heap H locs) (hl : lv_has ls 7 [(4, .int (nI (6 * j))), (3, .ref o_), (2, .ref (B 0)), (1, .ref (A 0)), (0, .ref b)]) (kk : lw_K p l e s m below meth c b D g A B o_ j nc ns) : W p l e room_1 s m #[Value.ref b] below meth c H locs nc ns (lw_Z below #[Value.ref b] s) (F0 m 1204 ls []) := by
  obtain ⟨hx, hb, hr, hml, hown, hts0, hX, hbl, hlocks, hgv⟩ := id C0
  have hts : ∀ w ∈ wsL_law, w.before #[Value.ref b] s = true := fun w h => hts0 w (wsL_law_in w h)
  have hA : ∀ q : Nat, s.heap.size ≤ q → lwA s q := fun _ h => h
  have hbA : ¬ lwA s b := Nat.not_le.mpr hbl
  have hf0 : nc + 0 ≤ room_1.cells ∧ ns + 0 ≤ room_1.slots := ⟨by omega, by omega⟩
  have hf1 : nc + 1 ≤ room_1.cells ∧ ns + 6 ≤ room_1.slots := ⟨hnc, hns⟩
  refine lv_aload_n hx hb dL_law_1204 rfl (lv_at hl 3 rfl) ?_
  refine lw_ld hx hb hX hbl hbA hS 1 (by omega) hL (lv_at hl 4 rfl) (lv_at hl 0 rfl) (by decide) dL_law_1205 dL_law_1206 dL_law_1208 dL_law_1209 dL_law_1210 ?_
  refine lw_ld hx hb hX hbl hbA hS 2 (by omega) hL (lv_at hl 4 rfl) (lv_at hl 0 rfl) (by decide) dL_law_1211 dL_law_1212 dL_law_1214 dL_law_1215 dL_law_1216 ?_
  refine lw_ld hx hb hX hbl hbA hS 3 (by omega) hL (lv_at hl 4 rfl) (lv_at hl 0 rfl) (by decide) dL_law_1217 dL_law_1218 dL_law_1220 dL_law_1221 dL_law_1222 ?_
  refine lw_ld hx hb hX hbl hbA hS 4 (by omega) hL (lv_at hl 4 rfl) (lv_at hl 0 rfl) (by decide) dL_law_1223 dL_law_1224 dL_law_1226 dL_law_1227 dL_law_1228 ?_
  refine lw_ld hx hb hX hbl hbA hS 5 (by omega) hL (lv_at hl 4 rfl) (lv_at hl 0 rfl) (by decide) dL_law_1229 dL_law_1230 dL_law_1232 dL_law_1233 dL_law_1234 ?_
  obtain ⟨fs0, he0⟩ := hC.x
  refine ka_V (As := [.int (xs (6 * j + 1)), .int (xs (6 * j + 2)), .int (xs (6 * j + 3)), .int (xs (6 * j + 4)), .int (xs (6 * j + 5))]) (rest := []) ⟨hx, hb, hml, hown, hts⟩ ⟨hK, hN⟩ hZ hP hD hS hA (ck_alone l D g H.size A j hj (xs (6 * j + 1)) (xs (6 * j + 2)) (xs (6 * j + 3)) (xs (6 * j + 4)) (xs (6 * j + 5)) hC) (cwV 5 hts gL_law_X6_alone rfl rfl rfl (by decide +kernel) ⟨(Nat.le_of_ble_eq_true rfl), (Nat.le_of_ble_eq_true rfl)⟩) 6 he0 rfl rfl rfl hl.1 rfl (Nat.le_of_ble_eq_true rfl) dL_law_1235 hf0 (fun r1 u1 H locs hC1 hP hD hS => ?_)
  rw [List.append_assoc] at hP hD
  refine lv_pop hx hb dL_law_1238 rfl ?_
  refine lv_aload_n hx hb dL_law_1239 rfl (lv_at hl 2 rfl) ?_
  refine lw_ld hx hb hX hbl hbA hS 1 (by omega) hL (lv_at hl 4 rfl) (lv_at hl 0 rfl) (by decide) dL_law_1240 dL_law_1241 dL_law_1243 dL_law_1244 dL_law_1245 ?_
  refine lw_ld hx hb hX hbl hbA hS 2 (by omega) hL (lv_at hl 4 rfl) (lv_at hl 0 rfl) (by decide) dL_law_1246 dL_law_1247 dL_law_1249 dL_law_1250 dL_law_1251 ?_
  refine lw_ld hx hb hX hbl hbA hS 3 (by omega) hL (lv_at hl 4 rfl) (lv_at hl 0 rfl) (by decide) dL_law_1252 dL_law_1253 dL_law_1255 dL_law_1256 dL_law_1257 ?_
  refine lw_ld hx hb hX hbl hbA hS 4 (by omega) hL (lv_at hl 4 rfl) (lv_at hl 0 rfl) (by decide) dL_law_1258 dL_law_1259 dL_law_1261 dL_law_1262 dL_law_1263 ?_
  refine lw_ld hx hb hX hbl hbA hS 5 (by omega) hL (lv_at hl 4 rfl) (lv_at hl 0 rfl) (by decide) dL_law_1264 dL_law_1265 dL_law_1267 dL_law_1268 dL_law_1269 ?_
  obtain ⟨fs1, he1⟩ := hM.x
  refine ka_V (As := [.int (xs (6 * j + 1)), .int (xs (6 * j + 2)), .int (xs (6 * j + 3)), .int (xs (6 * j + 4)), .int (xs (6 * j + 5))]) (rest := []) ⟨hx, hb, hml, hown, hts⟩ ⟨hK, hN⟩ hZ hP hD hS hA (mk_alone l D g H.size B j hj (xs (6 * j + 1)) (xs (6 * j + 2)) (xs (6 * j + 3)) (xs (6 * j + 4)) (xs (6 * j + 5)) hM) (cwV 5 hts gL_law_X7_alone rfl rfl rfl (by decide +kernel) ⟨(Nat.le_of_ble_eq_true rfl), (Nat.le_of_ble_eq_true rfl)⟩) 7 he1 rfl rfl rfl hl.1 rfl (Nat.le_of_ble_eq_true rfl) dL_law_1270 hf0 (fun r2 u2 H locs hM1 hP hD hS => ?_)
  refine lv_pop hx hb dL_law_1273 rfl ?_
  refine lv_goto (tgt := 1844) hx hb dL_law_1274 (by decide) ?_
  refine W.widen (k := nc + 1) (n := ns + 6) (by omega) (by omega) ?_
  exact kk _ _ _ _ _ _ _ _ hC1 hM1 (turn_P hP) (turn_D hD) hS (lv_sub hl [0, 1, 2, 3, 4] rfl)
set_option maxHeartbeats 4000000 in
set_option maxRecDepth 100000 in
/-- full -/
theorem lc_27 {p : Program} {e : Env} {s : State} {m : MethodId} {below : List Frame} {meth : Method} {c : Code} (l : Launch) (hl9 : l.stackTraces = false) {b L : Nat} {xs : Nat → Int32} (C0 : lw_At p s m meth c b L xs) (hL : L ≤ 3072) (D : va_G) (g : Nat → ClassId) (hK : va_K D vwCl (kY g) s) (hN : kn g s) (hZ : ks g (lwA s) s s.heap) (A B : Nat → Nat) (o_ j nc ns : Nat) (hj : j ≤ 512) (hi : 6 * j + 6 ≤ L) (hnc : nc + 1 ≤ room_1.cells) (hns : ns + 6 ≤ room_1.slots) {pt : Nat × (Nat → Int32)} {qt : Nat × Nat × Nat × Nat × (Nat → Int32)} {wC wM : va_W} (fo : Nat → Int64) {H : Heap} {locs : List Loc} {ls : Array Slot} (hC : CK g A j pt qt wC) (hM : MK g B j pt qt wM) (hP : va_P D vwCl (wC ++ (wM ++ lwO g o_ fo)) H) (hD : va_D (lwA s) (wC ++ (wM ++ lwO g o_ fo))) (hS : va_S (lwA s) s.heap H locs) (hl : lv_has ls 7 [(4, .int (nI (6 * j))), (3, .ref o_), (2, .ref (B 0)), (1, .ref (A 0)), (0, .ref b)]) (kk : lw_K p l e s m below meth c b D g A B o_ j nc ns) : W p l e room_1 s m #[Value.ref b] below meth c H locs nc ns (lw_Z below #[Value.ref b] s) (F0 m 1277 ls []) := by
  obtain ⟨hx, hb, hr, hml, hown, hts0, hX, hbl, hlocks, hgv⟩ := id C0
  have hts : ∀ w ∈ wsL_law, w.before #[Value.ref b] s = true := fun w h => hts0 w (wsL_law_in w h)
  have hA : ∀ q : Nat, s.heap.size ≤ q → lwA s q := fun _ h => h
  have hbA : ¬ lwA s b := Nat.not_le.mpr hbl
  have hf0 : nc + 0 ≤ room_1.cells ∧ ns + 0 ≤ room_1.slots := ⟨by omega, by omega⟩
  have hf1 : nc + 1 ≤ room_1.cells ∧ ns + 6 ≤ room_1.slots := ⟨hnc, hns⟩
  refine lv_aload_n hx hb dL_law_1277 rfl (lv_at hl 3 rfl) ?_
  refine lw_ld hx hb hX hbl hbA hS 1 (by omega) hL (lv_at hl 4 rfl) (lv_at hl 0 rfl) (by decide) dL_law_1278 dL_law_1279 dL_law_1281 dL_law_1282 dL_law_1283 ?_
  refine lw_ld hx hb hX hbl hbA hS 2 (by omega) hL (lv_at hl 4 rfl) (lv_at hl 0 rfl) (by decide) dL_law_1284 dL_law_1285 dL_law_1287 dL_law_1288 dL_law_1289 ?_
  refine lw_ld hx hb hX hbl hbA hS 3 (by omega) hL (lv_at hl 4 rfl) (lv_at hl 0 rfl) (by decide) dL_law_1290 dL_law_1291 dL_law_1293 dL_law_1294 dL_law_1295 ?_
  refine lw_ld hx hb hX hbl hbA hS 4 (by omega) hL (lv_at hl 4 rfl) (lv_at hl 0 rfl) (by decide) dL_law_1296 dL_law_1297 dL_law_1299 dL_law_1300 dL_law_1301 ?_
  obtain ⟨fs0, he0⟩ := hC.x
  refine ka_V (As := [.int (xs (6 * j + 1)), .int (xs (6 * j + 2)), .int (xs (6 * j + 3)), .int (xs (6 * j + 4))]) (rest := []) ⟨hx, hb, hml, hown, hts⟩ ⟨hK, hN⟩ hZ hP hD hS hA (ck_full l D g H.size A j hj (xs (6 * j + 1)) (xs (6 * j + 2)) (xs (6 * j + 3)) (xs (6 * j + 4)) hC) (cwV 4 hts gL_law_X6_full rfl rfl rfl (by decide +kernel) ⟨(Nat.le_of_ble_eq_true rfl), (Nat.le_of_ble_eq_true rfl)⟩) 6 he0 rfl rfl rfl hl.1 rfl (Nat.le_of_ble_eq_true rfl) dL_law_1302 hf0 (fun r1 u1 H locs hC1 hP hD hS => ?_)
  rw [List.append_assoc] at hP hD
  refine lv_pop hx hb dL_law_1305 rfl ?_
  refine lv_aload_n hx hb dL_law_1306 rfl (lv_at hl 2 rfl) ?_
  refine lw_ld hx hb hX hbl hbA hS 1 (by omega) hL (lv_at hl 4 rfl) (lv_at hl 0 rfl) (by decide) dL_law_1307 dL_law_1308 dL_law_1310 dL_law_1311 dL_law_1312 ?_
  refine lw_ld hx hb hX hbl hbA hS 2 (by omega) hL (lv_at hl 4 rfl) (lv_at hl 0 rfl) (by decide) dL_law_1313 dL_law_1314 dL_law_1316 dL_law_1317 dL_law_1318 ?_
  refine lw_ld hx hb hX hbl hbA hS 3 (by omega) hL (lv_at hl 4 rfl) (lv_at hl 0 rfl) (by decide) dL_law_1319 dL_law_1320 dL_law_1322 dL_law_1323 dL_law_1324 ?_
  refine lw_ld hx hb hX hbl hbA hS 4 (by omega) hL (lv_at hl 4 rfl) (lv_at hl 0 rfl) (by decide) dL_law_1325 dL_law_1326 dL_law_1328 dL_law_1329 dL_law_1330 ?_
  obtain ⟨fs1, he1⟩ := hM.x
  refine ka_V (As := [.int (xs (6 * j + 1)), .int (xs (6 * j + 2)), .int (xs (6 * j + 3)), .int (xs (6 * j + 4))]) (rest := []) ⟨hx, hb, hml, hown, hts⟩ ⟨hK, hN⟩ hZ hP hD hS hA (mk_full l D g H.size B j hj (xs (6 * j + 1)) (xs (6 * j + 2)) (xs (6 * j + 3)) (xs (6 * j + 4)) hM) (cwV 4 hts gL_law_X7_full rfl rfl rfl (by decide +kernel) ⟨(Nat.le_of_ble_eq_true rfl), (Nat.le_of_ble_eq_true rfl)⟩) 7 he1 rfl rfl rfl hl.1 rfl (Nat.le_of_ble_eq_true rfl) dL_law_1331 hf0 (fun r2 u2 H locs hM1 hP hD hS => ?_)
  refine lv_pop hx hb dL_law_1334 rfl ?_
  refine lv_goto (tgt := 1844) hx hb dL_law_1335 (by decide) ?_
  refine W.widen (k := nc + 1) (n := ns + 6) (by omega) (by omega) ?_
  exact kk _ _ _ _ _ _ _ _ hC1 hM1 (turn_P hP) (turn_D hD) hS (lv_sub hl [0, 1, 2, 3, 4] rfl)
