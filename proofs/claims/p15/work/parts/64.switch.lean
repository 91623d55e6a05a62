theorem MK.next {g : Nat → ClassId} {B : Nat → Nat} {n : Nat} {pt : Nat × (Nat → Int32)} {qt : Nat × Nat × Nat × Nat × (Nat → Int32)} {w : va_W} (h : MK g B n pt qt w) : MK g B (n + 1) pt qt w := by
  obtain ⟨N, Ez, Ef, Eg, ⟨i0, i1, i2, i3, i4, i5, i6, i7⟩, h1⟩ := h
  exact ⟨N, Ez, Ef, Eg, ⟨i0, (by omega), mOK_le i2 rfl (by omega), i3, i4, i5, i6, i7⟩, h1⟩
set_option maxHeartbeats 4000000 in
set_option maxRecDepth 100000 in
theorem lsw_0 {p : Program} {e : Env} {s : State} {m : MethodId} {below : List Frame} {meth : Method} {c : Code} (l : Launch) (hl9 : l.stackTraces = false) {b L : Nat} {xs : Nat → Int32} (C0 : lw_At p s m meth c b L xs) (hL : L ≤ 3072) (D : va_G) (g : Nat → ClassId) (hK : va_K D vwCl (kY g) s) (hN : kn g s) (hZ : ks g (lwA s) s s.heap) (A B : Nat → Nat) (o_ j nc ns : Nat) (hj : j ≤ 512) (hi : 6 * j + 6 ≤ L) (hnc : nc + 1 ≤ room_1.cells) (hns : ns + 6 ≤ room_1.slots) {pt : Nat × (Nat → Int32)} {qt : Nat × Nat × Nat × Nat × (Nat → Int32)} {wC wM : va_W} (fo : Nat → Int64) {H : Heap} {locs : List Loc} {ls : Array Slot} (hC : CK g A j pt qt wC) (hM : MK g B j pt qt wM) (hP : va_P D vwCl (wC ++ (wM ++ lwO g o_ fo)) H) (hD : va_D (lwA s) (wC ++ (wM ++ lwO g o_ fo))) (hS : va_S (lwA s) s.heap H locs) (hl : lv_has ls 7 [(4, .int (nI (6 * j))), (3, .ref o_), (2, .ref (B 0)), (1, .ref (A 0)), (0, .ref b)]) (kk : lw_K p l e s m below meth c b D g A B o_ j nc ns) {k : Nat} (hk : k = 0 ∨ k = 1 ∨ k = 2 ∨ k = 3 ∨ k = 4 ∨ k = 5 ∨ k = 6) : W p l e room_1 s m #[Value.ref b] below meth c H locs nc ns (lw_Z below #[Value.ref b] s) (F0 m 40 ls [.int (nI k)]) := by
  obtain ⟨hx, hb, -⟩ := id C0
  rcases hk with rfl | rfl | rfl | rfl | rfl | rfl | rfl
  · exact lv_tableIn (off := 184) (tgt := 224) hx hb dL_law_40 (by decide) (by decide) (by decide) (by decide) (lc_0 l hl9 C0 hL D g hK hN hZ A B o_ j nc ns hj hi hnc hns fo hC hM hP hD hS hl kk)
  · exact lv_tableIn (off := 257) (tgt := 297) hx hb dL_law_40 (by decide) (by decide) (by decide) (by decide) (lc_1 l hl9 C0 hL D g hK hN hZ A B o_ j nc ns hj hi hnc hns fo hC hM hP hD hS hl kk)
  · exact lv_tableIn (off := 282) (tgt := 322) hx hb dL_law_40 (by decide) (by decide) (by decide) (by decide) (lc_2 l hl9 C0 hL D g hK hN hZ A B o_ j nc ns hj hi hnc hns fo hC hM hP hD hS hl kk)
  · exact lv_tableIn (off := 295) (tgt := 335) hx hb dL_law_40 (by decide) (by decide) (by decide) (by decide) (lc_3 l hl9 C0 hL D g hK hN hZ A B o_ j nc ns hj hi hnc hns fo hC hM hP hD hS hl kk)
  · exact lv_tableIn (off := 308) (tgt := 348) hx hb dL_law_40 (by decide) (by decide) (by decide) (by decide) (lc_4 l hl9 C0 hL D g hK hN hZ A B o_ j nc ns hj hi hnc hns fo hC hM hP hD hS hl kk)
  · exact lv_tableIn (off := 333) (tgt := 373) hx hb dL_law_40 (by decide) (by decide) (by decide) (by decide) (lc_5 l hl9 C0 hL D g hK hN hZ A B o_ j nc ns hj hi hnc hns fo hC hM hP hD hS hl kk)
  · exact lv_tableIn (off := 373) (tgt := 413) hx hb dL_law_40 (by decide) (by decide) (by decide) (by decide) (lc_6 l hl9 C0 hL D g hK hN hZ A B o_ j nc ns hj hi hnc hns fo hC hM hP hD hS hl kk)
set_option maxHeartbeats 4000000 in
set_option maxRecDepth 100000 in
theorem lsw_1 {p : Program} {e : Env} {s : State} {m : MethodId} {below : List Frame} {meth : Method} {c : Code} (l : Launch) (hl9 : l.stackTraces = false) {b L : Nat} {xs : Nat → Int32} (C0 : lw_At p s m meth c b L xs) (hL : L ≤ 3072) (D : va_G) (g : Nat → ClassId) (hK : va_K D vwCl (kY g) s) (hN : kn g s) (hZ : ks g (lwA s) s s.heap) (A B : Nat → Nat) (o_ j nc ns : Nat) (hj : j ≤ 512) (hi : 6 * j + 6 ≤ L) (hnc : nc + 1 ≤ room_1.cells) (hns : ns + 6 ≤ room_1.slots) {pt : Nat × (Nat → Int32)} {qt : Nat × Nat × Nat × Nat × (Nat → Int32)} {wC wM : va_W} (fo : Nat → Int64) {H : Heap} {locs : List Loc} {ls : Array Slot} (hC : CK g A j pt qt wC) (hM : MK g B j pt qt wM) (hP : va_P D vwCl (wC ++ (wM ++ lwO g o_ fo)) H) (hD : va_D (lwA s) (wC ++ (wM ++ lwO g o_ fo))) (hS : va_S (lwA s) s.heap H locs) (hl : lv_has ls 7 [(4, .int (nI (6 * j))), (3, .ref o_), (2, .ref (B 0)), (1, .ref (A 0)), (0, .ref b)]) (kk : lw_K p l e s m below meth c b D g A B o_ j nc ns) {k : Nat} (hk : k = 7 ∨ k = 8 ∨ k = 9 ∨ k = 10 ∨ k = 11 ∨ k = 12 ∨ k = 13) : W p l e room_1 s m #[Value.ref b] below meth c H locs nc ns (lw_Z below #[Value.ref b] s) (F0 m 40 ls [.int (nI k)]) := by
  obtain ⟨hx, hb, -⟩ := id C0
  rcases hk with rfl | rfl | rfl | rfl | rfl | rfl | rfl
  · exact lv_tableIn (off := 413) (tgt := 453) hx hb dL_law_40 (by decide) (by decide) (by decide) (by decide) (lc_7 l hl9 C0 hL D g hK hN hZ A B o_ j nc ns hj hi hnc hns fo hC hM hP hD hS hl kk)
  · exact lv_tableIn (off := 462) (tgt := 502) hx hb dL_law_40 (by decide) (by decide) (by decide) (by decide) (lc_8 l hl9 C0 hL D g hK hN hZ A B o_ j nc ns hj hi hnc hns fo hC hM hP hD hS hl kk)
  · exact lv_tableIn (off := 499) (tgt := 539) hx hb dL_law_40 (by decide) (by decide) (by decide) (by decide) (lc_9 l hl9 C0 hL D g hK hN hZ A B o_ j nc ns hj hi hnc hns fo hC hM hP hD hS hl kk)
  · exact lv_tableIn (off := 548) (tgt := 588) hx hb dL_law_40 (by decide) (by decide) (by decide) (by decide) (lc_10 l hl9 C0 hL D g hK hN hZ A B o_ j nc ns hj hi hnc hns fo hC hM hP hD hS hl kk)
  · exact lv_tableIn (off := 573) (tgt := 613) hx hb dL_law_40 (by decide) (by decide) (by decide) (by decide) (lc_11 l hl9 C0 hL D g hK hN hZ A B o_ j nc ns hj hi hnc hns fo hC hM hP hD hS hl kk)
  · exact lv_tableIn (off := 610) (tgt := 650) hx hb dL_law_40 (by decide) (by decide) (by decide) (by decide) (lc_12 l hl9 C0 hL D g hK hN hZ A B o_ j nc ns hj hi hnc hns fo hC hM hP hD hS hl kk)
  · exact lv_tableIn (off := 659) (tgt := 699) hx hb dL_law_40 (by decide) (by decide) (by decide) (by decide) (lc_13 l hl9 C0 hL D g hK hN hZ A B o_ j nc ns hj hi hnc hns fo hC hM hP hD hS hl kk)
set_option maxHeartbeats 4000000 in
set_option maxRecDepth 100000 in
theorem lsw_2 {p : Program} {e : Env} {s : State} {m : MethodId} {below : List Frame} {meth : Method} {c : Code} (l : Launch) (hl9 : l.stackTraces = false) {b L : Nat} {xs : Nat → Int32} (C0 : lw_At p s m meth c b L xs) (hL : L ≤ 3072) (D : va_G) (g : Nat → ClassId) (hK : va_K D vwCl (kY g) s) (hN : kn g s) (hZ : ks g (lwA s) s s.heap) (A B : Nat → Nat) (o_ j nc ns : Nat) (hj : j ≤ 512) (hi : 6 * j + 6 ≤ L) (hnc : nc + 1 ≤ room_1.cells) (hns : ns + 6 ≤ room_1.slots) {pt : Nat × (Nat → Int32)} {qt : Nat × Nat × Nat × Nat × (Nat → Int32)} {wC wM : va_W} (fo : Nat → Int64) {H : Heap} {locs : List Loc} {ls : Array Slot} (hC : CK g A j pt qt wC) (hM : MK g B j pt qt wM) (hP : va_P D vwCl (wC ++ (wM ++ lwO g o_ fo)) H) (hD : va_D (lwA s) (wC ++ (wM ++ lwO g o_ fo))) (hS : va_S (lwA s) s.heap H locs) (hl : lv_has ls 7 [(4, .int (nI (6 * j))), (3, .ref o_), (2, .ref (B 0)), (1, .ref (A 0)), (0, .ref b)]) (kk : lw_K p l e s m below meth c b D g A B o_ j nc ns) {k : Nat} (hk : k = 14 ∨ k = 15 ∨ k = 16 ∨ k = 17 ∨ k = 18 ∨ k = 19 ∨ k = 20) : W p l e room_1 s m #[Value.ref b] below meth c H locs nc ns (lw_Z below #[Value.ref b] s) (F0 m 40 ls [.int (nI k)]) := by
  obtain ⟨hx, hb, -⟩ := id C0
  rcases hk with rfl | rfl | rfl | rfl | rfl | rfl | rfl
  · exact lv_tableIn (off := 696) (tgt := 736) hx hb dL_law_40 (by decide) (by decide) (by decide) (by decide) (lc_14 l hl9 C0 hL D g hK hN hZ A B o_ j nc ns hj hi hnc hns fo hC hM hP hD hS hl kk)
  · exact lv_tableIn (off := 745) (tgt := 785) hx hb dL_law_40 (by decide) (by decide) (by decide) (by decide) (lc_15 l hl9 C0 hL D g hK hN hZ A B o_ j nc ns hj hi hnc hns fo hC hM hP hD hS hl kk)
  · exact lv_tableIn (off := 782) (tgt := 822) hx hb dL_law_40 (by decide) (by decide) (by decide) (by decide) (lc_16 l hl9 C0 hL D g hK hN hZ A B o_ j nc ns hj hi hnc hns fo hC hM hP hD hS hl kk)
  · exact lv_tableIn (off := 807) (tgt := 847) hx hb dL_law_40 (by decide) (by decide) (by decide) (by decide) (lc_17 l hl9 C0 hL D g hK hN hZ A B o_ j nc ns hj hi hnc hns fo hC hM hP hD hS hl kk)
  · exact lv_tableIn (off := 868) (tgt := 908) hx hb dL_law_40 (by decide) (by decide) (by decide) (by decide) (lc_18 l hl9 C0 hL D g hK hN hZ A B o_ j nc ns hj hi hnc hns fo hC hM hP hD hS hl kk)
  · exact lv_tableIn (off := 917) (tgt := 957) hx hb dL_law_40 (by decide) (by decide) (by decide) (by decide) (lc_19 l hl9 C0 hL D g hK hN hZ A B o_ j nc ns hj hi hnc hns fo hC hM hP hD hS hl kk)
  · exact lv_tableIn (off := 954) (tgt := 994) hx hb dL_law_40 (by decide) (by decide) (by decide) (by decide) (lc_20 l hl9 C0 hL D g hK hN hZ A B o_ j nc ns hj hi hnc hns fo hC hM hP hD hS hl kk)
set_option maxHeartbeats 4000000 in
set_option maxRecDepth 100000 in
theorem lsw_3 {p : Program} {e : Env} {s : State} {m : MethodId} {below : List Frame} {meth : Method} {c : Code} (l : Launch) (hl9 : l.stackTraces = false) {b L : Nat} {xs : Nat → Int32} (C0 : lw_At p s m meth c b L xs) (hL : L ≤ 3072) (D : va_G) (g : Nat → ClassId) (hK : va_K D vwCl (kY g) s) (hN : kn g s) (hZ : ks g (lwA s) s s.heap) (A B : Nat → Nat) (o_ j nc ns : Nat) (hj : j ≤ 512) (hi : 6 * j + 6 ≤ L) (hnc : nc + 1 ≤ room_1.cells) (hns : ns + 6 ≤ room_1.slots) {pt : Nat × (Nat → Int32)} {qt : Nat × Nat × Nat × Nat × (Nat → Int32)} {wC wM : va_W} (fo : Nat → Int64) {H : Heap} {locs : List Loc} {ls : Array Slot} (hC : CK g A j pt qt wC) (hM : MK g B j pt qt wM) (hP : va_P D vwCl (wC ++ (wM ++ lwO g o_ fo)) H) (hD : va_D (lwA s) (wC ++ (wM ++ lwO g o_ fo))) (hS : va_S (lwA s) s.heap H locs) (hl : lv_has ls 7 [(4, .int (nI (6 * j))), (3, .ref o_), (2, .ref (B 0)), (1, .ref (A 0)), (0, .ref b)]) (kk : lw_K p l e s m below meth c b D g A B o_ j nc ns) {k : Nat} (hk : k = 21 ∨ k = 22 ∨ k = 23 ∨ k = 24 ∨ k = 25 ∨ k = 26 ∨ k = 27) : W p l e room_1 s m #[Value.ref b] below meth c H locs nc ns (lw_Z below #[Value.ref b] s) (F0 m 40 ls [.int (nI k)]) := by
  obtain ⟨hx, hb, -⟩ := id C0
  rcases hk with rfl | rfl | rfl | rfl | rfl | rfl | rfl
  · exact lv_tableIn (off := 991) (tgt := 1031) hx hb dL_law_40 (by decide) (by decide) (by decide) (by decide) (lc_21 l hl9 C0 hL D g hK hN hZ A B o_ j nc ns hj hi hnc hns fo hC hM hP hD hS hl kk)
  · exact lv_tableIn (off := 1028) (tgt := 1068) hx hb dL_law_40 (by decide) (by decide) (by decide) (by decide) (lc_22 l hl9 C0 hL D g hK hN hZ A B o_ j nc ns hj hi hnc hns fo hC hM hP hD hS hl kk)
  · exact lv_tableIn (off := 1089) (tgt := 1129) hx hb dL_law_40 (by decide) (by decide) (by decide) (by decide) (lc_23 l hl9 C0 hL D g hK hN hZ A B o_ j nc ns hj hi hnc hns fo hC hM hP hD hS hl kk)
  · exact lv_tableIn (off := 1102) (tgt := 1142) hx hb dL_law_40 (by decide) (by decide) (by decide) (by decide) (lc_24 l hl9 C0 hL D g hK hN hZ A B o_ j nc ns hj hi hnc hns fo hC hM hP hD hS hl kk)
  · exact lv_tableIn (off := 1139) (tgt := 1179) hx hb dL_law_40 (by decide) (by decide) (by decide) (by decide) (lc_25 l hl9 C0 hL D g hK hN hZ A B o_ j nc ns hj hi hnc hns fo hC hM hP hD hS hl kk)
  · exact lv_tableIn (off := 1164) (tgt := 1204) hx hb dL_law_40 (by decide) (by decide) (by decide) (by decide) (lc_26 l hl9 C0 hL D g hK hN hZ A B o_ j nc ns hj hi hnc hns fo hC hM hP hD hS hl kk)
  · exact lv_tableIn (off := 1237) (tgt := 1277) hx hb dL_law_40 (by decide) (by decide) (by decide) (by decide) (lc_27 l hl9 C0 hL D g hK hN hZ A B o_ j nc ns hj hi hnc hns fo hC hM hP hD hS hl kk)
set_option maxHeartbeats 4000000 in
set_option maxRecDepth 100000 in
theorem lsw_4 {p : Program} {e : Env} {s : State} {m : MethodId} {below : List Frame} {meth : Method} {c : Code} (l : Launch) (hl9 : l.stackTraces = false) {b L : Nat} {xs : Nat → Int32} (C0 : lw_At p s m meth c b L xs) (hL : L ≤ 3072) (D : va_G) (g : Nat → ClassId) (hK : va_K D vwCl (kY g) s) (hN : kn g s) (hZ : ks g (lwA s) s s.heap) (A B : Nat → Nat) (o_ j nc ns : Nat) (hj : j ≤ 512) (hi : 6 * j + 6 ≤ L) (hnc : nc + 1 ≤ room_1.cells) (hns : ns + 6 ≤ room_1.slots) {pt : Nat × (Nat → Int32)} {qt : Nat × Nat × Nat × Nat × (Nat → Int32)} {wC wM : va_W} (fo : Nat → Int64) {H : Heap} {locs : List Loc} {ls : Array Slot} (hC : CK g A j pt qt wC) (hM : MK g B j pt qt wM) (hP : va_P D vwCl (wC ++ (wM ++ lwO g o_ fo)) H) (hD : va_D (lwA s) (wC ++ (wM ++ lwO g o_ fo))) (hS : va_S (lwA s) s.heap H locs) (hl : lv_has ls 7 [(4, .int (nI (6 * j))), (3, .ref o_), (2, .ref (B 0)), (1, .ref (A 0)), (0, .ref b)]) (kk : lw_K p l e s m below meth c b D g A B o_ j nc ns) {k : Nat} (hk : k = 28 ∨ k = 29 ∨ k = 30 ∨ k = 31 ∨ k = 32 ∨ k = 33 ∨ k = 34) : W p l e room_1 s m #[Value.ref b] below meth c H locs nc ns (lw_Z below #[Value.ref b] s) (F0 m 40 ls [.int (nI k)]) := by
  obtain ⟨hx, hb, -⟩ := id C0
  rcases hk with rfl | rfl | rfl | rfl | rfl | rfl | rfl
  · exact lv_tableIn (off := 1298) (tgt := 1338) hx hb dL_law_40 (by decide) (by decide) (by decide) (by decide) (lc_28 l hl9 C0 hL D g hK hN hZ A B o_ j nc ns hj hi hnc hns fo hC hM hP hD hS hl kk)
  · exact lv_tableIn (off := 1347) (tgt := 1387) hx hb dL_law_40 (by decide) (by decide) (by decide) (by decide) (lc_29 l hl9 C0 hL D g hK hN hZ A B o_ j nc ns hj hi hnc hns fo hC hM hP hD hS hl kk)
  · exact lv_tableIn (off := 1384) (tgt := 1424) hx hb dL_law_40 (by decide) (by decide) (by decide) (by decide) (lc_30 l hl9 C0 hL D g hK hN hZ A B o_ j nc ns hj hi hnc hns fo hC hM hP hD hS hl kk)
  · exact lv_tableIn (off := 1421) (tgt := 1461) hx hb dL_law_40 (by decide) (by decide) (by decide) (by decide) (lc_31 l hl9 C0 hL D g hK hN hZ A B o_ j nc ns hj hi hnc hns fo hC hM hP hD hS hl kk)
  · exact lv_tableIn (off := 1458) (tgt := 1498) hx hb dL_law_40 (by decide) (by decide) (by decide) (by decide) (lc_32 l hl9 C0 hL D g hK hN hZ A B o_ j nc ns hj hi hnc hns fo hC hM hP hD hS hl kk)
  · exact lv_tableIn (off := 1483) (tgt := 1523) hx hb dL_law_40 (by decide) (by decide) (by decide) (by decide) (lc_33 l hl9 C0 hL D g hK hN hZ A B o_ j nc ns hj hi hnc hns fo hC hM hP hD hS hl kk)
  · exact lv_tableIn (off := 1520) (tgt := 1560) hx hb dL_law_40 (by decide) (by decide) (by decide) (by decide) (lc_34 l hl9 C0 hL D g hK hN hZ A B o_ j nc ns hj hi hnc hns fo hC hM hP hD hS hl kk)
set_option maxHeartbeats 4000000 in
set_option maxRecDepth 100000 in
theorem lsw_5 {p : Program} {e : Env} {s : State} {m : MethodId} {below : List Frame} {meth : Method} {c : Code} (l : Launch) (hl9 : l.stackTraces = false) {b L : Nat} {xs : Nat → Int32} (C0 : lw_At p s m meth c b L xs) (hL : L ≤ 3072) (D : va_G) (g : Nat → ClassId) (hK : va_K D vwCl (kY g) s) (hN : kn g s) (hZ : ks g (lwA s) s s.heap) (A B : Nat → Nat) (o_ j nc ns : Nat) (hj : j ≤ 512) (hi : 6 * j + 6 ≤ L) (hnc : nc + 1 ≤ room_1.cells) (hns : ns + 6 ≤ room_1.slots) {pt : Nat × (Nat → Int32)} {qt : Nat × Nat × Nat × Nat × (Nat → Int32)} {wC wM : va_W} (fo : Nat → Int64) {H : Heap} {locs : List Loc} {ls : Array Slot} (hC : CK g A j pt qt wC) (hM : MK g B j pt qt wM) (hP : va_P D vwCl (wC ++ (wM ++ lwO g o_ fo)) H) (hD : va_D (lwA s) (wC ++ (wM ++ lwO g o_ fo))) (hS : va_S (lwA s) s.heap H locs) (hl : lv_has ls 7 [(4, .int (nI (6 * j))), (3, .ref o_), (2, .ref (B 0)), (1, .ref (A 0)), (0, .ref b)]) (kk : lw_K p l e s m below meth c b D g A B o_ j nc ns) {k : Nat} (hk : k = 35 ∨ k = 36 ∨ k = 37 ∨ k = 38 ∨ k = 39 ∨ k = 40 ∨ k = 41) : W p l e room_1 s m #[Value.ref b] below meth c H locs nc ns (lw_Z below #[Value.ref b] s) (F0 m 40 ls [.int (nI k)]) := by
  obtain ⟨hx, hb, -⟩ := id C0
  rcases hk with rfl | rfl | rfl | rfl | rfl | rfl | rfl
  · exact lv_tableIn (off := 1533) (tgt := 1573) hx hb dL_law_40 (by decide) (by decide) (by decide) (by decide) (lc_35 l hl9 C0 hL D g hK hN hZ A B o_ j nc ns hj hi hnc hns fo hC hM hP hD hS hl kk)
  · exact lv_tableIn (off := 1594) (tgt := 1634) hx hb dL_law_40 (by decide) (by decide) (by decide) (by decide) (lc_36 l hl9 C0 hL D g hK hN hZ A B o_ j nc ns hj hi hnc hns fo hC hM hP hD hS hl kk)
  · exact lv_tableIn (off := 1643) (tgt := 1683) hx hb dL_law_40 (by decide) (by decide) (by decide) (by decide) (lc_37 l hl9 C0 hL D g hK hN hZ A B o_ j nc ns hj hi hnc hns fo hC hM hP hD hS hl kk)
  · exact lv_tableIn (off := 1668) (tgt := 1708) hx hb dL_law_40 (by decide) (by decide) (by decide) (by decide) (lc_38 l hl9 C0 hL D g hK hN hZ A B o_ j nc ns hj hi hnc hns fo hC hM hP hD hS hl kk)
  · exact lv_tableIn (off := 1717) (tgt := 1757) hx hb dL_law_40 (by decide) (by decide) (by decide) (by decide) (lc_39 l hl9 C0 hL D g hK hN hZ A B o_ j nc ns hj hi hnc hns fo hC hM hP hD hS hl kk)
  · exact lv_tableIn (off := 1754) (tgt := 1794) hx hb dL_law_40 (by decide) (by decide) (by decide) (by decide) (lc_40 l hl9 C0 hL D g hK hN hZ A B o_ j nc ns hj hi hnc hns fo hC hM hP hD hS hl kk)
  · exact lv_tableIn (off := 1779) (tgt := 1819) hx hb dL_law_40 (by decide) (by decide) (by decide) (by decide) (lc_41 l hl9 C0 hL D g hK hN hZ A B o_ j nc ns hj hi hnc hns fo hC hM hP hD hS hl kk)
theorem sw_all : ∀ k : Nat, k < 64 → ((k = 0 ∨ k = 1 ∨ k = 2 ∨ k = 3 ∨ k = 4 ∨ k = 5 ∨ k = 6) ∨ (k = 7 ∨ k = 8 ∨ k = 9 ∨ k = 10 ∨ k = 11 ∨ k = 12 ∨ k = 13) ∨ (k = 14 ∨ k = 15 ∨ k = 16 ∨ k = 17 ∨ k = 18 ∨ k = 19 ∨ k = 20) ∨ (k = 21 ∨ k = 22 ∨ k = 23 ∨ k = 24 ∨ k = 25 ∨ k = 26 ∨ k = 27) ∨ (k = 28 ∨ k = 29 ∨ k = 30 ∨ k = 31 ∨ k = 32 ∨ k = 33 ∨ k = 34) ∨ (k = 35 ∨ k = 36 ∨ k = 37 ∨ k = 38 ∨ k = 39 ∨ k = 40 ∨ k = 41) ∨ (42 ≤ k ∧ k < 64)) := by
  intro k hk
  rcases Nat.lt_or_ge k 7 with h0 | h0
  · exact Or.inl (by omega)
  · skip
    rcases Nat.lt_or_ge k 14 with h1 | h1
    · exact Or.inr (Or.inl (by omega))
    · skip
      rcases Nat.lt_or_ge k 21 with h2 | h2
      · exact Or.inr (Or.inr (Or.inl (by omega)))
      · skip
        rcases Nat.lt_or_ge k 28 with h3 | h3
        · exact Or.inr (Or.inr (Or.inr (Or.inl (by omega))))
        · skip
          rcases Nat.lt_or_ge k 35 with h4 | h4
          · exact Or.inr (Or.inr (Or.inr (Or.inr (Or.inl (by omega)))))
          · skip
            rcases Nat.lt_or_ge k 42 with h5 | h5
            · exact Or.inr (Or.inr (Or.inr (Or.inr (Or.inr (Or.inl (by omega))))))
            · skip
              exact Or.inr (Or.inr (Or.inr (Or.inr (Or.inr (Or.inr (⟨h5, hk⟩))))))
set_option maxHeartbeats 4000000 in
set_option maxRecDepth 100000 in
theorem lsw {p : Program} {e : Env} {s : State} {m : MethodId} {below : List Frame} {meth : Method} {c : Code} (l : Launch) (hl9 : l.stackTraces = false) {b L : Nat} {xs : Nat → Int32} (C0 : lw_At p s m meth c b L xs) (hL : L ≤ 3072) (D : va_G) (g : Nat → ClassId) (hK : va_K D vwCl (kY g) s) (hN : kn g s) (hZ : ks g (lwA s) s s.heap) (A B : Nat → Nat) (o_ j nc ns : Nat) (hj : j ≤ 512) (hi : 6 * j + 6 ≤ L) (hnc : nc + 1 ≤ room_1.cells) (hns : ns + 6 ≤ room_1.slots) {pt : Nat × (Nat → Int32)} {qt : Nat × Nat × Nat × Nat × (Nat → Int32)} {wC wM : va_W} (fo : Nat → Int64) {H : Heap} {locs : List Loc} {ls : Array Slot} (hC : CK g A j pt qt wC) (hM : MK g B j pt qt wM) (hP : va_P D vwCl (wC ++ (wM ++ lwO g o_ fo)) H) (hD : va_D (lwA s) (wC ++ (wM ++ lwO g o_ fo))) (hS : va_S (lwA s) s.heap H locs) (hl : lv_has ls 7 [(4, .int (nI (6 * j))), (3, .ref o_), (2, .ref (B 0)), (1, .ref (A 0)), (0, .ref b)]) (kk : lw_K p l e s m below meth c b D g A B o_ j nc ns) {k : Nat} (hk : k < 64) : W p l e room_1 s m #[Value.ref b] below meth c H locs nc ns (lw_Z below #[Value.ref b] s) (F0 m 40 ls [.int (nI k)]) := by
  obtain ⟨hx, hb, -⟩ := id C0
  rcases sw_all k hk with h | h | h | h | h | h | h
  · exact lsw_0 l hl9 C0 hL D g hK hN hZ A B o_ j nc ns hj hi hnc hns fo hC hM hP hD hS hl kk h
  · exact lsw_1 l hl9 C0 hL D g hK hN hZ A B o_ j nc ns hj hi hnc hns fo hC hM hP hD hS hl kk h
  · exact lsw_2 l hl9 C0 hL D g hK hN hZ A B o_ j nc ns hj hi hnc hns fo hC hM hP hD hS hl kk h
  · exact lsw_3 l hl9 C0 hL D g hK hN hZ A B o_ j nc ns hj hi hnc hns fo hC hM hP hD hS hl kk h
  · exact lsw_4 l hl9 C0 hL D g hK hN hZ A B o_ j nc ns hj hi hnc hns fo hC hM hP hD hS hl kk h
  · exact lsw_5 l hl9 C0 hL D g hK hN hZ A B o_ j nc ns hj hi hnc hns fo hC hM hP hD hS hl kk h
  · refine lv_tableOut (tgt := 1844) hx hb dL_law_40 (Or.inr (by rw [nI_toInt (by omega)]; omega)) (by decide) ?_
    refine W.widen (k := nc + 1) (n := ns + 6) (by omega) (by omega) ?_
    exact kk _ _ _ _ _ _ _ _ hC.next hM.next hP hD hS hl
