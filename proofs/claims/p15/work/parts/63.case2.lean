set_option maxHeartbeats 4000000 in
set_option maxRecDepth 100000 in
/-- law -/
theorem lc_28 {p : Program} {e : Env} {s : State} {m : MethodId} {below : List Frame} {meth : Method} {c : Code} (l : Launch) (hl9 : l.stackTraces = false) {b L : Nat} {xs : Nat → Int32} (C0 : lw_At p s m meth c b L xs) (hL : L ≤ 3072) (D : va_G) (g : Nat → ClassId) (hK : va_K D vwCl (kY g) s) (hN : kn g s) (hZ : ks g (lwA s) s s.heap) (A B : Nat → Nat) (o_ j nc ns : Nat) (hj : j ≤ 512) (hi : 6 * j + 6 ≤ L) (hnc : nc + 1 ≤ room_1.cells) (hns : ns + 6 ≤ room_1.slots) {pt : Nat × (Nat → Int32)} {qt : Nat × Nat × Nat × Nat × (Nat → Int32)} {wC wM : va_W} (fo : Nat → Int64) {H : Heap} {locs : List Loc} {ls : Array Slot} (hC : CK g A j pt qt wC) (hM : MK g B j pt qt wM) (hP : va_P D vwCl (wC ++ (wM ++ lwO g o_ fo)) H) (hD : va_D (lwA s) (wC ++ (wM ++ lwO g o_ fo))) (hS : va_S (lwA s) s.heap H locs) (hl : lv_has ls 7 [(4, .int (nI (6 * j))), (3, .ref o_), (2, .ref (B 0)), (1, .ref (A 0)), (0, .ref b)]) (kk : lw_K p l e s m below meth c b D g A B o_ j nc ns) : W p l e room_1 s m #[Value.ref b] below meth c H locs nc ns (lw_Z below #[Value.ref b] s) (F0 m 1338 ls []) := by
  obtain ⟨hx, hb, hr, hml, hown, hts0, hX, hbl, hlocks, hgv⟩ := id C0
  have hts : ∀ w ∈ wsL_law, w.before #[Value.ref b] s = true := fun w h => hts0 w (wsL_law_in w h)
  have hA : ∀ q : Nat, s.heap.size ≤ q → lwA s q := fun _ h => h
  have hbA : ¬ lwA s b := Nat.not_le.mpr hbl
  have hf0 : nc + 0 ≤ room_1.cells ∧ ns + 0 ≤ room_1.slots := ⟨by omega, by omega⟩
  have hf1 : nc + 1 ≤ room_1.cells ∧ ns + 6 ≤ room_1.slots := ⟨hnc, hns⟩
  refine lv_aload_n hx hb dL_law_1338 rfl (lv_at hl 3 rfl) ?_
  refine lw_ld hx hb hX hbl hbA hS 1 (by omega) hL (lv_at hl 4 rfl) (lv_at hl 0 rfl) (by decide) dL_law_1339 dL_law_1340 dL_law_1342 dL_law_1343 dL_law_1344 ?_
  refine lw_ld hx hb hX hbl hbA hS 2 (by omega) hL (lv_at hl 4 rfl) (lv_at hl 0 rfl) (by decide) dL_law_1345 dL_law_1346 dL_law_1348 dL_law_1349 dL_law_1350 ?_
  refine lw_ld hx hb hX hbl hbA hS 3 (by omega) hL (lv_at hl 4 rfl) (lv_at hl 0 rfl) (by decide) dL_law_1351 dL_law_1352 dL_law_1354 dL_law_1355 dL_law_1356 ?_
  obtain ⟨fs0, he0⟩ := hC.x
  refine ka_V (As := [.int (xs (6 * j + 1)), .int (xs (6 * j + 2)), .int (xs (6 * j + 3))]) (rest := []) ⟨hx, hb, hml, hown, hts⟩ ⟨hK, hN⟩ hZ hP hD hS hA (ck_law l D g H.size A j hj (xs (6 * j + 1)) (xs (6 * j + 2)) (xs (6 * j + 3)) hC) (cwV 3 hts gL_law_X6_law rfl rfl rfl (by decide +kernel) ⟨(Nat.le_of_ble_eq_true rfl), (Nat.le_of_ble_eq_true rfl)⟩) 6 he0 rfl rfl rfl hl.1 rfl (Nat.le_of_ble_eq_true rfl) dL_law_1357 hf0 (fun r1 u1 H locs hC1 hP hD hS => ?_)
  obtain ⟨hC1, hr1⟩ := hC1
  rw [List.append_assoc] at hP hD
  refine lv_pop hx hb dL_law_1360 rfl ?_
  refine lv_aload_n hx hb dL_law_1361 rfl (lv_at hl 2 rfl) ?_
  refine lw_ld hx hb hX hbl hbA hS 1 (by omega) hL (lv_at hl 4 rfl) (lv_at hl 0 rfl) (by decide) dL_law_1362 dL_law_1363 dL_law_1365 dL_law_1366 dL_law_1367 ?_
  refine lw_ld hx hb hX hbl hbA hS 2 (by omega) hL (lv_at hl 4 rfl) (lv_at hl 0 rfl) (by decide) dL_law_1368 dL_law_1369 dL_law_1371 dL_law_1372 dL_law_1373 ?_
  refine lw_ld hx hb hX hbl hbA hS 3 (by omega) hL (lv_at hl 4 rfl) (lv_at hl 0 rfl) (by decide) dL_law_1374 dL_law_1375 dL_law_1377 dL_law_1378 dL_law_1379 ?_
  obtain ⟨fs1, he1⟩ := hM.x
  refine ka_V (As := [.int (xs (6 * j + 1)), .int (xs (6 * j + 2)), .int (xs (6 * j + 3))]) (rest := []) ⟨hx, hb, hml, hown, hts⟩ ⟨hK, hN⟩ hZ hP hD hS hA (mk_law l D g H.size B j hj (xs (6 * j + 1)) (xs (6 * j + 2)) (xs (6 * j + 3)) hM) (cwV 3 hts gL_law_X7_law rfl rfl rfl (by decide +kernel) ⟨(Nat.le_of_ble_eq_true rfl), (Nat.le_of_ble_eq_true rfl)⟩) 7 he1 rfl rfl rfl hl.1 rfl (Nat.le_of_ble_eq_true rfl) dL_law_1380 hf0 (fun r2 u2 H locs hM1 hP hD hS => ?_)
  obtain ⟨hM1, hr2⟩ := hM1
  refine lv_pop hx hb dL_law_1383 rfl ?_
  refine lv_goto (tgt := 1844) hx hb dL_law_1384 (by decide) ?_
  refine W.widen (k := nc + 1) (n := ns + 6) (by omega) (by omega) ?_
  exact kk _ _ _ _ _ _ _ _ hC1 hM1 (turn_P hP) (turn_D hD) hS (lv_sub hl [0, 1, 2, 3, 4] rfl)
set_option maxHeartbeats 4000000 in
set_option maxRecDepth 100000 in
/-- aim -/
theorem lc_29 {p : Program} {e : Env} {s : State} {m : MethodId} {below : List Frame} {meth : Method} {c : Code} (l : Launch) (hl9 : l.stackTraces = false) {b L : Nat} {xs : Nat → Int32} (C0 : lw_At p s m meth c b L xs) (hL : L ≤ 3072) (D : va_G) (g : Nat → ClassId) (hK : va_K D vwCl (kY g) s) (hN : kn g s) (hZ : ks g (lwA s) s s.heap) (A B : Nat → Nat) (o_ j nc ns : Nat) (hj : j ≤ 512) (hi : 6 * j + 6 ≤ L) (hnc : nc + 1 ≤ room_1.cells) (hns : ns + 6 ≤ room_1.slots) {pt : Nat × (Nat → Int32)} {qt : Nat × Nat × Nat × Nat × (Nat → Int32)} {wC wM : va_W} (fo : Nat → Int64) {H : Heap} {locs : List Loc} {ls : Array Slot} (hC : CK g A j pt qt wC) (hM : MK g B j pt qt wM) (hP : va_P D vwCl (wC ++ (wM ++ lwO g o_ fo)) H) (hD : va_D (lwA s) (wC ++ (wM ++ lwO g o_ fo))) (hS : va_S (lwA s) s.heap H locs) (hl : lv_has ls 7 [(4, .int (nI (6 * j))), (3, .ref o_), (2, .ref (B 0)), (1, .ref (A 0)), (0, .ref b)]) (kk : lw_K p l e s m below meth c b D g A B o_ j nc ns) : W p l e room_1 s m #[Value.ref b] below meth c H locs nc ns (lw_Z below #[Value.ref b] s) (F0 m 1387 ls []) := by
  obtain ⟨hx, hb, hr, hml, hown, hts0, hX, hbl, hlocks, hgv⟩ := id C0
  have hts : ∀ w ∈ wsL_law, w.before #[Value.ref b] s = true := fun w h => hts0 w (wsL_law_in w h)
  have hA : ∀ q : Nat, s.heap.size ≤ q → lwA s q := fun _ h => h
  have hbA : ¬ lwA s b := Nat.not_le.mpr hbl
  have hf0 : nc + 0 ≤ room_1.cells ∧ ns + 0 ≤ room_1.slots := ⟨by omega, by omega⟩
  have hf1 : nc + 1 ≤ room_1.cells ∧ ns + 6 ≤ room_1.slots := ⟨hnc, hns⟩
  refine lv_aload_n hx hb dL_law_1387 rfl (lv_at hl 3 rfl) ?_
  refine lw_ld hx hb hX hbl hbA hS 1 (by omega) hL (lv_at hl 4 rfl) (lv_at hl 0 rfl) (by decide) dL_law_1388 dL_law_1389 dL_law_1391 dL_law_1392 dL_law_1393 ?_
  refine lw_ld hx hb hX hbl hbA hS 2 (by omega) hL (lv_at hl 4 rfl) (lv_at hl 0 rfl) (by decide) dL_law_1394 dL_law_1395 dL_law_1397 dL_law_1398 dL_law_1399 ?_
  obtain ⟨fs0, he0⟩ := hC.x
  refine ka_V (As := [.int (xs (6 * j + 1)), .int (xs (6 * j + 2))]) (rest := []) ⟨hx, hb, hml, hown, hts⟩ ⟨hK, hN⟩ hZ hP hD hS hA (ck_aim l D g H.size A j hj (xs (6 * j + 1)) (xs (6 * j + 2)) hC) (cwV 2 hts gL_law_X6_aim rfl rfl rfl (by decide +kernel) ⟨(Nat.le_of_ble_eq_true rfl), (Nat.le_of_ble_eq_true rfl)⟩) 6 he0 rfl rfl rfl hl.1 rfl (Nat.le_of_ble_eq_true rfl) dL_law_1400 hf0 (fun r1 u1 H locs hC1 hP hD hS => ?_)
  rw [List.append_assoc] at hP hD
  refine lv_pop hx hb dL_law_1403 rfl ?_
  refine lv_aload_n hx hb dL_law_1404 rfl (lv_at hl 2 rfl) ?_
  refine lw_ld hx hb hX hbl hbA hS 1 (by omega) hL (lv_at hl 4 rfl) (lv_at hl 0 rfl) (by decide) dL_law_1405 dL_law_1406 dL_law_1408 dL_law_1409 dL_law_1410 ?_
  refine lw_ld hx hb hX hbl hbA hS 2 (by omega) hL (lv_at hl 4 rfl) (lv_at hl 0 rfl) (by decide) dL_law_1411 dL_law_1412 dL_law_1414 dL_law_1415 dL_law_1416 ?_
  obtain ⟨fs1, he1⟩ := hM.x
  refine ka_V (As := [.int (xs (6 * j + 1)), .int (xs (6 * j + 2))]) (rest := []) ⟨hx, hb, hml, hown, hts⟩ ⟨hK, hN⟩ hZ hP hD hS hA (mk_aim l D g H.size B j hj (xs (6 * j + 1)) (xs (6 * j + 2)) hM) (cwV 2 hts gL_law_X7_aim rfl rfl rfl (by decide +kernel) ⟨(Nat.le_of_ble_eq_true rfl), (Nat.le_of_ble_eq_true rfl)⟩) 7 he1 rfl rfl rfl hl.1 rfl (Nat.le_of_ble_eq_true rfl) dL_law_1417 hf0 (fun r2 u2 H locs hM1 hP hD hS => ?_)
  refine lv_pop hx hb dL_law_1420 rfl ?_
  refine lv_goto (tgt := 1844) hx hb dL_law_1421 (by decide) ?_
  refine W.widen (k := nc + 1) (n := ns + 6) (by omega) (by omega) ?_
  exact kk _ _ _ _ _ _ _ _ hC1 hM1 (turn_P hP) (turn_D hD) hS (lv_sub hl [0, 1, 2, 3, 4] rfl)
set_option maxHeartbeats 4000000 in
set_option maxRecDepth 100000 in
/-- room -/
theorem lc_30 {p : Program} {e : Env} {s : State} {m : MethodId} {below : List Frame} {meth : Method} {c : Code} (l : Launch) (hl9 : l.stackTraces = false) {b L : Nat} {xs : Nat → Int32} (C0 : lw_At p s m meth c b L xs) (hL : L ≤ 3072) (D : va_G) (g : Nat → ClassId) (hK : va_K D vwCl (kY g) s) (hN : kn g s) (hZ : ks g (lwA s) s s.heap) (A B : Nat → Nat) (o_ j nc ns : Nat) (hj : j ≤ 512) (hi : 6 * j + 6 ≤ L) (hnc : nc + 1 ≤ room_1.cells) (hns : ns + 6 ≤ room_1.slots) {pt : Nat × (Nat → Int32)} {qt : Nat × Nat × Nat × Nat × (Nat → Int32)} {wC wM : va_W} (fo : Nat → Int64) {H : Heap} {locs : List Loc} {ls : Array Slot} (hC : CK g A j pt qt wC) (hM : MK g B j pt qt wM) (hP : va_P D vwCl (wC ++ (wM ++ lwO g o_ fo)) H) (hD : va_D (lwA s) (wC ++ (wM ++ lwO g o_ fo))) (hS : va_S (lwA s) s.heap H locs) (hl : lv_has ls 7 [(4, .int (nI (6 * j))), (3, .ref o_), (2, .ref (B 0)), (1, .ref (A 0)), (0, .ref b)]) (kk : lw_K p l e s m below meth c b D g A B o_ j nc ns) : W p l e room_1 s m #[Value.ref b] below meth c H locs nc ns (lw_Z below #[Value.ref b] s) (F0 m 1424 ls []) := by
  obtain ⟨hx, hb, hr, hml, hown, hts0, hX, hbl, hlocks, hgv⟩ := id C0
  have hts : ∀ w ∈ wsL_law, w.before #[Value.ref b] s = true := fun w h => hts0 w (wsL_law_in w h)
  have hA : ∀ q : Nat, s.heap.size ≤ q → lwA s q := fun _ h => h
  have hbA : ¬ lwA s b := Nat.not_le.mpr hbl
  have hf0 : nc + 0 ≤ room_1.cells ∧ ns + 0 ≤ room_1.slots := ⟨by omega, by omega⟩
  have hf1 : nc + 1 ≤ room_1.cells ∧ ns + 6 ≤ room_1.slots := ⟨hnc, hns⟩
  refine lv_aload_n hx hb dL_law_1424 rfl (lv_at hl 3 rfl) ?_
  refine lw_ld hx hb hX hbl hbA hS 1 (by omega) hL (lv_at hl 4 rfl) (lv_at hl 0 rfl) (by decide) dL_law_1425 dL_law_1426 dL_law_1428 dL_law_1429 dL_law_1430 ?_
  refine lw_ld hx hb hX hbl hbA hS 2 (by omega) hL (lv_at hl 4 rfl) (lv_at hl 0 rfl) (by decide) dL_law_1431 dL_law_1432 dL_law_1434 dL_law_1435 dL_law_1436 ?_
  obtain ⟨fs0, he0⟩ := hC.x
  refine ka_V (As := [.int (xs (6 * j + 1)), .int (xs (6 * j + 2))]) (rest := []) ⟨hx, hb, hml, hown, hts⟩ ⟨hK, hN⟩ hZ hP hD hS hA (ck_room l D g H.size A j hj (xs (6 * j + 1)) (xs (6 * j + 2)) hC) (cwV 2 hts gL_law_X6_room rfl rfl rfl (by decide +kernel) ⟨(Nat.le_of_ble_eq_true rfl), (Nat.le_of_ble_eq_true rfl)⟩) 6 he0 rfl rfl rfl hl.1 rfl (Nat.le_of_ble_eq_true rfl) dL_law_1437 hf0 (fun r1 u1 H locs hC1 hP hD hS => ?_)
  rw [List.append_assoc] at hP hD
  refine lv_pop hx hb dL_law_1440 rfl ?_
  refine lv_aload_n hx hb dL_law_1441 rfl (lv_at hl 2 rfl) ?_
  refine lw_ld hx hb hX hbl hbA hS 1 (by omega) hL (lv_at hl 4 rfl) (lv_at hl 0 rfl) (by decide) dL_law_1442 dL_law_1443 dL_law_1445 dL_law_1446 dL_law_1447 ?_
  refine lw_ld hx hb hX hbl hbA hS 2 (by omega) hL (lv_at hl 4 rfl) (lv_at hl 0 rfl) (by decide) dL_law_1448 dL_law_1449 dL_law_1451 dL_law_1452 dL_law_1453 ?_
  obtain ⟨fs1, he1⟩ := hM.x
  refine ka_V (As := [.int (xs (6 * j + 1)), .int (xs (6 * j + 2))]) (rest := []) ⟨hx, hb, hml, hown, hts⟩ ⟨hK, hN⟩ hZ hP hD hS hA (mk_room l D g H.size B j hj (xs (6 * j + 1)) (xs (6 * j + 2)) hM) (cwV 2 hts gL_law_X7_room rfl rfl rfl (by decide +kernel) ⟨(Nat.le_of_ble_eq_true rfl), (Nat.le_of_ble_eq_true rfl)⟩) 7 he1 rfl rfl rfl hl.1 rfl (Nat.le_of_ble_eq_true rfl) dL_law_1454 hf0 (fun r2 u2 H locs hM1 hP hD hS => ?_)
  refine lv_pop hx hb dL_law_1457 rfl ?_
  refine lv_goto (tgt := 1844) hx hb dL_law_1458 (by decide) ?_
  refine W.widen (k := nc + 1) (n := ns + 6) (by omega) (by omega) ?_
  exact kk _ _ _ _ _ _ _ _ hC1 hM1 (turn_P hP) (turn_D hD) hS (lv_sub hl [0, 1, 2, 3, 4] rfl)
set_option maxHeartbeats 4000000 in
set_option maxRecDepth 100000 in
/-- trip -/
theorem lc_31 {p : Program} {e : Env} {s : State} {m : MethodId} {below : List Frame} {meth : Method} {c : Code} (l : Launch) (hl9 : l.stackTraces = false) {b L : Nat} {xs : Nat → Int32} (C0 : lw_At p s m meth c b L xs) (hL : L ≤ 3072) (D : va_G) (g : Nat → ClassId) (hK : va_K D vwCl (kY g) s) (hN : kn g s) (hZ : ks g (lwA s) s s.heap) (A B : Nat → Nat) (o_ j nc ns : Nat) (hj : j ≤ 512) (hi : 6 * j + 6 ≤ L) (hnc : nc + 1 ≤ room_1.cells) (hns : ns + 6 ≤ room_1.slots) {pt : Nat × (Nat → Int32)} {qt : Nat × Nat × Nat × Nat × (Nat → Int32)} {wC wM : va_W} (fo : Nat → Int64) {H : Heap} {locs : List Loc} {ls : Array Slot} (hC : CK g A j pt qt wC) (hM : MK g B j pt qt wM) (hP : va_P D vwCl (wC ++ (wM ++ lwO g o_ fo)) H) (hD : va_D (lwA s) (wC ++ (wM ++ lwO g o_ fo))) (hS : va_S (lwA s) s.heap H locs) (hl : lv_has ls 7 [(4, .int (nI (6 * j))), (3, .ref o_), (2, .ref (B 0)), (1, .ref (A 0)), (0, .ref b)]) (kk : lw_K p l e s m below meth c b D g A B o_ j nc ns) : W p l e room_1 s m #[Value.ref b] below meth c H locs nc ns (lw_Z below #[Value.ref b] s) (F0 m 1461 ls []) := by
  obtain ⟨hx, hb, hr, hml, hown, hts0, hX, hbl, hlocks, hgv⟩ := id C0
  have hts : ∀ w ∈ wsL_law, w.before #[Value.ref b] s = true := fun w h => hts0 w (wsL_law_in w h)
  have hA : ∀ q : Nat, s.heap.size ≤ q → lwA s q := fun _ h => h
  have hbA : ¬ lwA s b := Nat.not_le.mpr hbl
  have hf0 : nc + 0 ≤ room_1.cells ∧ ns + 0 ≤ room_1.slots := ⟨by omega, by omega⟩
  have hf1 : nc + 1 ≤ room_1.cells ∧ ns + 6 ≤ room_1.slots := ⟨hnc, hns⟩
  refine lv_aload_n hx hb dL_law_1461 rfl (lv_at hl 3 rfl) ?_
  refine lw_ld hx hb hX hbl hbA hS 1 (by omega) hL (lv_at hl 4 rfl) (lv_at hl 0 rfl) (by decide) dL_law_1462 dL_law_1463 dL_law_1465 dL_law_1466 dL_law_1467 ?_
  refine lw_ld hx hb hX hbl hbA hS 2 (by omega) hL (lv_at hl 4 rfl) (lv_at hl 0 rfl) (by decide) dL_law_1468 dL_law_1469 dL_law_1471 dL_law_1472 dL_law_1473 ?_
  obtain ⟨fs0, he0⟩ := hC.x
  refine ka_V (As := [.int (xs (6 * j + 1)), .int (xs (6 * j + 2))]) (rest := []) ⟨hx, hb, hml, hown, hts⟩ ⟨hK, hN⟩ hZ hP hD hS hA (ck_trip l D g H.size A j hj (xs (6 * j + 1)) (xs (6 * j + 2)) hC) (cwV 2 hts gL_law_X6_trip rfl rfl rfl (by decide +kernel) ⟨(Nat.le_of_ble_eq_true rfl), (Nat.le_of_ble_eq_true rfl)⟩) 6 he0 rfl rfl rfl hl.1 rfl (Nat.le_of_ble_eq_true rfl) dL_law_1474 hf0 (fun r1 u1 H locs hC1 hP hD hS => ?_)
  rw [List.append_assoc] at hP hD
  refine lv_pop hx hb dL_law_1477 rfl ?_
  refine lv_aload_n hx hb dL_law_1478 rfl (lv_at hl 2 rfl) ?_
  refine lw_ld hx hb hX hbl hbA hS 1 (by omega) hL (lv_at hl 4 rfl) (lv_at hl 0 rfl) (by decide) dL_law_1479 dL_law_1480 dL_law_1482 dL_law_1483 dL_law_1484 ?_
  refine lw_ld hx hb hX hbl hbA hS 2 (by omega) hL (lv_at hl 4 rfl) (lv_at hl 0 rfl) (by decide) dL_law_1485 dL_law_1486 dL_law_1488 dL_law_1489 dL_law_1490 ?_
  obtain ⟨fs1, he1⟩ := hM.x
  refine ka_V (As := [.int (xs (6 * j + 1)), .int (xs (6 * j + 2))]) (rest := []) ⟨hx, hb, hml, hown, hts⟩ ⟨hK, hN⟩ hZ hP hD hS hA (mk_trip l D g H.size B j hj (xs (6 * j + 1)) (xs (6 * j + 2)) hM) (cwV 2 hts gL_law_X7_trip rfl rfl rfl (by decide +kernel) ⟨(Nat.le_of_ble_eq_true rfl), (Nat.le_of_ble_eq_true rfl)⟩) 7 he1 rfl rfl rfl hl.1 rfl (Nat.le_of_ble_eq_true rfl) dL_law_1491 hf0 (fun r2 u2 H locs hM1 hP hD hS => ?_)
  refine lv_pop hx hb dL_law_1494 rfl ?_
  refine lv_goto (tgt := 1844) hx hb dL_law_1495 (by decide) ?_
  refine W.widen (k := nc + 1) (n := ns + 6) (by omega) (by omega) ?_
  exact kk _ _ _ _ _ _ _ _ hC1 hM1 (turn_P hP) (turn_D hD) hS (lv_sub hl [0, 1, 2, 3, 4] rfl)
set_option maxHeartbeats 4000000 in
set_option maxRecDepth 100000 in
/-- oldest -/
theorem lc_32 {p : Program} {e : Env} {s : State} {m : MethodId} {below : List Frame} {meth : Method} {c : Code} (l : Launch) (hl9 : l.stackTraces = false) {b L : Nat} {xs : Nat → Int32} (C0 : lw_At p s m meth c b L xs) (hL : L ≤ 3072) (D : va_G) (g : Nat → ClassId) (hK : va_K D vwCl (kY g) s) (hN : kn g s) (hZ : ks g (lwA s) s s.heap) (A B : Nat → Nat) (o_ j nc ns : Nat) (hj : j ≤ 512) (hi : 6 * j + 6 ≤ L) (hnc : nc + 1 ≤ room_1.cells) (hns : ns + 6 ≤ room_1.slots) {pt : Nat × (Nat → Int32)} {qt : Nat × Nat × Nat × Nat × (Nat → Int32)} {wC wM : va_W} (fo : Nat → Int64) {H : Heap} {locs : List Loc} {ls : Array Slot} (hC : CK g A j pt qt wC) (hM : MK g B j pt qt wM) (hP : va_P D vwCl (wC ++ (wM ++ lwO g o_ fo)) H) (hD : va_D (lwA s) (wC ++ (wM ++ lwO g o_ fo))) (hS : va_S (lwA s) s.heap H locs) (hl : lv_has ls 7 [(4, .int (nI (6 * j))), (3, .ref o_), (2, .ref (B 0)), (1, .ref (A 0)), (0, .ref b)]) (kk : lw_K p l e s m below meth c b D g A B o_ j nc ns) : W p l e room_1 s m #[Value.ref b] below meth c H locs nc ns (lw_Z below #[Value.ref b] s) (F0 m 1498 ls []) := by
  obtain ⟨hx, hb, hr, hml, hown, hts0, hX, hbl, hlocks, hgv⟩ := id C0
  have hts : ∀ w ∈ wsL_law, w.before #[Value.ref b] s = true := fun w h => hts0 w (wsL_law_in w h)
  have hA : ∀ q : Nat, s.heap.size ≤ q → lwA s q := fun _ h => h
  have hbA : ¬ lwA s b := Nat.not_le.mpr hbl
  have hf0 : nc + 0 ≤ room_1.cells ∧ ns + 0 ≤ room_1.slots := ⟨by omega, by omega⟩
  have hf1 : nc + 1 ≤ room_1.cells ∧ ns + 6 ≤ room_1.slots := ⟨hnc, hns⟩
  refine lv_aload_n hx hb dL_law_1498 rfl (lv_at hl 3 rfl) ?_
  refine lw_ld hx hb hX hbl hbA hS 1 (by omega) hL (lv_at hl 4 rfl) (lv_at hl 0 rfl) (by decide) dL_law_1499 dL_law_1500 dL_law_1502 dL_law_1503 dL_law_1504 ?_
  obtain ⟨fs0, he0⟩ := hC.x
  refine ka_V (As := [.int (xs (6 * j + 1))]) (rest := []) ⟨hx, hb, hml, hown, hts⟩ ⟨hK, hN⟩ hZ hP hD hS hA (ck_oldest l D g H.size A j hj (xs (6 * j + 1)) hC) (cwV 1 hts gL_law_X6_oldest rfl rfl rfl (by decide +kernel) ⟨(Nat.le_of_ble_eq_true rfl), (Nat.le_of_ble_eq_true rfl)⟩) 6 he0 rfl rfl rfl hl.1 rfl (Nat.le_of_ble_eq_true rfl) dL_law_1505 hf0 (fun r1 u1 H locs hC1 hP hD hS => ?_)
  rw [List.append_assoc] at hP hD
  refine lv_pop hx hb dL_law_1508 rfl ?_
  refine lv_aload_n hx hb dL_law_1509 rfl (lv_at hl 2 rfl) ?_
  refine lw_ld hx hb hX hbl hbA hS 1 (by omega) hL (lv_at hl 4 rfl) (lv_at hl 0 rfl) (by decide) dL_law_1510 dL_law_1511 dL_law_1513 dL_law_1514 dL_law_1515 ?_
  obtain ⟨fs1, he1⟩ := hM.x
  refine ka_V (As := [.int (xs (6 * j + 1))]) (rest := []) ⟨hx, hb, hml, hown, hts⟩ ⟨hK, hN⟩ hZ hP hD hS hA (mk_oldest l D g H.size B j hj (xs (6 * j + 1)) hM) (cwV 1 hts gL_law_X7_oldest rfl rfl rfl (by decide +kernel) ⟨(Nat.le_of_ble_eq_true rfl), (Nat.le_of_ble_eq_true rfl)⟩) 7 he1 rfl rfl rfl hl.1 rfl (Nat.le_of_ble_eq_true rfl) dL_law_1516 hf0 (fun r2 u2 H locs hM1 hP hD hS => ?_)
  refine lv_pop hx hb dL_law_1519 rfl ?_
  refine lv_goto (tgt := 1844) hx hb dL_law_1520 (by decide) ?_
  refine W.widen (k := nc + 1) (n := ns + 6) (by omega) (by omega) ?_
  exact kk _ _ _ _ _ _ _ _ hC1 hM1 (turn_P hP) (turn_D hD) hS (lv_sub hl [0, 1, 2, 3, 4] rfl)
set_option maxHeartbeats 4000000 in
set_option maxRecDepth 100000 in
/-- learns -/
theorem lc_33 {p : Program} {e : Env} {s : State} {m : MethodId} {below : List Frame} {meth : Method} {c : Code} (l : Launch) (hl9 : l.stackTraces = false) {b L : Nat} {xs : Nat → Int32} (C0 : lw_At p s m meth c b L xs) (hL : L ≤ 3072) (D : va_G) (g : Nat → ClassId) (hK : va_K D vwCl (kY g) s) (hN : kn g s) (hZ : ks g (lwA s) s s.heap) (A B : Nat → Nat) (o_ j nc ns : Nat) (hj : j ≤ 512) (hi : 6 * j + 6 ≤ L) (hnc : nc + 1 ≤ room_1.cells) (hns : ns + 6 ≤ room_1.slots) {pt : Nat × (Nat → Int32)} {qt : Nat × Nat × Nat × Nat × (Nat → Int32)} {wC wM : va_W} (fo : Nat → Int64) {H : Heap} {locs : List Loc} {ls : Array Slot} (hC : CK g A j pt qt wC) (hM : MK g B j pt qt wM) (hP : va_P D vwCl (wC ++ (wM ++ lwO g o_ fo)) H) (hD : va_D (lwA s) (wC ++ (wM ++ lwO g o_ fo))) (hS : va_S (lwA s) s.heap H locs) (hl : lv_has ls 7 [(4, .int (nI (6 * j))), (3, .ref o_), (2, .ref (B 0)), (1, .ref (A 0)), (0, .ref b)]) (kk : lw_K p l e s m below meth c b D g A B o_ j nc ns) : W p l e room_1 s m #[Value.ref b] below meth c H locs nc ns (lw_Z below #[Value.ref b] s) (F0 m 1523 ls []) := by
  obtain ⟨hx, hb, hr, hml, hown, hts0, hX, hbl, hlocks, hgv⟩ := id C0
  have hts : ∀ w ∈ wsL_law, w.before #[Value.ref b] s = true := fun w h => hts0 w (wsL_law_in w h)
  have hA : ∀ q : Nat, s.heap.size ≤ q → lwA s q := fun _ h => h
  have hbA : ¬ lwA s b := Nat.not_le.mpr hbl
  have hf0 : nc + 0 ≤ room_1.cells ∧ ns + 0 ≤ room_1.slots := ⟨by omega, by omega⟩
  have hf1 : nc + 1 ≤ room_1.cells ∧ ns + 6 ≤ room_1.slots := ⟨hnc, hns⟩
  refine lv_aload_n hx hb dL_law_1523 rfl (lv_at hl 3 rfl) ?_
  refine lw_ld hx hb hX hbl hbA hS 1 (by omega) hL (lv_at hl 4 rfl) (lv_at hl 0 rfl) (by decide) dL_law_1524 dL_law_1525 dL_law_1527 dL_law_1528 dL_law_1529 ?_
  refine lw_ld hx hb hX hbl hbA hS 2 (by omega) hL (lv_at hl 4 rfl) (lv_at hl 0 rfl) (by decide) dL_law_1530 dL_law_1531 dL_law_1533 dL_law_1534 dL_law_1535 ?_
  obtain ⟨fs0, he0⟩ := hC.x
  refine ka_V (As := [.int (xs (6 * j + 1)), .int (xs (6 * j + 2))]) (rest := []) ⟨hx, hb, hml, hown, hts⟩ ⟨hK, hN⟩ hZ hP hD hS hA (ck_learns l D g H.size A j hj (xs (6 * j + 1)) (xs (6 * j + 2)) hC) (cwV 2 hts gL_law_X6_learns rfl rfl rfl (by decide +kernel) ⟨(Nat.le_of_ble_eq_true rfl), (Nat.le_of_ble_eq_true rfl)⟩) 6 he0 rfl rfl rfl hl.1 rfl (Nat.le_of_ble_eq_true rfl) dL_law_1536 hf0 (fun r1 u1 H locs hC1 hP hD hS => ?_)
  rw [List.append_assoc] at hP hD
  refine lv_pop hx hb dL_law_1539 rfl ?_
  refine lv_aload_n hx hb dL_law_1540 rfl (lv_at hl 2 rfl) ?_
  refine lw_ld hx hb hX hbl hbA hS 1 (by omega) hL (lv_at hl 4 rfl) (lv_at hl 0 rfl) (by decide) dL_law_1541 dL_law_1542 dL_law_1544 dL_law_1545 dL_law_1546 ?_
  refine lw_ld hx hb hX hbl hbA hS 2 (by omega) hL (lv_at hl 4 rfl) (lv_at hl 0 rfl) (by decide) dL_law_1547 dL_law_1548 dL_law_1550 dL_law_1551 dL_law_1552 ?_
  obtain ⟨fs1, he1⟩ := hM.x
  refine ka_V (As := [.int (xs (6 * j + 1)), .int (xs (6 * j + 2))]) (rest := []) ⟨hx, hb, hml, hown, hts⟩ ⟨hK, hN⟩ hZ hP hD hS hA (mk_learns l D g H.size B j hj (xs (6 * j + 1)) (xs (6 * j + 2)) hM) (cwV 2 hts gL_law_X7_learns rfl rfl rfl (by decide +kernel) ⟨(Nat.le_of_ble_eq_true rfl), (Nat.le_of_ble_eq_true rfl)⟩) 7 he1 rfl rfl rfl hl.1 rfl (Nat.le_of_ble_eq_true rfl) dL_law_1553 hf0 (fun r2 u2 H locs hM1 hP hD hS => ?_)
  refine lv_pop hx hb dL_law_1556 rfl ?_
  refine lv_goto (tgt := 1844) hx hb dL_law_1557 (by decide) ?_
  refine W.widen (k := nc + 1) (n := ns + 6) (by omega) (by omega) ?_
  exact kk _ _ _ _ _ _ _ _ hC1 hM1 (turn_P hP) (turn_D hD) hS (lv_sub hl [0, 1, 2, 3, 4] rfl)
set_option maxHeartbeats 4000000 in
set_option maxRecDepth 100000 in
/-- stuck -/
theorem lc_34 {p : Program} {e : Env} {s : State} {m : MethodId} {below : List Frame} {meth : Method} {c : Code} (l : Launch) (hl9 : l.stackTraces = false) {b L : Nat} {xs : Nat → Int32} (C0 : lw_At p s m meth c b L xs) (hL : L ≤ 3072) (D : va_G) (g : Nat → ClassId) (hK : va_K D vwCl (kY g) s) (hN : kn g s) (hZ : ks g (lwA s) s s.heap) (A B : Nat → Nat) (o_ j nc ns : Nat) (hj : j ≤ 512) (hi : 6 * j + 6 ≤ L) (hnc : nc + 1 ≤ room_1.cells) (hns : ns + 6 ≤ room_1.slots) {pt : Nat × (Nat → Int32)} {qt : Nat × Nat × Nat × Nat × (Nat → Int32)} {wC wM : va_W} (fo : Nat → Int64) {H : Heap} {locs : List Loc} {ls : Array Slot} (hC : CK g A j pt qt wC) (hM : MK g B j pt qt wM) (hP : va_P D vwCl (wC ++ (wM ++ lwO g o_ fo)) H) (hD : va_D (lwA s) (wC ++ (wM ++ lwO g o_ fo))) (hS : va_S (lwA s) s.heap H locs) (hl : lv_has ls 7 [(4, .int (nI (6 * j))), (3, .ref o_), (2, .ref (B 0)), (1, .ref (A 0)), (0, .ref b)]) (kk : lw_K p l e s m below meth c b D g A B o_ j nc ns) : W p l e room_1 s m #[Value.ref b] below meth c H locs nc ns (lw_Z below #[Value.ref b] s) (F0 m 1560 ls []) := by
  obtain ⟨hx, hb, hr, hml, hown, hts0, hX, hbl, hlocks, hgv⟩ := id C0
  have hts : ∀ w ∈ wsL_law, w.before #[Value.ref b] s = true := fun w h => hts0 w (wsL_law_in w h)
  have hA : ∀ q : Nat, s.heap.size ≤ q → lwA s q := fun _ h => h
  have hbA : ¬ lwA s b := Nat.not_le.mpr hbl
  have hf0 : nc + 0 ≤ room_1.cells ∧ ns + 0 ≤ room_1.slots := ⟨by omega, by omega⟩
  have hf1 : nc + 1 ≤ room_1.cells ∧ ns + 6 ≤ room_1.slots := ⟨hnc, hns⟩
  refine lv_aload_n hx hb dL_law_1560 rfl (lv_at hl 3 rfl) ?_
  obtain ⟨fs0, he0⟩ := hC.x
  refine ka_V (As := []) (rest := []) ⟨hx, hb, hml, hown, hts⟩ ⟨hK, hN⟩ hZ hP hD hS hA (ck_stuck l D g H.size A j hj hC) (cwV 0 hts gL_law_X6_stuck rfl rfl rfl (by decide +kernel) ⟨(Nat.le_of_ble_eq_true rfl), (Nat.le_of_ble_eq_true rfl)⟩) 6 he0 rfl rfl rfl hl.1 rfl (Nat.le_of_ble_eq_true rfl) dL_law_1561 hf0 (fun r1 u1 H locs hC1 hP hD hS => ?_)
  rw [List.append_assoc] at hP hD
  refine lv_pop hx hb dL_law_1564 rfl ?_
  refine lv_aload_n hx hb dL_law_1565 rfl (lv_at hl 2 rfl) ?_
  obtain ⟨fs1, he1⟩ := hM.x
  refine ka_V (As := []) (rest := []) ⟨hx, hb, hml, hown, hts⟩ ⟨hK, hN⟩ hZ hP hD hS hA (mk_stuck l D g H.size B j hj hM) (cwV 0 hts gL_law_X7_stuck rfl rfl rfl (by decide +kernel) ⟨(Nat.le_of_ble_eq_true rfl), (Nat.le_of_ble_eq_true rfl)⟩) 7 he1 rfl rfl rfl hl.1 rfl (Nat.le_of_ble_eq_true rfl) dL_law_1566 hf0 (fun r2 u2 H locs hM1 hP hD hS => ?_)
  refine lv_pop hx hb dL_law_1569 rfl ?_
  refine lv_goto (tgt := 1844) hx hb dL_law_1570 (by decide) ?_
  refine W.widen (k := nc + 1) (n := ns + 6) (by omega) (by omega) ?_
  exact kk _ _ _ _ _ _ _ _ hC1 hM1 (turn_P hP) (turn_D hD) hS (lv_sub hl [0, 1, 2, 3, 4] rfl)
set_option maxHeartbeats 4000000 in
set_option maxRecDepth 100000 in
/-- would -/
theorem lc_35 {p : Program} {e : Env} {s : State} {m : MethodId} {below : List Frame} {meth : Method} {c : Code} (l : Launch) (hl9 : l.stackTraces = false) {b L : Nat} {xs : Nat → Int32} (C0 : lw_At p s m meth c b L xs) (hL : L ≤ 3072) (D : va_G) (g : Nat → ClassId) (hK : va_K D vwCl (kY g) s) (hN : kn g s) (hZ : ks g (lwA s) s s.heap) (A B : Nat → Nat) (o_ j nc ns : Nat) (hj : j ≤ 512) (hi : 6 * j + 6 ≤ L) (hnc : nc + 1 ≤ room_1.cells) (hns : ns + 6 ≤ room_1.slots) {pt : Nat × (Nat → Int32)} {qt : Nat × Nat × Nat × Nat × (Nat → Int32)} {wC wM : va_W} (fo : Nat → Int64) {H : Heap} {locs : List Loc} {ls : Array Slot} (hC : CK g A j pt qt wC) (hM : MK g B j pt qt wM) (hP : va_P D vwCl (wC ++ (wM ++ lwO g o_ fo)) H) (hD : va_D (lwA s) (wC ++ (wM ++ lwO g o_ fo))) (hS : va_S (lwA s) s.heap H locs) (hl : lv_has ls 7 [(4, .int (nI (6 * j))), (3, .ref o_), (2, .ref (B 0)), (1, .ref (A 0)), (0, .ref b)]) (kk : lw_K p l e s m below meth c b D g A B o_ j nc ns) : W p l e room_1 s m #[Value.ref b] below meth c H locs nc ns (lw_Z below #[Value.ref b] s) (F0 m 1573 ls []) := by
  obtain ⟨hx, hb, hr, hml, hown, hts0, hX, hbl, hlocks, hgv⟩ := id C0
  have hts : ∀ w ∈ wsL_law, w.before #[Value.ref b] s = true := fun w h => hts0 w (wsL_law_in w h)
  have hA : ∀ q : Nat, s.heap.size ≤ q → lwA s q := fun _ h => h
  have hbA : ¬ lwA s b := Nat.not_le.mpr hbl
  have hf0 : nc + 0 ≤ room_1.cells ∧ ns + 0 ≤ room_1.slots := ⟨by omega, by omega⟩
  have hf1 : nc + 1 ≤ room_1.cells ∧ ns + 6 ≤ room_1.slots := ⟨hnc, hns⟩
  refine lv_aload_n hx hb dL_law_1573 rfl (lv_at hl 3 rfl) ?_
  refine lw_ld hx hb hX hbl hbA hS 1 (by omega) hL (lv_at hl 4 rfl) (lv_at hl 0 rfl) (by decide) dL_law_1574 dL_law_1575 dL_law_1577 dL_law_1578 dL_law_1579 ?_
  refine lw_ld hx hb hX hbl hbA hS 2 (by omega) hL (lv_at hl 4 rfl) (lv_at hl 0 rfl) (by decide) dL_law_1580 dL_law_1581 dL_law_1583 dL_law_1584 dL_law_1585 ?_
  refine lw_ld hx hb hX hbl hbA hS 3 (by omega) hL (lv_at hl 4 rfl) (lv_at hl 0 rfl) (by decide) dL_law_1586 dL_law_1587 dL_law_1589 dL_law_1590 dL_law_1591 ?_
  refine lw_ld hx hb hX hbl hbA hS 4 (by omega) hL (lv_at hl 4 rfl) (lv_at hl 0 rfl) (by decide) dL_law_1592 dL_law_1593 dL_law_1595 dL_law_1596 dL_law_1597 ?_
  obtain ⟨fs0, he0⟩ := hC.x
  refine ka_V (As := [.int (xs (6 * j + 1)), .int (xs (6 * j + 2)), .int (xs (6 * j + 3)), .int (xs (6 * j + 4))]) (rest := []) ⟨hx, hb, hml, hown, hts⟩ ⟨hK, hN⟩ hZ hP hD hS hA (ck_would l D g H.size A j hj (xs (6 * j + 1)) (xs (6 * j + 2)) (xs (6 * j + 3)) (xs (6 * j + 4)) hC) (cwV 4 hts gL_law_X6_would rfl rfl rfl (by decide +kernel) ⟨(Nat.le_of_ble_eq_true rfl), (Nat.le_of_ble_eq_true rfl)⟩) 6 he0 rfl rfl rfl hl.1 rfl (Nat.le_of_ble_eq_true rfl) dL_law_1598 hf0 (fun r1 u1 H locs hC1 hP hD hS => ?_)
  rw [List.append_assoc] at hP hD
  refine lv_pop hx hb dL_law_1601 rfl ?_
  refine lv_aload_n hx hb dL_law_1602 rfl (lv_at hl 2 rfl) ?_
  refine lw_ld hx hb hX hbl hbA hS 1 (by omega) hL (lv_at hl 4 rfl) (lv_at hl 0 rfl) (by decide) dL_law_1603 dL_law_1604 dL_law_1606 dL_law_1607 dL_law_1608 ?_
  refine lw_ld hx hb hX hbl hbA hS 2 (by omega) hL (lv_at hl 4 rfl) (lv_at hl 0 rfl) (by decide) dL_law_1609 dL_law_1610 dL_law_1612 dL_law_1613 dL_law_1614 ?_
  refine lw_ld hx hb hX hbl hbA hS 3 (by omega) hL (lv_at hl 4 rfl) (lv_at hl 0 rfl) (by decide) dL_law_1615 dL_law_1616 dL_law_1618 dL_law_1619 dL_law_1620 ?_
  refine lw_ld hx hb hX hbl hbA hS 4 (by omega) hL (lv_at hl 4 rfl) (lv_at hl 0 rfl) (by decide) dL_law_1621 dL_law_1622 dL_law_1624 dL_law_1625 dL_law_1626 ?_
  obtain ⟨fs1, he1⟩ := hM.x
  refine ka_V (As := [.int (xs (6 * j + 1)), .int (xs (6 * j + 2)), .int (xs (6 * j + 3)), .int (xs (6 * j + 4))]) (rest := []) ⟨hx, hb, hml, hown, hts⟩ ⟨hK, hN⟩ hZ hP hD hS hA (mk_would l D g H.size B j hj (xs (6 * j + 1)) (xs (6 * j + 2)) (xs (6 * j + 3)) (xs (6 * j + 4)) hM) (cwV 4 hts gL_law_X7_would rfl rfl rfl (by decide +kernel) ⟨(Nat.le_of_ble_eq_true rfl), (Nat.le_of_ble_eq_true rfl)⟩) 7 he1 rfl rfl rfl hl.1 rfl (Nat.le_of_ble_eq_true rfl) dL_law_1627 hf0 (fun r2 u2 H locs hM1 hP hD hS => ?_)
  refine lv_pop hx hb dL_law_1630 rfl ?_
  refine lv_goto (tgt := 1844) hx hb dL_law_1631 (by decide) ?_
  refine W.widen (k := nc + 1) (n := ns + 6) (by omega) (by omega) ?_
  exact kk _ _ _ _ _ _ _ _ hC1 hM1 (turn_P hP) (turn_D hD) hS (lv_sub hl [0, 1, 2, 3, 4] rfl)
set_option maxHeartbeats 4000000 in
set_option maxRecDepth 100000 in
/-- bestZone -/
theorem lc_36 {p : Program} {e : Env} {s : State} {m : MethodId} {below : List Frame} {meth : Method} {c : Code} (l : Launch) (hl9 : l.stackTraces = false) {b L : Nat} {xs : Nat → Int32} (C0 : lw_At p s m meth c b L xs) (hL : L ≤ 3072) (D : va_G) (g : Nat → ClassId) (hK : va_K D vwCl (kY g) s) (hN : kn g s) (hZ : ks g (lwA s) s s.heap) (A B : Nat → Nat) (o_ j nc ns : Nat) (hj : j ≤ 512) (hi : 6 * j + 6 ≤ L) (hnc : nc + 1 ≤ room_1.cells) (hns : ns + 6 ≤ room_1.slots) {pt : Nat × (Nat → Int32)} {qt : Nat × Nat × Nat × Nat × (Nat → Int32)} {wC wM : va_W} (fo : Nat → Int64) {H : Heap} {locs : List Loc} {ls : Array Slot} (hC : CK g A j pt qt wC) (hM : MK g B j pt qt wM) (hP : va_P D vwCl (wC ++ (wM ++ lwO g o_ fo)) H) (hD : va_D (lwA s) (wC ++ (wM ++ lwO g o_ fo))) (hS : va_S (lwA s) s.heap H locs) (hl : lv_has ls 7 [(4, .int (nI (6 * j))), (3, .ref o_), (2, .ref (B 0)), (1, .ref (A 0)), (0, .ref b)]) (kk : lw_K p l e s m below meth c b D g A B o_ j nc ns) : W p l e room_1 s m #[Value.ref b] below meth c H locs nc ns (lw_Z below #[Value.ref b] s) (F0 m 1634 ls []) := by
  obtain ⟨hx, hb, hr, hml, hown, hts0, hX, hbl, hlocks, hgv⟩ := id C0
  have hts : ∀ w ∈ wsL_law, w.before #[Value.ref b] s = true := fun w h => hts0 w (wsL_law_in w h)
  have hA : ∀ q : Nat, s.heap.size ≤ q → lwA s q := fun _ h => h
  have hbA : ¬ lwA s b := Nat.not_le.mpr hbl
  have hf0 : nc + 0 ≤ room_1.cells ∧ ns + 0 ≤ room_1.slots := ⟨by omega, by omega⟩
  have hf1 : nc + 1 ≤ room_1.cells ∧ ns + 6 ≤ room_1.slots := ⟨hnc, hns⟩
  refine lv_aload_n hx hb dL_law_1634 rfl (lv_at hl 3 rfl) ?_
  refine lw_ld hx hb hX hbl hbA hS 1 (by omega) hL (lv_at hl 4 rfl) (lv_at hl 0 rfl) (by decide) dL_law_1635 dL_law_1636 dL_law_1638 dL_law_1639 dL_law_1640 ?_
  refine lw_ld hx hb hX hbl hbA hS 2 (by omega) hL (lv_at hl 4 rfl) (lv_at hl 0 rfl) (by decide) dL_law_1641 dL_law_1642 dL_law_1644 dL_law_1645 dL_law_1646 ?_
  refine lw_ld hx hb hX hbl hbA hS 3 (by omega) hL (lv_at hl 4 rfl) (lv_at hl 0 rfl) (by decide) dL_law_1647 dL_law_1648 dL_law_1650 dL_law_1651 dL_law_1652 ?_
  obtain ⟨fs0, he0⟩ := hC.x
  refine ka_V (As := [.int (xs (6 * j + 1)), .int (xs (6 * j + 2)), .int (xs (6 * j + 3))]) (rest := []) ⟨hx, hb, hml, hown, hts⟩ ⟨hK, hN⟩ hZ hP hD hS hA (ck_bestZone l D g H.size A j hj (xs (6 * j + 1)) (xs (6 * j + 2)) (xs (6 * j + 3)) hC) (cwV 3 hts gL_law_X6_bestZone rfl rfl rfl (by decide +kernel) ⟨(Nat.le_of_ble_eq_true rfl), (Nat.le_of_ble_eq_true rfl)⟩) 6 he0 rfl rfl rfl hl.1 rfl (Nat.le_of_ble_eq_true rfl) dL_law_1653 hf0 (fun r1 u1 H locs hC1 hP hD hS => ?_)
  rw [List.append_assoc] at hP hD
  refine lv_pop hx hb dL_law_1656 rfl ?_
  refine lv_aload_n hx hb dL_law_1657 rfl (lv_at hl 2 rfl) ?_
  refine lw_ld hx hb hX hbl hbA hS 1 (by omega) hL (lv_at hl 4 rfl) (lv_at hl 0 rfl) (by decide) dL_law_1658 dL_law_1659 dL_law_1661 dL_law_1662 dL_law_1663 ?_
  refine lw_ld hx hb hX hbl hbA hS 2 (by omega) hL (lv_at hl 4 rfl) (lv_at hl 0 rfl) (by decide) dL_law_1664 dL_law_1665 dL_law_1667 dL_law_1668 dL_law_1669 ?_
  refine lw_ld hx hb hX hbl hbA hS 3 (by omega) hL (lv_at hl 4 rfl) (lv_at hl 0 rfl) (by decide) dL_law_1670 dL_law_1671 dL_law_1673 dL_law_1674 dL_law_1675 ?_
  obtain ⟨fs1, he1⟩ := hM.x
  refine ka_V (As := [.int (xs (6 * j + 1)), .int (xs (6 * j + 2)), .int (xs (6 * j + 3))]) (rest := []) ⟨hx, hb, hml, hown, hts⟩ ⟨hK, hN⟩ hZ hP hD hS hA (mk_bestZone l D g H.size B j hj (xs (6 * j + 1)) (xs (6 * j + 2)) (xs (6 * j + 3)) hM) (cwV 3 hts gL_law_X7_bestZone rfl rfl rfl (by decide +kernel) ⟨(Nat.le_of_ble_eq_true rfl), (Nat.le_of_ble_eq_true rfl)⟩) 7 he1 rfl rfl rfl hl.1 rfl (Nat.le_of_ble_eq_true rfl) dL_law_1676 hf0 (fun r2 u2 H locs hM1 hP hD hS => ?_)
  refine lv_pop hx hb dL_law_1679 rfl ?_
  refine lv_goto (tgt := 1844) hx hb dL_law_1680 (by decide) ?_
  refine W.widen (k := nc + 1) (n := ns + 6) (by omega) (by omega) ?_
  exact kk _ _ _ _ _ _ _ _ hC1 hM1 (turn_P hP) (turn_D hD) hS (lv_sub hl [0, 1, 2, 3, 4] rfl)
set_option maxHeartbeats 4000000 in
set_option maxRecDepth 100000 in
/-- bears -/
theorem lc_37 {p : Program} {e : Env} {s : State} {m : MethodId} {below : List Frame} {meth : Method} {c : Code} (l : Launch) (hl9 : l.stackTraces = false) {b L : Nat} {xs : Nat → Int32} (C0 : lw_At p s m meth c b L xs) (hL : L ≤ 3072) (D : va_G) (g : Nat → ClassId) (hK : va_K D vwCl (kY g) s) (hN : kn g s) (hZ : ks g (lwA s) s s.heap) (A B : Nat → Nat) (o_ j nc ns : Nat) (hj : j ≤ 512) (hi : 6 * j + 6 ≤ L) (hnc : nc + 1 ≤ room_1.cells) (hns : ns + 6 ≤ room_1.slots) {pt : Nat × (Nat → Int32)} {qt : Nat × Nat × Nat × Nat × (Nat → Int32)} {wC wM : va_W} (fo : Nat → Int64) {H : Heap} {locs : List Loc} {ls : Array Slot} (hC : CK g A j pt qt wC) (hM : MK g B j pt qt wM) (hP : va_P D vwCl (wC ++ (wM ++ lwO g o_ fo)) H) (hD : va_D (lwA s) (wC ++ (wM ++ lwO g o_ fo))) (hS : va_S (lwA s) s.heap H locs) (hl : lv_has ls 7 [(4, .int (nI (6 * j))), (3, .ref o_), (2, .ref (B 0)), (1, .ref (A 0)), (0, .ref b)]) (kk : lw_K p l e s m below meth c b D g A B o_ j nc ns) : W p l e room_1 s m #[Value.ref b] below meth c H locs nc ns (lw_Z below #[Value.ref b] s) (F0 m 1683 ls []) := by
  obtain ⟨hx, hb, hr, hml, hown, hts0, hX, hbl, hlocks, hgv⟩ := id C0
  have hts : ∀ w ∈ wsL_law, w.before #[Value.ref b] s = true := fun w h => hts0 w (wsL_law_in w h)
  have hA : ∀ q : Nat, s.heap.size ≤ q → lwA s q := fun _ h => h
  have hbA : ¬ lwA s b := Nat.not_le.mpr hbl
  have hf0 : nc + 0 ≤ room_1.cells ∧ ns + 0 ≤ room_1.slots := ⟨by omega, by omega⟩
  have hf1 : nc + 1 ≤ room_1.cells ∧ ns + 6 ≤ room_1.slots := ⟨hnc, hns⟩
  refine lv_aload_n hx hb dL_law_1683 rfl (lv_at hl 3 rfl) ?_
  refine lw_ld hx hb hX hbl hbA hS 1 (by omega) hL (lv_at hl 4 rfl) (lv_at hl 0 rfl) (by decide) dL_law_1684 dL_law_1685 dL_law_1687 dL_law_1688 dL_law_1689 ?_
  obtain ⟨fs0, he0⟩ := hC.x
  refine ka_V (As := [.int (xs (6 * j + 1))]) (rest := []) ⟨hx, hb, hml, hown, hts⟩ ⟨hK, hN⟩ hZ hP hD hS hA (ck_bears l D g H.size A j hj (xs (6 * j + 1)) hC) (cwV 1 hts gL_law_X6_bears rfl rfl rfl (by decide +kernel) ⟨(Nat.le_of_ble_eq_true rfl), (Nat.le_of_ble_eq_true rfl)⟩) 6 he0 rfl rfl rfl hl.1 rfl (Nat.le_of_ble_eq_true rfl) dL_law_1690 hf0 (fun r1 u1 H locs hC1 hP hD hS => ?_)
  rw [List.append_assoc] at hP hD
  refine lv_pop hx hb dL_law_1693 rfl ?_
  refine lv_aload_n hx hb dL_law_1694 rfl (lv_at hl 2 rfl) ?_
  refine lw_ld hx hb hX hbl hbA hS 1 (by omega) hL (lv_at hl 4 rfl) (lv_at hl 0 rfl) (by decide) dL_law_1695 dL_law_1696 dL_law_1698 dL_law_1699 dL_law_1700 ?_
  obtain ⟨fs1, he1⟩ := hM.x
  refine ka_V (As := [.int (xs (6 * j + 1))]) (rest := []) ⟨hx, hb, hml, hown, hts⟩ ⟨hK, hN⟩ hZ hP hD hS hA (mk_bears l D g H.size B j hj (xs (6 * j + 1)) hM) (cwV 1 hts gL_law_X7_bears rfl rfl rfl (by decide +kernel) ⟨(Nat.le_of_ble_eq_true rfl), (Nat.le_of_ble_eq_true rfl)⟩) 7 he1 rfl rfl rfl hl.1 rfl (Nat.le_of_ble_eq_true rfl) dL_law_1701 hf0 (fun r2 u2 H locs hM1 hP hD hS => ?_)
  refine lv_pop hx hb dL_law_1704 rfl ?_
  refine lv_goto (tgt := 1844) hx hb dL_law_1705 (by decide) ?_
  refine W.widen (k := nc + 1) (n := ns + 6) (by omega) (by omega) ?_
  exact kk _ _ _ _ _ _ _ _ hC1 hM1 (turn_P hP) (turn_D hD) hS (lv_sub hl [0, 1, 2, 3, 4] rfl)
set_option maxHeartbeats 4000000 in
set_option maxRecDepth 100000 in
/-- waits -/
theorem lc_38 {p : Program} {e : Env} {s : State} {m : MethodId} {below : List Frame} {meth : Method} {c : Code} (l : Launch) (hl9 : l.stackTraces = false) {b L : Nat} {xs : Nat → Int32} (C0 : lw_At p s m meth c b L xs) (hL : L ≤ 3072) (D : va_G) (g : Nat → ClassId) (hK : va_K D vwCl (kY g) s) (hN : kn g s) (hZ : ks g (lwA s) s s.heap) (A B : Nat → Nat) (o_ j nc ns : Nat) (hj : j ≤ 512) (hi : 6 * j + 6 ≤ L) (hnc : nc + 1 ≤ room_1.cells) (hns : ns + 6 ≤ room_1.slots) {pt : Nat × (Nat → Int32)} {qt : Nat × Nat × Nat × Nat × (Nat → Int32)} {wC wM : va_W} (fo : Nat → Int64) {H : Heap} {locs : List Loc} {ls : Array Slot} (hC : CK g A j pt qt wC) (hM : MK g B j pt qt wM) (hP : va_P D vwCl (wC ++ (wM ++ lwO g o_ fo)) H) (hD : va_D (lwA s) (wC ++ (wM ++ lwO g o_ fo))) (hS : va_S (lwA s) s.heap H locs) (hl : lv_has ls 7 [(4, .int (nI (6 * j))), (3, .ref o_), (2, .ref (B 0)), (1, .ref (A 0)), (0, .ref b)]) (kk : lw_K p l e s m below meth c b D g A B o_ j nc ns) : W p l e room_1 s m #[Value.ref b] below meth c H locs nc ns (lw_Z below #[Value.ref b] s) (F0 m 1708 ls []) := by
  obtain ⟨hx, hb, hr, hml, hown, hts0, hX, hbl, hlocks, hgv⟩ := id C0
  have hts : ∀ w ∈ wsL_law, w.before #[Value.ref b] s = true := fun w h => hts0 w (wsL_law_in w h)
  have hA : ∀ q : Nat, s.heap.size ≤ q → lwA s q := fun _ h => h
  have hbA : ¬ lwA s b := Nat.not_le.mpr hbl
  have hf0 : nc + 0 ≤ room_1.cells ∧ ns + 0 ≤ room_1.slots := ⟨by omega, by omega⟩
  have hf1 : nc + 1 ≤ room_1.cells ∧ ns + 6 ≤ room_1.slots := ⟨hnc, hns⟩
  refine lv_aload_n hx hb dL_law_1708 rfl (lv_at hl 3 rfl) ?_
  refine lw_ld hx hb hX hbl hbA hS 1 (by omega) hL (lv_at hl 4 rfl) (lv_at hl 0 rfl) (by decide) dL_law_1709 dL_law_1710 dL_law_1712 dL_law_1713 dL_law_1714 ?_
  refine lw_ld hx hb hX hbl hbA hS 2 (by omega) hL (lv_at hl 4 rfl) (lv_at hl 0 rfl) (by decide) dL_law_1715 dL_law_1716 dL_law_1718 dL_law_1719 dL_law_1720 ?_
  refine lw_ld hx hb hX hbl hbA hS 3 (by omega) hL (lv_at hl 4 rfl) (lv_at hl 0 rfl) (by decide) dL_law_1721 dL_law_1722 dL_law_1724 dL_law_1725 dL_law_1726 ?_
  obtain ⟨fs0, he0⟩ := hC.x
  refine ka_V (As := [.int (xs (6 * j + 1)), .int (xs (6 * j + 2)), .int (xs (6 * j + 3))]) (rest := []) ⟨hx, hb, hml, hown, hts⟩ ⟨hK, hN⟩ hZ hP hD hS hA (ck_waits l D g H.size A j hj (xs (6 * j + 1)) (xs (6 * j + 2)) (xs (6 * j + 3)) hC) (cwV 3 hts gL_law_X6_waits rfl rfl rfl (by decide +kernel) ⟨(Nat.le_of_ble_eq_true rfl), (Nat.le_of_ble_eq_true rfl)⟩) 6 he0 rfl rfl rfl hl.1 rfl (Nat.le_of_ble_eq_true rfl) dL_law_1727 hf0 (fun r1 u1 H locs hC1 hP hD hS => ?_)
  rw [List.append_assoc] at hP hD
  refine lv_pop hx hb dL_law_1730 rfl ?_
  refine lv_aload_n hx hb dL_law_1731 rfl (lv_at hl 2 rfl) ?_
  refine lw_ld hx hb hX hbl hbA hS 1 (by omega) hL (lv_at hl 4 rfl) (lv_at hl 0 rfl) (by decide) dL_law_1732 dL_law_1733 dL_law_1735 dL_law_1736 dL_law_1737 ?_
  refine lw_ld hx hb hX hbl hbA hS 2 (by omega) hL (lv_at hl 4 rfl) (lv_at hl 0 rfl) (by decide) dL_law_1738 dL_law_1739 dL_law_1741 dL_law_1742 dL_law_1743 ?_
  refine lw_ld hx hb hX hbl hbA hS 3 (by omega) hL (lv_at hl 4 rfl) (lv_at hl 0 rfl) (by decide) dL_law_1744 dL_law_1745 dL_law_1747 dL_law_1748 dL_law_1749 ?_
  obtain ⟨fs1, he1⟩ := hM.x
  refine ka_V (As := [.int (xs (6 * j + 1)), .int (xs (6 * j + 2)), .int (xs (6 * j + 3))]) (rest := []) ⟨hx, hb, hml, hown, hts⟩ ⟨hK, hN⟩ hZ hP hD hS hA (mk_waits l D g H.size B j hj (xs (6 * j + 1)) (xs (6 * j + 2)) (xs (6 * j + 3)) hM) (cwV 3 hts gL_law_X7_waits_ rfl rfl rfl (by decide +kernel) ⟨(Nat.le_of_ble_eq_true rfl), (Nat.le_of_ble_eq_true rfl)⟩) 7 he1 rfl rfl rfl hl.1 rfl (Nat.le_of_ble_eq_true rfl) dL_law_1750 hf0 (fun r2 u2 H locs hM1 hP hD hS => ?_)
  refine lv_pop hx hb dL_law_1753 rfl ?_
  refine lv_goto (tgt := 1844) hx hb dL_law_1754 (by decide) ?_
  refine W.widen (k := nc + 1) (n := ns + 6) (by omega) (by omega) ?_
  exact kk _ _ _ _ _ _ _ _ hC1 hM1 (turn_P hP) (turn_D hD) hS (lv_sub hl [0, 1, 2, 3, 4] rfl)
set_option maxHeartbeats 4000000 in
set_option maxRecDepth 100000 in
/-- worst -/
theorem lc_39 {p : Program} {e : Env} {s : State} {m : MethodId} {below : List Frame} {meth : Method} {c : Code} (l : Launch) (hl9 : l.stackTraces = false) {b L : Nat} {xs : Nat → Int32} (C0 : lw_At p s m meth c b L xs) (hL : L ≤ 3072) (D : va_G) (g : Nat → ClassId) (hK : va_K D vwCl (kY g) s) (hN : kn g s) (hZ : ks g (lwA s) s s.heap) (A B : Nat → Nat) (o_ j nc ns : Nat) (hj : j ≤ 512) (hi : 6 * j + 6 ≤ L) (hnc : nc + 1 ≤ room_1.cells) (hns : ns + 6 ≤ room_1.slots) {pt : Nat × (Nat → Int32)} {qt : Nat × Nat × Nat × Nat × (Nat → Int32)} {wC wM : va_W} (fo : Nat → Int64) {H : Heap} {locs : List Loc} {ls : Array Slot} (hC : CK g A j pt qt wC) (hM : MK g B j pt qt wM) (hP : va_P D vwCl (wC ++ (wM ++ lwO g o_ fo)) H) (hD : va_D (lwA s) (wC ++ (wM ++ lwO g o_ fo))) (hS : va_S (lwA s) s.heap H locs) (hl : lv_has ls 7 [(4, .int (nI (6 * j))), (3, .ref o_), (2, .ref (B 0)), (1, .ref (A 0)), (0, .ref b)]) (kk : lw_K p l e s m below meth c b D g A B o_ j nc ns) : W p l e room_1 s m #[Value.ref b] below meth c H locs nc ns (lw_Z below #[Value.ref b] s) (F0 m 1757 ls []) := by
  obtain ⟨hx, hb, hr, hml, hown, hts0, hX, hbl, hlocks, hgv⟩ := id C0
  have hts : ∀ w ∈ wsL_law, w.before #[Value.ref b] s = true := fun w h => hts0 w (wsL_law_in w h)
  have hA : ∀ q : Nat, s.heap.size ≤ q → lwA s q := fun _ h => h
  have hbA : ¬ lwA s b := Nat.not_le.mpr hbl
  have hf0 : nc + 0 ≤ room_1.cells ∧ ns + 0 ≤ room_1.slots := ⟨by omega, by omega⟩
  have hf1 : nc + 1 ≤ room_1.cells ∧ ns + 6 ≤ room_1.slots := ⟨hnc, hns⟩
  refine lv_aload_n hx hb dL_law_1757 rfl (lv_at hl 3 rfl) ?_
  refine lw_ld hx hb hX hbl hbA hS 1 (by omega) hL (lv_at hl 4 rfl) (lv_at hl 0 rfl) (by decide) dL_law_1758 dL_law_1759 dL_law_1761 dL_law_1762 dL_law_1763 ?_
  refine lw_ld hx hb hX hbl hbA hS 2 (by omega) hL (lv_at hl 4 rfl) (lv_at hl 0 rfl) (by decide) dL_law_1764 dL_law_1765 dL_law_1767 dL_law_1768 dL_law_1769 ?_
  obtain ⟨fs0, he0⟩ := hC.x
  refine ka_V (As := [.int (xs (6 * j + 1)), .int (xs (6 * j + 2))]) (rest := []) ⟨hx, hb, hml, hown, hts⟩ ⟨hK, hN⟩ hZ hP hD hS hA (ck_worst l D g H.size A j hj (xs (6 * j + 1)) (xs (6 * j + 2)) hC) (cwV 2 hts gL_law_X6_worst rfl rfl rfl (by decide +kernel) ⟨(Nat.le_of_ble_eq_true rfl), (Nat.le_of_ble_eq_true rfl)⟩) 6 he0 rfl rfl rfl hl.1 rfl (Nat.le_of_ble_eq_true rfl) dL_law_1770 hf0 (fun r1 u1 H locs hC1 hP hD hS => ?_)
  rw [List.append_assoc] at hP hD
  refine lv_pop hx hb dL_law_1773 rfl ?_
  refine lv_aload_n hx hb dL_law_1774 rfl (lv_at hl 2 rfl) ?_
  refine lw_ld hx hb hX hbl hbA hS 1 (by omega) hL (lv_at hl 4 rfl) (lv_at hl 0 rfl) (by decide) dL_law_1775 dL_law_1776 dL_law_1778 dL_law_1779 dL_law_1780 ?_
  refine lw_ld hx hb hX hbl hbA hS 2 (by omega) hL (lv_at hl 4 rfl) (lv_at hl 0 rfl) (by decide) dL_law_1781 dL_law_1782 dL_law_1784 dL_law_1785 dL_law_1786 ?_
  obtain ⟨fs1, he1⟩ := hM.x
  refine ka_V (As := [.int (xs (6 * j + 1)), .int (xs (6 * j + 2))]) (rest := []) ⟨hx, hb, hml, hown, hts⟩ ⟨hK, hN⟩ hZ hP hD hS hA (mk_worst l D g H.size B j hj (xs (6 * j + 1)) (xs (6 * j + 2)) hM) (cwV 2 hts gL_law_X7_worst rfl rfl rfl (by decide +kernel) ⟨(Nat.le_of_ble_eq_true rfl), (Nat.le_of_ble_eq_true rfl)⟩) 7 he1 rfl rfl rfl hl.1 rfl (Nat.le_of_ble_eq_true rfl) dL_law_1787 hf0 (fun r2 u2 H locs hM1 hP hD hS => ?_)
  refine lv_pop hx hb dL_law_1790 rfl ?_
  refine lv_goto (tgt := 1844) hx hb dL_law_1791 (by decide) ?_
  refine W.widen (k := nc + 1) (n := ns + 6) (by omega) (by omega) ?_
  exact kk _ _ _ _ _ _ _ _ hC1 hM1 (turn_P hP) (turn_D hD) hS (lv_sub hl [0, 1, 2, 3, 4] rfl)
set_option maxHeartbeats 4000000 in
set_option maxRecDepth 100000 in
/-- busiest -/
theorem lc_40 {p : Program} {e : Env} {s : State} {m : MethodId} {below : List Frame} {meth : Method} {c : Code} (l : Launch) (hl9 : l.stackTraces = false) {b L : Nat} {xs : Nat → Int32} (C0 : lw_At p s m meth c b L xs) (hL : L ≤ 3072) (D : va_G) (g : Nat → ClassId) (hK : va_K D vwCl (kY g) s) (hN : kn g s) (hZ : ks g (lwA s) s s.heap) (A B : Nat → Nat) (o_ j nc ns : Nat) (hj : j ≤ 512) (hi : 6 * j + 6 ≤ L) (hnc : nc + 1 ≤ room_1.cells) (hns : ns + 6 ≤ room_1.slots) {pt : Nat × (Nat → Int32)} {qt : Nat × Nat × Nat × Nat × (Nat → Int32)} {wC wM : va_W} (fo : Nat → Int64) {H : Heap} {locs : List Loc} {ls : Array Slot} (hC : CK g A j pt qt wC) (hM : MK g B j pt qt wM) (hP : va_P D vwCl (wC ++ (wM ++ lwO g o_ fo)) H) (hD : va_D (lwA s) (wC ++ (wM ++ lwO g o_ fo))) (hS : va_S (lwA s) s.heap H locs) (hl : lv_has ls 7 [(4, .int (nI (6 * j))), (3, .ref o_), (2, .ref (B 0)), (1, .ref (A 0)), (0, .ref b)]) (kk : lw_K p l e s m below meth c b D g A B o_ j nc ns) : W p l e room_1 s m #[Value.ref b] below meth c H locs nc ns (lw_Z below #[Value.ref b] s) (F0 m 1794 ls []) := by
  obtain ⟨hx, hb, hr, hml, hown, hts0, hX, hbl, hlocks, hgv⟩ := id C0
  have hts : ∀ w ∈ wsL_law, w.before #[Value.ref b] s = true := fun w h => hts0 w (wsL_law_in w h)
  have hA : ∀ q : Nat, s.heap.size ≤ q → lwA s q := fun _ h => h
  have hbA : ¬ lwA s b := Nat.not_le.mpr hbl
  have hf0 : nc + 0 ≤ room_1.cells ∧ ns + 0 ≤ room_1.slots := ⟨by omega, by omega⟩
  have hf1 : nc + 1 ≤ room_1.cells ∧ ns + 6 ≤ room_1.slots := ⟨hnc, hns⟩
  refine lv_aload_n hx hb dL_law_1794 rfl (lv_at hl 3 rfl) ?_
  refine lw_ld hx hb hX hbl hbA hS 1 (by omega) hL (lv_at hl 4 rfl) (lv_at hl 0 rfl) (by decide) dL_law_1795 dL_law_1796 dL_law_1798 dL_law_1799 dL_law_1800 ?_
  obtain ⟨fs0, he0⟩ := hC.x
  refine ka_V (As := [.int (xs (6 * j + 1))]) (rest := []) ⟨hx, hb, hml, hown, hts⟩ ⟨hK, hN⟩ hZ hP hD hS hA (ck_busiest l D g H.size A j hj (xs (6 * j + 1)) hC) (cwV 1 hts gL_law_X6_busiest rfl rfl rfl (by decide +kernel) ⟨(Nat.le_of_ble_eq_true rfl), (Nat.le_of_ble_eq_true rfl)⟩) 6 he0 rfl rfl rfl hl.1 rfl (Nat.le_of_ble_eq_true rfl) dL_law_1801 hf0 (fun r1 u1 H locs hC1 hP hD hS => ?_)
  rw [List.append_assoc] at hP hD
  refine lv_pop hx hb dL_law_1804 rfl ?_
  refine lv_aload_n hx hb dL_law_1805 rfl (lv_at hl 2 rfl) ?_
  refine lw_ld hx hb hX hbl hbA hS 1 (by omega) hL (lv_at hl 4 rfl) (lv_at hl 0 rfl) (by decide) dL_law_1806 dL_law_1807 dL_law_1809 dL_law_1810 dL_law_1811 ?_
  obtain ⟨fs1, he1⟩ := hM.x
  refine ka_V (As := [.int (xs (6 * j + 1))]) (rest := []) ⟨hx, hb, hml, hown, hts⟩ ⟨hK, hN⟩ hZ hP hD hS hA (mk_busiest l D g H.size B j hj (xs (6 * j + 1)) hM) (cwV 1 hts gL_law_X7_busiest rfl rfl rfl (by decide +kernel) ⟨(Nat.le_of_ble_eq_true rfl), (Nat.le_of_ble_eq_true rfl)⟩) 7 he1 rfl rfl rfl hl.1 rfl (Nat.le_of_ble_eq_true rfl) dL_law_1812 hf0 (fun r2 u2 H locs hM1 hP hD hS => ?_)
  refine lv_pop hx hb dL_law_1815 rfl ?_
  refine lv_goto (tgt := 1844) hx hb dL_law_1816 (by decide) ?_
  refine W.widen (k := nc + 1) (n := ns + 6) (by omega) (by omega) ?_
  exact kk _ _ _ _ _ _ _ _ hC1 hM1 (turn_P hP) (turn_D hD) hS (lv_sub hl [0, 1, 2, 3, 4] rfl)
set_option maxHeartbeats 4000000 in
set_option maxRecDepth 100000 in
/-- count -/
theorem lc_41 {p : Program} {e : Env} {s : State} {m : MethodId} {below : List Frame} {meth : Method} {c : Code} (l : Launch) (hl9 : l.stackTraces = false) {b L : Nat} {xs : Nat → Int32} (C0 : lw_At p s m meth c b L xs) (hL : L ≤ 3072) (D : va_G) (g : Nat → ClassId) (hK : va_K D vwCl (kY g) s) (hN : kn g s) (hZ : ks g (lwA s) s s.heap) (A B : Nat → Nat) (o_ j nc ns : Nat) (hj : j ≤ 512) (hi : 6 * j + 6 ≤ L) (hnc : nc + 1 ≤ room_1.cells) (hns : ns + 6 ≤ room_1.slots) {pt : Nat × (Nat → Int32)} {qt : Nat × Nat × Nat × Nat × (Nat → Int32)} {wC wM : va_W} (fo : Nat → Int64) {H : Heap} {locs : List Loc} {ls : Array Slot} (hC : CK g A j pt qt wC) (hM : MK g B j pt qt wM) (hP : va_P D vwCl (wC ++ (wM ++ lwO g o_ fo)) H) (hD : va_D (lwA s) (wC ++ (wM ++ lwO g o_ fo))) (hS : va_S (lwA s) s.heap H locs) (hl : lv_has ls 7 [(4, .int (nI (6 * j))), (3, .ref o_), (2, .ref (B 0)), (1, .ref (A 0)), (0, .ref b)]) (kk : lw_K p l e s m below meth c b D g A B o_ j nc ns) : W p l e room_1 s m #[Value.ref b] below meth c H locs nc ns (lw_Z below #[Value.ref b] s) (F0 m 1819 ls []) := by
  obtain ⟨hx, hb, hr, hml, hown, hts0, hX, hbl, hlocks, hgv⟩ := id C0
  have hts : ∀ w ∈ wsL_law, w.before #[Value.ref b] s = true := fun w h => hts0 w (wsL_law_in w h)
  have hA : ∀ q : Nat, s.heap.size ≤ q → lwA s q := fun _ h => h
  have hbA : ¬ lwA s b := Nat.not_le.mpr hbl
  have hf0 : nc + 0 ≤ room_1.cells ∧ ns + 0 ≤ room_1.slots := ⟨by omega, by omega⟩
  have hf1 : nc + 1 ≤ room_1.cells ∧ ns + 6 ≤ room_1.slots := ⟨hnc, hns⟩
  refine lv_aload_n hx hb dL_law_1819 rfl (lv_at hl 3 rfl) ?_
  refine lw_ld hx hb hX hbl hbA hS 1 (by omega) hL (lv_at hl 4 rfl) (lv_at hl 0 rfl) (by decide) dL_law_1820 dL_law_1821 dL_law_1823 dL_law_1824 dL_law_1825 ?_
  obtain ⟨fs0, he0⟩ := hC.x
  refine ka_V (As := [.int (xs (6 * j + 1))]) (rest := []) ⟨hx, hb, hml, hown, hts⟩ ⟨hK, hN⟩ hZ hP hD hS hA (ck_count l D g H.size A j hj (xs (6 * j + 1)) hC) (cwV 1 hts gL_law_X6_count rfl rfl rfl (by decide +kernel) ⟨(Nat.le_of_ble_eq_true rfl), (Nat.le_of_ble_eq_true rfl)⟩) 6 he0 rfl rfl rfl hl.1 rfl (Nat.le_of_ble_eq_true rfl) dL_law_1826 hf0 (fun r1 u1 H locs hC1 hP hD hS => ?_)
  rw [List.append_assoc] at hP hD
  refine lv_pop hx hb dL_law_1829 rfl ?_
  refine lv_aload_n hx hb dL_law_1830 rfl (lv_at hl 2 rfl) ?_
  refine lw_ld hx hb hX hbl hbA hS 1 (by omega) hL (lv_at hl 4 rfl) (lv_at hl 0 rfl) (by decide) dL_law_1831 dL_law_1832 dL_law_1834 dL_law_1835 dL_law_1836 ?_
  obtain ⟨fs1, he1⟩ := hM.x
  refine ka_V (As := [.int (xs (6 * j + 1))]) (rest := []) ⟨hx, hb, hml, hown, hts⟩ ⟨hK, hN⟩ hZ hP hD hS hA (mk_count l D g H.size B j hj (xs (6 * j + 1)) hM) (cwV 1 hts gL_law_X7_count rfl rfl rfl (by decide +kernel) ⟨(Nat.le_of_ble_eq_true rfl), (Nat.le_of_ble_eq_true rfl)⟩) 7 he1 rfl rfl rfl hl.1 rfl (Nat.le_of_ble_eq_true rfl) dL_law_1837 hf0 (fun r2 u2 H locs hM1 hP hD hS => ?_)
  refine lv_pop hx hb dL_law_1840 rfl ?_
  refine lv_goto (tgt := 1844) hx hb dL_law_1841 (by decide) ?_
  refine W.widen (k := nc + 1) (n := ns + 6) (by omega) (by omega) ?_
  exact kk _ _ _ _ _ _ _ _ hC1 hM1 (turn_P hP) (turn_D hD) hS (lv_sub hl [0, 1, 2, 3, 4] rfl)
