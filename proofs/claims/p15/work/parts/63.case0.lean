set_option maxHeartbeats 4000000 in
set_option maxRecDepth 100000 in
/-- feed -/
theorem lc_0 {p : Program} {e : Env} {s : State} {m : MethodId} {below : List Frame} {meth : Method} {c : Code} (l : Launch) (hl9 : l.stackTraces = false) {b L : Nat} {xs : Nat → Int32} (C0 : lw_At p s m meth c b L xs) (hL : L ≤ 3072) (D : va_G) (g : Nat → ClassId) (hK : va_K D vwCl (kY g) s) (hN : kn g s) (hZ : ks g (lwA s) s s.heap) (A B : Nat → Nat) (o_ j nc ns : Nat) (hj : j ≤ 512) (hi : 6 * j + 6 ≤ L) (hnc : nc + 1 ≤ room_1.cells) (hns : ns + 6 ≤ room_1.slots) {pt : Nat × (Nat → Int32)} {qt : Nat × Nat × Nat × Nat × (Nat → Int32)} {wC wM : va_W} (fo : Nat → Int64) {H : Heap} {locs : List Loc} {ls : Array Slot} (hC : CK g A j pt qt wC) (hM : MK g B j pt qt wM) (hP : va_P D vwCl (wC ++ (wM ++ lwO g o_ fo)) H) (hD : va_D (lwA s) (wC ++ (wM ++ lwO g o_ fo))) (hS : va_S (lwA s) s.heap H locs) (hl : lv_has ls 7 [(4, .int (nI (6 * j))), (3, .ref o_), (2, .ref (B 0)), (1, .ref (A 0)), (0, .ref b)]) (kk : lw_K p l e s m below meth c b D g A B o_ j nc ns) : W p l e room_1 s m #[Value.ref b] below meth c H locs nc ns (lw_Z below #[Value.ref b] s) (F0 m 224 ls []) := by
  obtain ⟨hx, hb, hr, hml, hown, hts0, hX, hbl, hlocks, hgv⟩ := id C0
  have hts : ∀ w ∈ wsL_law, w.before #[Value.ref b] s = true := fun w h => hts0 w (wsL_law_in w h)
  have hA : ∀ q : Nat, s.heap.size ≤ q → lwA s q := fun _ h => h
  have hbA : ¬ lwA s b := Nat.not_le.mpr hbl
  have hf0 : nc + 0 ≤ room_1.cells ∧ ns + 0 ≤ room_1.slots := ⟨by omega, by omega⟩
  have hf1 : nc + 1 ≤ room_1.cells ∧ ns + 6 ≤ room_1.slots := ⟨hnc, hns⟩
  refine lv_aload_n hx hb dL_law_224 rfl (lv_at hl 3 rfl) ?_
  refine lw_ld hx hb hX hbl hbA hS 1 (by omega) hL (lv_at hl 4 rfl) (lv_at hl 0 rfl) (by decide) dL_law_225 dL_law_226 dL_law_228 dL_law_229 dL_law_230 ?_
  refine lw_ld hx hb hX hbl hbA hS 2 (by omega) hL (lv_at hl 4 rfl) (lv_at hl 0 rfl) (by decide) dL_law_231 dL_law_232 dL_law_234 dL_law_235 dL_law_236 ?_
  refine lw_ld hx hb hX hbl hbA hS 3 (by omega) hL (lv_at hl 4 rfl) (lv_at hl 0 rfl) (by decide) dL_law_237 dL_law_238 dL_law_240 dL_law_241 dL_law_242 ?_
  refine lw_ld hx hb hX hbl hbA hS 4 (by omega) hL (lv_at hl 4 rfl) (lv_at hl 0 rfl) (by decide) dL_law_243 dL_law_244 dL_law_246 dL_law_247 dL_law_248 ?_
  refine lw_ld hx hb hX hbl hbA hS 5 (by omega) hL (lv_at hl 4 rfl) (lv_at hl 0 rfl) (by decide) dL_law_249 dL_law_250 dL_law_252 dL_law_253 dL_law_254 ?_
  obtain ⟨fs0, he0⟩ := hC.x
  refine ka_V (As := [.int (xs (6 * j + 1)), .int (xs (6 * j + 2)), .int (xs (6 * j + 3)), .int (xs (6 * j + 4)), .int (xs (6 * j + 5))]) (rest := []) ⟨hx, hb, hml, hown, hts⟩ ⟨hK, hN⟩ hZ hP hD hS hA (ck_feed l D g H.size A j hj (xs (6 * j + 1)) (xs (6 * j + 2)) (xs (6 * j + 3)) (xs (6 * j + 4)) (xs (6 * j + 5)) hC) (cwV 5 hts gL_law_X6_feed rfl rfl rfl (by decide +kernel) ⟨(Nat.le_of_ble_eq_true rfl), (Nat.le_of_ble_eq_true rfl)⟩) 6 he0 rfl rfl rfl hl.1 rfl (Nat.le_of_ble_eq_true rfl) dL_law_255 hf0 (fun r1 u1 H locs hC1 hP hD hS => ?_)
  obtain ⟨hC1, hr1⟩ := hC1
  rw [List.append_assoc] at hP hD
  refine lv_pop hx hb dL_law_258 rfl ?_
  refine lv_aload_n hx hb dL_law_259 rfl (lv_at hl 2 rfl) ?_
  refine lw_ld hx hb hX hbl hbA hS 1 (by omega) hL (lv_at hl 4 rfl) (lv_at hl 0 rfl) (by decide) dL_law_260 dL_law_261 dL_law_263 dL_law_264 dL_law_265 ?_
  refine lw_ld hx hb hX hbl hbA hS 2 (by omega) hL (lv_at hl 4 rfl) (lv_at hl 0 rfl) (by decide) dL_law_266 dL_law_267 dL_law_269 dL_law_270 dL_law_271 ?_
  refine lw_ld hx hb hX hbl hbA hS 3 (by omega) hL (lv_at hl 4 rfl) (lv_at hl 0 rfl) (by decide) dL_law_272 dL_law_273 dL_law_275 dL_law_276 dL_law_277 ?_
  refine lw_ld hx hb hX hbl hbA hS 4 (by omega) hL (lv_at hl 4 rfl) (lv_at hl 0 rfl) (by decide) dL_law_278 dL_law_279 dL_law_281 dL_law_282 dL_law_283 ?_
  refine lw_ld hx hb hX hbl hbA hS 5 (by omega) hL (lv_at hl 4 rfl) (lv_at hl 0 rfl) (by decide) dL_law_284 dL_law_285 dL_law_287 dL_law_288 dL_law_289 ?_
  obtain ⟨fs1, he1⟩ := hM.x
  refine ka_V (As := [.int (xs (6 * j + 1)), .int (xs (6 * j + 2)), .int (xs (6 * j + 3)), .int (xs (6 * j + 4)), .int (xs (6 * j + 5))]) (rest := []) ⟨hx, hb, hml, hown, hts⟩ ⟨hK, hN⟩ hZ hP hD hS hA (mk_feed l D g H.size B j hj (xs (6 * j + 1)) (xs (6 * j + 2)) (xs (6 * j + 3)) (xs (6 * j + 4)) (xs (6 * j + 5)) hM) (cwV 5 hts gL_law_X7_feed rfl rfl rfl (by decide +kernel) ⟨(Nat.le_of_ble_eq_true rfl), (Nat.le_of_ble_eq_true rfl)⟩) 7 he1 rfl rfl rfl hl.1 rfl (Nat.le_of_ble_eq_true rfl) dL_law_290 hf0 (fun r2 u2 H locs hM1 hP hD hS => ?_)
  obtain ⟨hM1, hr2⟩ := hM1
  refine lv_pop hx hb dL_law_293 rfl ?_
  refine lv_goto (tgt := 1844) hx hb dL_law_294 (by decide) ?_
  refine W.widen (k := nc + 1) (n := ns + 6) (by omega) (by omega) ?_
  exact kk _ _ _ _ _ _ _ _ hC1 hM1 (turn_P hP) (turn_D hD) hS (lv_sub hl [0, 1, 2, 3, 4] rfl)
set_option maxHeartbeats 4000000 in
set_option maxRecDepth 100000 in
/-- end -/
theorem lc_1 {p : Program} {e : Env} {s : State} {m : MethodId} {below : List Frame} {meth : Method} {c : Code} (l : Launch) (hl9 : l.stackTraces = false) {b L : Nat} {xs : Nat → Int32} (C0 : lw_At p s m meth c b L xs) (hL : L ≤ 3072) (D : va_G) (g : Nat → ClassId) (hK : va_K D vwCl (kY g) s) (hN : kn g s) (hZ : ks g (lwA s) s s.heap) (A B : Nat → Nat) (o_ j nc ns : Nat) (hj : j ≤ 512) (hi : 6 * j + 6 ≤ L) (hnc : nc + 1 ≤ room_1.cells) (hns : ns + 6 ≤ room_1.slots) {pt : Nat × (Nat → Int32)} {qt : Nat × Nat × Nat × Nat × (Nat → Int32)} {wC wM : va_W} (fo : Nat → Int64) {H : Heap} {locs : List Loc} {ls : Array Slot} (hC : CK g A j pt qt wC) (hM : MK g B j pt qt wM) (hP : va_P D vwCl (wC ++ (wM ++ lwO g o_ fo)) H) (hD : va_D (lwA s) (wC ++ (wM ++ lwO g o_ fo))) (hS : va_S (lwA s) s.heap H locs) (hl : lv_has ls 7 [(4, .int (nI (6 * j))), (3, .ref o_), (2, .ref (B 0)), (1, .ref (A 0)), (0, .ref b)]) (kk : lw_K p l e s m below meth c b D g A B o_ j nc ns) : W p l e room_1 s m #[Value.ref b] below meth c H locs nc ns (lw_Z below #[Value.ref b] s) (F0 m 297 ls []) := by
  obtain ⟨hx, hb, hr, hml, hown, hts0, hX, hbl, hlocks, hgv⟩ := id C0
  have hts : ∀ w ∈ wsL_law, w.before #[Value.ref b] s = true := fun w h => hts0 w (wsL_law_in w h)
  have hA : ∀ q : Nat, s.heap.size ≤ q → lwA s q := fun _ h => h
  have hbA : ¬ lwA s b := Nat.not_le.mpr hbl
  have hf0 : nc + 0 ≤ room_1.cells ∧ ns + 0 ≤ room_1.slots := ⟨by omega, by omega⟩
  have hf1 : nc + 1 ≤ room_1.cells ∧ ns + 6 ≤ room_1.slots := ⟨hnc, hns⟩
  refine lv_aload_n hx hb dL_law_297 rfl (lv_at hl 3 rfl) ?_
  refine lw_ld hx hb hX hbl hbA hS 1 (by omega) hL (lv_at hl 4 rfl) (lv_at hl 0 rfl) (by decide) dL_law_298 dL_law_299 dL_law_301 dL_law_302 dL_law_303 ?_
  obtain ⟨fs0, he0⟩ := hC.x
  refine ka_V (As := [.int (xs (6 * j + 1))]) (rest := []) ⟨hx, hb, hml, hown, hts⟩ ⟨hK, hN⟩ hZ hP hD hS hA (ck_end l D g H.size A j hj (xs (6 * j + 1)) hC) (cwV 1 hts gL_law_X6_end rfl rfl rfl (by decide +kernel) ⟨(Nat.le_of_ble_eq_true rfl), (Nat.le_of_ble_eq_true rfl)⟩) 6 he0 rfl rfl rfl hl.1 rfl (Nat.le_of_ble_eq_true rfl) dL_law_304 hf0 (fun r1 u1 H locs hC1 hP hD hS => ?_)
  obtain ⟨hC1, hr1⟩ := hC1
  rw [List.append_assoc] at hP hD
  refine lv_pop hx hb dL_law_307 rfl ?_
  refine lv_aload_n hx hb dL_law_308 rfl (lv_at hl 2 rfl) ?_
  refine lw_ld hx hb hX hbl hbA hS 1 (by omega) hL (lv_at hl 4 rfl) (lv_at hl 0 rfl) (by decide) dL_law_309 dL_law_310 dL_law_312 dL_law_313 dL_law_314 ?_
  obtain ⟨fs1, he1⟩ := hM.x
  refine ka_V (As := [.int (xs (6 * j + 1))]) (rest := []) ⟨hx, hb, hml, hown, hts⟩ ⟨hK, hN⟩ hZ hP hD hS hA (mk_end l D g H.size B j hj (xs (6 * j + 1)) hM) (cwV 1 hts gL_law_X7_end rfl rfl rfl (by decide +kernel) ⟨(Nat.le_of_ble_eq_true rfl), (Nat.le_of_ble_eq_true rfl)⟩) 7 he1 rfl rfl rfl hl.1 rfl (Nat.le_of_ble_eq_true rfl) dL_law_315 hf0 (fun r2 u2 H locs hM1 hP hD hS => ?_)
  obtain ⟨hM1, hr2⟩ := hM1
  refine lv_pop hx hb dL_law_318 rfl ?_
  refine lv_goto (tgt := 1844) hx hb dL_law_319 (by decide) ?_
  refine W.widen (k := nc + 1) (n := ns + 6) (by omega) (by omega) ?_
  exact kk _ _ _ _ _ _ _ _ hC1 hM1 (turn_P hP) (turn_D hD) hS (lv_sub hl [0, 1, 2, 3, 4] rfl)
set_option maxHeartbeats 4000000 in
set_option maxRecDepth 100000 in
/-- fault -/
theorem lc_2 {p : Program} {e : Env} {s : State} {m : MethodId} {below : List Frame} {meth : Method} {c : Code} (l : Launch) (hl9 : l.stackTraces = false) {b L : Nat} {xs : Nat → Int32} (C0 : lw_At p s m meth c b L xs) (hL : L ≤ 3072) (D : va_G) (g : Nat → ClassId) (hK : va_K D vwCl (kY g) s) (hN : kn g s) (hZ : ks g (lwA s) s s.heap) (A B : Nat → Nat) (o_ j nc ns : Nat) (hj : j ≤ 512) (hi : 6 * j + 6 ≤ L) (hnc : nc + 1 ≤ room_1.cells) (hns : ns + 6 ≤ room_1.slots) {pt : Nat × (Nat → Int32)} {qt : Nat × Nat × Nat × Nat × (Nat → Int32)} {wC wM : va_W} (fo : Nat → Int64) {H : Heap} {locs : List Loc} {ls : Array Slot} (hC : CK g A j pt qt wC) (hM : MK g B j pt qt wM) (hP : va_P D vwCl (wC ++ (wM ++ lwO g o_ fo)) H) (hD : va_D (lwA s) (wC ++ (wM ++ lwO g o_ fo))) (hS : va_S (lwA s) s.heap H locs) (hl : lv_has ls 7 [(4, .int (nI (6 * j))), (3, .ref o_), (2, .ref (B 0)), (1, .ref (A 0)), (0, .ref b)]) (kk : lw_K p l e s m below meth c b D g A B o_ j nc ns) : W p l e room_1 s m #[Value.ref b] below meth c H locs nc ns (lw_Z below #[Value.ref b] s) (F0 m 322 ls []) := by
  obtain ⟨hx, hb, hr, hml, hown, hts0, hX, hbl, hlocks, hgv⟩ := id C0
  have hts : ∀ w ∈ wsL_law, w.before #[Value.ref b] s = true := fun w h => hts0 w (wsL_law_in w h)
  have hA : ∀ q : Nat, s.heap.size ≤ q → lwA s q := fun _ h => h
  have hbA : ¬ lwA s b := Nat.not_le.mpr hbl
  have hf0 : nc + 0 ≤ room_1.cells ∧ ns + 0 ≤ room_1.slots := ⟨by omega, by omega⟩
  have hf1 : nc + 1 ≤ room_1.cells ∧ ns + 6 ≤ room_1.slots := ⟨hnc, hns⟩
  refine lv_aload_n hx hb dL_law_322 rfl (lv_at hl 3 rfl) ?_
  obtain ⟨fs0, he0⟩ := hC.x
  refine ka_V (As := []) (rest := []) ⟨hx, hb, hml, hown, hts⟩ ⟨hK, hN⟩ hZ hP hD hS hA (ck_fault l D g H.size A j hj hC) (cwV 0 hts gL_law_X6_fault rfl rfl rfl (by decide +kernel) ⟨(Nat.le_of_ble_eq_true rfl), (Nat.le_of_ble_eq_true rfl)⟩) 6 he0 rfl rfl rfl hl.1 rfl (Nat.le_of_ble_eq_true rfl) dL_law_323 hf0 (fun r1 u1 H locs hC1 hP hD hS => ?_)
  obtain ⟨hC1, hr1⟩ := hC1
  rw [List.append_assoc] at hP hD
  refine lv_pop hx hb dL_law_326 rfl ?_
  refine lv_aload_n hx hb dL_law_327 rfl (lv_at hl 2 rfl) ?_
  obtain ⟨fs1, he1⟩ := hM.x
  refine ka_V (As := []) (rest := []) ⟨hx, hb, hml, hown, hts⟩ ⟨hK, hN⟩ hZ hP hD hS hA (mk_fault l D g H.size B j hj hM) (cwV 0 hts gL_law_X7_fault rfl rfl rfl (by decide +kernel) ⟨(Nat.le_of_ble_eq_true rfl), (Nat.le_of_ble_eq_true rfl)⟩) 7 he1 rfl rfl rfl hl.1 rfl (Nat.le_of_ble_eq_true rfl) dL_law_328 hf0 (fun r2 u2 H locs hM1 hP hD hS => ?_)
  obtain ⟨hM1, hr2⟩ := hM1
  refine lv_pop hx hb dL_law_331 rfl ?_
  refine lv_goto (tgt := 1844) hx hb dL_law_332 (by decide) ?_
  refine W.widen (k := nc + 1) (n := ns + 6) (by omega) (by omega) ?_
  exact kk _ _ _ _ _ _ _ _ hC1 hM1 (turn_P hP) (turn_D hD) hS (lv_sub hl [0, 1, 2, 3, 4] rfl)
set_option maxHeartbeats 4000000 in
set_option maxRecDepth 100000 in
/-- net -/
theorem lc_3 {p : Program} {e : Env} {s : State} {m : MethodId} {below : List Frame} {meth : Method} {c : Code} (l : Launch) (hl9 : l.stackTraces = false) {b L : Nat} {xs : Nat → Int32} (C0 : lw_At p s m meth c b L xs) (hL : L ≤ 3072) (D : va_G) (g : Nat → ClassId) (hK : va_K D vwCl (kY g) s) (hN : kn g s) (hZ : ks g (lwA s) s s.heap) (A B : Nat → Nat) (o_ j nc ns : Nat) (hj : j ≤ 512) (hi : 6 * j + 6 ≤ L) (hnc : nc + 1 ≤ room_1.cells) (hns : ns + 6 ≤ room_1.slots) {pt : Nat × (Nat → Int32)} {qt : Nat × Nat × Nat × Nat × (Nat → Int32)} {wC wM : va_W} (fo : Nat → Int64) {H : Heap} {locs : List Loc} {ls : Array Slot} (hC : CK g A j pt qt wC) (hM : MK g B j pt qt wM) (hP : va_P D vwCl (wC ++ (wM ++ lwO g o_ fo)) H) (hD : va_D (lwA s) (wC ++ (wM ++ lwO g o_ fo))) (hS : va_S (lwA s) s.heap H locs) (hl : lv_has ls 7 [(4, .int (nI (6 * j))), (3, .ref o_), (2, .ref (B 0)), (1, .ref (A 0)), (0, .ref b)]) (kk : lw_K p l e s m below meth c b D g A B o_ j nc ns) : W p l e room_1 s m #[Value.ref b] below meth c H locs nc ns (lw_Z below #[Value.ref b] s) (F0 m 335 ls []) := by
  obtain ⟨hx, hb, hr, hml, hown, hts0, hX, hbl, hlocks, hgv⟩ := id C0
  have hts : ∀ w ∈ wsL_law, w.before #[Value.ref b] s = true := fun w h => hts0 w (wsL_law_in w h)
  have hA : ∀ q : Nat, s.heap.size ≤ q → lwA s q := fun _ h => h
  have hbA : ¬ lwA s b := Nat.not_le.mpr hbl
  have hf0 : nc + 0 ≤ room_1.cells ∧ ns + 0 ≤ room_1.slots := ⟨by omega, by omega⟩
  have hf1 : nc + 1 ≤ room_1.cells ∧ ns + 6 ≤ room_1.slots := ⟨hnc, hns⟩
  refine lv_aload_n hx hb dL_law_335 rfl (lv_at hl 3 rfl) ?_
  obtain ⟨fs0, he0⟩ := hC.x
  refine ka_V (As := []) (rest := []) ⟨hx, hb, hml, hown, hts⟩ ⟨hK, hN⟩ hZ hP hD hS hA (ck_net l D g H.size A j hj hC) (cwV 0 hts gL_law_X6_net rfl rfl rfl (by decide +kernel) ⟨(Nat.le_of_ble_eq_true rfl), (Nat.le_of_ble_eq_true rfl)⟩) 6 he0 rfl rfl rfl hl.1 rfl (Nat.le_of_ble_eq_true rfl) dL_law_336 hf0 (fun r1 u1 H locs hC1 hP hD hS => ?_)
  obtain ⟨hC1, hr1⟩ := hC1
  rw [List.append_assoc] at hP hD
  refine lv_pop hx hb dL_law_339 rfl ?_
  refine lv_aload_n hx hb dL_law_340 rfl (lv_at hl 2 rfl) ?_
  obtain ⟨fs1, he1⟩ := hM.x
  refine ka_V (As := []) (rest := []) ⟨hx, hb, hml, hown, hts⟩ ⟨hK, hN⟩ hZ hP hD hS hA (mk_net l D g H.size B j hj hM) (cwV 0 hts gL_law_X7_net rfl rfl rfl (by decide +kernel) ⟨(Nat.le_of_ble_eq_true rfl), (Nat.le_of_ble_eq_true rfl)⟩) 7 he1 rfl rfl rfl hl.1 rfl (Nat.le_of_ble_eq_true rfl) dL_law_341 hf0 (fun r2 u2 H locs hM1 hP hD hS => ?_)
  obtain ⟨hM1, hr2⟩ := hM1
  refine lv_pop hx hb dL_law_344 rfl ?_
  refine lv_goto (tgt := 1844) hx hb dL_law_345 (by decide) ?_
  refine W.widen (k := nc + 1) (n := ns + 6) (by omega) (by omega) ?_
  exact kk _ _ _ _ _ _ _ _ hC1 hM1 (turn_P hP) (turn_D hD) hS (lv_sub hl [0, 1, 2, 3, 4] rfl)
set_option maxHeartbeats 4000000 in
set_option maxRecDepth 100000 in
/-- rule -/
theorem lc_4 {p : Program} {e : Env} {s : State} {m : MethodId} {below : List Frame} {meth : Method} {c : Code} (l : Launch) (hl9 : l.stackTraces = false) {b L : Nat} {xs : Nat → Int32} (C0 : lw_At p s m meth c b L xs) (hL : L ≤ 3072) (D : va_G) (g : Nat → ClassId) (hK : va_K D vwCl (kY g) s) (hN : kn g s) (hZ : ks g (lwA s) s s.heap) (A B : Nat → Nat) (o_ j nc ns : Nat) (hj : j ≤ 512) (hi : 6 * j + 6 ≤ L) (hnc : nc + 1 ≤ room_1.cells) (hns : ns + 6 ≤ room_1.slots) {pt : Nat × (Nat → Int32)} {qt : Nat × Nat × Nat × Nat × (Nat → Int32)} {wC wM : va_W} (fo : Nat → Int64) {H : Heap} {locs : List Loc} {ls : Array Slot} (hC : CK g A j pt qt wC) (hM : MK g B j pt qt wM) (hP : va_P D vwCl (wC ++ (wM ++ lwO g o_ fo)) H) (hD : va_D (lwA s) (wC ++ (wM ++ lwO g o_ fo))) (hS : va_S (lwA s) s.heap H locs) (hl : lv_has ls 7 [(4, .int (nI (6 * j))), (3, .ref o_), (2, .ref (B 0)), (1, .ref (A 0)), (0, .ref b)]) (kk : lw_K p l e s m below meth c b D g A B o_ j nc ns) : W p l e room_1 s m #[Value.ref b] below meth c H locs nc ns (lw_Z below #[Value.ref b] s) (F0 m 348 ls []) := by
  obtain ⟨hx, hb, hr, hml, hown, hts0, hX, hbl, hlocks, hgv⟩ := id C0
  have hts : ∀ w ∈ wsL_law, w.before #[Value.ref b] s = true := fun w h => hts0 w (wsL_law_in w h)
  have hA : ∀ q : Nat, s.heap.size ≤ q → lwA s q := fun _ h => h
  have hbA : ¬ lwA s b := Nat.not_le.mpr hbl
  have hf0 : nc + 0 ≤ room_1.cells ∧ ns + 0 ≤ room_1.slots := ⟨by omega, by omega⟩
  have hf1 : nc + 1 ≤ room_1.cells ∧ ns + 6 ≤ room_1.slots := ⟨hnc, hns⟩
  refine lv_aload_n hx hb dL_law_348 rfl (lv_at hl 3 rfl) ?_
  refine lw_ld hx hb hX hbl hbA hS 1 (by omega) hL (lv_at hl 4 rfl) (lv_at hl 0 rfl) (by decide) dL_law_349 dL_law_350 dL_law_352 dL_law_353 dL_law_354 ?_
  obtain ⟨fs0, he0⟩ := hC.x
  refine ka_V (As := [.int (xs (6 * j + 1))]) (rest := []) ⟨hx, hb, hml, hown, hts⟩ ⟨hK, hN⟩ hZ hP hD hS hA (ck_rule l D g H.size A j hj (xs (6 * j + 1)) hC) (cwV 1 hts gL_law_X6_rule rfl rfl rfl (by decide +kernel) ⟨(Nat.le_of_ble_eq_true rfl), (Nat.le_of_ble_eq_true rfl)⟩) 6 he0 rfl rfl rfl hl.1 rfl (Nat.le_of_ble_eq_true rfl) dL_law_355 hf0 (fun r1 u1 H locs hC1 hP hD hS => ?_)
  obtain ⟨hC1, hr1⟩ := hC1
  rw [List.append_assoc] at hP hD
  refine lv_pop hx hb dL_law_358 rfl ?_
  refine lv_aload_n hx hb dL_law_359 rfl (lv_at hl 2 rfl) ?_
  refine lw_ld hx hb hX hbl hbA hS 1 (by omega) hL (lv_at hl 4 rfl) (lv_at hl 0 rfl) (by decide) dL_law_360 dL_law_361 dL_law_363 dL_law_364 dL_law_365 ?_
  obtain ⟨fs1, he1⟩ := hM.x
  refine ka_V (As := [.int (xs (6 * j + 1))]) (rest := []) ⟨hx, hb, hml, hown, hts⟩ ⟨hK, hN⟩ hZ hP hD hS hA (mk_rule l D g H.size B j hj (xs (6 * j + 1)) hM) (cwV 1 hts gL_law_X7_rule rfl rfl rfl (by decide +kernel) ⟨(Nat.le_of_ble_eq_true rfl), (Nat.le_of_ble_eq_true rfl)⟩) 7 he1 rfl rfl rfl hl.1 rfl (Nat.le_of_ble_eq_true rfl) dL_law_366 hf0 (fun r2 u2 H locs hM1 hP hD hS => ?_)
  obtain ⟨hM1, hr2⟩ := hM1
  refine lv_pop hx hb dL_law_369 rfl ?_
  refine lv_goto (tgt := 1844) hx hb dL_law_370 (by decide) ?_
  refine W.widen (k := nc + 1) (n := ns + 6) (by omega) (by omega) ?_
  exact kk _ _ _ _ _ _ _ _ hC1 hM1 (turn_P hP) (turn_D hD) hS (lv_sub hl [0, 1, 2, 3, 4] rfl)
set_option maxHeartbeats 4000000 in
set_option maxRecDepth 100000 in
/-- hop -/
theorem lc_5 {p : Program} {e : Env} {s : State} {m : MethodId} {below : List Frame} {meth : Method} {c : Code} (l : Launch) (hl9 : l.stackTraces = false) {b L : Nat} {xs : Nat → Int32} (C0 : lw_At p s m meth c b L xs) (hL : L ≤ 3072) (D : va_G) (g : Nat → ClassId) (hK : va_K D vwCl (kY g) s) (hN : kn g s) (hZ : ks g (lwA s) s s.heap) (A B : Nat → Nat) (o_ j nc ns : Nat) (hj : j ≤ 512) (hi : 6 * j + 6 ≤ L) (hnc : nc + 1 ≤ room_1.cells) (hns : ns + 6 ≤ room_1.slots) {pt : Nat × (Nat → Int32)} {qt : Nat × Nat × Nat × Nat × (Nat → Int32)} {wC wM : va_W} (fo : Nat → Int64) {H : Heap} {locs : List Loc} {ls : Array Slot} (hC : CK g A j pt qt wC) (hM : MK g B j pt qt wM) (hP : va_P D vwCl (wC ++ (wM ++ lwO g o_ fo)) H) (hD : va_D (lwA s) (wC ++ (wM ++ lwO g o_ fo))) (hS : va_S (lwA s) s.heap H locs) (hl : lv_has ls 7 [(4, .int (nI (6 * j))), (3, .ref o_), (2, .ref (B 0)), (1, .ref (A 0)), (0, .ref b)]) (kk : lw_K p l e s m below meth c b D g A B o_ j nc ns) : W p l e room_1 s m #[Value.ref b] below meth c H locs nc ns (lw_Z below #[Value.ref b] s) (F0 m 373 ls []) := by
  obtain ⟨hx, hb, hr, hml, hown, hts0, hX, hbl, hlocks, hgv⟩ := id C0
  have hts : ∀ w ∈ wsL_law, w.before #[Value.ref b] s = true := fun w h => hts0 w (wsL_law_in w h)
  have hA : ∀ q : Nat, s.heap.size ≤ q → lwA s q := fun _ h => h
  have hbA : ¬ lwA s b := Nat.not_le.mpr hbl
  have hf0 : nc + 0 ≤ room_1.cells ∧ ns + 0 ≤ room_1.slots := ⟨by omega, by omega⟩
  have hf1 : nc + 1 ≤ room_1.cells ∧ ns + 6 ≤ room_1.slots := ⟨hnc, hns⟩
  refine lv_aload_n hx hb dL_law_373 rfl (lv_at hl 3 rfl) ?_
  refine lw_ld hx hb hX hbl hbA hS 1 (by omega) hL (lv_at hl 4 rfl) (lv_at hl 0 rfl) (by decide) dL_law_374 dL_law_375 dL_law_377 dL_law_378 dL_law_379 ?_
  refine lw_ld hx hb hX hbl hbA hS 2 (by omega) hL (lv_at hl 4 rfl) (lv_at hl 0 rfl) (by decide) dL_law_380 dL_law_381 dL_law_383 dL_law_384 dL_law_385 ?_
  refine lv_aload_n hx hb dL_law_386 rfl (lv_at hl 1 rfl) ?_
  have hP := rot_P hP
  have hD := rot_D hD
  rw [List.append_assoc] at hP hD
  have hP := rot_P hP
  have hD := rot_D hD
  refine ka_SW (wc := lwO g o_ fo ++ wC) (As := [.ref (A 0), .int (xs (6 * j + 1)), .int (xs (6 * j + 2)), .ref o_]) (rest := []) ⟨hx, hb, hml, hown, hts⟩ ⟨hK, hN⟩ hZ hP hD hS hA (ch_hop l hl9 D g H.size A j hj o_ fo (xs (6 * j + 1)) (xs (6 * j + 2)) hC) (vx_cwSW 4 hts gL_law_L_hop rfl rfl rfl (by decide +kernel) ⟨(Nat.le_of_ble_eq_true rfl), (Nat.le_of_ble_eq_true rfl)⟩) rfl hl.1 rfl (Nat.le_of_ble_eq_true rfl) dL_law_387 hf1 (fun r1 u1 H locs hC1 hP hD hS => ?_)
  obtain ⟨fo, u1, hC1, rfl⟩ := hC1
  refine lv_istore (lv' := [(5, .int r1), (4, .int (nI (6 * j))), (3, .ref o_), (2, .ref (B 0)), (1, .ref (A 0)), (0, .ref b)]) hx hb dL_law_390 hl (by decide) rfl (fun ls hl => ?_)
  refine lv_aload_n hx hb dL_law_392 rfl (lv_at hl 3 rfl) ?_
  refine lw_ld hx hb hX hbl hbA hS 1 (by omega) hL (lv_at hl 5 rfl) (lv_at hl 1 rfl) (by decide) dL_law_393 dL_law_394 dL_law_396 dL_law_397 dL_law_398 ?_
  refine lw_ld hx hb hX hbl hbA hS 2 (by omega) hL (lv_at hl 5 rfl) (lv_at hl 1 rfl) (by decide) dL_law_399 dL_law_400 dL_law_402 dL_law_403 dL_law_404 ?_
  obtain ⟨fs1, he1⟩ := hM.x
  refine ka_V (As := [.int (xs (6 * j + 1)), .int (xs (6 * j + 2))]) (rest := []) ⟨hx, hb, hml, hown, hts⟩ ⟨hK, hN⟩ hZ hP hD hS hA (mk_hop l D g H.size B j hj (xs (6 * j + 1)) (xs (6 * j + 2)) hM) (cwV 2 hts gL_law_X7_hop rfl rfl rfl (by decide +kernel) ⟨(Nat.le_of_ble_eq_true rfl), (Nat.le_of_ble_eq_true rfl)⟩) 7 he1 rfl rfl rfl hl.1 rfl (Nat.le_of_ble_eq_true rfl) dL_law_405 hf1 (fun r2 u2 H locs hM1 hP hD hS => ?_)
  refine lv_istore (lv' := [(6, .int r2), (5, .int r1), (4, .int (nI (6 * j))), (3, .ref o_), (2, .ref (B 0)), (1, .ref (A 0)), (0, .ref b)]) hx hb dL_law_408 hl (by decide) rfl (fun ls hl => ?_)
  refine lv_goto (tgt := 1844) hx hb dL_law_410 (by decide) ?_
  refine W.widen (k := nc + 1) (n := ns + 6) (by omega) (by omega) ?_
  exact kk _ _ _ _ _ _ _ _ hC1 hM1 (turn_P hP) (turn_D hD) hS (lv_sub hl [2, 3, 4, 5, 6] rfl)
set_option maxHeartbeats 4000000 in
set_option maxRecDepth 100000 in
/-- circuit -/
theorem lc_6 {p : Program} {e : Env} {s : State} {m : MethodId} {below : List Frame} {meth : Method} {c : Code} (l : Launch) (hl9 : l.stackTraces = false) {b L : Nat} {xs : Nat → Int32} (C0 : lw_At p s m meth c b L xs) (hL : L ≤ 3072) (D : va_G) (g : Nat → ClassId) (hK : va_K D vwCl (kY g) s) (hN : kn g s) (hZ : ks g (lwA s) s s.heap) (A B : Nat → Nat) (o_ j nc ns : Nat) (hj : j ≤ 512) (hi : 6 * j + 6 ≤ L) (hnc : nc + 1 ≤ room_1.cells) (hns : ns + 6 ≤ room_1.slots) {pt : Nat × (Nat → Int32)} {qt : Nat × Nat × Nat × Nat × (Nat → Int32)} {wC wM : va_W} (fo : Nat → Int64) {H : Heap} {locs : List Loc} {ls : Array Slot} (hC : CK g A j pt qt wC) (hM : MK g B j pt qt wM) (hP : va_P D vwCl (wC ++ (wM ++ lwO g o_ fo)) H) (hD : va_D (lwA s) (wC ++ (wM ++ lwO g o_ fo))) (hS : va_S (lwA s) s.heap H locs) (hl : lv_has ls 7 [(4, .int (nI (6 * j))), (3, .ref o_), (2, .ref (B 0)), (1, .ref (A 0)), (0, .ref b)]) (kk : lw_K p l e s m below meth c b D g A B o_ j nc ns) : W p l e room_1 s m #[Value.ref b] below meth c H locs nc ns (lw_Z below #[Value.ref b] s) (F0 m 413 ls []) := by
  obtain ⟨hx, hb, hr, hml, hown, hts0, hX, hbl, hlocks, hgv⟩ := id C0
  have hts : ∀ w ∈ wsL_law, w.before #[Value.ref b] s = true := fun w h => hts0 w (wsL_law_in w h)
  have hA : ∀ q : Nat, s.heap.size ≤ q → lwA s q := fun _ h => h
  have hbA : ¬ lwA s b := Nat.not_le.mpr hbl
  have hf0 : nc + 0 ≤ room_1.cells ∧ ns + 0 ≤ room_1.slots := ⟨by omega, by omega⟩
  have hf1 : nc + 1 ≤ room_1.cells ∧ ns + 6 ≤ room_1.slots := ⟨hnc, hns⟩
  refine lv_aload_n hx hb dL_law_413 rfl (lv_at hl 3 rfl) ?_
  refine lw_ld hx hb hX hbl hbA hS 1 (by omega) hL (lv_at hl 4 rfl) (lv_at hl 0 rfl) (by decide) dL_law_414 dL_law_415 dL_law_417 dL_law_418 dL_law_419 ?_
  refine lw_ld hx hb hX hbl hbA hS 2 (by omega) hL (lv_at hl 4 rfl) (lv_at hl 0 rfl) (by decide) dL_law_420 dL_law_421 dL_law_423 dL_law_424 dL_law_425 ?_
  refine lv_aload_n hx hb dL_law_426 rfl (lv_at hl 1 rfl) ?_
  have hP := rot_P hP
  have hD := rot_D hD
  rw [List.append_assoc] at hP hD
  have hP := rot_P hP
  have hD := rot_D hD
  refine ka_SW (wc := lwO g o_ fo ++ wC) (As := [.ref (A 0), .int (xs (6 * j + 1)), .int (xs (6 * j + 2)), .ref o_]) (rest := []) ⟨hx, hb, hml, hown, hts⟩ ⟨hK, hN⟩ hZ hP hD hS hA (ch_circuit l hl9 D g H.size A j hj o_ fo (xs (6 * j + 1)) (xs (6 * j + 2)) hC) (vx_cwSW 4 hts gL_law_L_circuit rfl rfl rfl (by decide +kernel) ⟨(Nat.le_of_ble_eq_true rfl), (Nat.le_of_ble_eq_true rfl)⟩) rfl hl.1 rfl (Nat.le_of_ble_eq_true rfl) dL_law_427 hf1 (fun r1 u1 H locs hC1 hP hD hS => ?_)
  obtain ⟨fo, u1, hC1, rfl⟩ := hC1
  refine lv_istore (lv' := [(5, .int r1), (4, .int (nI (6 * j))), (3, .ref o_), (2, .ref (B 0)), (1, .ref (A 0)), (0, .ref b)]) hx hb dL_law_430 hl (by decide) rfl (fun ls hl => ?_)
  refine lv_aload_n hx hb dL_law_432 rfl (lv_at hl 3 rfl) ?_
  refine lw_ld hx hb hX hbl hbA hS 1 (by omega) hL (lv_at hl 5 rfl) (lv_at hl 1 rfl) (by decide) dL_law_433 dL_law_434 dL_law_436 dL_law_437 dL_law_438 ?_
  refine lw_ld hx hb hX hbl hbA hS 2 (by omega) hL (lv_at hl 5 rfl) (lv_at hl 1 rfl) (by decide) dL_law_439 dL_law_440 dL_law_442 dL_law_443 dL_law_444 ?_
  obtain ⟨fs1, he1⟩ := hM.x
  refine ka_V (As := [.int (xs (6 * j + 1)), .int (xs (6 * j + 2))]) (rest := []) ⟨hx, hb, hml, hown, hts⟩ ⟨hK, hN⟩ hZ hP hD hS hA (mk_circuit l D g H.size B j hj (xs (6 * j + 1)) (xs (6 * j + 2)) hM) (cwV 2 hts gL_law_X7_circuit rfl rfl rfl (by decide +kernel) ⟨(Nat.le_of_ble_eq_true rfl), (Nat.le_of_ble_eq_true rfl)⟩) 7 he1 rfl rfl rfl hl.1 rfl (Nat.le_of_ble_eq_true rfl) dL_law_445 hf1 (fun r2 u2 H locs hM1 hP hD hS => ?_)
  refine lv_istore (lv' := [(6, .int r2), (5, .int r1), (4, .int (nI (6 * j))), (3, .ref o_), (2, .ref (B 0)), (1, .ref (A 0)), (0, .ref b)]) hx hb dL_law_448 hl (by decide) rfl (fun ls hl => ?_)
  refine lv_goto (tgt := 1844) hx hb dL_law_450 (by decide) ?_
  refine W.widen (k := nc + 1) (n := ns + 6) (by omega) (by omega) ?_
  exact kk _ _ _ _ _ _ _ _ hC1 hM1 (turn_P hP) (turn_D hD) hS (lv_sub hl [2, 3, 4, 5, 6] rfl)
set_option maxHeartbeats 4000000 in
set_option maxRecDepth 100000 in
/-- lane -/
theorem lc_7 {p : Program} {e : Env} {s : State} {m : MethodId} {below : List Frame} {meth : Method} {c : Code} (l : Launch) (hl9 : l.stackTraces = false) {b L : Nat} {xs : Nat → Int32} (C0 : lw_At p s m meth c b L xs) (hL : L ≤ 3072) (D : va_G) (g : Nat → ClassId) (hK : va_K D vwCl (kY g) s) (hN : kn g s) (hZ : ks g (lwA s) s s.heap) (A B : Nat → Nat) (o_ j nc ns : Nat) (hj : j ≤ 512) (hi : 6 * j + 6 ≤ L) (hnc : nc + 1 ≤ room_1.cells) (hns : ns + 6 ≤ room_1.slots) {pt : Nat × (Nat → Int32)} {qt : Nat × Nat × Nat × Nat × (Nat → Int32)} {wC wM : va_W} (fo : Nat → Int64) {H : Heap} {locs : List Loc} {ls : Array Slot} (hC : CK g A j pt qt wC) (hM : MK g B j pt qt wM) (hP : va_P D vwCl (wC ++ (wM ++ lwO g o_ fo)) H) (hD : va_D (lwA s) (wC ++ (wM ++ lwO g o_ fo))) (hS : va_S (lwA s) s.heap H locs) (hl : lv_has ls 7 [(4, .int (nI (6 * j))), (3, .ref o_), (2, .ref (B 0)), (1, .ref (A 0)), (0, .ref b)]) (kk : lw_K p l e s m below meth c b D g A B o_ j nc ns) : W p l e room_1 s m #[Value.ref b] below meth c H locs nc ns (lw_Z below #[Value.ref b] s) (F0 m 453 ls []) := by
  obtain ⟨hx, hb, hr, hml, hown, hts0, hX, hbl, hlocks, hgv⟩ := id C0
  have hts : ∀ w ∈ wsL_law, w.before #[Value.ref b] s = true := fun w h => hts0 w (wsL_law_in w h)
  have hA : ∀ q : Nat, s.heap.size ≤ q → lwA s q := fun _ h => h
  have hbA : ¬ lwA s b := Nat.not_le.mpr hbl
  have hf0 : nc + 0 ≤ room_1.cells ∧ ns + 0 ≤ room_1.slots := ⟨by omega, by omega⟩
  have hf1 : nc + 1 ≤ room_1.cells ∧ ns + 6 ≤ room_1.slots := ⟨hnc, hns⟩
  refine lv_aload_n hx hb dL_law_453 rfl (lv_at hl 3 rfl) ?_
  refine lw_ld hx hb hX hbl hbA hS 1 (by omega) hL (lv_at hl 4 rfl) (lv_at hl 0 rfl) (by decide) dL_law_454 dL_law_455 dL_law_457 dL_law_458 dL_law_459 ?_
  refine lw_ld hx hb hX hbl hbA hS 2 (by omega) hL (lv_at hl 4 rfl) (lv_at hl 0 rfl) (by decide) dL_law_460 dL_law_461 dL_law_463 dL_law_464 dL_law_465 ?_
  refine lw_ld hx hb hX hbl hbA hS 3 (by omega) hL (lv_at hl 4 rfl) (lv_at hl 0 rfl) (by decide) dL_law_466 dL_law_467 dL_law_469 dL_law_470 dL_law_471 ?_
  obtain ⟨fs0, he0⟩ := hC.x
  refine ka_V (As := [.int (xs (6 * j + 1)), .int (xs (6 * j + 2)), .int (xs (6 * j + 3))]) (rest := []) ⟨hx, hb, hml, hown, hts⟩ ⟨hK, hN⟩ hZ hP hD hS hA (ck_lane l D g H.size A j hj (xs (6 * j + 1)) (xs (6 * j + 2)) (xs (6 * j + 3)) hC) (cwV 3 hts gL_law_X6_lane rfl rfl rfl (by decide +kernel) ⟨(Nat.le_of_ble_eq_true rfl), (Nat.le_of_ble_eq_true rfl)⟩) 6 he0 rfl rfl rfl hl.1 rfl (Nat.le_of_ble_eq_true rfl) dL_law_472 hf0 (fun r1 u1 H locs hC1 hP hD hS => ?_)
  rw [List.append_assoc] at hP hD
  refine lv_pop hx hb dL_law_475 rfl ?_
  refine lv_aload_n hx hb dL_law_476 rfl (lv_at hl 2 rfl) ?_
  refine lw_ld hx hb hX hbl hbA hS 1 (by omega) hL (lv_at hl 4 rfl) (lv_at hl 0 rfl) (by decide) dL_law_477 dL_law_478 dL_law_480 dL_law_481 dL_law_482 ?_
  refine lw_ld hx hb hX hbl hbA hS 2 (by omega) hL (lv_at hl 4 rfl) (lv_at hl 0 rfl) (by decide) dL_law_483 dL_law_484 dL_law_486 dL_law_487 dL_law_488 ?_
  refine lw_ld hx hb hX hbl hbA hS 3 (by omega) hL (lv_at hl 4 rfl) (lv_at hl 0 rfl) (by decide) dL_law_489 dL_law_490 dL_law_492 dL_law_493 dL_law_494 ?_
  obtain ⟨fs1, he1⟩ := hM.x
  refine ka_V (As := [.int (xs (6 * j + 1)), .int (xs (6 * j + 2)), .int (xs (6 * j + 3))]) (rest := []) ⟨hx, hb, hml, hown, hts⟩ ⟨hK, hN⟩ hZ hP hD hS hA (mk_lane l D g H.size B j hj (xs (6 * j + 1)) (xs (6 * j + 2)) (xs (6 * j + 3)) hM) (cwV 3 hts gL_law_X7_lane_ rfl rfl rfl (by decide +kernel) ⟨(Nat.le_of_ble_eq_true rfl), (Nat.le_of_ble_eq_true rfl)⟩) 7 he1 rfl rfl rfl hl.1 rfl (Nat.le_of_ble_eq_true rfl) dL_law_495 hf0 (fun r2 u2 H locs hM1 hP hD hS => ?_)
  refine lv_pop hx hb dL_law_498 rfl ?_
  refine lv_goto (tgt := 1844) hx hb dL_law_499 (by decide) ?_
  refine W.widen (k := nc + 1) (n := ns + 6) (by omega) (by omega) ?_
  exact kk _ _ _ _ _ _ _ _ hC1 hM1 (turn_P hP) (turn_D hD) hS (lv_sub hl [0, 1, 2, 3, 4] rfl)
set_option maxHeartbeats 4000000 in
set_option maxRecDepth 100000 in
/-- buffer -/
theorem lc_8 {p : Program} {e : Env} {s : State} {m : MethodId} {below : List Frame} {meth : Method} {c : Code} (l : Launch) (hl9 : l.stackTraces = false) {b L : Nat} {xs : Nat → Int32} (C0 : lw_At p s m meth c b L xs) (hL : L ≤ 3072) (D : va_G) (g : Nat → ClassId) (hK : va_K D vwCl (kY g) s) (hN : kn g s) (hZ : ks g (lwA s) s s.heap) (A B : Nat → Nat) (o_ j nc ns : Nat) (hj : j ≤ 512) (hi : 6 * j + 6 ≤ L) (hnc : nc + 1 ≤ room_1.cells) (hns : ns + 6 ≤ room_1.slots) {pt : Nat × (Nat → Int32)} {qt : Nat × Nat × Nat × Nat × (Nat → Int32)} {wC wM : va_W} (fo : Nat → Int64) {H : Heap} {locs : List Loc} {ls : Array Slot} (hC : CK g A j pt qt wC) (hM : MK g B j pt qt wM) (hP : va_P D vwCl (wC ++ (wM ++ lwO g o_ fo)) H) (hD : va_D (lwA s) (wC ++ (wM ++ lwO g o_ fo))) (hS : va_S (lwA s) s.heap H locs) (hl : lv_has ls 7 [(4, .int (nI (6 * j))), (3, .ref o_), (2, .ref (B 0)), (1, .ref (A 0)), (0, .ref b)]) (kk : lw_K p l e s m below meth c b D g A B o_ j nc ns) : W p l e room_1 s m #[Value.ref b] below meth c H locs nc ns (lw_Z below #[Value.ref b] s) (F0 m 502 ls []) := by
  obtain ⟨hx, hb, hr, hml, hown, hts0, hX, hbl, hlocks, hgv⟩ := id C0
  have hts : ∀ w ∈ wsL_law, w.before #[Value.ref b] s = true := fun w h => hts0 w (wsL_law_in w h)
  have hA : ∀ q : Nat, s.heap.size ≤ q → lwA s q := fun _ h => h
  have hbA : ¬ lwA s b := Nat.not_le.mpr hbl
  have hf0 : nc + 0 ≤ room_1.cells ∧ ns + 0 ≤ room_1.slots := ⟨by omega, by omega⟩
  have hf1 : nc + 1 ≤ room_1.cells ∧ ns + 6 ≤ room_1.slots := ⟨hnc, hns⟩
  refine lv_aload_n hx hb dL_law_502 rfl (lv_at hl 3 rfl) ?_
  refine lw_ld hx hb hX hbl hbA hS 1 (by omega) hL (lv_at hl 4 rfl) (lv_at hl 0 rfl) (by decide) dL_law_503 dL_law_504 dL_law_506 dL_law_507 dL_law_508 ?_
  refine lw_ld hx hb hX hbl hbA hS 2 (by omega) hL (lv_at hl 4 rfl) (lv_at hl 0 rfl) (by decide) dL_law_509 dL_law_510 dL_law_512 dL_law_513 dL_law_514 ?_
  obtain ⟨fs0, he0⟩ := hC.x
  refine ka_V (As := [.int (xs (6 * j + 1)), .int (xs (6 * j + 2))]) (rest := []) ⟨hx, hb, hml, hown, hts⟩ ⟨hK, hN⟩ hZ hP hD hS hA (ck_buffer l D g H.size A j hj (xs (6 * j + 1)) (xs (6 * j + 2)) hC) (cwV 2 hts gL_law_X6_buffer rfl rfl rfl (by decide +kernel) ⟨(Nat.le_of_ble_eq_true rfl), (Nat.le_of_ble_eq_true rfl)⟩) 6 he0 rfl rfl rfl hl.1 rfl (Nat.le_of_ble_eq_true rfl) dL_law_515 hf0 (fun r1 u1 H locs hC1 hP hD hS => ?_)
  rw [List.append_assoc] at hP hD
  refine lv_pop hx hb dL_law_518 rfl ?_
  refine lv_aload_n hx hb dL_law_519 rfl (lv_at hl 2 rfl) ?_
  refine lw_ld hx hb hX hbl hbA hS 1 (by omega) hL (lv_at hl 4 rfl) (lv_at hl 0 rfl) (by decide) dL_law_520 dL_law_521 dL_law_523 dL_law_524 dL_law_525 ?_
  refine lw_ld hx hb hX hbl hbA hS 2 (by omega) hL (lv_at hl 4 rfl) (lv_at hl 0 rfl) (by decide) dL_law_526 dL_law_527 dL_law_529 dL_law_530 dL_law_531 ?_
  obtain ⟨fs1, he1⟩ := hM.x
  refine ka_V (As := [.int (xs (6 * j + 1)), .int (xs (6 * j + 2))]) (rest := []) ⟨hx, hb, hml, hown, hts⟩ ⟨hK, hN⟩ hZ hP hD hS hA (mk_buffer l D g H.size B j hj (xs (6 * j + 1)) (xs (6 * j + 2)) hM) (cwV 2 hts gL_law_X7_buffer rfl rfl rfl (by decide +kernel) ⟨(Nat.le_of_ble_eq_true rfl), (Nat.le_of_ble_eq_true rfl)⟩) 7 he1 rfl rfl rfl hl.1 rfl (Nat.le_of_ble_eq_true rfl) dL_law_532 hf0 (fun r2 u2 H locs hM1 hP hD hS => ?_)
  refine lv_pop hx hb dL_law_535 rfl ?_
  refine lv_goto (tgt := 1844) hx hb dL_law_536 (by decide) ?_
  refine W.widen (k := nc + 1) (n := ns + 6) (by omega) (by omega) ?_
  exact kk _ _ _ _ _ _ _ _ hC1 hM1 (turn_P hP) (turn_D hD) hS (lv_sub hl [0, 1, 2, 3, 4] rfl)
set_option maxHeartbeats 4000000 in
set_option maxRecDepth 100000 in
/-- way -/
theorem lc_9 {p : Program} {e : Env} {s : State} {m : MethodId} {below : List Frame} {meth : Method} {c : Code} (l : Launch) (hl9 : l.stackTraces = false) {b L : Nat} {xs : Nat → Int32} (C0 : lw_At p s m meth c b L xs) (hL : L ≤ 3072) (D : va_G) (g : Nat → ClassId) (hK : va_K D vwCl (kY g) s) (hN : kn g s) (hZ : ks g (lwA s) s s.heap) (A B : Nat → Nat) (o_ j nc ns : Nat) (hj : j ≤ 512) (hi : 6 * j + 6 ≤ L) (hnc : nc + 1 ≤ room_1.cells) (hns : ns + 6 ≤ room_1.slots) {pt : Nat × (Nat → Int32)} {qt : Nat × Nat × Nat × Nat × (Nat → Int32)} {wC wM : va_W} (fo : Nat → Int64) {H : Heap} {locs : List Loc} {ls : Array Slot} (hC : CK g A j pt qt wC) (hM : MK g B j pt qt wM) (hP : va_P D vwCl (wC ++ (wM ++ lwO g o_ fo)) H) (hD : va_D (lwA s) (wC ++ (wM ++ lwO g o_ fo))) (hS : va_S (lwA s) s.heap H locs) (hl : lv_has ls 7 [(4, .int (nI (6 * j))), (3, .ref o_), (2, .ref (B 0)), (1, .ref (A 0)), (0, .ref b)]) (kk : lw_K p l e s m below meth c b D g A B o_ j nc ns) : W p l e room_1 s m #[Value.ref b] below meth c H locs nc ns (lw_Z below #[Value.ref b] s) (F0 m 539 ls []) := by
  obtain ⟨hx, hb, hr, hml, hown, hts0, hX, hbl, hlocks, hgv⟩ := id C0
  have hts : ∀ w ∈ wsL_law, w.before #[Value.ref b] s = true := fun w h => hts0 w (wsL_law_in w h)
  have hA : ∀ q : Nat, s.heap.size ≤ q → lwA s q := fun _ h => h
  have hbA : ¬ lwA s b := Nat.not_le.mpr hbl
  have hf0 : nc + 0 ≤ room_1.cells ∧ ns + 0 ≤ room_1.slots := ⟨by omega, by omega⟩
  have hf1 : nc + 1 ≤ room_1.cells ∧ ns + 6 ≤ room_1.slots := ⟨hnc, hns⟩
  refine lv_aload_n hx hb dL_law_539 rfl (lv_at hl 3 rfl) ?_
  refine lw_ld hx hb hX hbl hbA hS 1 (by omega) hL (lv_at hl 4 rfl) (lv_at hl 0 rfl) (by decide) dL_law_540 dL_law_541 dL_law_543 dL_law_544 dL_law_545 ?_
  refine lw_ld hx hb hX hbl hbA hS 2 (by omega) hL (lv_at hl 4 rfl) (lv_at hl 0 rfl) (by decide) dL_law_546 dL_law_547 dL_law_549 dL_law_550 dL_law_551 ?_
  refine lw_ld hx hb hX hbl hbA hS 3 (by omega) hL (lv_at hl 4 rfl) (lv_at hl 0 rfl) (by decide) dL_law_552 dL_law_553 dL_law_555 dL_law_556 dL_law_557 ?_
  obtain ⟨fs0, he0⟩ := hC.x
  refine ka_V (As := [.int (xs (6 * j + 1)), .int (xs (6 * j + 2)), .int (xs (6 * j + 3))]) (rest := []) ⟨hx, hb, hml, hown, hts⟩ ⟨hK, hN⟩ hZ hP hD hS hA (ck_way l D g H.size A j hj (xs (6 * j + 1)) (xs (6 * j + 2)) (xs (6 * j + 3)) hC) (cwV 3 hts gL_law_X6_way rfl rfl rfl (by decide +kernel) ⟨(Nat.le_of_ble_eq_true rfl), (Nat.le_of_ble_eq_true rfl)⟩) 6 he0 rfl rfl rfl hl.1 rfl (Nat.le_of_ble_eq_true rfl) dL_law_558 hf0 (fun r1 u1 H locs hC1 hP hD hS => ?_)
  rw [List.append_assoc] at hP hD
  refine lv_pop hx hb dL_law_561 rfl ?_
  refine lv_aload_n hx hb dL_law_562 rfl (lv_at hl 2 rfl) ?_
  refine lw_ld hx hb hX hbl hbA hS 1 (by omega) hL (lv_at hl 4 rfl) (lv_at hl 0 rfl) (by decide) dL_law_563 dL_law_564 dL_law_566 dL_law_567 dL_law_568 ?_
  refine lw_ld hx hb hX hbl hbA hS 2 (by omega) hL (lv_at hl 4 rfl) (lv_at hl 0 rfl) (by decide) dL_law_569 dL_law_570 dL_law_572 dL_law_573 dL_law_574 ?_
  refine lw_ld hx hb hX hbl hbA hS 3 (by omega) hL (lv_at hl 4 rfl) (lv_at hl 0 rfl) (by decide) dL_law_575 dL_law_576 dL_law_578 dL_law_579 dL_law_580 ?_
  obtain ⟨fs1, he1⟩ := hM.x
  refine ka_V (As := [.int (xs (6 * j + 1)), .int (xs (6 * j + 2)), .int (xs (6 * j + 3))]) (rest := []) ⟨hx, hb, hml, hown, hts⟩ ⟨hK, hN⟩ hZ hP hD hS hA (mk_way l D g H.size B j hj (xs (6 * j + 1)) (xs (6 * j + 2)) (xs (6 * j + 3)) hM) (cwV 3 hts gL_law_X7_way rfl rfl rfl (by decide +kernel) ⟨(Nat.le_of_ble_eq_true rfl), (Nat.le_of_ble_eq_true rfl)⟩) 7 he1 rfl rfl rfl hl.1 rfl (Nat.le_of_ble_eq_true rfl) dL_law_581 hf0 (fun r2 u2 H locs hM1 hP hD hS => ?_)
  refine lv_pop hx hb dL_law_584 rfl ?_
  refine lv_goto (tgt := 1844) hx hb dL_law_585 (by decide) ?_
  refine W.widen (k := nc + 1) (n := ns + 6) (by omega) (by omega) ?_
  exact kk _ _ _ _ _ _ _ _ hC1 hM1 (turn_P hP) (turn_D hD) hS (lv_sub hl [0, 1, 2, 3, 4] rfl)
set_option maxHeartbeats 4000000 in
set_option maxRecDepth 100000 in
/-- go -/
theorem lc_10 {p : Program} {e : Env} {s : State} {m : MethodId} {below : List Frame} {meth : Method} {c : Code} (l : Launch) (hl9 : l.stackTraces = false) {b L : Nat} {xs : Nat → Int32} (C0 : lw_At p s m meth c b L xs) (hL : L ≤ 3072) (D : va_G) (g : Nat → ClassId) (hK : va_K D vwCl (kY g) s) (hN : kn g s) (hZ : ks g (lwA s) s s.heap) (A B : Nat → Nat) (o_ j nc ns : Nat) (hj : j ≤ 512) (hi : 6 * j + 6 ≤ L) (hnc : nc + 1 ≤ room_1.cells) (hns : ns + 6 ≤ room_1.slots) {pt : Nat × (Nat → Int32)} {qt : Nat × Nat × Nat × Nat × (Nat → Int32)} {wC wM : va_W} (fo : Nat → Int64) {H : Heap} {locs : List Loc} {ls : Array Slot} (hC : CK g A j pt qt wC) (hM : MK g B j pt qt wM) (hP : va_P D vwCl (wC ++ (wM ++ lwO g o_ fo)) H) (hD : va_D (lwA s) (wC ++ (wM ++ lwO g o_ fo))) (hS : va_S (lwA s) s.heap H locs) (hl : lv_has ls 7 [(4, .int (nI (6 * j))), (3, .ref o_), (2, .ref (B 0)), (1, .ref (A 0)), (0, .ref b)]) (kk : lw_K p l e s m below meth c b D g A B o_ j nc ns) : W p l e room_1 s m #[Value.ref b] below meth c H locs nc ns (lw_Z below #[Value.ref b] s) (F0 m 588 ls []) := by
  obtain ⟨hx, hb, hr, hml, hown, hts0, hX, hbl, hlocks, hgv⟩ := id C0
  have hts : ∀ w ∈ wsL_law, w.before #[Value.ref b] s = true := fun w h => hts0 w (wsL_law_in w h)
  have hA : ∀ q : Nat, s.heap.size ≤ q → lwA s q := fun _ h => h
  have hbA : ¬ lwA s b := Nat.not_le.mpr hbl
  have hf0 : nc + 0 ≤ room_1.cells ∧ ns + 0 ≤ room_1.slots := ⟨by omega, by omega⟩
  have hf1 : nc + 1 ≤ room_1.cells ∧ ns + 6 ≤ room_1.slots := ⟨hnc, hns⟩
  refine lv_aload_n hx hb dL_law_588 rfl (lv_at hl 3 rfl) ?_
  refine lw_ld hx hb hX hbl hbA hS 1 (by omega) hL (lv_at hl 4 rfl) (lv_at hl 0 rfl) (by decide) dL_law_589 dL_law_590 dL_law_592 dL_law_593 dL_law_594 ?_
  obtain ⟨fs0, he0⟩ := hC.x
  refine ka_V (As := [.int (xs (6 * j + 1))]) (rest := []) ⟨hx, hb, hml, hown, hts⟩ ⟨hK, hN⟩ hZ hP hD hS hA (ck_go l D g H.size A j hj (xs (6 * j + 1)) hC) (cwV 1 hts gL_law_X6_go rfl rfl rfl (by decide +kernel) ⟨(Nat.le_of_ble_eq_true rfl), (Nat.le_of_ble_eq_true rfl)⟩) 6 he0 rfl rfl rfl hl.1 rfl (Nat.le_of_ble_eq_true rfl) dL_law_595 hf0 (fun r1 u1 H locs hC1 hP hD hS => ?_)
  obtain ⟨hC1, hr1⟩ := hC1
  rw [List.append_assoc] at hP hD
  refine lv_pop hx hb dL_law_598 rfl ?_
  refine lv_aload_n hx hb dL_law_599 rfl (lv_at hl 2 rfl) ?_
  refine lw_ld hx hb hX hbl hbA hS 1 (by omega) hL (lv_at hl 4 rfl) (lv_at hl 0 rfl) (by decide) dL_law_600 dL_law_601 dL_law_603 dL_law_604 dL_law_605 ?_
  obtain ⟨fs1, he1⟩ := hM.x
  refine ka_V (As := [.int (xs (6 * j + 1))]) (rest := []) ⟨hx, hb, hml, hown, hts⟩ ⟨hK, hN⟩ hZ hP hD hS hA (mk_go l D g H.size B j hj (xs (6 * j + 1)) hM) (cwV 1 hts gL_law_X7_go rfl rfl rfl (by decide +kernel) ⟨(Nat.le_of_ble_eq_true rfl), (Nat.le_of_ble_eq_true rfl)⟩) 7 he1 rfl rfl rfl hl.1 rfl (Nat.le_of_ble_eq_true rfl) dL_law_606 hf0 (fun r2 u2 H locs hM1 hP hD hS => ?_)
  obtain ⟨hM1, hr2⟩ := hM1
  refine lv_pop hx hb dL_law_609 rfl ?_
  refine lv_goto (tgt := 1844) hx hb dL_law_610 (by decide) ?_
  refine W.widen (k := nc + 1) (n := ns + 6) (by omega) (by omega) ?_
  exact kk _ _ _ _ _ _ _ _ hC1 hM1 (turn_P hP) (turn_D hD) hS (lv_sub hl [0, 1, 2, 3, 4] rfl)
set_option maxHeartbeats 4000000 in
set_option maxRecDepth 100000 in
/-- jam -/
theorem lc_11 {p : Program} {e : Env} {s : State} {m : MethodId} {below : List Frame} {meth : Method} {c : Code} (l : Launch) (hl9 : l.stackTraces = false) {b L : Nat} {xs : Nat → Int32} (C0 : lw_At p s m meth c b L xs) (hL : L ≤ 3072) (D : va_G) (g : Nat → ClassId) (hK : va_K D vwCl (kY g) s) (hN : kn g s) (hZ : ks g (lwA s) s s.heap) (A B : Nat → Nat) (o_ j nc ns : Nat) (hj : j ≤ 512) (hi : 6 * j + 6 ≤ L) (hnc : nc + 1 ≤ room_1.cells) (hns : ns + 6 ≤ room_1.slots) {pt : Nat × (Nat → Int32)} {qt : Nat × Nat × Nat × Nat × (Nat → Int32)} {wC wM : va_W} (fo : Nat → Int64) {H : Heap} {locs : List Loc} {ls : Array Slot} (hC : CK g A j pt qt wC) (hM : MK g B j pt qt wM) (hP : va_P D vwCl (wC ++ (wM ++ lwO g o_ fo)) H) (hD : va_D (lwA s) (wC ++ (wM ++ lwO g o_ fo))) (hS : va_S (lwA s) s.heap H locs) (hl : lv_has ls 7 [(4, .int (nI (6 * j))), (3, .ref o_), (2, .ref (B 0)), (1, .ref (A 0)), (0, .ref b)]) (kk : lw_K p l e s m below meth c b D g A B o_ j nc ns) : W p l e room_1 s m #[Value.ref b] below meth c H locs nc ns (lw_Z below #[Value.ref b] s) (F0 m 613 ls []) := by
  obtain ⟨hx, hb, hr, hml, hown, hts0, hX, hbl, hlocks, hgv⟩ := id C0
  have hts : ∀ w ∈ wsL_law, w.before #[Value.ref b] s = true := fun w h => hts0 w (wsL_law_in w h)
  have hA : ∀ q : Nat, s.heap.size ≤ q → lwA s q := fun _ h => h
  have hbA : ¬ lwA s b := Nat.not_le.mpr hbl
  have hf0 : nc + 0 ≤ room_1.cells ∧ ns + 0 ≤ room_1.slots := ⟨by omega, by omega⟩
  have hf1 : nc + 1 ≤ room_1.cells ∧ ns + 6 ≤ room_1.slots := ⟨hnc, hns⟩
  refine lv_aload_n hx hb dL_law_613 rfl (lv_at hl 3 rfl) ?_
  refine lw_ld hx hb hX hbl hbA hS 1 (by omega) hL (lv_at hl 4 rfl) (lv_at hl 0 rfl) (by decide) dL_law_614 dL_law_615 dL_law_617 dL_law_618 dL_law_619 ?_
  refine lw_ld hx hb hX hbl hbA hS 2 (by omega) hL (lv_at hl 4 rfl) (lv_at hl 0 rfl) (by decide) dL_law_620 dL_law_621 dL_law_623 dL_law_624 dL_law_625 ?_
  obtain ⟨fs0, he0⟩ := hC.x
  refine ka_V (As := [.int (xs (6 * j + 1)), .int (xs (6 * j + 2))]) (rest := []) ⟨hx, hb, hml, hown, hts⟩ ⟨hK, hN⟩ hZ hP hD hS hA (ck_jam l D g H.size A j hj (xs (6 * j + 1)) (xs (6 * j + 2)) hC) (cwV 2 hts gL_law_X6_jam rfl rfl rfl (by decide +kernel) ⟨(Nat.le_of_ble_eq_true rfl), (Nat.le_of_ble_eq_true rfl)⟩) 6 he0 rfl rfl rfl hl.1 rfl (Nat.le_of_ble_eq_true rfl) dL_law_626 hf0 (fun r1 u1 H locs hC1 hP hD hS => ?_)
  rw [List.append_assoc] at hP hD
  refine lv_pop hx hb dL_law_629 rfl ?_
  refine lv_aload_n hx hb dL_law_630 rfl (lv_at hl 2 rfl) ?_
  refine lw_ld hx hb hX hbl hbA hS 1 (by omega) hL (lv_at hl 4 rfl) (lv_at hl 0 rfl) (by decide) dL_law_631 dL_law_632 dL_law_634 dL_law_635 dL_law_636 ?_
  refine lw_ld hx hb hX hbl hbA hS 2 (by omega) hL (lv_at hl 4 rfl) (lv_at hl 0 rfl) (by decide) dL_law_637 dL_law_638 dL_law_640 dL_law_641 dL_law_642 ?_
  obtain ⟨fs1, he1⟩ := hM.x
  refine ka_V (As := [.int (xs (6 * j + 1)), .int (xs (6 * j + 2))]) (rest := []) ⟨hx, hb, hml, hown, hts⟩ ⟨hK, hN⟩ hZ hP hD hS hA (mk_jam l D g H.size B j hj (xs (6 * j + 1)) (xs (6 * j + 2)) hM) (cwV 2 hts gL_law_X7_jam rfl rfl rfl (by decide +kernel) ⟨(Nat.le_of_ble_eq_true rfl), (Nat.le_of_ble_eq_true rfl)⟩) 7 he1 rfl rfl rfl hl.1 rfl (Nat.le_of_ble_eq_true rfl) dL_law_643 hf0 (fun r2 u2 H locs hM1 hP hD hS => ?_)
  refine lv_pop hx hb dL_law_646 rfl ?_
  refine lv_goto (tgt := 1844) hx hb dL_law_647 (by decide) ?_
  refine W.widen (k := nc + 1) (n := ns + 6) (by omega) (by omega) ?_
  exact kk _ _ _ _ _ _ _ _ hC1 hM1 (turn_P hP) (turn_D hD) hS (lv_sub hl [0, 1, 2, 3, 4] rfl)
set_option maxHeartbeats 4000000 in
set_option maxRecDepth 100000 in
/-- source -/
theorem lc_12 {p : Program} {e : Env} {s : State} {m : MethodId} {below : List Frame} {meth : Method} {c : Code} (l : Launch) (hl9 : l.stackTraces = false) {b L : Nat} {xs : Nat → Int32} (C0 : lw_At p s m meth c b L xs) (hL : L ≤ 3072) (D : va_G) (g : Nat → ClassId) (hK : va_K D vwCl (kY g) s) (hN : kn g s) (hZ : ks g (lwA s) s s.heap) (A B : Nat → Nat) (o_ j nc ns : Nat) (hj : j ≤ 512) (hi : 6 * j + 6 ≤ L) (hnc : nc + 1 ≤ room_1.cells) (hns : ns + 6 ≤ room_1.slots) {pt : Nat × (Nat → Int32)} {qt : Nat × Nat × Nat × Nat × (Nat → Int32)} {wC wM : va_W} (fo : Nat → Int64) {H : Heap} {locs : List Loc} {ls : Array Slot} (hC : CK g A j pt qt wC) (hM : MK g B j pt qt wM) (hP : va_P D vwCl (wC ++ (wM ++ lwO g o_ fo)) H) (hD : va_D (lwA s) (wC ++ (wM ++ lwO g o_ fo))) (hS : va_S (lwA s) s.heap H locs) (hl : lv_has ls 7 [(4, .int (nI (6 * j))), (3, .ref o_), (2, .ref (B 0)), (1, .ref (A 0)), (0, .ref b)]) (kk : lw_K p l e s m below meth c b D g A B o_ j nc ns) : W p l e room_1 s m #[Value.ref b] below meth c H locs nc ns (lw_Z below #[Value.ref b] s) (F0 m 650 ls []) := by
  obtain ⟨hx, hb, hr, hml, hown, hts0, hX, hbl, hlocks, hgv⟩ := id C0
  have hts : ∀ w ∈ wsL_law, w.before #[Value.ref b] s = true := fun w h => hts0 w (wsL_law_in w h)
  have hA : ∀ q : Nat, s.heap.size ≤ q → lwA s q := fun _ h => h
  have hbA : ¬ lwA s b := Nat.not_le.mpr hbl
  have hf0 : nc + 0 ≤ room_1.cells ∧ ns + 0 ≤ room_1.slots := ⟨by omega, by omega⟩
  have hf1 : nc + 1 ≤ room_1.cells ∧ ns + 6 ≤ room_1.slots := ⟨hnc, hns⟩
  refine lv_aload_n hx hb dL_law_650 rfl (lv_at hl 3 rfl) ?_
  refine lw_ld hx hb hX hbl hbA hS 1 (by omega) hL (lv_at hl 4 rfl) (lv_at hl 0 rfl) (by decide) dL_law_651 dL_law_652 dL_law_654 dL_law_655 dL_law_656 ?_
  refine lw_ld hx hb hX hbl hbA hS 2 (by omega) hL (lv_at hl 4 rfl) (lv_at hl 0 rfl) (by decide) dL_law_657 dL_law_658 dL_law_660 dL_law_661 dL_law_662 ?_
  refine lw_ld hx hb hX hbl hbA hS 3 (by omega) hL (lv_at hl 4 rfl) (lv_at hl 0 rfl) (by decide) dL_law_663 dL_law_664 dL_law_666 dL_law_667 dL_law_668 ?_
  obtain ⟨fs0, he0⟩ := hC.x
  refine ka_V (As := [.int (xs (6 * j + 1)), .int (xs (6 * j + 2)), .int (xs (6 * j + 3))]) (rest := []) ⟨hx, hb, hml, hown, hts⟩ ⟨hK, hN⟩ hZ hP hD hS hA (ck_source l D g H.size A j hj (xs (6 * j + 1)) (xs (6 * j + 2)) (xs (6 * j + 3)) hC) (cwV 3 hts gL_law_X6_source rfl rfl rfl (by decide +kernel) ⟨(Nat.le_of_ble_eq_true rfl), (Nat.le_of_ble_eq_true rfl)⟩) 6 he0 rfl rfl rfl hl.1 rfl (Nat.le_of_ble_eq_true rfl) dL_law_669 hf0 (fun r1 u1 H locs hC1 hP hD hS => ?_)
  obtain ⟨hC1, hr1⟩ := hC1
  rw [List.append_assoc] at hP hD
  refine lv_pop hx hb dL_law_672 rfl ?_
  refine lv_aload_n hx hb dL_law_673 rfl (lv_at hl 2 rfl) ?_
  refine lw_ld hx hb hX hbl hbA hS 1 (by omega) hL (lv_at hl 4 rfl) (lv_at hl 0 rfl) (by decide) dL_law_674 dL_law_675 dL_law_677 dL_law_678 dL_law_679 ?_
  refine lw_ld hx hb hX hbl hbA hS 2 (by omega) hL (lv_at hl 4 rfl) (lv_at hl 0 rfl) (by decide) dL_law_680 dL_law_681 dL_law_683 dL_law_684 dL_law_685 ?_
  refine lw_ld hx hb hX hbl hbA hS 3 (by omega) hL (lv_at hl 4 rfl) (lv_at hl 0 rfl) (by decide) dL_law_686 dL_law_687 dL_law_689 dL_law_690 dL_law_691 ?_
  obtain ⟨fs1, he1⟩ := hM.x
  refine ka_V (As := [.int (xs (6 * j + 1)), .int (xs (6 * j + 2)), .int (xs (6 * j + 3))]) (rest := []) ⟨hx, hb, hml, hown, hts⟩ ⟨hK, hN⟩ hZ hP hD hS hA (mk_source l D g H.size B j hj (xs (6 * j + 1)) (xs (6 * j + 2)) (xs (6 * j + 3)) hM) (cwV 3 hts gL_law_X7_source rfl rfl rfl (by decide +kernel) ⟨(Nat.le_of_ble_eq_true rfl), (Nat.le_of_ble_eq_true rfl)⟩) 7 he1 rfl rfl rfl hl.1 rfl (Nat.le_of_ble_eq_true rfl) dL_law_692 hf0 (fun r2 u2 H locs hM1 hP hD hS => ?_)
  obtain ⟨hM1, hr2⟩ := hM1
  refine lv_pop hx hb dL_law_695 rfl ?_
  refine lv_goto (tgt := 1844) hx hb dL_law_696 (by decide) ?_
  refine W.widen (k := nc + 1) (n := ns + 6) (by omega) (by omega) ?_
  exact kk _ _ _ _ _ _ _ _ hC1 hM1 (turn_P hP) (turn_D hD) hS (lv_sub hl [0, 1, 2, 3, 4] rfl)
set_option maxHeartbeats 4000000 in
set_option maxRecDepth 100000 in
/-- takes -/
theorem lc_13 {p : Program} {e : Env} {s : State} {m : MethodId} {below : List Frame} {meth : Method} {c : Code} (l : Launch) (hl9 : l.stackTraces = false) {b L : Nat} {xs : Nat → Int32} (C0 : lw_At p s m meth c b L xs) (hL : L ≤ 3072) (D : va_G) (g : Nat → ClassId) (hK : va_K D vwCl (kY g) s) (hN : kn g s) (hZ : ks g (lwA s) s s.heap) (A B : Nat → Nat) (o_ j nc ns : Nat) (hj : j ≤ 512) (hi : 6 * j + 6 ≤ L) (hnc : nc + 1 ≤ room_1.cells) (hns : ns + 6 ≤ room_1.slots) {pt : Nat × (Nat → Int32)} {qt : Nat × Nat × Nat × Nat × (Nat → Int32)} {wC wM : va_W} (fo : Nat → Int64) {H : Heap} {locs : List Loc} {ls : Array Slot} (hC : CK g A j pt qt wC) (hM : MK g B j pt qt wM) (hP : va_P D vwCl (wC ++ (wM ++ lwO g o_ fo)) H) (hD : va_D (lwA s) (wC ++ (wM ++ lwO g o_ fo))) (hS : va_S (lwA s) s.heap H locs) (hl : lv_has ls 7 [(4, .int (nI (6 * j))), (3, .ref o_), (2, .ref (B 0)), (1, .ref (A 0)), (0, .ref b)]) (kk : lw_K p l e s m below meth c b D g A B o_ j nc ns) : W p l e room_1 s m #[Value.ref b] below meth c H locs nc ns (lw_Z below #[Value.ref b] s) (F0 m 699 ls []) := by
  obtain ⟨hx, hb, hr, hml, hown, hts0, hX, hbl, hlocks, hgv⟩ := id C0
  have hts : ∀ w ∈ wsL_law, w.before #[Value.ref b] s = true := fun w h => hts0 w (wsL_law_in w h)
  have hA : ∀ q : Nat, s.heap.size ≤ q → lwA s q := fun _ h => h
  have hbA : ¬ lwA s b := Nat.not_le.mpr hbl
  have hf0 : nc + 0 ≤ room_1.cells ∧ ns + 0 ≤ room_1.slots := ⟨by omega, by omega⟩
  have hf1 : nc + 1 ≤ room_1.cells ∧ ns + 6 ≤ room_1.slots := ⟨hnc, hns⟩
  refine lv_aload_n hx hb dL_law_699 rfl (lv_at hl 3 rfl) ?_
  refine lw_ld hx hb hX hbl hbA hS 1 (by omega) hL (lv_at hl 4 rfl) (lv_at hl 0 rfl) (by decide) dL_law_700 dL_law_701 dL_law_703 dL_law_704 dL_law_705 ?_
  refine lw_ld hx hb hX hbl hbA hS 2 (by omega) hL (lv_at hl 4 rfl) (lv_at hl 0 rfl) (by decide) dL_law_706 dL_law_707 dL_law_709 dL_law_710 dL_law_711 ?_
  obtain ⟨fs0, he0⟩ := hC.x
  refine ka_V (As := [.int (xs (6 * j + 1)), .int (xs (6 * j + 2))]) (rest := []) ⟨hx, hb, hml, hown, hts⟩ ⟨hK, hN⟩ hZ hP hD hS hA (ck_takes l D g H.size A j hj (xs (6 * j + 1)) (xs (6 * j + 2)) hC) (cwV 2 hts gL_law_X6_takes rfl rfl rfl (by decide +kernel) ⟨(Nat.le_of_ble_eq_true rfl), (Nat.le_of_ble_eq_true rfl)⟩) 6 he0 rfl rfl rfl hl.1 rfl (Nat.le_of_ble_eq_true rfl) dL_law_712 hf0 (fun r1 u1 H locs hC1 hP hD hS => ?_)
  obtain ⟨hC1, hr1⟩ := hC1
  rw [List.append_assoc] at hP hD
  refine lv_aload_n hx hb dL_law_715 rfl (lv_at hl 2 rfl) ?_
  refine lw_ld hx hb hX hbl hbA hS 1 (by omega) hL (lv_at hl 4 rfl) (lv_at hl 0 rfl) (by decide) dL_law_716 dL_law_717 dL_law_719 dL_law_720 dL_law_721 ?_
  refine lw_ld hx hb hX hbl hbA hS 2 (by omega) hL (lv_at hl 4 rfl) (lv_at hl 0 rfl) (by decide) dL_law_722 dL_law_723 dL_law_725 dL_law_726 dL_law_727 ?_
  obtain ⟨fs1, he1⟩ := hM.x
  refine ka_V (As := [.int (xs (6 * j + 1)), .int (xs (6 * j + 2))]) (rest := [.int r1]) ⟨hx, hb, hml, hown, hts⟩ ⟨hK, hN⟩ hZ hP hD hS hA (mk_takes l D g H.size B j hj (xs (6 * j + 1)) (xs (6 * j + 2)) hM) (cwV 2 hts gL_law_X7_takes rfl rfl rfl (by decide +kernel) ⟨(Nat.le_of_ble_eq_true rfl), (Nat.le_of_ble_eq_true rfl)⟩) 7 he1 rfl rfl rfl hl.1 rfl (Nat.le_of_ble_eq_true rfl) dL_law_728 hf0 (fun r2 u2 H locs hM1 hP hD hS => ?_)
  obtain ⟨hM1, hr2⟩ := hM1
  refine lv_icmp_eq (tgt := 1844) hx hb dL_law_731 (by decide) (fun _ => ?_) (fun cb => absurd (hr1.trans hr2.symm) cb)
  refine W.widen (k := nc + 1) (n := ns + 6) (by omega) (by omega) ?_
  exact kk _ _ _ _ _ _ _ _ hC1 hM1 (turn_P hP) (turn_D hD) hS (lv_sub hl [0, 1, 2, 3, 4] rfl)
