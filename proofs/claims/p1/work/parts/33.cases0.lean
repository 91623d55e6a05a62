set_option maxHeartbeats 4000000 in
set_option maxRecDepth 100000 in
/-- feed -/
theorem law_case_0 {p : Program} {e : Env} {s : State} {m : MethodId} {below : List Frame} {meth : Method} {c : Code} (l : Launch) (hl9 : l.stackTraces = false) {b : Nat} {xs : Nat → Int32} (C0 : lw_At p s m meth c b 6 xs) (D : va_G) (g : Nat → ClassId) (hK : va_K D vwCl (kY g) s) (hN : kn g s) (hZ : ks g (fun q : Nat => s.heap.size ≤ q) s s.heap) {m_ ma mac mas mat mf mh mn mr mrc mrh mrr msn mt o_ x xa xd xn xr xt xy xz : Nat} {H : Heap} {locs : List Loc} {ls : Array Slot} (hP : va_P D vwCl [(x, .inr (6, [.ref xt, .int 0, .ref xr, .ref xd, .ref xn, .ref xa, .ref xz, .ref xy, .int 0])), (xt, .inl (g 0, 160, .inl (fun _ => 0))), (m_, .inr (7, [.int 0, .ref mt, .int 0, .int 0, .int 0, .ref mrr, .ref mrh, .ref mrc, .int 0, .int 0, .ref mn, .ref mf, .ref mr, .ref mh, .int 0, .int 0, .ref ma, .ref mas, .ref msn, .ref mac, .ref mat])), (mt, .inl (g 0, 160, .inl (fun _ => 0)))] H) (hD : va_D (fun q : Nat => s.heap.size ≤ q) [(x, .inr (6, [.ref xt, .int 0, .ref xr, .ref xd, .ref xn, .ref xa, .ref xz, .ref xy, .int 0])), (xt, .inl (g 0, 160, .inl (fun _ => 0))), (m_, .inr (7, [.int 0, .ref mt, .int 0, .int 0, .int 0, .ref mrr, .ref mrh, .ref mrc, .int 0, .int 0, .ref mn, .ref mf, .ref mr, .ref mh, .int 0, .int 0, .ref ma, .ref mas, .ref msn, .ref mac, .ref mat])), (mt, .inl (g 0, 160, .inl (fun _ => 0)))]) (hS : va_S (fun q : Nat => s.heap.size ≤ q) s.heap H locs) (hl : lv_has ls 7 [(4, .int 0), (3, .ref o_), (2, .ref m_), (1, .ref x), (0, .ref b)]) : W p l e room_1 s m #[Value.ref b] below meth c H locs 91 5288 (lw_Z below #[Value.ref b] s) (F0 m 224 ls []) := by
  obtain ⟨hx, hb, hr, hml, hown, hts0, hX, hbl, hlocks, hgv⟩ := id C0
  have hts : ∀ w ∈ wsL_law, w.before #[Value.ref b] s = true := fun w h => hts0 w (wsL_law_in w h)
  have hA : ∀ q : Nat, s.heap.size ≤ q → (fun q : Nat => s.heap.size ≤ q) q := fun _ h => h
  have hbA : ¬ (fun q : Nat => s.heap.size ≤ q) b := Nat.not_le.mpr hbl
  generalize hAe : (fun q : Nat => s.heap.size ≤ q) = A at hA hbA hZ hD hS
  refine lv_aload_n hx hb dL_law_224 rfl (lv_at hl 3 rfl) ?_
  refine lv_aload_n hx hb dL_law_225 rfl (lv_at hl 4 rfl) ?_
  refine lv_iload hx hb dL_law_226 (lv_at hl 0 rfl) ?_
  refine lv_iconst (v := 1) hx hb dL_law_228 (by decide) ?_
  refine lv_iadd hx hb dL_law_229 ?_
  refine lv_eqi (y := 1) (by decide) ?_
  refine va_sld hx hb hX hbl hbA hS (by unfold vp_in; decide) dL_law_230 ?_
  refine lv_eqi (y := (xs 1)) (rfl) ?_
  refine lv_aload_n hx hb dL_law_231 rfl (lv_at hl 4 rfl) ?_
  refine lv_iload hx hb dL_law_232 (lv_at hl 0 rfl) ?_
  refine lv_iconst (v := 2) hx hb dL_law_234 (by decide) ?_
  refine lv_iadd hx hb dL_law_235 ?_
  refine lv_eqi (y := 2) (by decide) ?_
  refine va_sld hx hb hX hbl hbA hS (by unfold vp_in; decide) dL_law_236 ?_
  refine lv_eqi (y := (xs 2)) (rfl) ?_
  refine lv_aload_n hx hb dL_law_237 rfl (lv_at hl 4 rfl) ?_
  refine lv_iload hx hb dL_law_238 (lv_at hl 0 rfl) ?_
  refine lv_iconst (v := 3) hx hb dL_law_240 (by decide) ?_
  refine lv_iadd hx hb dL_law_241 ?_
  refine lv_eqi (y := 3) (by decide) ?_
  refine va_sld hx hb hX hbl hbA hS (by unfold vp_in; decide) dL_law_242 ?_
  refine lv_eqi (y := (xs 3)) (rfl) ?_
  refine lv_aload_n hx hb dL_law_243 rfl (lv_at hl 4 rfl) ?_
  refine lv_iload hx hb dL_law_244 (lv_at hl 0 rfl) ?_
  refine lv_iconst (v := 4) hx hb dL_law_246 (by decide) ?_
  refine lv_iadd hx hb dL_law_247 ?_
  refine lv_eqi (y := 4) (by decide) ?_
  refine va_sld hx hb hX hbl hbA hS (by unfold vp_in; decide) dL_law_248 ?_
  refine lv_eqi (y := (xs 4)) (rfl) ?_
  refine lv_aload_n hx hb dL_law_249 rfl (lv_at hl 4 rfl) ?_
  refine lv_iload hx hb dL_law_250 (lv_at hl 0 rfl) ?_
  refine lv_iconst (v := 5) hx hb dL_law_252 (by decide) ?_
  refine lv_iadd hx hb dL_law_253 ?_
  refine lv_eqi (y := 5) (by decide) ?_
  refine va_sld hx hb hX hbl hbA hS (by unfold vp_in; decide) dL_law_254 ?_
  refine lv_eqi (y := (xs 5)) (rfl) ?_
  refine ky_Vi (As := [.int (xs 1), .int (xs 2), .int (xs 3), .int (xs 4), .int (xs 5)]) (rest := []) ⟨hx, hb, hml, hown, hts⟩ ⟨hK, hN⟩ hZ hP hD hS hA [0, 1] [2, 3] (wc := [(x, .inr (6, [.ref xt, .int 0, .ref xr, .ref xd, .ref xn, .ref xa, .ref xz, .ref xy, .int 0])), (xt, .inl (g 0, 160, .inl (fun _ => 0)))]) (wr := [(m_, .inr (7, [.int 0, .ref mt, .int 0, .int 0, .int 0, .ref mrr, .ref mrh, .ref mrc, .int 0, .int 0, .ref mn, .ref mf, .ref mr, .ref mh, .int 0, .int 0, .ref ma, .ref mas, .ref msn, .ref mac, .ref mat])), (mt, .inl (g 0, 160, .inl (fun _ => 0)))]) rfl rfl rfl rfl (by decide) (c_X6_feed l D g H.size x xt xr xd xn xa xz xy (xs 1) (xs 2) (xs 3) (xs 4) (xs 5) (fun _ => 0)) (cwV 5 hts gL_law_X6_feed rfl rfl rfl (by decide +kernel) ⟨(Nat.le_of_ble_eq_true rfl), (Nat.le_of_ble_eq_true rfl)⟩) 0 6 rfl rfl rfl rfl hl.1 rfl (Nat.le_of_ble_eq_true rfl) dL_law_255 ⟨(Nat.le_of_ble_eq_true rfl), (Nat.le_of_ble_eq_true rfl)⟩ (fun r_3 u H locs hw hP hD hS => ?_)
  obtain ⟨tl2_1, ft2_2, rfl, rfl⟩ := hw
  have hP : va_P D vwCl [(m_, .inr (7, [.int 0, .ref mt, .int 0, .int 0, .int 0, .ref mrr, .ref mrh, .ref mrc, .int 0, .int 0, .ref mn, .ref mf, .ref mr, .ref mh, .int 0, .int 0, .ref ma, .ref mas, .ref msn, .ref mac, .ref mat])), (mt, .inl (g 0, 160, .inl (fun _ => 0))), (x, .inr (6, [.ref xt, .int tl2_1, .ref xr, .ref xd, .ref xn, .ref xa, .ref xz, .ref xy, .int 0])), (xt, .inl (g 0, 160, .inl ft2_2))] H := hP
  have hD : va_D A [(m_, .inr (7, [.int 0, .ref mt, .int 0, .int 0, .int 0, .ref mrr, .ref mrh, .ref mrc, .int 0, .int 0, .ref mn, .ref mf, .ref mr, .ref mh, .int 0, .int 0, .ref ma, .ref mas, .ref msn, .ref mac, .ref mat])), (mt, .inl (g 0, 160, .inl (fun _ => 0))), (x, .inr (6, [.ref xt, .int tl2_1, .ref xr, .ref xd, .ref xn, .ref xa, .ref xz, .ref xy, .int 0])), (xt, .inl (g 0, 160, .inl ft2_2))] := hD
  refine W.widen (k := 91) (n := 5288) (Nat.le_of_ble_eq_true rfl) (Nat.le_of_ble_eq_true rfl) ?_
  refine lv_aload_n hx hb dL_law_258 rfl (lv_at hl 2 rfl) ?_
  refine lv_aload_n hx hb dL_law_259 rfl (lv_at hl 4 rfl) ?_
  refine lv_iload hx hb dL_law_260 (lv_at hl 0 rfl) ?_
  refine lv_iconst (v := 1) hx hb dL_law_262 (by decide) ?_
  refine lv_iadd hx hb dL_law_263 ?_
  refine lv_eqi (y := 1) (by decide) ?_
  refine va_sld hx hb hX hbl hbA hS (by unfold vp_in; decide) dL_law_264 ?_
  refine lv_eqi (y := (xs 1)) (rfl) ?_
  refine lv_aload_n hx hb dL_law_265 rfl (lv_at hl 4 rfl) ?_
  refine lv_iload hx hb dL_law_266 (lv_at hl 0 rfl) ?_
  refine lv_iconst (v := 2) hx hb dL_law_268 (by decide) ?_
  refine lv_iadd hx hb dL_law_269 ?_
  refine lv_eqi (y := 2) (by decide) ?_
  refine va_sld hx hb hX hbl hbA hS (by unfold vp_in; decide) dL_law_270 ?_
  refine lv_eqi (y := (xs 2)) (rfl) ?_
  refine lv_aload_n hx hb dL_law_271 rfl (lv_at hl 4 rfl) ?_
  refine lv_iload hx hb dL_law_272 (lv_at hl 0 rfl) ?_
  refine lv_iconst (v := 3) hx hb dL_law_274 (by decide) ?_
  refine lv_iadd hx hb dL_law_275 ?_
  refine lv_eqi (y := 3) (by decide) ?_
  refine va_sld hx hb hX hbl hbA hS (by unfold vp_in; decide) dL_law_276 ?_
  refine lv_eqi (y := (xs 3)) (rfl) ?_
  refine lv_aload_n hx hb dL_law_277 rfl (lv_at hl 4 rfl) ?_
  refine lv_iload hx hb dL_law_278 (lv_at hl 0 rfl) ?_
  refine lv_iconst (v := 4) hx hb dL_law_280 (by decide) ?_
  refine lv_iadd hx hb dL_law_281 ?_
  refine lv_eqi (y := 4) (by decide) ?_
  refine va_sld hx hb hX hbl hbA hS (by unfold vp_in; decide) dL_law_282 ?_
  refine lv_eqi (y := (xs 4)) (rfl) ?_
  refine lv_aload_n hx hb dL_law_283 rfl (lv_at hl 4 rfl) ?_
  refine lv_iload hx hb dL_law_284 (lv_at hl 0 rfl) ?_
  refine lv_iconst (v := 5) hx hb dL_law_286 (by decide) ?_
  refine lv_iadd hx hb dL_law_287 ?_
  refine lv_eqi (y := 5) (by decide) ?_
  refine va_sld hx hb hX hbl hbA hS (by unfold vp_in; decide) dL_law_288 ?_
  refine lv_eqi (y := (xs 5)) (rfl) ?_
  refine ky_Vi (As := [.int (xs 1), .int (xs 2), .int (xs 3), .int (xs 4), .int (xs 5)]) (rest := [.int (nI (0 + sg (xs 1) + sg (xs 2) + sg (xs 3) + sg (xs 4) + sg (xs 5)))]) ⟨hx, hb, hml, hown, hts⟩ ⟨hK, hN⟩ hZ hP hD hS hA [0, 1] [2, 3] (wc := [(m_, .inr (7, [.int 0, .ref mt, .int 0, .int 0, .int 0, .ref mrr, .ref mrh, .ref mrc, .int 0, .int 0, .ref mn, .ref mf, .ref mr, .ref mh, .int 0, .int 0, .ref ma, .ref mas, .ref msn, .ref mac, .ref mat])), (mt, .inl (g 0, 160, .inl (fun _ => 0)))]) (wr := [(x, .inr (6, [.ref xt, .int tl2_1, .ref xr, .ref xd, .ref xn, .ref xa, .ref xz, .ref xy, .int 0])), (xt, .inl (g 0, 160, .inl ft2_2))]) rfl rfl rfl rfl (by decide) (c_X7_feed l D g H.size m_ 0 mt 0 0 mrr mrh mrc 0 0 mn mf mr mh ma mas msn mac mat (xs 1) (xs 2) (xs 3) (xs 4) (xs 5) (fun _ => 0)) (cwV 5 hts gL_law_X7_feed rfl rfl rfl (by decide +kernel) ⟨(Nat.le_of_ble_eq_true rfl), (Nat.le_of_ble_eq_true rfl)⟩) 0 7 rfl rfl rfl rfl hl.1 rfl (Nat.le_of_ble_eq_true rfl) dL_law_289 ⟨(Nat.le_of_ble_eq_true rfl), (Nat.le_of_ble_eq_true rfl)⟩ (fun r_6 u H locs hw hP hD hS => ?_)
  obtain ⟨tp2_4, ft3_5, rfl, rfl⟩ := hw
  have hP : va_P D vwCl [(x, .inr (6, [.ref xt, .int tl2_1, .ref xr, .ref xd, .ref xn, .ref xa, .ref xz, .ref xy, .int 0])), (xt, .inl (g 0, 160, .inl ft2_2)), (m_, .inr (7, [.int 0, .ref mt, .int tp2_4, .int 0, .int 0, .ref mrr, .ref mrh, .ref mrc, .int 0, .int 0, .ref mn, .ref mf, .ref mr, .ref mh, .int 0, .int 0, .ref ma, .ref mas, .ref msn, .ref mac, .ref mat])), (mt, .inl (g 0, 160, .inl ft3_5))] H := hP
  have hD : va_D A [(x, .inr (6, [.ref xt, .int tl2_1, .ref xr, .ref xd, .ref xn, .ref xa, .ref xz, .ref xy, .int 0])), (xt, .inl (g 0, 160, .inl ft2_2)), (m_, .inr (7, [.int 0, .ref mt, .int tp2_4, .int 0, .int 0, .ref mrr, .ref mrh, .ref mrc, .int 0, .int 0, .ref mn, .ref mf, .ref mr, .ref mh, .int 0, .int 0, .ref ma, .ref mas, .ref msn, .ref mac, .ref mat])), (mt, .inl (g 0, 160, .inl ft3_5))] := hD
  refine W.widen (k := 91) (n := 5288) (Nat.le_of_ble_eq_true rfl) (Nat.le_of_ble_eq_true rfl) ?_
  refine lv_icmp_eq (tgt := 1900) hx hb dL_law_292 (by decide) (fun _ => ?_) (fun cb => absurd (feed_eq (xs 1) (xs 2) (xs 3) (xs 4) (xs 5)) cb)
  subst hAe
  refine W.widen (k := 600002) (n := 7302232) (Nat.le_of_ble_eq_true rfl) (Nat.le_of_ble_eq_true rfl) ?_
  exact law_tail l C0 hS (lv_sub hl [0, 4] rfl)
set_option maxHeartbeats 4000000 in
set_option maxRecDepth 100000 in
/-- end -/
theorem law_case_1 {p : Program} {e : Env} {s : State} {m : MethodId} {below : List Frame} {meth : Method} {c : Code} (l : Launch) (hl9 : l.stackTraces = false) {b : Nat} {xs : Nat → Int32} (C0 : lw_At p s m meth c b 6 xs) (D : va_G) (g : Nat → ClassId) (hK : va_K D vwCl (kY g) s) (hN : kn g s) (hZ : ks g (fun q : Nat => s.heap.size ≤ q) s s.heap) {m_ ma mac mas mat mf mh mn mr mrc mrh mrr msn mt o_ x xa xd xn xr xt xy xz : Nat} {H : Heap} {locs : List Loc} {ls : Array Slot} (hP : va_P D vwCl [(x, .inr (6, [.ref xt, .int 0, .ref xr, .ref xd, .ref xn, .ref xa, .ref xz, .ref xy, .int 0])), (m_, .inr (7, [.int 0, .ref mt, .int 0, .int 0, .int 0, .ref mrr, .ref mrh, .ref mrc, .int 0, .int 0, .ref mn, .ref mf, .ref mr, .ref mh, .int 0, .int 0, .ref ma, .ref mas, .ref msn, .ref mac, .ref mat]))] H) (hD : va_D (fun q : Nat => s.heap.size ≤ q) [(x, .inr (6, [.ref xt, .int 0, .ref xr, .ref xd, .ref xn, .ref xa, .ref xz, .ref xy, .int 0])), (m_, .inr (7, [.int 0, .ref mt, .int 0, .int 0, .int 0, .ref mrr, .ref mrh, .ref mrc, .int 0, .int 0, .ref mn, .ref mf, .ref mr, .ref mh, .int 0, .int 0, .ref ma, .ref mas, .ref msn, .ref mac, .ref mat]))]) (hS : va_S (fun q : Nat => s.heap.size ≤ q) s.heap H locs) (hl : lv_has ls 7 [(4, .int 0), (3, .ref o_), (2, .ref m_), (1, .ref x), (0, .ref b)]) : W p l e room_1 s m #[Value.ref b] below meth c H locs 91 5288 (lw_Z below #[Value.ref b] s) (F0 m 297 ls []) := by
  obtain ⟨hx, hb, hr, hml, hown, hts0, hX, hbl, hlocks, hgv⟩ := id C0
  have hts : ∀ w ∈ wsL_law, w.before #[Value.ref b] s = true := fun w h => hts0 w (wsL_law_in w h)
  have hA : ∀ q : Nat, s.heap.size ≤ q → (fun q : Nat => s.heap.size ≤ q) q := fun _ h => h
  have hbA : ¬ (fun q : Nat => s.heap.size ≤ q) b := Nat.not_le.mpr hbl
  generalize hAe : (fun q : Nat => s.heap.size ≤ q) = A at hA hbA hZ hD hS
  refine lv_aload_n hx hb dL_law_297 rfl (lv_at hl 3 rfl) ?_
  refine lv_aload_n hx hb dL_law_298 rfl (lv_at hl 4 rfl) ?_
  refine lv_iload hx hb dL_law_299 (lv_at hl 0 rfl) ?_
  refine lv_iconst (v := 1) hx hb dL_law_301 (by decide) ?_
  refine lv_iadd hx hb dL_law_302 ?_
  refine lv_eqi (y := 1) (by decide) ?_
  refine va_sld hx hb hX hbl hbA hS (by unfold vp_in; decide) dL_law_303 ?_
  refine lv_eqi (y := (xs 1)) (rfl) ?_
  refine ky_Vi (As := [.int (xs 1)]) (rest := []) ⟨hx, hb, hml, hown, hts⟩ ⟨hK, hN⟩ hZ hP hD hS hA [0] [1] (wc := [(x, .inr (6, [.ref xt, .int 0, .ref xr, .ref xd, .ref xn, .ref xa, .ref xz, .ref xy, .int 0]))]) (wr := [(m_, .inr (7, [.int 0, .ref mt, .int 0, .int 0, .int 0, .ref mrr, .ref mrh, .ref mrc, .int 0, .int 0, .ref mn, .ref mf, .ref mr, .ref mh, .int 0, .int 0, .ref ma, .ref mas, .ref msn, .ref mac, .ref mat]))]) rfl rfl rfl rfl (by decide) (c_X6_end l D g H.size x xt 0 xr xd xn xa xz xy (xs 1)) (cwV 1 hts gL_law_X6_end rfl rfl rfl (by decide +kernel) ⟨(Nat.le_of_ble_eq_true rfl), (Nat.le_of_ble_eq_true rfl)⟩) 0 6 rfl rfl rfl rfl hl.1 rfl (Nat.le_of_ble_eq_true rfl) dL_law_304 ⟨(Nat.le_of_ble_eq_true rfl), (Nat.le_of_ble_eq_true rfl)⟩ (fun r_2 u H locs hw hP hD hS => ?_)
  obtain ⟨tl2_1, rfl, rfl⟩ := hw
  have hP : va_P D vwCl [(m_, .inr (7, [.int 0, .ref mt, .int 0, .int 0, .int 0, .ref mrr, .ref mrh, .ref mrc, .int 0, .int 0, .ref mn, .ref mf, .ref mr, .ref mh, .int 0, .int 0, .ref ma, .ref mas, .ref msn, .ref mac, .ref mat])), (x, .inr (6, [.ref xt, .int tl2_1, .ref xr, .ref xd, .ref xn, .ref xa, .ref xz, .ref xy, .int 0]))] H := hP
  have hD : va_D A [(m_, .inr (7, [.int 0, .ref mt, .int 0, .int 0, .int 0, .ref mrr, .ref mrh, .ref mrc, .int 0, .int 0, .ref mn, .ref mf, .ref mr, .ref mh, .int 0, .int 0, .ref ma, .ref mas, .ref msn, .ref mac, .ref mat])), (x, .inr (6, [.ref xt, .int tl2_1, .ref xr, .ref xd, .ref xn, .ref xa, .ref xz, .ref xy, .int 0]))] := hD
  refine W.widen (k := 91) (n := 5288) (Nat.le_of_ble_eq_true rfl) (Nat.le_of_ble_eq_true rfl) ?_
  refine lv_aload_n hx hb dL_law_307 rfl (lv_at hl 2 rfl) ?_
  refine lv_aload_n hx hb dL_law_308 rfl (lv_at hl 4 rfl) ?_
  refine lv_iload hx hb dL_law_309 (lv_at hl 0 rfl) ?_
  refine lv_iconst (v := 1) hx hb dL_law_311 (by decide) ?_
  refine lv_iadd hx hb dL_law_312 ?_
  refine lv_eqi (y := 1) (by decide) ?_
  refine va_sld hx hb hX hbl hbA hS (by unfold vp_in; decide) dL_law_313 ?_
  refine lv_eqi (y := (xs 1)) (rfl) ?_
  refine ky_Vi (As := [.int (xs 1)]) (rest := [.int (if (xs 1) < 0 ∨ 0 < (xs 1) then 0 else 1)]) ⟨hx, hb, hml, hown, hts⟩ ⟨hK, hN⟩ hZ hP hD hS hA [0] [1] (wc := [(m_, .inr (7, [.int 0, .ref mt, .int 0, .int 0, .int 0, .ref mrr, .ref mrh, .ref mrc, .int 0, .int 0, .ref mn, .ref mf, .ref mr, .ref mh, .int 0, .int 0, .ref ma, .ref mas, .ref msn, .ref mac, .ref mat]))]) (wr := [(x, .inr (6, [.ref xt, .int tl2_1, .ref xr, .ref xd, .ref xn, .ref xa, .ref xz, .ref xy, .int 0]))]) rfl rfl rfl rfl (by decide) (c_X7_end l D g H.size m_ 0 mt 0 0 0 mrr mrh mrc 0 0 mn mf mr mh ma mas msn mac mat (xs 1)) (cwV 1 hts gL_law_X7_end rfl rfl rfl (by decide +kernel) ⟨(Nat.le_of_ble_eq_true rfl), (Nat.le_of_ble_eq_true rfl)⟩) 0 7 rfl rfl rfl rfl hl.1 rfl (Nat.le_of_ble_eq_true rfl) dL_law_314 ⟨(Nat.le_of_ble_eq_true rfl), (Nat.le_of_ble_eq_true rfl)⟩ (fun r_4 u H locs hw hP hD hS => ?_)
  obtain ⟨tp2_3, rfl, rfl⟩ := hw
  have hP : va_P D vwCl [(x, .inr (6, [.ref xt, .int tl2_1, .ref xr, .ref xd, .ref xn, .ref xa, .ref xz, .ref xy, .int 0])), (m_, .inr (7, [.int 0, .ref mt, .int tp2_3, .int 0, .int 0, .ref mrr, .ref mrh, .ref mrc, .int 0, .int 0, .ref mn, .ref mf, .ref mr, .ref mh, .int 0, .int 0, .ref ma, .ref mas, .ref msn, .ref mac, .ref mat]))] H := hP
  have hD : va_D A [(x, .inr (6, [.ref xt, .int tl2_1, .ref xr, .ref xd, .ref xn, .ref xa, .ref xz, .ref xy, .int 0])), (m_, .inr (7, [.int 0, .ref mt, .int tp2_3, .int 0, .int 0, .ref mrr, .ref mrh, .ref mrc, .int 0, .int 0, .ref mn, .ref mf, .ref mr, .ref mh, .int 0, .int 0, .ref ma, .ref mas, .ref msn, .ref mac, .ref mat]))] := hD
  refine W.widen (k := 91) (n := 5288) (Nat.le_of_ble_eq_true rfl) (Nat.le_of_ble_eq_true rfl) ?_
  refine lv_icmp_eq (tgt := 1900) hx hb dL_law_317 (by decide) (fun _ => ?_) (fun cb => absurd (end_eq (xs 1)) cb)
  subst hAe
  refine W.widen (k := 600002) (n := 7302232) (Nat.le_of_ble_eq_true rfl) (Nat.le_of_ble_eq_true rfl) ?_
  exact law_tail l C0 hS (lv_sub hl [0, 4] rfl)
set_option maxHeartbeats 4000000 in
set_option maxRecDepth 100000 in
/-- fault -/
theorem law_case_2 {p : Program} {e : Env} {s : State} {m : MethodId} {below : List Frame} {meth : Method} {c : Code} (l : Launch) (hl9 : l.stackTraces = false) {b : Nat} {xs : Nat → Int32} (C0 : lw_At p s m meth c b 6 xs) (D : va_G) (g : Nat → ClassId) (hK : va_K D vwCl (kY g) s) (hN : kn g s) (hZ : ks g (fun q : Nat => s.heap.size ≤ q) s s.heap) {d1 d2 m_ ma mac mas mat mf mh mn mr mrc mrh mrr msn mt o_ x xa xd xn xr xt xy xz : Nat} {H : Heap} {locs : List Loc} {ls : Array Slot} (hP : va_P D vwCl [(x, .inr (6, [.ref xt, .int 0, .ref xr, .ref xd, .ref xn, .ref xa, .ref xz, .ref xy, .int 0])), (xt, .inl (g 0, 160, .inl (fun _ => 0))), (xd, .inr (4, [.ref d1, .int 0, .int 0, .int 0, .int 0, .int 0, .ref d2])), (d2, .inl (g 0, 21, .inl (fun _ => 0))), (m_, .inr (7, [.int 0, .ref mt, .int 0, .int 0, .int 0, .ref mrr, .ref mrh, .ref mrc, .int 0, .int 0, .ref mn, .ref mf, .ref mr, .ref mh, .int 0, .int 0, .ref ma, .ref mas, .ref msn, .ref mac, .ref mat])), (mrr, .inl (g 0, 3, .inl (fun _ => 0)))] H) (hD : va_D (fun q : Nat => s.heap.size ≤ q) [(x, .inr (6, [.ref xt, .int 0, .ref xr, .ref xd, .ref xn, .ref xa, .ref xz, .ref xy, .int 0])), (xt, .inl (g 0, 160, .inl (fun _ => 0))), (xd, .inr (4, [.ref d1, .int 0, .int 0, .int 0, .int 0, .int 0, .ref d2])), (d2, .inl (g 0, 21, .inl (fun _ => 0))), (m_, .inr (7, [.int 0, .ref mt, .int 0, .int 0, .int 0, .ref mrr, .ref mrh, .ref mrc, .int 0, .int 0, .ref mn, .ref mf, .ref mr, .ref mh, .int 0, .int 0, .ref ma, .ref mas, .ref msn, .ref mac, .ref mat])), (mrr, .inl (g 0, 3, .inl (fun _ => 0)))]) (hS : va_S (fun q : Nat => s.heap.size ≤ q) s.heap H locs) (hl : lv_has ls 7 [(4, .int 0), (3, .ref o_), (2, .ref m_), (1, .ref x), (0, .ref b)]) : W p l e room_1 s m #[Value.ref b] below meth c H locs 91 5288 (lw_Z below #[Value.ref b] s) (F0 m 322 ls []) := by
  obtain ⟨hx, hb, hr, hml, hown, hts0, hX, hbl, hlocks, hgv⟩ := id C0
  have hts : ∀ w ∈ wsL_law, w.before #[Value.ref b] s = true := fun w h => hts0 w (wsL_law_in w h)
  have hA : ∀ q : Nat, s.heap.size ≤ q → (fun q : Nat => s.heap.size ≤ q) q := fun _ h => h
  have hbA : ¬ (fun q : Nat => s.heap.size ≤ q) b := Nat.not_le.mpr hbl
  generalize hAe : (fun q : Nat => s.heap.size ≤ q) = A at hA hbA hZ hD hS
  refine lv_aload_n hx hb dL_law_322 rfl (lv_at hl 3 rfl) ?_
  refine ky_Vi (As := []) (rest := []) ⟨hx, hb, hml, hown, hts⟩ ⟨hK, hN⟩ hZ hP hD hS hA [0, 2, 3, 1] [4, 5] (wc := [(x, .inr (6, [.ref xt, .int 0, .ref xr, .ref xd, .ref xn, .ref xa, .ref xz, .ref xy, .int 0])), (xd, .inr (4, [.ref d1, .int 0, .int 0, .int 0, .int 0, .int 0, .ref d2])), (d2, .inl (g 0, 21, .inl (fun _ => 0))), (xt, .inl (g 0, 160, .inl (fun _ => 0)))]) (wr := [(m_, .inr (7, [.int 0, .ref mt, .int 0, .int 0, .int 0, .ref mrr, .ref mrh, .ref mrc, .int 0, .int 0, .ref mn, .ref mf, .ref mr, .ref mh, .int 0, .int 0, .ref ma, .ref mas, .ref msn, .ref mac, .ref mat])), (mrr, .inl (g 0, 3, .inl (fun _ => 0)))]) rfl rfl rfl rfl (by decide) (c_X6_fault l D g H.size x xt xr xd xn xa xz xy d1 0 0 0 0 0 d2 (fun _ => 0) (fun _ => 0)) (cwV 0 hts gL_law_X6_fault rfl rfl rfl (by decide +kernel) ⟨(Nat.le_of_ble_eq_true rfl), (Nat.le_of_ble_eq_true rfl)⟩) 0 6 rfl rfl rfl rfl hl.1 rfl (Nat.le_of_ble_eq_true rfl) dL_law_323 ⟨(Nat.le_of_ble_eq_true rfl), (Nat.le_of_ble_eq_true rfl)⟩ (fun r_2 u H locs hw hP hD hS => ?_)
  obtain ⟨fv2_1, rfl, rfl⟩ := hw
  have hP : va_P D vwCl [(m_, .inr (7, [.int 0, .ref mt, .int 0, .int 0, .int 0, .ref mrr, .ref mrh, .ref mrc, .int 0, .int 0, .ref mn, .ref mf, .ref mr, .ref mh, .int 0, .int 0, .ref ma, .ref mas, .ref msn, .ref mac, .ref mat])), (mrr, .inl (g 0, 3, .inl (fun _ => 0))), (x, .inr (6, [.ref xt, .int 0, .ref xr, .ref xd, .ref xn, .ref xa, .ref xz, .ref xy, .int 0])), (xd, .inr (4, [.ref xt, .int 0, .int 1, .int 0, .int 0, .int 0, .ref d2])), (d2, .inl (g 0, 21, .inl fv2_1)), (xt, .inl (g 0, 160, .inl (fun _ => 0)))] H := hP
  have hD : va_D A [(m_, .inr (7, [.int 0, .ref mt, .int 0, .int 0, .int 0, .ref mrr, .ref mrh, .ref mrc, .int 0, .int 0, .ref mn, .ref mf, .ref mr, .ref mh, .int 0, .int 0, .ref ma, .ref mas, .ref msn, .ref mac, .ref mat])), (mrr, .inl (g 0, 3, .inl (fun _ => 0))), (x, .inr (6, [.ref xt, .int 0, .ref xr, .ref xd, .ref xn, .ref xa, .ref xz, .ref xy, .int 0])), (xd, .inr (4, [.ref xt, .int 0, .int 1, .int 0, .int 0, .int 0, .ref d2])), (d2, .inl (g 0, 21, .inl fv2_1)), (xt, .inl (g 0, 160, .inl (fun _ => 0)))] := hD
  refine W.widen (k := 91) (n := 5288) (Nat.le_of_ble_eq_true rfl) (Nat.le_of_ble_eq_true rfl) ?_
  refine lv_aload_n hx hb dL_law_326 rfl (lv_at hl 2 rfl) ?_
  refine ky_Vi (As := []) (rest := [.int 0]) ⟨hx, hb, hml, hown, hts⟩ ⟨hK, hN⟩ hZ hP hD hS hA [0, 1] [2, 3, 4, 5] (wc := [(m_, .inr (7, [.int 0, .ref mt, .int 0, .int 0, .int 0, .ref mrr, .ref mrh, .ref mrc, .int 0, .int 0, .ref mn, .ref mf, .ref mr, .ref mh, .int 0, .int 0, .ref ma, .ref mas, .ref msn, .ref mac, .ref mat])), (mrr, .inl (g 0, 3, .inl (fun _ => 0)))]) (wr := [(x, .inr (6, [.ref xt, .int 0, .ref xr, .ref xd, .ref xn, .ref xa, .ref xz, .ref xy, .int 0])), (xd, .inr (4, [.ref xt, .int 0, .int 1, .int 0, .int 0, .int 0, .ref d2])), (d2, .inl (g 0, 21, .inl fv2_1)), (xt, .inl (g 0, 160, .inl (fun _ => 0)))]) rfl rfl rfl rfl (by decide) (c_X7_fault l D g H.size m_ 0 mt 0 0 mrr mrh mrc 0 0 mn mf mr mh ma mas msn mac mat (fun _ => 0)) (cwV 0 hts gL_law_X7_fault rfl rfl rfl (by decide +kernel) ⟨(Nat.le_of_ble_eq_true rfl), (Nat.le_of_ble_eq_true rfl)⟩) 0 7 rfl rfl rfl rfl hl.1 rfl (Nat.le_of_ble_eq_true rfl) dL_law_327 ⟨(Nat.le_of_ble_eq_true rfl), (Nat.le_of_ble_eq_true rfl)⟩ (fun r_3 u H locs hw hP hD hS => ?_)
  obtain ⟨rfl, rfl⟩ := hw
  have hP : va_P D vwCl [(x, .inr (6, [.ref xt, .int 0, .ref xr, .ref xd, .ref xn, .ref xa, .ref xz, .ref xy, .int 0])), (xd, .inr (4, [.ref xt, .int 0, .int 1, .int 0, .int 0, .int 0, .ref d2])), (d2, .inl (g 0, 21, .inl fv2_1)), (xt, .inl (g 0, 160, .inl (fun _ => 0))), (m_, .inr (7, [.int 0, .ref mt, .int 0, .int 0, .int 0, .ref mrr, .ref mrh, .ref mrc, .int 0, .int 0, .ref mn, .ref mf, .ref mr, .ref mh, .int 0, .int 0, .ref ma, .ref mas, .ref msn, .ref mac, .ref mat])), (mrr, .inl (g 0, 3, .inl (upd (upd (upd (fun _ => 0) 0 1) 1 0) 2 0)))] H := hP
  have hD : va_D A [(x, .inr (6, [.ref xt, .int 0, .ref xr, .ref xd, .ref xn, .ref xa, .ref xz, .ref xy, .int 0])), (xd, .inr (4, [.ref xt, .int 0, .int 1, .int 0, .int 0, .int 0, .ref d2])), (d2, .inl (g 0, 21, .inl fv2_1)), (xt, .inl (g 0, 160, .inl (fun _ => 0))), (m_, .inr (7, [.int 0, .ref mt, .int 0, .int 0, .int 0, .ref mrr, .ref mrh, .ref mrc, .int 0, .int 0, .ref mn, .ref mf, .ref mr, .ref mh, .int 0, .int 0, .ref ma, .ref mas, .ref msn, .ref mac, .ref mat])), (mrr, .inl (g 0, 3, .inl (upd (upd (upd (fun _ => 0) 0 1) 1 0) 2 0)))] := hD
  refine W.widen (k := 91) (n := 5288) (Nat.le_of_ble_eq_true rfl) (Nat.le_of_ble_eq_true rfl) ?_
  refine lv_icmp_eq (tgt := 1900) hx hb dL_law_330 (by decide) (fun _ => ?_) (fun cb => absurd (by decide) cb)
  subst hAe
  refine W.widen (k := 600002) (n := 7302232) (Nat.le_of_ble_eq_true rfl) (Nat.le_of_ble_eq_true rfl) ?_
  exact law_tail l C0 hS (lv_sub hl [0, 4] rfl)
set_option maxHeartbeats 4000000 in
set_option maxRecDepth 100000 in
/-- net -/
theorem law_case_3 {p : Program} {e : Env} {s : State} {m : MethodId} {below : List Frame} {meth : Method} {c : Code} (l : Launch) (hl9 : l.stackTraces = false) {b : Nat} {xs : Nat → Int32} (C0 : lw_At p s m meth c b 6 xs) (D : va_G) (g : Nat → ClassId) (hK : va_K D vwCl (kY g) s) (hN : kn g s) (hZ : ks g (fun q : Nat => s.heap.size ≤ q) s s.heap) {d1 d2 m_ ma mac mas mat mf mh mn mr mrc mrh mrr msn mt o_ x xa xd xn xr xt xy xz : Nat} {H : Heap} {locs : List Loc} {ls : Array Slot} (hP : va_P D vwCl [(x, .inr (6, [.ref xt, .int 0, .ref xr, .ref xd, .ref xn, .ref xa, .ref xz, .ref xy, .int 0])), (xt, .inl (g 0, 160, .inl (fun _ => 0))), (xd, .inr (4, [.ref d1, .int 0, .int 0, .int 0, .int 0, .int 0, .ref d2])), (d2, .inl (g 0, 21, .inl (fun _ => 0))), (m_, .inr (7, [.int 0, .ref mt, .int 0, .int 0, .int 0, .ref mrr, .ref mrh, .ref mrc, .int 0, .int 0, .ref mn, .ref mf, .ref mr, .ref mh, .int 0, .int 0, .ref ma, .ref mas, .ref msn, .ref mac, .ref mat])), (mrr, .inl (g 0, 3, .inl (fun _ => 0)))] H) (hD : va_D (fun q : Nat => s.heap.size ≤ q) [(x, .inr (6, [.ref xt, .int 0, .ref xr, .ref xd, .ref xn, .ref xa, .ref xz, .ref xy, .int 0])), (xt, .inl (g 0, 160, .inl (fun _ => 0))), (xd, .inr (4, [.ref d1, .int 0, .int 0, .int 0, .int 0, .int 0, .ref d2])), (d2, .inl (g 0, 21, .inl (fun _ => 0))), (m_, .inr (7, [.int 0, .ref mt, .int 0, .int 0, .int 0, .ref mrr, .ref mrh, .ref mrc, .int 0, .int 0, .ref mn, .ref mf, .ref mr, .ref mh, .int 0, .int 0, .ref ma, .ref mas, .ref msn, .ref mac, .ref mat])), (mrr, .inl (g 0, 3, .inl (fun _ => 0)))]) (hS : va_S (fun q : Nat => s.heap.size ≤ q) s.heap H locs) (hl : lv_has ls 7 [(4, .int 0), (3, .ref o_), (2, .ref m_), (1, .ref x), (0, .ref b)]) : W p l e room_1 s m #[Value.ref b] below meth c H locs 91 5288 (lw_Z below #[Value.ref b] s) (F0 m 335 ls []) := by
  obtain ⟨hx, hb, hr, hml, hown, hts0, hX, hbl, hlocks, hgv⟩ := id C0
  have hts : ∀ w ∈ wsL_law, w.before #[Value.ref b] s = true := fun w h => hts0 w (wsL_law_in w h)
  have hA : ∀ q : Nat, s.heap.size ≤ q → (fun q : Nat => s.heap.size ≤ q) q := fun _ h => h
  have hbA : ¬ (fun q : Nat => s.heap.size ≤ q) b := Nat.not_le.mpr hbl
  generalize hAe : (fun q : Nat => s.heap.size ≤ q) = A at hA hbA hZ hD hS
  refine lv_aload_n hx hb dL_law_335 rfl (lv_at hl 3 rfl) ?_
  refine ky_Vi (As := []) (rest := []) ⟨hx, hb, hml, hown, hts⟩ ⟨hK, hN⟩ hZ hP hD hS hA [0, 2, 3, 1] [4, 5] (wc := [(x, .inr (6, [.ref xt, .int 0, .ref xr, .ref xd, .ref xn, .ref xa, .ref xz, .ref xy, .int 0])), (xd, .inr (4, [.ref d1, .int 0, .int 0, .int 0, .int 0, .int 0, .ref d2])), (d2, .inl (g 0, 21, .inl (fun _ => 0))), (xt, .inl (g 0, 160, .inl (fun _ => 0)))]) (wr := [(m_, .inr (7, [.int 0, .ref mt, .int 0, .int 0, .int 0, .ref mrr, .ref mrh, .ref mrc, .int 0, .int 0, .ref mn, .ref mf, .ref mr, .ref mh, .int 0, .int 0, .ref ma, .ref mas, .ref msn, .ref mac, .ref mat])), (mrr, .inl (g 0, 3, .inl (fun _ => 0)))]) rfl rfl rfl rfl (by decide) (c_X6_net l D g H.size x xt xr xd xn xa xz xy d1 0 0 0 0 0 d2 (fun _ => 0) (fun _ => 0)) (cwV 0 hts gL_law_X6_net rfl rfl rfl (by decide +kernel) ⟨(Nat.le_of_ble_eq_true rfl), (Nat.le_of_ble_eq_true rfl)⟩) 0 6 rfl rfl rfl rfl hl.1 rfl (Nat.le_of_ble_eq_true rfl) dL_law_336 ⟨(Nat.le_of_ble_eq_true rfl), (Nat.le_of_ble_eq_true rfl)⟩ (fun r_2 u H locs hw hP hD hS => ?_)
  obtain ⟨fv2_1, rfl, rfl⟩ := hw
  have hP : va_P D vwCl [(m_, .inr (7, [.int 0, .ref mt, .int 0, .int 0, .int 0, .ref mrr, .ref mrh, .ref mrc, .int 0, .int 0, .ref mn, .ref mf, .ref mr, .ref mh, .int 0, .int 0, .ref ma, .ref mas, .ref msn, .ref mac, .ref mat])), (mrr, .inl (g 0, 3, .inl (fun _ => 0))), (x, .inr (6, [.ref xt, .int 0, .ref xr, .ref xd, .ref xn, .ref xa, .ref xz, .ref xy, .int 0])), (xd, .inr (4, [.ref xt, .int 0, .int 1, .int 0, .int 0, .int 0, .ref d2])), (d2, .inl (g 0, 21, .inl fv2_1)), (xt, .inl (g 0, 160, .inl (fun _ => 0)))] H := hP
  have hD : va_D A [(m_, .inr (7, [.int 0, .ref mt, .int 0, .int 0, .int 0, .ref mrr, .ref mrh, .ref mrc, .int 0, .int 0, .ref mn, .ref mf, .ref mr, .ref mh, .int 0, .int 0, .ref ma, .ref mas, .ref msn, .ref mac, .ref mat])), (mrr, .inl (g 0, 3, .inl (fun _ => 0))), (x, .inr (6, [.ref xt, .int 0, .ref xr, .ref xd, .ref xn, .ref xa, .ref xz, .ref xy, .int 0])), (xd, .inr (4, [.ref xt, .int 0, .int 1, .int 0, .int 0, .int 0, .ref d2])), (d2, .inl (g 0, 21, .inl fv2_1)), (xt, .inl (g 0, 160, .inl (fun _ => 0)))] := hD
  refine W.widen (k := 91) (n := 5288) (Nat.le_of_ble_eq_true rfl) (Nat.le_of_ble_eq_true rfl) ?_
  refine lv_aload_n hx hb dL_law_339 rfl (lv_at hl 2 rfl) ?_
  refine ky_Vi (As := []) (rest := [.int (-1)]) ⟨hx, hb, hml, hown, hts⟩ ⟨hK, hN⟩ hZ hP hD hS hA [0, 1] [2, 3, 4, 5] (wc := [(m_, .inr (7, [.int 0, .ref mt, .int 0, .int 0, .int 0, .ref mrr, .ref mrh, .ref mrc, .int 0, .int 0, .ref mn, .ref mf, .ref mr, .ref mh, .int 0, .int 0, .ref ma, .ref mas, .ref msn, .ref mac, .ref mat])), (mrr, .inl (g 0, 3, .inl (fun _ => 0)))]) (wr := [(x, .inr (6, [.ref xt, .int 0, .ref xr, .ref xd, .ref xn, .ref xa, .ref xz, .ref xy, .int 0])), (xd, .inr (4, [.ref xt, .int 0, .int 1, .int 0, .int 0, .int 0, .ref d2])), (d2, .inl (g 0, 21, .inl fv2_1)), (xt, .inl (g 0, 160, .inl (fun _ => 0)))]) rfl rfl rfl rfl (by decide) (c_X7_net l D g H.size m_ 0 mt 0 0 mrr mrh mrc 0 0 mn mf mr mh ma mas msn mac mat (fun _ => 0)) (cwV 0 hts gL_law_X7_net rfl rfl rfl (by decide +kernel) ⟨(Nat.le_of_ble_eq_true rfl), (Nat.le_of_ble_eq_true rfl)⟩) 0 7 rfl rfl rfl rfl hl.1 rfl (Nat.le_of_ble_eq_true rfl) dL_law_340 ⟨(Nat.le_of_ble_eq_true rfl), (Nat.le_of_ble_eq_true rfl)⟩ (fun r_3 u H locs hw hP hD hS => ?_)
  obtain ⟨rfl, rfl⟩ := hw
  have hP : va_P D vwCl [(x, .inr (6, [.ref xt, .int 0, .ref xr, .ref xd, .ref xn, .ref xa, .ref xz, .ref xy, .int 0])), (xd, .inr (4, [.ref xt, .int 0, .int 1, .int 0, .int 0, .int 0, .ref d2])), (d2, .inl (g 0, 21, .inl fv2_1)), (xt, .inl (g 0, 160, .inl (fun _ => 0))), (m_, .inr (7, [.int 0, .ref mt, .int 0, .int 0, .int 0, .ref mrr, .ref mrh, .ref mrc, .int 0, .int 0, .ref mn, .ref mf, .ref mr, .ref mh, .int 0, .int 0, .ref ma, .ref mas, .ref msn, .ref mac, .ref mat])), (mrr, .inl (g 0, 3, .inl (upd (upd (upd (fun _ => 0) 0 1) 1 0) 2 0)))] H := hP
  have hD : va_D A [(x, .inr (6, [.ref xt, .int 0, .ref xr, .ref xd, .ref xn, .ref xa, .ref xz, .ref xy, .int 0])), (xd, .inr (4, [.ref xt, .int 0, .int 1, .int 0, .int 0, .int 0, .ref d2])), (d2, .inl (g 0, 21, .inl fv2_1)), (xt, .inl (g 0, 160, .inl (fun _ => 0))), (m_, .inr (7, [.int 0, .ref mt, .int 0, .int 0, .int 0, .ref mrr, .ref mrh, .ref mrc, .int 0, .int 0, .ref mn, .ref mf, .ref mr, .ref mh, .int 0, .int 0, .ref ma, .ref mas, .ref msn, .ref mac, .ref mat])), (mrr, .inl (g 0, 3, .inl (upd (upd (upd (fun _ => 0) 0 1) 1 0) 2 0)))] := hD
  refine W.widen (k := 91) (n := 5288) (Nat.le_of_ble_eq_true rfl) (Nat.le_of_ble_eq_true rfl) ?_
  refine lv_icmp_eq (tgt := 1900) hx hb dL_law_343 (by decide) (fun _ => ?_) (fun cb => absurd (by decide) cb)
  subst hAe
  refine W.widen (k := 600002) (n := 7302232) (Nat.le_of_ble_eq_true rfl) (Nat.le_of_ble_eq_true rfl) ?_
  exact law_tail l C0 hS (lv_sub hl [0, 4] rfl)
set_option maxHeartbeats 4000000 in
set_option maxRecDepth 100000 in
/-- rule -/
theorem law_case_4 {p : Program} {e : Env} {s : State} {m : MethodId} {below : List Frame} {meth : Method} {c : Code} (l : Launch) (hl9 : l.stackTraces = false) {b : Nat} {xs : Nat → Int32} (C0 : lw_At p s m meth c b 6 xs) (D : va_G) (g : Nat → ClassId) (hK : va_K D vwCl (kY g) s) (hN : kn g s) (hZ : ks g (fun q : Nat => s.heap.size ≤ q) s s.heap) {m_ ma mac mas mat mf mh mn mr mrc mrh mrr msn mt o_ x xa xd xn xr xt xy xz : Nat} {H : Heap} {locs : List Loc} {ls : Array Slot} (hP : va_P D vwCl [(x, .inr (6, [.ref xt, .int 0, .ref xr, .ref xd, .ref xn, .ref xa, .ref xz, .ref xy, .int 0])), (m_, .inr (7, [.int 0, .ref mt, .int 0, .int 0, .int 0, .ref mrr, .ref mrh, .ref mrc, .int 0, .int 0, .ref mn, .ref mf, .ref mr, .ref mh, .int 0, .int 0, .ref ma, .ref mas, .ref msn, .ref mac, .ref mat]))] H) (hD : va_D (fun q : Nat => s.heap.size ≤ q) [(x, .inr (6, [.ref xt, .int 0, .ref xr, .ref xd, .ref xn, .ref xa, .ref xz, .ref xy, .int 0])), (m_, .inr (7, [.int 0, .ref mt, .int 0, .int 0, .int 0, .ref mrr, .ref mrh, .ref mrc, .int 0, .int 0, .ref mn, .ref mf, .ref mr, .ref mh, .int 0, .int 0, .ref ma, .ref mas, .ref msn, .ref mac, .ref mat]))]) (hS : va_S (fun q : Nat => s.heap.size ≤ q) s.heap H locs) (hl : lv_has ls 7 [(4, .int 0), (3, .ref o_), (2, .ref m_), (1, .ref x), (0, .ref b)]) : W p l e room_1 s m #[Value.ref b] below meth c H locs 91 5288 (lw_Z below #[Value.ref b] s) (F0 m 348 ls []) := by
  obtain ⟨hx, hb, hr, hml, hown, hts0, hX, hbl, hlocks, hgv⟩ := id C0
  have hts : ∀ w ∈ wsL_law, w.before #[Value.ref b] s = true := fun w h => hts0 w (wsL_law_in w h)
  have hA : ∀ q : Nat, s.heap.size ≤ q → (fun q : Nat => s.heap.size ≤ q) q := fun _ h => h
  have hbA : ¬ (fun q : Nat => s.heap.size ≤ q) b := Nat.not_le.mpr hbl
  generalize hAe : (fun q : Nat => s.heap.size ≤ q) = A at hA hbA hZ hD hS
  refine lv_aload_n hx hb dL_law_348 rfl (lv_at hl 3 rfl) ?_
  refine lv_aload_n hx hb dL_law_349 rfl (lv_at hl 4 rfl) ?_
  refine lv_iload hx hb dL_law_350 (lv_at hl 0 rfl) ?_
  refine lv_iconst (v := 1) hx hb dL_law_352 (by decide) ?_
  refine lv_iadd hx hb dL_law_353 ?_
  refine lv_eqi (y := 1) (by decide) ?_
  refine va_sld hx hb hX hbl hbA hS (by unfold vp_in; decide) dL_law_354 ?_
  refine lv_eqi (y := (xs 1)) (rfl) ?_
  refine ky_Vi (As := [.int (xs 1)]) (rest := []) ⟨hx, hb, hml, hown, hts⟩ ⟨hK, hN⟩ hZ hP hD hS hA [0] [1] (wc := [(x, .inr (6, [.ref xt, .int 0, .ref xr, .ref xd, .ref xn, .ref xa, .ref xz, .ref xy, .int 0]))]) (wr := [(m_, .inr (7, [.int 0, .ref mt, .int 0, .int 0, .int 0, .ref mrr, .ref mrh, .ref mrc, .int 0, .int 0, .ref mn, .ref mf, .ref mr, .ref mh, .int 0, .int 0, .ref ma, .ref mas, .ref msn, .ref mac, .ref mat]))]) rfl rfl rfl rfl (by decide) (c_X6_rule l D g H.size x xt 0 xr xd xn xa xz xy (xs 1)) (cwV 1 hts gL_law_X6_rule rfl rfl rfl (by decide +kernel) ⟨(Nat.le_of_ble_eq_true rfl), (Nat.le_of_ble_eq_true rfl)⟩) 0 6 rfl rfl rfl rfl hl.1 rfl (Nat.le_of_ble_eq_true rfl) dL_law_355 ⟨(Nat.le_of_ble_eq_true rfl), (Nat.le_of_ble_eq_true rfl)⟩ (fun r_1 u H locs hw hP hD hS => ?_)
  obtain ⟨rfl, rfl⟩ := hw
  have hP : va_P D vwCl [(m_, .inr (7, [.int 0, .ref mt, .int 0, .int 0, .int 0, .ref mrr, .ref mrh, .ref mrc, .int 0, .int 0, .ref mn, .ref mf, .ref mr, .ref mh, .int 0, .int 0, .ref ma, .ref mas, .ref msn, .ref mac, .ref mat])), (x, .inr (6, [.ref xt, .int 0, .ref xr, .ref xd, .ref xn, .ref xa, .ref xz, .ref xy, .int 0]))] H := hP
  have hD : va_D A [(m_, .inr (7, [.int 0, .ref mt, .int 0, .int 0, .int 0, .ref mrr, .ref mrh, .ref mrc, .int 0, .int 0, .ref mn, .ref mf, .ref mr, .ref mh, .int 0, .int 0, .ref ma, .ref mas, .ref msn, .ref mac, .ref mat])), (x, .inr (6, [.ref xt, .int 0, .ref xr, .ref xd, .ref xn, .ref xa, .ref xz, .ref xy, .int 0]))] := hD
  refine W.widen (k := 91) (n := 5288) (Nat.le_of_ble_eq_true rfl) (Nat.le_of_ble_eq_true rfl) ?_
  refine lv_aload_n hx hb dL_law_358 rfl (lv_at hl 2 rfl) ?_
  refine lv_aload_n hx hb dL_law_359 rfl (lv_at hl 4 rfl) ?_
  refine lv_iload hx hb dL_law_360 (lv_at hl 0 rfl) ?_
  refine lv_iconst (v := 1) hx hb dL_law_362 (by decide) ?_
  refine lv_iadd hx hb dL_law_363 ?_
  refine lv_eqi (y := 1) (by decide) ?_
  refine va_sld hx hb hX hbl hbA hS (by unfold vp_in; decide) dL_law_364 ?_
  refine lv_eqi (y := (xs 1)) (rfl) ?_
  refine ky_Vi (As := [.int (xs 1)]) (rest := [.int (-1000000)]) ⟨hx, hb, hml, hown, hts⟩ ⟨hK, hN⟩ hZ hP hD hS hA [0] [1] (wc := [(m_, .inr (7, [.int 0, .ref mt, .int 0, .int 0, .int 0, .ref mrr, .ref mrh, .ref mrc, .int 0, .int 0, .ref mn, .ref mf, .ref mr, .ref mh, .int 0, .int 0, .ref ma, .ref mas, .ref msn, .ref mac, .ref mat]))]) (wr := [(x, .inr (6, [.ref xt, .int 0, .ref xr, .ref xd, .ref xn, .ref xa, .ref xz, .ref xy, .int 0]))]) rfl rfl rfl rfl (by decide) (c_X7_rule l D g H.size m_ 0 mt 0 0 0 mrr mrh mrc 0 0 mn mf mr mh ma mas msn mac mat (xs 1)) (cwV 1 hts gL_law_X7_rule rfl rfl rfl (by decide +kernel) ⟨(Nat.le_of_ble_eq_true rfl), (Nat.le_of_ble_eq_true rfl)⟩) 0 7 rfl rfl rfl rfl hl.1 rfl (Nat.le_of_ble_eq_true rfl) dL_law_365 ⟨(Nat.le_of_ble_eq_true rfl), (Nat.le_of_ble_eq_true rfl)⟩ (fun r_2 u H locs hw hP hD hS => ?_)
  obtain ⟨rfl, rfl⟩ := hw
  have hP : va_P D vwCl [(x, .inr (6, [.ref xt, .int 0, .ref xr, .ref xd, .ref xn, .ref xa, .ref xz, .ref xy, .int 0])), (m_, .inr (7, [.int 0, .ref mt, .int 0, .int 0, .int 0, .ref mrr, .ref mrh, .ref mrc, .int 0, .int 0, .ref mn, .ref mf, .ref mr, .ref mh, .int 0, .int 0, .ref ma, .ref mas, .ref msn, .ref mac, .ref mat]))] H := hP
  have hD : va_D A [(x, .inr (6, [.ref xt, .int 0, .ref xr, .ref xd, .ref xn, .ref xa, .ref xz, .ref xy, .int 0])), (m_, .inr (7, [.int 0, .ref mt, .int 0, .int 0, .int 0, .ref mrr, .ref mrh, .ref mrc, .int 0, .int 0, .ref mn, .ref mf, .ref mr, .ref mh, .int 0, .int 0, .ref ma, .ref mas, .ref msn, .ref mac, .ref mat]))] := hD
  refine W.widen (k := 91) (n := 5288) (Nat.le_of_ble_eq_true rfl) (Nat.le_of_ble_eq_true rfl) ?_
  refine lv_icmp_eq (tgt := 1900) hx hb dL_law_368 (by decide) (fun _ => ?_) (fun cb => absurd (by decide) cb)
  subst hAe
  refine W.widen (k := 600002) (n := 7302232) (Nat.le_of_ble_eq_true rfl) (Nat.le_of_ble_eq_true rfl) ?_
  exact law_tail l C0 hS (lv_sub hl [0, 4] rfl)
set_option maxHeartbeats 4000000 in
set_option maxRecDepth 100000 in
/-- hop -/
theorem law_case_5 {p : Program} {e : Env} {s : State} {m : MethodId} {below : List Frame} {meth : Method} {c : Code} (l : Launch) (hl9 : l.stackTraces = false) {b : Nat} {xs : Nat → Int32} (C0 : lw_At p s m meth c b 6 xs) (D : va_G) (g : Nat → ClassId) (hK : va_K D vwCl (kY g) s) (hN : kn g s) (hZ : ks g (fun q : Nat => s.heap.size ≤ q) s s.heap) {m_ ma mac mas mat mf mh mn mr mrc mrh mrr msn mt o_ x xa xd xn xr xt xy xz : Nat} {H : Heap} {locs : List Loc} {ls : Array Slot} (hP : va_P D vwCl [(x, .inr (6, [.ref xt, .int 0, .ref xr, .ref xd, .ref xn, .ref xa, .ref xz, .ref xy, .int 0])), (m_, .inr (7, [.int 0, .ref mt, .int 0, .int 0, .int 0, .ref mrr, .ref mrh, .ref mrc, .int 0, .int 0, .ref mn, .ref mf, .ref mr, .ref mh, .int 0, .int 0, .ref ma, .ref mas, .ref msn, .ref mac, .ref mat]))] H) (hD : va_D (fun q : Nat => s.heap.size ≤ q) [(x, .inr (6, [.ref xt, .int 0, .ref xr, .ref xd, .ref xn, .ref xa, .ref xz, .ref xy, .int 0])), (m_, .inr (7, [.int 0, .ref mt, .int 0, .int 0, .int 0, .ref mrr, .ref mrh, .ref mrc, .int 0, .int 0, .ref mn, .ref mf, .ref mr, .ref mh, .int 0, .int 0, .ref ma, .ref mas, .ref msn, .ref mac, .ref mat]))]) (hS : va_S (fun q : Nat => s.heap.size ≤ q) s.heap H locs) (hl : lv_has ls 7 [(4, .int 0), (3, .ref o_), (2, .ref m_), (1, .ref x), (0, .ref b)]) : W p l e room_1 s m #[Value.ref b] below meth c H locs 91 5288 (lw_Z below #[Value.ref b] s) (F0 m 373 ls []) := by
  obtain ⟨hx, hb, hr, hml, hown, hts0, hX, hbl, hlocks, hgv⟩ := id C0
  have hts : ∀ w ∈ wsL_law, w.before #[Value.ref b] s = true := fun w h => hts0 w (wsL_law_in w h)
  have hA : ∀ q : Nat, s.heap.size ≤ q → (fun q : Nat => s.heap.size ≤ q) q := fun _ h => h
  have hbA : ¬ (fun q : Nat => s.heap.size ≤ q) b := Nat.not_le.mpr hbl
  generalize hAe : (fun q : Nat => s.heap.size ≤ q) = A at hA hbA hZ hD hS
  refine lv_aload_n hx hb dL_law_373 rfl (lv_at hl 3 rfl) ?_
  refine lv_aload_n hx hb dL_law_374 rfl (lv_at hl 4 rfl) ?_
  refine lv_iload hx hb dL_law_375 (lv_at hl 0 rfl) ?_
  refine lv_iconst (v := 1) hx hb dL_law_377 (by decide) ?_
  refine lv_iadd hx hb dL_law_378 ?_
  refine lv_eqi (y := 1) (by decide) ?_
  refine va_sld hx hb hX hbl hbA hS (by unfold vp_in; decide) dL_law_379 ?_
  refine lv_eqi (y := (xs 1)) (rfl) ?_
  refine lv_aload_n hx hb dL_law_380 rfl (lv_at hl 4 rfl) ?_
  refine lv_iload hx hb dL_law_381 (lv_at hl 0 rfl) ?_
  refine lv_iconst (v := 2) hx hb dL_law_383 (by decide) ?_
  refine lv_iadd hx hb dL_law_384 ?_
  refine lv_eqi (y := 2) (by decide) ?_
  refine va_sld hx hb hX hbl hbA hS (by unfold vp_in; decide) dL_law_385 ?_
  refine lv_eqi (y := (xs 2)) (rfl) ?_
  refine lv_aload_n hx hb dL_law_386 rfl (lv_at hl 1 rfl) ?_
  have hF := va_free (wc := [(x, .inr (6, [.ref xt, .int 0, .ref xr, .ref xd, .ref xn, .ref xa, .ref xz, .ref xy, .int 0]))]) hD hS hA [0] rfl
  refine va_calli (vx_runSW (As := [.ref x, .int (xs 1), .int (xs 2), .ref o_]) (rest := []) ⟨hx, hb, hml, hown, hts⟩ (c_L_hop l hl9 D g H.size x xt 0 xr xd xn xa xz xy o_ (xs 1) (xs 2)) (vx_cwSW 4 hts gL_law_L_hop rfl rfl rfl (by decide +kernel) ⟨(Nat.le_of_ble_eq_true rfl), (Nat.le_of_ble_eq_true rfl)⟩) ⟨ky_blind, ky_mk (ky_sub hP (isC := [0]) rfl) ⟨hK, hN⟩ (hD.sub [0] (by decide) rfl) ((hZ.kept hS.2.1).narrow hF)⟩ rfl rfl hl.1 rfl (lv_room (Nat.le_of_ble_eq_true rfl)) dL_law_387 ⟨(Nat.le_of_ble_eq_true rfl), (Nat.le_of_ble_eq_true rfl)⟩) hS (fun q _ h => hF q h) hF (fun r u t H1 locs ht hvm hw hB hz1 hk1 hS => ?_)
  obtain ⟨rfl, rfl⟩ := hw
  obtain ⟨hP1, hD1⟩ := hB
  rw [ht] at hP1
  obtain ⟨hP, hD⟩ := ky_back (wc := [(x, .inr (6, [.ref xt, .int 0, .ref xr, .ref xd, .ref xn, .ref xa, .ref xz, .ref xy, .int 0]))]) (wr := [(m_, .inr (7, [.int 0, .ref mt, .int 0, .int 0, .int 0, .ref mrr, .ref mrh, .ref mrc, .int 0, .int 0, .ref mn, .ref mf, .ref mr, .ref mh, .int 0, .int 0, .ref ma, .ref mas, .ref msn, .ref mac, .ref mat]))]) hP hD [0] [1] rfl rfl rfl (by decide) hk1 hF hP1 hD1
  clear ht hP1 hD1 hk1 hz1 hF
  generalize H1 = H at hP hS ⊢
  have hP : va_P D vwCl [(m_, .inr (7, [.int 0, .ref mt, .int 0, .int 0, .int 0, .ref mrr, .ref mrh, .ref mrc, .int 0, .int 0, .ref mn, .ref mf, .ref mr, .ref mh, .int 0, .int 0, .ref ma, .ref mas, .ref msn, .ref mac, .ref mat])), (x, .inr (6, [.ref xt, .int 0, .ref xr, .ref xd, .ref xn, .ref xa, .ref xz, .ref xy, .int 0]))] H := hP
  have hD : va_D A [(m_, .inr (7, [.int 0, .ref mt, .int 0, .int 0, .int 0, .ref mrr, .ref mrh, .ref mrc, .int 0, .int 0, .ref mn, .ref mf, .ref mr, .ref mh, .int 0, .int 0, .ref ma, .ref mas, .ref msn, .ref mac, .ref mat])), (x, .inr (6, [.ref xt, .int 0, .ref xr, .ref xd, .ref xn, .ref xa, .ref xz, .ref xy, .int 0]))] := hD
  refine W.widen (k := 92) (n := 5294) (Nat.le_of_ble_eq_true rfl) (Nat.le_of_ble_eq_true rfl) ?_
  refine lv_istore (lv' := [(5, .int 1), (4, .int 0), (3, .ref o_), (2, .ref m_), (1, .ref x), (0, .ref b)]) hx hb dL_law_390 hl (by decide) rfl (fun ls hl => ?_)
  refine lv_aload_n hx hb dL_law_392 rfl (lv_at hl 3 rfl) ?_
  refine lv_aload_n hx hb dL_law_393 rfl (lv_at hl 5 rfl) ?_
  refine lv_iload hx hb dL_law_394 (lv_at hl 1 rfl) ?_
  refine lv_iconst (v := 1) hx hb dL_law_396 (by decide) ?_
  refine lv_iadd hx hb dL_law_397 ?_
  refine lv_eqi (y := 1) (by decide) ?_
  refine va_sld hx hb hX hbl hbA hS (by unfold vp_in; decide) dL_law_398 ?_
  refine lv_eqi (y := (xs 1)) (rfl) ?_
  refine lv_aload_n hx hb dL_law_399 rfl (lv_at hl 5 rfl) ?_
  refine lv_iload hx hb dL_law_400 (lv_at hl 1 rfl) ?_
  refine lv_iconst (v := 2) hx hb dL_law_402 (by decide) ?_
  refine lv_iadd hx hb dL_law_403 ?_
  refine lv_eqi (y := 2) (by decide) ?_
  refine va_sld hx hb hX hbl hbA hS (by unfold vp_in; decide) dL_law_404 ?_
  refine lv_eqi (y := (xs 2)) (rfl) ?_
  refine ky_Vi (As := [.int (xs 1), .int (xs 2)]) (rest := []) ⟨hx, hb, hml, hown, hts⟩ ⟨hK, hN⟩ hZ hP hD hS hA [0] [1] (wc := [(m_, .inr (7, [.int 0, .ref mt, .int 0, .int 0, .int 0, .ref mrr, .ref mrh, .ref mrc, .int 0, .int 0, .ref mn, .ref mf, .ref mr, .ref mh, .int 0, .int 0, .ref ma, .ref mas, .ref msn, .ref mac, .ref mat]))]) (wr := [(x, .inr (6, [.ref xt, .int 0, .ref xr, .ref xd, .ref xn, .ref xa, .ref xz, .ref xy, .int 0]))]) rfl rfl rfl rfl (by decide) (c_X7_hop l D g H.size m_ 0 mt 0 0 0 mrr mrh mrc 0 0 mn mf mr mh ma mas msn mac mat (xs 1) (xs 2)) (cwV 2 hts gL_law_X7_hop rfl rfl rfl (by decide +kernel) ⟨(Nat.le_of_ble_eq_true rfl), (Nat.le_of_ble_eq_true rfl)⟩) 0 7 rfl rfl rfl rfl hl.1 rfl (Nat.le_of_ble_eq_true rfl) dL_law_405 ⟨(Nat.le_of_ble_eq_true rfl), (Nat.le_of_ble_eq_true rfl)⟩ (fun r_1 u H locs hw hP hD hS => ?_)
  obtain ⟨rfl, rfl⟩ := hw
  have hP : va_P D vwCl [(x, .inr (6, [.ref xt, .int 0, .ref xr, .ref xd, .ref xn, .ref xa, .ref xz, .ref xy, .int 0])), (m_, .inr (7, [.int 1, .ref mt, .int 0, .int 0, .int 0, .ref mrr, .ref mrh, .ref mrc, .int 0, .int 0, .ref mn, .ref mf, .ref mr, .ref mh, .int 0, .int 0, .ref ma, .ref mas, .ref msn, .ref mac, .ref mat]))] H := hP
  have hD : va_D A [(x, .inr (6, [.ref xt, .int 0, .ref xr, .ref xd, .ref xn, .ref xa, .ref xz, .ref xy, .int 0])), (m_, .inr (7, [.int 1, .ref mt, .int 0, .int 0, .int 0, .ref mrr, .ref mrh, .ref mrc, .int 0, .int 0, .ref mn, .ref mf, .ref mr, .ref mh, .int 0, .int 0, .ref ma, .ref mas, .ref msn, .ref mac, .ref mat]))] := hD
  refine W.widen (k := 92) (n := 5294) (Nat.le_of_ble_eq_true rfl) (Nat.le_of_ble_eq_true rfl) ?_
  refine lv_istore (lv' := [(6, .int 0), (5, .int 1), (4, .int 0), (3, .ref o_), (2, .ref m_), (1, .ref x), (0, .ref b)]) hx hb dL_law_408 hl (by decide) rfl (fun ls hl => ?_)
  refine lv_aload_n hx hb dL_law_410 rfl (lv_at hl 4 rfl) ?_
  refine ky_Vi (As := []) (rest := []) ⟨hx, hb, hml, hown, hts⟩ ⟨hK, hN⟩ hZ hP hD hS hA [1] [0] (wc := [(m_, .inr (7, [.int 1, .ref mt, .int 0, .int 0, .int 0, .ref mrr, .ref mrh, .ref mrc, .int 0, .int 0, .ref mn, .ref mf, .ref mr, .ref mh, .int 0, .int 0, .ref ma, .ref mas, .ref msn, .ref mac, .ref mat]))]) (wr := [(x, .inr (6, [.ref xt, .int 0, .ref xr, .ref xd, .ref xn, .ref xa, .ref xz, .ref xy, .int 0]))]) rfl rfl rfl rfl (by decide) (c_X7_thrown l D g H.size m_ 1 mt 0 0 0 mrr mrh mrc 0 0 mn mf mr mh ma mas msn mac mat) (cwV 0 hts gL_law_X7_thrown rfl rfl rfl (by decide +kernel) ⟨(Nat.le_of_ble_eq_true rfl), (Nat.le_of_ble_eq_true rfl)⟩) 1 7 rfl rfl rfl rfl hl.1 rfl (Nat.le_of_ble_eq_true rfl) dL_law_411 ⟨(Nat.le_of_ble_eq_true rfl), (Nat.le_of_ble_eq_true rfl)⟩ (fun r_2 u H locs hw hP hD hS => ?_)
  obtain ⟨rfl, rfl⟩ := hw
  have hP : va_P D vwCl [(x, .inr (6, [.ref xt, .int 0, .ref xr, .ref xd, .ref xn, .ref xa, .ref xz, .ref xy, .int 0])), (m_, .inr (7, [.int 1, .ref mt, .int 0, .int 0, .int 0, .ref mrr, .ref mrh, .ref mrc, .int 0, .int 0, .ref mn, .ref mf, .ref mr, .ref mh, .int 0, .int 0, .ref ma, .ref mas, .ref msn, .ref mac, .ref mat]))] H := hP
  have hD : va_D A [(x, .inr (6, [.ref xt, .int 0, .ref xr, .ref xd, .ref xn, .ref xa, .ref xz, .ref xy, .int 0])), (m_, .inr (7, [.int 1, .ref mt, .int 0, .int 0, .int 0, .ref mrr, .ref mrh, .ref mrc, .int 0, .int 0, .ref mn, .ref mf, .ref mr, .ref mh, .int 0, .int 0, .ref ma, .ref mas, .ref msn, .ref mac, .ref mat]))] := hD
  refine W.widen (k := 92) (n := 5294) (Nat.le_of_ble_eq_true rfl) (Nat.le_of_ble_eq_true rfl) ?_
  refine lv_iload hx hb dL_law_414 (lv_at hl 1 rfl) ?_
  refine lv_icmp_eq (tgt := 421) hx hb dL_law_416 (by decide) (fun _ => ?_) (fun cb => absurd (by decide) cb)
  refine lv_iload hx hb dL_law_421 (lv_at hl 1 rfl) ?_
  refine lv_if_ne (tgt := 438) hx hb dL_law_423 (by decide) (fun _ => ?_) (fun cb => absurd cb (by decide))
  refine lv_goto (tgt := 1900) hx hb dL_law_438 (by decide) ?_
  subst hAe
  refine W.widen (k := 600002) (n := 7302232) (Nat.le_of_ble_eq_true rfl) (Nat.le_of_ble_eq_true rfl) ?_
  exact law_tail l C0 hS (lv_sub hl [2, 6] rfl)
