set_option maxHeartbeats 4000000 in
set_option maxRecDepth 100000 in
/-- circuit -/
theorem law_case_6 {p : Program} {e : Env} {s : State} {m : MethodId} {below : List Frame} {meth : Method} {c : Code} (l : Launch) (hl9 : l.stackTraces = false) {b : Nat} {xs : Nat → Int32} (C0 : lw_At p s m meth c b 6 xs) (D : va_G) (g : Nat → ClassId) (hK : va_K D vwCl (kY g) s) (hN : kn g s) (hZ : ks g (fun q : Nat => s.heap.size ≤ q) s s.heap) {m_ ma mac mas mat mf mh mn mr mrc mrh mrr msn mt o_ x xa xd xn xr xt xy xz : Nat} {H : Heap} {locs : List Loc} {ls : Array Slot} (hP : va_P D vwCl [(x, .inr (6, [.ref xt, .int 0, .ref xr, .ref xd, .ref xn, .ref xa, .ref xz, .ref xy, .int 0])), (m_, .inr (7, [.int 0, .ref mt, .int 0, .int 0, .int 0, .ref mrr, .ref mrh, .ref mrc, .int 0, .int 0, .ref mn, .ref mf, .ref mr, .ref mh, .int 0, .int 0, .ref ma, .ref mas, .ref msn, .ref mac, .ref mat]))] H) (hD : va_D (fun q : Nat => s.heap.size ≤ q) [(x, .inr (6, [.ref xt, .int 0, .ref xr, .ref xd, .ref xn, .ref xa, .ref xz, .ref xy, .int 0])), (m_, .inr (7, [.int 0, .ref mt, .int 0, .int 0, .int 0, .ref mrr, .ref mrh, .ref mrc, .int 0, .int 0, .ref mn, .ref mf, .ref mr, .ref mh, .int 0, .int 0, .ref ma, .ref mas, .ref msn, .ref mac, .ref mat]))]) (hS : va_S (fun q : Nat => s.heap.size ≤ q) s.heap H locs) (hl : lv_has ls 7 [(4, .int 0), (3, .ref o_), (2, .ref m_), (1, .ref x), (0, .ref b)]) : W p l e room_1 s m #[Value.ref b] below meth c H locs 91 5288 (lw_Z below #[Value.ref b] s) (F0 m 441 ls []) := by
  obtain ⟨hx, hb, hr, hml, hown, hts0, hX, hbl, hlocks, hgv⟩ := id C0
  have hts : ∀ w ∈ wsL_law, w.before #[Value.ref b] s = true := fun w h => hts0 w (wsL_law_in w h)
  have hA : ∀ q : Nat, s.heap.size ≤ q → (fun q : Nat => s.heap.size ≤ q) q := fun _ h => h
  have hbA : ¬ (fun q : Nat => s.heap.size ≤ q) b := Nat.not_le.mpr hbl
  generalize hAe : (fun q : Nat => s.heap.size ≤ q) = A at hA hbA hZ hD hS
  refine lv_aload_n hx hb dL_law_441 rfl (lv_at hl 3 rfl) ?_
  refine lv_aload_n hx hb dL_law_442 rfl (lv_at hl 4 rfl) ?_
  refine lv_iload hx hb dL_law_443 (lv_at hl 0 rfl) ?_
  refine lv_iconst (v := 1) hx hb dL_law_445 (by decide) ?_
  refine lv_iadd hx hb dL_law_446 ?_
  refine lv_eqi (y := 1) (by decide) ?_
  refine va_sld hx hb hX hbl hbA hS (by unfold vp_in; decide) dL_law_447 ?_
  refine lv_eqi (y := (xs 1)) (rfl) ?_
  refine lv_aload_n hx hb dL_law_448 rfl (lv_at hl 4 rfl) ?_
  refine lv_iload hx hb dL_law_449 (lv_at hl 0 rfl) ?_
  refine lv_iconst (v := 2) hx hb dL_law_451 (by decide) ?_
  refine lv_iadd hx hb dL_law_452 ?_
  refine lv_eqi (y := 2) (by decide) ?_
  refine va_sld hx hb hX hbl hbA hS (by unfold vp_in; decide) dL_law_453 ?_
  refine lv_eqi (y := (xs 2)) (rfl) ?_
  refine lv_aload_n hx hb dL_law_454 rfl (lv_at hl 1 rfl) ?_
  have hF := va_free (wc := [(x, .inr (6, [.ref xt, .int 0, .ref xr, .ref xd, .ref xn, .ref xa, .ref xz, .ref xy, .int 0]))]) hD hS hA [0] rfl
  refine va_calli (vx_runSW (As := [.ref x, .int (xs 1), .int (xs 2), .ref o_]) (rest := []) ⟨hx, hb, hml, hown, hts⟩ (c_L_circuit l hl9 D g H.size x xt 0 xr xd xn xa xz xy o_ (xs 1) (xs 2)) (vx_cwSW 4 hts gL_law_L_circuit rfl rfl rfl (by decide +kernel) ⟨(Nat.le_of_ble_eq_true rfl), (Nat.le_of_ble_eq_true rfl)⟩) ⟨ky_blind, ky_mk (ky_sub hP (isC := [0]) rfl) ⟨hK, hN⟩ (hD.sub [0] (by decide) rfl) ((hZ.kept hS.2.1).narrow hF)⟩ rfl rfl hl.1 rfl (lv_room (Nat.le_of_ble_eq_true rfl)) dL_law_455 ⟨(Nat.le_of_ble_eq_true rfl), (Nat.le_of_ble_eq_true rfl)⟩) hS (fun q _ h => hF q h) hF (fun r u t H1 locs ht hvm hw hB hz1 hk1 hS => ?_)
  obtain ⟨rfl, rfl⟩ := hw
  obtain ⟨hP1, hD1⟩ := hB
  rw [ht] at hP1
  obtain ⟨hP, hD⟩ := ky_back (wc := [(x, .inr (6, [.ref xt, .int 0, .ref xr, .ref xd, .ref xn, .ref xa, .ref xz, .ref xy, .int 0]))]) (wr := [(m_, .inr (7, [.int 0, .ref mt, .int 0, .int 0, .int 0, .ref mrr, .ref mrh, .ref mrc, .int 0, .int 0, .ref mn, .ref mf, .ref mr, .ref mh, .int 0, .int 0, .ref ma, .ref mas, .ref msn, .ref mac, .ref mat]))]) hP hD [0] [1] rfl rfl rfl (by decide) hk1 hF hP1 hD1
  clear ht hP1 hD1 hk1 hz1 hF
  generalize H1 = H at hP hS ⊢
  have hP : va_P D vwCl [(m_, .inr (7, [.int 0, .ref mt, .int 0, .int 0, .int 0, .ref mrr, .ref mrh, .ref mrc, .int 0, .int 0, .ref mn, .ref mf, .ref mr, .ref mh, .int 0, .int 0, .ref ma, .ref mas, .ref msn, .ref mac, .ref mat])), (x, .inr (6, [.ref xt, .int 0, .ref xr, .ref xd, .ref xn, .ref xa, .ref xz, .ref xy, .int 0]))] H := hP
  have hD : va_D A [(m_, .inr (7, [.int 0, .ref mt, .int 0, .int 0, .int 0, .ref mrr, .ref mrh, .ref mrc, .int 0, .int 0, .ref mn, .ref mf, .ref mr, .ref mh, .int 0, .int 0, .ref ma, .ref mas, .ref msn, .ref mac, .ref mat])), (x, .inr (6, [.ref xt, .int 0, .ref xr, .ref xd, .ref xn, .ref xa, .ref xz, .ref xy, .int 0]))] := hD
  refine W.widen (k := 92) (n := 5294) (Nat.le_of_ble_eq_true rfl) (Nat.le_of_ble_eq_true rfl) ?_
  refine lv_istore (lv' := [(5, .int 1), (4, .int 0), (3, .ref o_), (2, .ref m_), (1, .ref x), (0, .ref b)]) hx hb dL_law_458 hl (by decide) rfl (fun ls hl => ?_)
  refine lv_aload_n hx hb dL_law_460 rfl (lv_at hl 3 rfl) ?_
  refine lv_aload_n hx hb dL_law_461 rfl (lv_at hl 5 rfl) ?_
  refine lv_iload hx hb dL_law_462 (lv_at hl 1 rfl) ?_
  refine lv_iconst (v := 1) hx hb dL_law_464 (by decide) ?_
  refine lv_iadd hx hb dL_law_465 ?_
  refine lv_eqi (y := 1) (by decide) ?_
  refine va_sld hx hb hX hbl hbA hS (by unfold vp_in; decide) dL_law_466 ?_
  refine lv_eqi (y := (xs 1)) (rfl) ?_
  refine lv_aload_n hx hb dL_law_467 rfl (lv_at hl 5 rfl) ?_
  refine lv_iload hx hb dL_law_468 (lv_at hl 1 rfl) ?_
  refine lv_iconst (v := 2) hx hb dL_law_470 (by decide) ?_
  refine lv_iadd hx hb dL_law_471 ?_
  refine lv_eqi (y := 2) (by decide) ?_
  refine va_sld hx hb hX hbl hbA hS (by unfold vp_in; decide) dL_law_472 ?_
  refine lv_eqi (y := (xs 2)) (rfl) ?_
  refine ky_Vi (As := [.int (xs 1), .int (xs 2)]) (rest := []) ⟨hx, hb, hml, hown, hts⟩ ⟨hK, hN⟩ hZ hP hD hS hA [0] [1] (wc := [(m_, .inr (7, [.int 0, .ref mt, .int 0, .int 0, .int 0, .ref mrr, .ref mrh, .ref mrc, .int 0, .int 0, .ref mn, .ref mf, .ref mr, .ref mh, .int 0, .int 0, .ref ma, .ref mas, .ref msn, .ref mac, .ref mat]))]) (wr := [(x, .inr (6, [.ref xt, .int 0, .ref xr, .ref xd, .ref xn, .ref xa, .ref xz, .ref xy, .int 0]))]) rfl rfl rfl rfl (by decide) (c_X7_circuit l D g H.size m_ 0 mt 0 0 0 mrr mrh mrc 0 0 mn mf mr mh ma mas msn mac mat (xs 1) (xs 2)) (cwV 2 hts gL_law_X7_circuit rfl rfl rfl (by decide +kernel) ⟨(Nat.le_of_ble_eq_true rfl), (Nat.le_of_ble_eq_true rfl)⟩) 0 7 rfl rfl rfl rfl hl.1 rfl (Nat.le_of_ble_eq_true rfl) dL_law_473 ⟨(Nat.le_of_ble_eq_true rfl), (Nat.le_of_ble_eq_true rfl)⟩ (fun r_1 u H locs hw hP hD hS => ?_)
  obtain ⟨rfl, rfl⟩ := hw
  have hP : va_P D vwCl [(x, .inr (6, [.ref xt, .int 0, .ref xr, .ref xd, .ref xn, .ref xa, .ref xz, .ref xy, .int 0])), (m_, .inr (7, [.int 1, .ref mt, .int 0, .int 0, .int 0, .ref mrr, .ref mrh, .ref mrc, .int 0, .int 0, .ref mn, .ref mf, .ref mr, .ref mh, .int 0, .int 0, .ref ma, .ref mas, .ref msn, .ref mac, .ref mat]))] H := hP
  have hD : va_D A [(x, .inr (6, [.ref xt, .int 0, .ref xr, .ref xd, .ref xn, .ref xa, .ref xz, .ref xy, .int 0])), (m_, .inr (7, [.int 1, .ref mt, .int 0, .int 0, .int 0, .ref mrr, .ref mrh, .ref mrc, .int 0, .int 0, .ref mn, .ref mf, .ref mr, .ref mh, .int 0, .int 0, .ref ma, .ref mas, .ref msn, .ref mac, .ref mat]))] := hD
  refine W.widen (k := 92) (n := 5294) (Nat.le_of_ble_eq_true rfl) (Nat.le_of_ble_eq_true rfl) ?_
  refine lv_istore (lv' := [(6, .int 0), (5, .int 1), (4, .int 0), (3, .ref o_), (2, .ref m_), (1, .ref x), (0, .ref b)]) hx hb dL_law_476 hl (by decide) rfl (fun ls hl => ?_)
  refine lv_aload_n hx hb dL_law_478 rfl (lv_at hl 4 rfl) ?_
  refine ky_Vi (As := []) (rest := []) ⟨hx, hb, hml, hown, hts⟩ ⟨hK, hN⟩ hZ hP hD hS hA [1] [0] (wc := [(m_, .inr (7, [.int 1, .ref mt, .int 0, .int 0, .int 0, .ref mrr, .ref mrh, .ref mrc, .int 0, .int 0, .ref mn, .ref mf, .ref mr, .ref mh, .int 0, .int 0, .ref ma, .ref mas, .ref msn, .ref mac, .ref mat]))]) (wr := [(x, .inr (6, [.ref xt, .int 0, .ref xr, .ref xd, .ref xn, .ref xa, .ref xz, .ref xy, .int 0]))]) rfl rfl rfl rfl (by decide) (c_X7_thrown l D g H.size m_ 1 mt 0 0 0 mrr mrh mrc 0 0 mn mf mr mh ma mas msn mac mat) (cwV 0 hts gL_law_X7_thrown rfl rfl rfl (by decide +kernel) ⟨(Nat.le_of_ble_eq_true rfl), (Nat.le_of_ble_eq_true rfl)⟩) 1 7 rfl rfl rfl rfl hl.1 rfl (Nat.le_of_ble_eq_true rfl) dL_law_479 ⟨(Nat.le_of_ble_eq_true rfl), (Nat.le_of_ble_eq_true rfl)⟩ (fun r_2 u H locs hw hP hD hS => ?_)
  obtain ⟨rfl, rfl⟩ := hw
  have hP : va_P D vwCl [(x, .inr (6, [.ref xt, .int 0, .ref xr, .ref xd, .ref xn, .ref xa, .ref xz, .ref xy, .int 0])), (m_, .inr (7, [.int 1, .ref mt, .int 0, .int 0, .int 0, .ref mrr, .ref mrh, .ref mrc, .int 0, .int 0, .ref mn, .ref mf, .ref mr, .ref mh, .int 0, .int 0, .ref ma, .ref mas, .ref msn, .ref mac, .ref mat]))] H := hP
  have hD : va_D A [(x, .inr (6, [.ref xt, .int 0, .ref xr, .ref xd, .ref xn, .ref xa, .ref xz, .ref xy, .int 0])), (m_, .inr (7, [.int 1, .ref mt, .int 0, .int 0, .int 0, .ref mrr, .ref mrh, .ref mrc, .int 0, .int 0, .ref mn, .ref mf, .ref mr, .ref mh, .int 0, .int 0, .ref ma, .ref mas, .ref msn, .ref mac, .ref mat]))] := hD
  refine W.widen (k := 92) (n := 5294) (Nat.le_of_ble_eq_true rfl) (Nat.le_of_ble_eq_true rfl) ?_
  refine lv_iload hx hb dL_law_482 (lv_at hl 1 rfl) ?_
  refine lv_icmp_eq (tgt := 489) hx hb dL_law_484 (by decide) (fun _ => ?_) (fun cb => absurd (by decide) cb)
  refine lv_iload hx hb dL_law_489 (lv_at hl 1 rfl) ?_
  refine lv_if_ne (tgt := 506) hx hb dL_law_491 (by decide) (fun _ => ?_) (fun cb => absurd cb (by decide))
  refine lv_goto (tgt := 1900) hx hb dL_law_506 (by decide) ?_
  subst hAe
  refine W.widen (k := 600002) (n := 7302232) (Nat.le_of_ble_eq_true rfl) (Nat.le_of_ble_eq_true rfl) ?_
  exact law_tail l C0 hS (lv_sub hl [2, 6] rfl)
set_option maxHeartbeats 4000000 in
set_option maxRecDepth 100000 in
/-- lane -/
theorem law_case_7 {p : Program} {e : Env} {s : State} {m : MethodId} {below : List Frame} {meth : Method} {c : Code} (l : Launch) (hl9 : l.stackTraces = false) {b : Nat} {xs : Nat → Int32} (C0 : lw_At p s m meth c b 6 xs) (D : va_G) (g : Nat → ClassId) (hK : va_K D vwCl (kY g) s) (hN : kn g s) (hZ : ks g (fun q : Nat => s.heap.size ≤ q) s s.heap) {m_ ma mac mas mat mf mh mn mr mrc mrh mrr msn mt o_ x xa xd xn xr xt xy xz : Nat} {H : Heap} {locs : List Loc} {ls : Array Slot} (hP : va_P D vwCl [(x, .inr (6, [.ref xt, .int 0, .ref xr, .ref xd, .ref xn, .ref xa, .ref xz, .ref xy, .int 0])), (m_, .inr (7, [.int 0, .ref mt, .int 0, .int 0, .int 0, .ref mrr, .ref mrh, .ref mrc, .int 0, .int 0, .ref mn, .ref mf, .ref mr, .ref mh, .int 0, .int 0, .ref ma, .ref mas, .ref msn, .ref mac, .ref mat]))] H) (hD : va_D (fun q : Nat => s.heap.size ≤ q) [(x, .inr (6, [.ref xt, .int 0, .ref xr, .ref xd, .ref xn, .ref xa, .ref xz, .ref xy, .int 0])), (m_, .inr (7, [.int 0, .ref mt, .int 0, .int 0, .int 0, .ref mrr, .ref mrh, .ref mrc, .int 0, .int 0, .ref mn, .ref mf, .ref mr, .ref mh, .int 0, .int 0, .ref ma, .ref mas, .ref msn, .ref mac, .ref mat]))]) (hS : va_S (fun q : Nat => s.heap.size ≤ q) s.heap H locs) (hl : lv_has ls 7 [(4, .int 0), (3, .ref o_), (2, .ref m_), (1, .ref x), (0, .ref b)]) : W p l e room_1 s m #[Value.ref b] below meth c H locs 91 5288 (lw_Z below #[Value.ref b] s) (F0 m 509 ls []) := by
  obtain ⟨hx, hb, hr, hml, hown, hts0, hX, hbl, hlocks, hgv⟩ := id C0
  have hts : ∀ w ∈ wsL_law, w.before #[Value.ref b] s = true := fun w h => hts0 w (wsL_law_in w h)
  have hA : ∀ q : Nat, s.heap.size ≤ q → (fun q : Nat => s.heap.size ≤ q) q := fun _ h => h
  have hbA : ¬ (fun q : Nat => s.heap.size ≤ q) b := Nat.not_le.mpr hbl
  generalize hAe : (fun q : Nat => s.heap.size ≤ q) = A at hA hbA hZ hD hS
  refine lv_aload_n hx hb dL_law_509 rfl (lv_at hl 3 rfl) ?_
  refine lv_aload_n hx hb dL_law_510 rfl (lv_at hl 4 rfl) ?_
  refine lv_iload hx hb dL_law_511 (lv_at hl 0 rfl) ?_
  refine lv_iconst (v := 1) hx hb dL_law_513 (by decide) ?_
  refine lv_iadd hx hb dL_law_514 ?_
  refine lv_eqi (y := 1) (by decide) ?_
  refine va_sld hx hb hX hbl hbA hS (by unfold vp_in; decide) dL_law_515 ?_
  refine lv_eqi (y := (xs 1)) (rfl) ?_
  refine lv_aload_n hx hb dL_law_516 rfl (lv_at hl 4 rfl) ?_
  refine lv_iload hx hb dL_law_517 (lv_at hl 0 rfl) ?_
  refine lv_iconst (v := 2) hx hb dL_law_519 (by decide) ?_
  refine lv_iadd hx hb dL_law_520 ?_
  refine lv_eqi (y := 2) (by decide) ?_
  refine va_sld hx hb hX hbl hbA hS (by unfold vp_in; decide) dL_law_521 ?_
  refine lv_eqi (y := (xs 2)) (rfl) ?_
  refine lv_aload_n hx hb dL_law_522 rfl (lv_at hl 4 rfl) ?_
  refine lv_iload hx hb dL_law_523 (lv_at hl 0 rfl) ?_
  refine lv_iconst (v := 3) hx hb dL_law_525 (by decide) ?_
  refine lv_iadd hx hb dL_law_526 ?_
  refine lv_eqi (y := 3) (by decide) ?_
  refine va_sld hx hb hX hbl hbA hS (by unfold vp_in; decide) dL_law_527 ?_
  refine lv_eqi (y := (xs 3)) (rfl) ?_
  refine ky_Vi (As := [.int (xs 1), .int (xs 2), .int (xs 3)]) (rest := []) ⟨hx, hb, hml, hown, hts⟩ ⟨hK, hN⟩ hZ hP hD hS hA [0] [1] (wc := [(x, .inr (6, [.ref xt, .int 0, .ref xr, .ref xd, .ref xn, .ref xa, .ref xz, .ref xy, .int 0]))]) (wr := [(m_, .inr (7, [.int 0, .ref mt, .int 0, .int 0, .int 0, .ref mrr, .ref mrh, .ref mrc, .int 0, .int 0, .ref mn, .ref mf, .ref mr, .ref mh, .int 0, .int 0, .ref ma, .ref mas, .ref msn, .ref mac, .ref mat]))]) rfl rfl rfl rfl (by decide) (c_X6_lane l D g H.size x xt 0 xr xd xn xa xz xy (xs 1) (xs 2) (xs 3)) (cwV 3 hts gL_law_X6_lane rfl rfl rfl (by decide +kernel) ⟨(Nat.le_of_ble_eq_true rfl), (Nat.le_of_ble_eq_true rfl)⟩) 0 6 rfl rfl rfl rfl hl.1 rfl (Nat.le_of_ble_eq_true rfl) dL_law_528 ⟨(Nat.le_of_ble_eq_true rfl), (Nat.le_of_ble_eq_true rfl)⟩ (fun r_1 u H locs hw hP hD hS => ?_)
  obtain ⟨rfl, rfl⟩ := hw
  have hP : va_P D vwCl [(m_, .inr (7, [.int 0, .ref mt, .int 0, .int 0, .int 0, .ref mrr, .ref mrh, .ref mrc, .int 0, .int 0, .ref mn, .ref mf, .ref mr, .ref mh, .int 0, .int 0, .ref ma, .ref mas, .ref msn, .ref mac, .ref mat])), (x, .inr (6, [.ref xt, .int 0, .ref xr, .ref xd, .ref xn, .ref xa, .ref xz, .ref xy, .int 0]))] H := hP
  have hD : va_D A [(m_, .inr (7, [.int 0, .ref mt, .int 0, .int 0, .int 0, .ref mrr, .ref mrh, .ref mrc, .int 0, .int 0, .ref mn, .ref mf, .ref mr, .ref mh, .int 0, .int 0, .ref ma, .ref mas, .ref msn, .ref mac, .ref mat])), (x, .inr (6, [.ref xt, .int 0, .ref xr, .ref xd, .ref xn, .ref xa, .ref xz, .ref xy, .int 0]))] := hD
  refine W.widen (k := 91) (n := 5288) (Nat.le_of_ble_eq_true rfl) (Nat.le_of_ble_eq_true rfl) ?_
  refine lv_aload_n hx hb dL_law_531 rfl (lv_at hl 2 rfl) ?_
  refine lv_aload_n hx hb dL_law_532 rfl (lv_at hl 4 rfl) ?_
  refine lv_iload hx hb dL_law_533 (lv_at hl 0 rfl) ?_
  refine lv_iconst (v := 1) hx hb dL_law_535 (by decide) ?_
  refine lv_iadd hx hb dL_law_536 ?_
  refine lv_eqi (y := 1) (by decide) ?_
  refine va_sld hx hb hX hbl hbA hS (by unfold vp_in; decide) dL_law_537 ?_
  refine lv_eqi (y := (xs 1)) (rfl) ?_
  refine lv_aload_n hx hb dL_law_538 rfl (lv_at hl 4 rfl) ?_
  refine lv_iload hx hb dL_law_539 (lv_at hl 0 rfl) ?_
  refine lv_iconst (v := 2) hx hb dL_law_541 (by decide) ?_
  refine lv_iadd hx hb dL_law_542 ?_
  refine lv_eqi (y := 2) (by decide) ?_
  refine va_sld hx hb hX hbl hbA hS (by unfold vp_in; decide) dL_law_543 ?_
  refine lv_eqi (y := (xs 2)) (rfl) ?_
  refine lv_aload_n hx hb dL_law_544 rfl (lv_at hl 4 rfl) ?_
  refine lv_iload hx hb dL_law_545 (lv_at hl 0 rfl) ?_
  refine lv_iconst (v := 3) hx hb dL_law_547 (by decide) ?_
  refine lv_iadd hx hb dL_law_548 ?_
  refine lv_eqi (y := 3) (by decide) ?_
  refine va_sld hx hb hX hbl hbA hS (by unfold vp_in; decide) dL_law_549 ?_
  refine lv_eqi (y := (xs 3)) (rfl) ?_
  refine ky_Vi (As := [.int (xs 1), .int (xs 2), .int (xs 3)]) (rest := [.int (-1)]) ⟨hx, hb, hml, hown, hts⟩ ⟨hK, hN⟩ hZ hP hD hS hA [0] [1] (wc := [(m_, .inr (7, [.int 0, .ref mt, .int 0, .int 0, .int 0, .ref mrr, .ref mrh, .ref mrc, .int 0, .int 0, .ref mn, .ref mf, .ref mr, .ref mh, .int 0, .int 0, .ref ma, .ref mas, .ref msn, .ref mac, .ref mat]))]) (wr := [(x, .inr (6, [.ref xt, .int 0, .ref xr, .ref xd, .ref xn, .ref xa, .ref xz, .ref xy, .int 0]))]) rfl rfl rfl rfl (by decide) (c_X7_lane_ l D g H.size m_ 0 mt 0 0 0 mrr mrh mrc 0 0 mn mf mr mh ma mas msn mac mat (xs 1) (xs 2) (xs 3)) (cwV 3 hts gL_law_X7_lane_ rfl rfl rfl (by decide +kernel) ⟨(Nat.le_of_ble_eq_true rfl), (Nat.le_of_ble_eq_true rfl)⟩) 0 7 rfl rfl rfl rfl hl.1 rfl (Nat.le_of_ble_eq_true rfl) dL_law_550 ⟨(Nat.le_of_ble_eq_true rfl), (Nat.le_of_ble_eq_true rfl)⟩ (fun r_2 u H locs hw hP hD hS => ?_)
  obtain ⟨rfl, rfl⟩ := hw
  have hP : va_P D vwCl [(x, .inr (6, [.ref xt, .int 0, .ref xr, .ref xd, .ref xn, .ref xa, .ref xz, .ref xy, .int 0])), (m_, .inr (7, [.int 0, .ref mt, .int 0, .int 0, .int 0, .ref mrr, .ref mrh, .ref mrc, .int 0, .int 0, .ref mn, .ref mf, .ref mr, .ref mh, .int 0, .int 0, .ref ma, .ref mas, .ref msn, .ref mac, .ref mat]))] H := hP
  have hD : va_D A [(x, .inr (6, [.ref xt, .int 0, .ref xr, .ref xd, .ref xn, .ref xa, .ref xz, .ref xy, .int 0])), (m_, .inr (7, [.int 0, .ref mt, .int 0, .int 0, .int 0, .ref mrr, .ref mrh, .ref mrc, .int 0, .int 0, .ref mn, .ref mf, .ref mr, .ref mh, .int 0, .int 0, .ref ma, .ref mas, .ref msn, .ref mac, .ref mat]))] := hD
  refine W.widen (k := 91) (n := 5288) (Nat.le_of_ble_eq_true rfl) (Nat.le_of_ble_eq_true rfl) ?_
  refine lv_icmp_eq (tgt := 1900) hx hb dL_law_553 (by decide) (fun _ => ?_) (fun cb => absurd (by decide) cb)
  subst hAe
  refine W.widen (k := 600002) (n := 7302232) (Nat.le_of_ble_eq_true rfl) (Nat.le_of_ble_eq_true rfl) ?_
  exact law_tail l C0 hS (lv_sub hl [0, 4] rfl)
set_option maxHeartbeats 4000000 in
set_option maxRecDepth 100000 in
/-- buffer -/
theorem law_case_8 {p : Program} {e : Env} {s : State} {m : MethodId} {below : List Frame} {meth : Method} {c : Code} (l : Launch) (hl9 : l.stackTraces = false) {b : Nat} {xs : Nat → Int32} (C0 : lw_At p s m meth c b 6 xs) (D : va_G) (g : Nat → ClassId) (hK : va_K D vwCl (kY g) s) (hN : kn g s) (hZ : ks g (fun q : Nat => s.heap.size ≤ q) s s.heap) {m_ ma mac mas mat mf mh mn mr mrc mrh mrr msn mt o_ x xa xd xn xr xt xy xz : Nat} {H : Heap} {locs : List Loc} {ls : Array Slot} (hP : va_P D vwCl [(x, .inr (6, [.ref xt, .int 0, .ref xr, .ref xd, .ref xn, .ref xa, .ref xz, .ref xy, .int 0])), (m_, .inr (7, [.int 0, .ref mt, .int 0, .int 0, .int 0, .ref mrr, .ref mrh, .ref mrc, .int 0, .int 0, .ref mn, .ref mf, .ref mr, .ref mh, .int 0, .int 0, .ref ma, .ref mas, .ref msn, .ref mac, .ref mat]))] H) (hD : va_D (fun q : Nat => s.heap.size ≤ q) [(x, .inr (6, [.ref xt, .int 0, .ref xr, .ref xd, .ref xn, .ref xa, .ref xz, .ref xy, .int 0])), (m_, .inr (7, [.int 0, .ref mt, .int 0, .int 0, .int 0, .ref mrr, .ref mrh, .ref mrc, .int 0, .int 0, .ref mn, .ref mf, .ref mr, .ref mh, .int 0, .int 0, .ref ma, .ref mas, .ref msn, .ref mac, .ref mat]))]) (hS : va_S (fun q : Nat => s.heap.size ≤ q) s.heap H locs) (hl : lv_has ls 7 [(4, .int 0), (3, .ref o_), (2, .ref m_), (1, .ref x), (0, .ref b)]) : W p l e room_1 s m #[Value.ref b] below meth c H locs 91 5288 (lw_Z below #[Value.ref b] s) (F0 m 558 ls []) := by
  obtain ⟨hx, hb, hr, hml, hown, hts0, hX, hbl, hlocks, hgv⟩ := id C0
  have hts : ∀ w ∈ wsL_law, w.before #[Value.ref b] s = true := fun w h => hts0 w (wsL_law_in w h)
  have hA : ∀ q : Nat, s.heap.size ≤ q → (fun q : Nat => s.heap.size ≤ q) q := fun _ h => h
  have hbA : ¬ (fun q : Nat => s.heap.size ≤ q) b := Nat.not_le.mpr hbl
  generalize hAe : (fun q : Nat => s.heap.size ≤ q) = A at hA hbA hZ hD hS
  refine lv_aload_n hx hb dL_law_558 rfl (lv_at hl 3 rfl) ?_
  refine lv_aload_n hx hb dL_law_559 rfl (lv_at hl 4 rfl) ?_
  refine lv_iload hx hb dL_law_560 (lv_at hl 0 rfl) ?_
  refine lv_iconst (v := 1) hx hb dL_law_562 (by decide) ?_
  refine lv_iadd hx hb dL_law_563 ?_
  refine lv_eqi (y := 1) (by decide) ?_
  refine va_sld hx hb hX hbl hbA hS (by unfold vp_in; decide) dL_law_564 ?_
  refine lv_eqi (y := (xs 1)) (rfl) ?_
  refine lv_aload_n hx hb dL_law_565 rfl (lv_at hl 4 rfl) ?_
  refine lv_iload hx hb dL_law_566 (lv_at hl 0 rfl) ?_
  refine lv_iconst (v := 2) hx hb dL_law_568 (by decide) ?_
  refine lv_iadd hx hb dL_law_569 ?_
  refine lv_eqi (y := 2) (by decide) ?_
  refine va_sld hx hb hX hbl hbA hS (by unfold vp_in; decide) dL_law_570 ?_
  refine lv_eqi (y := (xs 2)) (rfl) ?_
  refine ky_Vi (As := [.int (xs 1), .int (xs 2)]) (rest := []) ⟨hx, hb, hml, hown, hts⟩ ⟨hK, hN⟩ hZ hP hD hS hA [0] [1] (wc := [(x, .inr (6, [.ref xt, .int 0, .ref xr, .ref xd, .ref xn, .ref xa, .ref xz, .ref xy, .int 0]))]) (wr := [(m_, .inr (7, [.int 0, .ref mt, .int 0, .int 0, .int 0, .ref mrr, .ref mrh, .ref mrc, .int 0, .int 0, .ref mn, .ref mf, .ref mr, .ref mh, .int 0, .int 0, .ref ma, .ref mas, .ref msn, .ref mac, .ref mat]))]) rfl rfl rfl rfl (by decide) (c_X6_buffer l D g H.size x xt 0 xr xd xn xa xz xy (xs 1) (xs 2)) (cwV 2 hts gL_law_X6_buffer rfl rfl rfl (by decide +kernel) ⟨(Nat.le_of_ble_eq_true rfl), (Nat.le_of_ble_eq_true rfl)⟩) 0 6 rfl rfl rfl rfl hl.1 rfl (Nat.le_of_ble_eq_true rfl) dL_law_571 ⟨(Nat.le_of_ble_eq_true rfl), (Nat.le_of_ble_eq_true rfl)⟩ (fun r_1 u H locs hw hP hD hS => ?_)
  obtain ⟨rfl, rfl⟩ := hw
  have hP : va_P D vwCl [(m_, .inr (7, [.int 0, .ref mt, .int 0, .int 0, .int 0, .ref mrr, .ref mrh, .ref mrc, .int 0, .int 0, .ref mn, .ref mf, .ref mr, .ref mh, .int 0, .int 0, .ref ma, .ref mas, .ref msn, .ref mac, .ref mat])), (x, .inr (6, [.ref xt, .int 0, .ref xr, .ref xd, .ref xn, .ref xa, .ref xz, .ref xy, .int 0]))] H := hP
  have hD : va_D A [(m_, .inr (7, [.int 0, .ref mt, .int 0, .int 0, .int 0, .ref mrr, .ref mrh, .ref mrc, .int 0, .int 0, .ref mn, .ref mf, .ref mr, .ref mh, .int 0, .int 0, .ref ma, .ref mas, .ref msn, .ref mac, .ref mat])), (x, .inr (6, [.ref xt, .int 0, .ref xr, .ref xd, .ref xn, .ref xa, .ref xz, .ref xy, .int 0]))] := hD
  refine W.widen (k := 91) (n := 5288) (Nat.le_of_ble_eq_true rfl) (Nat.le_of_ble_eq_true rfl) ?_
  refine lv_aload_n hx hb dL_law_574 rfl (lv_at hl 2 rfl) ?_
  refine lv_aload_n hx hb dL_law_575 rfl (lv_at hl 4 rfl) ?_
  refine lv_iload hx hb dL_law_576 (lv_at hl 0 rfl) ?_
  refine lv_iconst (v := 1) hx hb dL_law_578 (by decide) ?_
  refine lv_iadd hx hb dL_law_579 ?_
  refine lv_eqi (y := 1) (by decide) ?_
  refine va_sld hx hb hX hbl hbA hS (by unfold vp_in; decide) dL_law_580 ?_
  refine lv_eqi (y := (xs 1)) (rfl) ?_
  refine lv_aload_n hx hb dL_law_581 rfl (lv_at hl 4 rfl) ?_
  refine lv_iload hx hb dL_law_582 (lv_at hl 0 rfl) ?_
  refine lv_iconst (v := 2) hx hb dL_law_584 (by decide) ?_
  refine lv_iadd hx hb dL_law_585 ?_
  refine lv_eqi (y := 2) (by decide) ?_
  refine va_sld hx hb hX hbl hbA hS (by unfold vp_in; decide) dL_law_586 ?_
  refine lv_eqi (y := (xs 2)) (rfl) ?_
  refine ky_Vi (As := [.int (xs 1), .int (xs 2)]) (rest := [.int (-1)]) ⟨hx, hb, hml, hown, hts⟩ ⟨hK, hN⟩ hZ hP hD hS hA [0] [1] (wc := [(m_, .inr (7, [.int 0, .ref mt, .int 0, .int 0, .int 0, .ref mrr, .ref mrh, .ref mrc, .int 0, .int 0, .ref mn, .ref mf, .ref mr, .ref mh, .int 0, .int 0, .ref ma, .ref mas, .ref msn, .ref mac, .ref mat]))]) (wr := [(x, .inr (6, [.ref xt, .int 0, .ref xr, .ref xd, .ref xn, .ref xa, .ref xz, .ref xy, .int 0]))]) rfl rfl rfl rfl (by decide) (c_X7_buffer l D g H.size m_ 0 mt 0 0 0 mrr mrh mrc 0 0 mn mf mr mh ma mas msn mac mat (xs 1) (xs 2)) (cwV 2 hts gL_law_X7_buffer rfl rfl rfl (by decide +kernel) ⟨(Nat.le_of_ble_eq_true rfl), (Nat.le_of_ble_eq_true rfl)⟩) 0 7 rfl rfl rfl rfl hl.1 rfl (Nat.le_of_ble_eq_true rfl) dL_law_587 ⟨(Nat.le_of_ble_eq_true rfl), (Nat.le_of_ble_eq_true rfl)⟩ (fun r_2 u H locs hw hP hD hS => ?_)
  obtain ⟨rfl, rfl⟩ := hw
  have hP : va_P D vwCl [(x, .inr (6, [.ref xt, .int 0, .ref xr, .ref xd, .ref xn, .ref xa, .ref xz, .ref xy, .int 0])), (m_, .inr (7, [.int 0, .ref mt, .int 0, .int 0, .int 0, .ref mrr, .ref mrh, .ref mrc, .int 0, .int 0, .ref mn, .ref mf, .ref mr, .ref mh, .int 0, .int 0, .ref ma, .ref mas, .ref msn, .ref mac, .ref mat]))] H := hP
  have hD : va_D A [(x, .inr (6, [.ref xt, .int 0, .ref xr, .ref xd, .ref xn, .ref xa, .ref xz, .ref xy, .int 0])), (m_, .inr (7, [.int 0, .ref mt, .int 0, .int 0, .int 0, .ref mrr, .ref mrh, .ref mrc, .int 0, .int 0, .ref mn, .ref mf, .ref mr, .ref mh, .int 0, .int 0, .ref ma, .ref mas, .ref msn, .ref mac, .ref mat]))] := hD
  refine W.widen (k := 91) (n := 5288) (Nat.le_of_ble_eq_true rfl) (Nat.le_of_ble_eq_true rfl) ?_
  refine lv_icmp_eq (tgt := 1900) hx hb dL_law_590 (by decide) (fun _ => ?_) (fun cb => absurd (by decide) cb)
  subst hAe
  refine W.widen (k := 600002) (n := 7302232) (Nat.le_of_ble_eq_true rfl) (Nat.le_of_ble_eq_true rfl) ?_
  exact law_tail l C0 hS (lv_sub hl [0, 4] rfl)
set_option maxHeartbeats 4000000 in
set_option maxRecDepth 100000 in
/-- way -/
theorem law_case_9 {p : Program} {e : Env} {s : State} {m : MethodId} {below : List Frame} {meth : Method} {c : Code} (l : Launch) (hl9 : l.stackTraces = false) {b : Nat} {xs : Nat → Int32} (C0 : lw_At p s m meth c b 6 xs) (D : va_G) (g : Nat → ClassId) (hK : va_K D vwCl (kY g) s) (hN : kn g s) (hZ : ks g (fun q : Nat => s.heap.size ≤ q) s s.heap) {m_ ma mac mas mat mf mh mn mr mrc mrh mrr msn mt o_ x xa xd xn xr xt xy xz : Nat} {H : Heap} {locs : List Loc} {ls : Array Slot} (hP : va_P D vwCl [(x, .inr (6, [.ref xt, .int 0, .ref xr, .ref xd, .ref xn, .ref xa, .ref xz, .ref xy, .int 0])), (m_, .inr (7, [.int 0, .ref mt, .int 0, .int 0, .int 0, .ref mrr, .ref mrh, .ref mrc, .int 0, .int 0, .ref mn, .ref mf, .ref mr, .ref mh, .int 0, .int 0, .ref ma, .ref mas, .ref msn, .ref mac, .ref mat]))] H) (hD : va_D (fun q : Nat => s.heap.size ≤ q) [(x, .inr (6, [.ref xt, .int 0, .ref xr, .ref xd, .ref xn, .ref xa, .ref xz, .ref xy, .int 0])), (m_, .inr (7, [.int 0, .ref mt, .int 0, .int 0, .int 0, .ref mrr, .ref mrh, .ref mrc, .int 0, .int 0, .ref mn, .ref mf, .ref mr, .ref mh, .int 0, .int 0, .ref ma, .ref mas, .ref msn, .ref mac, .ref mat]))]) (hS : va_S (fun q : Nat => s.heap.size ≤ q) s.heap H locs) (hl : lv_has ls 7 [(4, .int 0), (3, .ref o_), (2, .ref m_), (1, .ref x), (0, .ref b)]) : W p l e room_1 s m #[Value.ref b] below meth c H locs 91 5288 (lw_Z below #[Value.ref b] s) (F0 m 595 ls []) := by
  obtain ⟨hx, hb, hr, hml, hown, hts0, hX, hbl, hlocks, hgv⟩ := id C0
  have hts : ∀ w ∈ wsL_law, w.before #[Value.ref b] s = true := fun w h => hts0 w (wsL_law_in w h)
  have hA : ∀ q : Nat, s.heap.size ≤ q → (fun q : Nat => s.heap.size ≤ q) q := fun _ h => h
  have hbA : ¬ (fun q : Nat => s.heap.size ≤ q) b := Nat.not_le.mpr hbl
  generalize hAe : (fun q : Nat => s.heap.size ≤ q) = A at hA hbA hZ hD hS
  refine lv_aload_n hx hb dL_law_595 rfl (lv_at hl 3 rfl) ?_
  refine lv_aload_n hx hb dL_law_596 rfl (lv_at hl 4 rfl) ?_
  refine lv_iload hx hb dL_law_597 (lv_at hl 0 rfl) ?_
  refine lv_iconst (v := 1) hx hb dL_law_599 (by decide) ?_
  refine lv_iadd hx hb dL_law_600 ?_
  refine lv_eqi (y := 1) (by decide) ?_
  refine va_sld hx hb hX hbl hbA hS (by unfold vp_in; decide) dL_law_601 ?_
  refine lv_eqi (y := (xs 1)) (rfl) ?_
  refine lv_aload_n hx hb dL_law_602 rfl (lv_at hl 4 rfl) ?_
  refine lv_iload hx hb dL_law_603 (lv_at hl 0 rfl) ?_
  refine lv_iconst (v := 2) hx hb dL_law_605 (by decide) ?_
  refine lv_iadd hx hb dL_law_606 ?_
  refine lv_eqi (y := 2) (by decide) ?_
  refine va_sld hx hb hX hbl hbA hS (by unfold vp_in; decide) dL_law_607 ?_
  refine lv_eqi (y := (xs 2)) (rfl) ?_
  refine lv_aload_n hx hb dL_law_608 rfl (lv_at hl 4 rfl) ?_
  refine lv_iload hx hb dL_law_609 (lv_at hl 0 rfl) ?_
  refine lv_iconst (v := 3) hx hb dL_law_611 (by decide) ?_
  refine lv_iadd hx hb dL_law_612 ?_
  refine lv_eqi (y := 3) (by decide) ?_
  refine va_sld hx hb hX hbl hbA hS (by unfold vp_in; decide) dL_law_613 ?_
  refine lv_eqi (y := (xs 3)) (rfl) ?_
  refine ky_Vi (As := [.int (xs 1), .int (xs 2), .int (xs 3)]) (rest := []) ⟨hx, hb, hml, hown, hts⟩ ⟨hK, hN⟩ hZ hP hD hS hA [0] [1] (wc := [(x, .inr (6, [.ref xt, .int 0, .ref xr, .ref xd, .ref xn, .ref xa, .ref xz, .ref xy, .int 0]))]) (wr := [(m_, .inr (7, [.int 0, .ref mt, .int 0, .int 0, .int 0, .ref mrr, .ref mrh, .ref mrc, .int 0, .int 0, .ref mn, .ref mf, .ref mr, .ref mh, .int 0, .int 0, .ref ma, .ref mas, .ref msn, .ref mac, .ref mat]))]) rfl rfl rfl rfl (by decide) (c_X6_way l D g H.size x xt 0 xr xd xn xa xz xy (xs 1) (xs 2) (xs 3)) (cwV 3 hts gL_law_X6_way rfl rfl rfl (by decide +kernel) ⟨(Nat.le_of_ble_eq_true rfl), (Nat.le_of_ble_eq_true rfl)⟩) 0 6 rfl rfl rfl rfl hl.1 rfl (Nat.le_of_ble_eq_true rfl) dL_law_614 ⟨(Nat.le_of_ble_eq_true rfl), (Nat.le_of_ble_eq_true rfl)⟩ (fun r_1 u H locs hw hP hD hS => ?_)
  obtain ⟨rfl, rfl⟩ := hw
  have hP : va_P D vwCl [(m_, .inr (7, [.int 0, .ref mt, .int 0, .int 0, .int 0, .ref mrr, .ref mrh, .ref mrc, .int 0, .int 0, .ref mn, .ref mf, .ref mr, .ref mh, .int 0, .int 0, .ref ma, .ref mas, .ref msn, .ref mac, .ref mat])), (x, .inr (6, [.ref xt, .int 0, .ref xr, .ref xd, .ref xn, .ref xa, .ref xz, .ref xy, .int 0]))] H := hP
  have hD : va_D A [(m_, .inr (7, [.int 0, .ref mt, .int 0, .int 0, .int 0, .ref mrr, .ref mrh, .ref mrc, .int 0, .int 0, .ref mn, .ref mf, .ref mr, .ref mh, .int 0, .int 0, .ref ma, .ref mas, .ref msn, .ref mac, .ref mat])), (x, .inr (6, [.ref xt, .int 0, .ref xr, .ref xd, .ref xn, .ref xa, .ref xz, .ref xy, .int 0]))] := hD
  refine W.widen (k := 91) (n := 5288) (Nat.le_of_ble_eq_true rfl) (Nat.le_of_ble_eq_true rfl) ?_
  refine lv_aload_n hx hb dL_law_617 rfl (lv_at hl 2 rfl) ?_
  refine lv_aload_n hx hb dL_law_618 rfl (lv_at hl 4 rfl) ?_
  refine lv_iload hx hb dL_law_619 (lv_at hl 0 rfl) ?_
  refine lv_iconst (v := 1) hx hb dL_law_621 (by decide) ?_
  refine lv_iadd hx hb dL_law_622 ?_
  refine lv_eqi (y := 1) (by decide) ?_
  refine va_sld hx hb hX hbl hbA hS (by unfold vp_in; decide) dL_law_623 ?_
  refine lv_eqi (y := (xs 1)) (rfl) ?_
  refine lv_aload_n hx hb dL_law_624 rfl (lv_at hl 4 rfl) ?_
  refine lv_iload hx hb dL_law_625 (lv_at hl 0 rfl) ?_
  refine lv_iconst (v := 2) hx hb dL_law_627 (by decide) ?_
  refine lv_iadd hx hb dL_law_628 ?_
  refine lv_eqi (y := 2) (by decide) ?_
  refine va_sld hx hb hX hbl hbA hS (by unfold vp_in; decide) dL_law_629 ?_
  refine lv_eqi (y := (xs 2)) (rfl) ?_
  refine lv_aload_n hx hb dL_law_630 rfl (lv_at hl 4 rfl) ?_
  refine lv_iload hx hb dL_law_631 (lv_at hl 0 rfl) ?_
  refine lv_iconst (v := 3) hx hb dL_law_633 (by decide) ?_
  refine lv_iadd hx hb dL_law_634 ?_
  refine lv_eqi (y := 3) (by decide) ?_
  refine va_sld hx hb hX hbl hbA hS (by unfold vp_in; decide) dL_law_635 ?_
  refine lv_eqi (y := (xs 3)) (rfl) ?_
  refine ky_Vi (As := [.int (xs 1), .int (xs 2), .int (xs 3)]) (rest := [.int (-1)]) ⟨hx, hb, hml, hown, hts⟩ ⟨hK, hN⟩ hZ hP hD hS hA [0] [1] (wc := [(m_, .inr (7, [.int 0, .ref mt, .int 0, .int 0, .int 0, .ref mrr, .ref mrh, .ref mrc, .int 0, .int 0, .ref mn, .ref mf, .ref mr, .ref mh, .int 0, .int 0, .ref ma, .ref mas, .ref msn, .ref mac, .ref mat]))]) (wr := [(x, .inr (6, [.ref xt, .int 0, .ref xr, .ref xd, .ref xn, .ref xa, .ref xz, .ref xy, .int 0]))]) rfl rfl rfl rfl (by decide) (c_X7_way l D g H.size m_ 0 mt 0 0 0 mrr mrh mrc 0 0 mn mf mr mh ma mas msn mac mat (xs 1) (xs 2) (xs 3)) (cwV 3 hts gL_law_X7_way rfl rfl rfl (by decide +kernel) ⟨(Nat.le_of_ble_eq_true rfl), (Nat.le_of_ble_eq_true rfl)⟩) 0 7 rfl rfl rfl rfl hl.1 rfl (Nat.le_of_ble_eq_true rfl) dL_law_636 ⟨(Nat.le_of_ble_eq_true rfl), (Nat.le_of_ble_eq_true rfl)⟩ (fun r_2 u H locs hw hP hD hS => ?_)
  obtain ⟨rfl, rfl⟩ := hw
  have hP : va_P D vwCl [(x, .inr (6, [.ref xt, .int 0, .ref xr, .ref xd, .ref xn, .ref xa, .ref xz, .ref xy, .int 0])), (m_, .inr (7, [.int 0, .ref mt, .int 0, .int 0, .int 0, .ref mrr, .ref mrh, .ref mrc, .int 0, .int 0, .ref mn, .ref mf, .ref mr, .ref mh, .int 0, .int 0, .ref ma, .ref mas, .ref msn, .ref mac, .ref mat]))] H := hP
  have hD : va_D A [(x, .inr (6, [.ref xt, .int 0, .ref xr, .ref xd, .ref xn, .ref xa, .ref xz, .ref xy, .int 0])), (m_, .inr (7, [.int 0, .ref mt, .int 0, .int 0, .int 0, .ref mrr, .ref mrh, .ref mrc, .int 0, .int 0, .ref mn, .ref mf, .ref mr, .ref mh, .int 0, .int 0, .ref ma, .ref mas, .ref msn, .ref mac, .ref mat]))] := hD
  refine W.widen (k := 91) (n := 5288) (Nat.le_of_ble_eq_true rfl) (Nat.le_of_ble_eq_true rfl) ?_
  refine lv_icmp_eq (tgt := 1900) hx hb dL_law_639 (by decide) (fun _ => ?_) (fun cb => absurd (by decide) cb)
  subst hAe
  refine W.widen (k := 600002) (n := 7302232) (Nat.le_of_ble_eq_true rfl) (Nat.le_of_ble_eq_true rfl) ?_
  exact law_tail l C0 hS (lv_sub hl [0, 4] rfl)
set_option maxHeartbeats 4000000 in
set_option maxRecDepth 100000 in
/-- go -/
theorem law_case_10 {p : Program} {e : Env} {s : State} {m : MethodId} {below : List Frame} {meth : Method} {c : Code} (l : Launch) (hl9 : l.stackTraces = false) {b : Nat} {xs : Nat → Int32} (C0 : lw_At p s m meth c b 6 xs) (D : va_G) (g : Nat → ClassId) (hK : va_K D vwCl (kY g) s) (hN : kn g s) (hZ : ks g (fun q : Nat => s.heap.size ≤ q) s s.heap) {m_ ma mac mas mat mf mh mn mr mrc mrh mrr msn mt o_ x xa xd xn xr xt xy xz : Nat} {H : Heap} {locs : List Loc} {ls : Array Slot} (hP : va_P D vwCl [(x, .inr (6, [.ref xt, .int 0, .ref xr, .ref xd, .ref xn, .ref xa, .ref xz, .ref xy, .int 0])), (xr, .inl (g 0, 4, .inl (fun _ => 0))), (m_, .inr (7, [.int 0, .ref mt, .int 0, .int 0, .int 0, .ref mrr, .ref mrh, .ref mrc, .int 0, .int 0, .ref mn, .ref mf, .ref mr, .ref mh, .int 0, .int 0, .ref ma, .ref mas, .ref msn, .ref mac, .ref mat])), (mf, .inl (g 0, 4, .inl (fun _ => 0)))] H) (hD : va_D (fun q : Nat => s.heap.size ≤ q) [(x, .inr (6, [.ref xt, .int 0, .ref xr, .ref xd, .ref xn, .ref xa, .ref xz, .ref xy, .int 0])), (xr, .inl (g 0, 4, .inl (fun _ => 0))), (m_, .inr (7, [.int 0, .ref mt, .int 0, .int 0, .int 0, .ref mrr, .ref mrh, .ref mrc, .int 0, .int 0, .ref mn, .ref mf, .ref mr, .ref mh, .int 0, .int 0, .ref ma, .ref mas, .ref msn, .ref mac, .ref mat])), (mf, .inl (g 0, 4, .inl (fun _ => 0)))]) (hS : va_S (fun q : Nat => s.heap.size ≤ q) s.heap H locs) (hl : lv_has ls 7 [(4, .int 0), (3, .ref o_), (2, .ref m_), (1, .ref x), (0, .ref b)]) : W p l e room_1 s m #[Value.ref b] below meth c H locs 91 5288 (lw_Z below #[Value.ref b] s) (F0 m 644 ls []) := by
  obtain ⟨hx, hb, hr, hml, hown, hts0, hX, hbl, hlocks, hgv⟩ := id C0
  have hts : ∀ w ∈ wsL_law, w.before #[Value.ref b] s = true := fun w h => hts0 w (wsL_law_in w h)
  have hA : ∀ q : Nat, s.heap.size ≤ q → (fun q : Nat => s.heap.size ≤ q) q := fun _ h => h
  have hbA : ¬ (fun q : Nat => s.heap.size ≤ q) b := Nat.not_le.mpr hbl
  generalize hAe : (fun q : Nat => s.heap.size ≤ q) = A at hA hbA hZ hD hS
  refine lv_aload_n hx hb dL_law_644 rfl (lv_at hl 3 rfl) ?_
  refine lv_aload_n hx hb dL_law_645 rfl (lv_at hl 4 rfl) ?_
  refine lv_iload hx hb dL_law_646 (lv_at hl 0 rfl) ?_
  refine lv_iconst (v := 1) hx hb dL_law_648 (by decide) ?_
  refine lv_iadd hx hb dL_law_649 ?_
  refine lv_eqi (y := 1) (by decide) ?_
  refine va_sld hx hb hX hbl hbA hS (by unfold vp_in; decide) dL_law_650 ?_
  refine lv_eqi (y := (xs 1)) (rfl) ?_
  refine ky_Vi (As := [.int (xs 1)]) (rest := []) ⟨hx, hb, hml, hown, hts⟩ ⟨hK, hN⟩ hZ hP hD hS hA [0, 1] [2, 3] (wc := [(x, .inr (6, [.ref xt, .int 0, .ref xr, .ref xd, .ref xn, .ref xa, .ref xz, .ref xy, .int 0])), (xr, .inl (g 0, 4, .inl (fun _ => 0)))]) (wr := [(m_, .inr (7, [.int 0, .ref mt, .int 0, .int 0, .int 0, .ref mrr, .ref mrh, .ref mrc, .int 0, .int 0, .ref mn, .ref mf, .ref mr, .ref mh, .int 0, .int 0, .ref ma, .ref mas, .ref msn, .ref mac, .ref mat])), (mf, .inl (g 0, 4, .inl (fun _ => 0)))]) rfl rfl rfl rfl (by decide) (c_X6_go l D g H.size x xt 0 xr xd xn xa xz xy (xs 1) (fun _ => 0)) (cwV 1 hts gL_law_X6_go rfl rfl rfl (by decide +kernel) ⟨(Nat.le_of_ble_eq_true rfl), (Nat.le_of_ble_eq_true rfl)⟩) 0 6 rfl rfl rfl rfl hl.1 rfl (Nat.le_of_ble_eq_true rfl) dL_law_651 ⟨(Nat.le_of_ble_eq_true rfl), (Nat.le_of_ble_eq_true rfl)⟩ (fun r_1 u H locs hw hP hD hS => ?_)
  obtain ⟨rfl, rfl⟩ := hw
  have hP : va_P D vwCl [(m_, .inr (7, [.int 0, .ref mt, .int 0, .int 0, .int 0, .ref mrr, .ref mrh, .ref mrc, .int 0, .int 0, .ref mn, .ref mf, .ref mr, .ref mh, .int 0, .int 0, .ref ma, .ref mas, .ref msn, .ref mac, .ref mat])), (mf, .inl (g 0, 4, .inl (fun _ => 0))), (x, .inr (6, [.ref xt, .int 0, .ref xr, .ref xd, .ref xn, .ref xa, .ref xz, .ref xy, .int 0])), (xr, .inl (g 0, 4, .inl (upd (fun _ => 0) 0 ((fun _ => 0) 0 + 1))))] H := hP
  have hD : va_D A [(m_, .inr (7, [.int 0, .ref mt, .int 0, .int 0, .int 0, .ref mrr, .ref mrh, .ref mrc, .int 0, .int 0, .ref mn, .ref mf, .ref mr, .ref mh, .int 0, .int 0, .ref ma, .ref mas, .ref msn, .ref mac, .ref mat])), (mf, .inl (g 0, 4, .inl (fun _ => 0))), (x, .inr (6, [.ref xt, .int 0, .ref xr, .ref xd, .ref xn, .ref xa, .ref xz, .ref xy, .int 0])), (xr, .inl (g 0, 4, .inl (upd (fun _ => 0) 0 ((fun _ => 0) 0 + 1))))] := hD
  refine W.widen (k := 91) (n := 5288) (Nat.le_of_ble_eq_true rfl) (Nat.le_of_ble_eq_true rfl) ?_
  refine lv_aload_n hx hb dL_law_654 rfl (lv_at hl 2 rfl) ?_
  refine lv_aload_n hx hb dL_law_655 rfl (lv_at hl 4 rfl) ?_
  refine lv_iload hx hb dL_law_656 (lv_at hl 0 rfl) ?_
  refine lv_iconst (v := 1) hx hb dL_law_658 (by decide) ?_
  refine lv_iadd hx hb dL_law_659 ?_
  refine lv_eqi (y := 1) (by decide) ?_
  refine va_sld hx hb hX hbl hbA hS (by unfold vp_in; decide) dL_law_660 ?_
  refine lv_eqi (y := (xs 1)) (rfl) ?_
  refine ky_Vi (As := [.int (xs 1)]) (rest := [.int (-1)]) ⟨hx, hb, hml, hown, hts⟩ ⟨hK, hN⟩ hZ hP hD hS hA [0, 1] [2, 3] (wc := [(m_, .inr (7, [.int 0, .ref mt, .int 0, .int 0, .int 0, .ref mrr, .ref mrh, .ref mrc, .int 0, .int 0, .ref mn, .ref mf, .ref mr, .ref mh, .int 0, .int 0, .ref ma, .ref mas, .ref msn, .ref mac, .ref mat])), (mf, .inl (g 0, 4, .inl (fun _ => 0)))]) (wr := [(x, .inr (6, [.ref xt, .int 0, .ref xr, .ref xd, .ref xn, .ref xa, .ref xz, .ref xy, .int 0])), (xr, .inl (g 0, 4, .inl (upd (fun _ => 0) 0 ((fun _ => 0) 0 + 1))))]) rfl rfl rfl rfl (by decide) (c_X7_go l D g H.size m_ 0 mt 0 0 0 mrr mrh mrc 0 0 mn mf mr mh ma mas msn mac mat (xs 1) (fun _ => 0)) (cwV 1 hts gL_law_X7_go rfl rfl rfl (by decide +kernel) ⟨(Nat.le_of_ble_eq_true rfl), (Nat.le_of_ble_eq_true rfl)⟩) 0 7 rfl rfl rfl rfl hl.1 rfl (Nat.le_of_ble_eq_true rfl) dL_law_661 ⟨(Nat.le_of_ble_eq_true rfl), (Nat.le_of_ble_eq_true rfl)⟩ (fun r_2 u H locs hw hP hD hS => ?_)
  obtain ⟨rfl, rfl⟩ := hw
  have hP : va_P D vwCl [(x, .inr (6, [.ref xt, .int 0, .ref xr, .ref xd, .ref xn, .ref xa, .ref xz, .ref xy, .int 0])), (xr, .inl (g 0, 4, .inl (upd (fun _ => 0) 0 ((fun _ => 0) 0 + 1)))), (m_, .inr (7, [.int 0, .ref mt, .int 0, .int 0, .int 0, .ref mrr, .ref mrh, .ref mrc, .int 0, .int 0, .ref mn, .ref mf, .ref mr, .ref mh, .int 0, .int 0, .ref ma, .ref mas, .ref msn, .ref mac, .ref mat])), (mf, .inl (g 0, 4, .inl (upd (fun _ => 0) 0 ((fun _ => 0) 0 + 1))))] H := hP
  have hD : va_D A [(x, .inr (6, [.ref xt, .int 0, .ref xr, .ref xd, .ref xn, .ref xa, .ref xz, .ref xy, .int 0])), (xr, .inl (g 0, 4, .inl (upd (fun _ => 0) 0 ((fun _ => 0) 0 + 1)))), (m_, .inr (7, [.int 0, .ref mt, .int 0, .int 0, .int 0, .ref mrr, .ref mrh, .ref mrc, .int 0, .int 0, .ref mn, .ref mf, .ref mr, .ref mh, .int 0, .int 0, .ref ma, .ref mas, .ref msn, .ref mac, .ref mat])), (mf, .inl (g 0, 4, .inl (upd (fun _ => 0) 0 ((fun _ => 0) 0 + 1))))] := hD
  refine W.widen (k := 91) (n := 5288) (Nat.le_of_ble_eq_true rfl) (Nat.le_of_ble_eq_true rfl) ?_
  refine lv_icmp_eq (tgt := 1900) hx hb dL_law_664 (by decide) (fun _ => ?_) (fun cb => absurd (by decide) cb)
  subst hAe
  refine W.widen (k := 600002) (n := 7302232) (Nat.le_of_ble_eq_true rfl) (Nat.le_of_ble_eq_true rfl) ?_
  exact law_tail l C0 hS (lv_sub hl [0, 4] rfl)
set_option maxHeartbeats 4000000 in
set_option maxRecDepth 100000 in
/-- jam -/
theorem law_case_11 {p : Program} {e : Env} {s : State} {m : MethodId} {below : List Frame} {meth : Method} {c : Code} (l : Launch) (hl9 : l.stackTraces = false) {b : Nat} {xs : Nat → Int32} (C0 : lw_At p s m meth c b 6 xs) (D : va_G) (g : Nat → ClassId) (hK : va_K D vwCl (kY g) s) (hN : kn g s) (hZ : ks g (fun q : Nat => s.heap.size ≤ q) s s.heap) {m_ ma mac mas mat mf mh mn mr mrc mrh mrr msn mt o_ x xa xd xn xr xt xy xz : Nat} {H : Heap} {locs : List Loc} {ls : Array Slot} (hP : va_P D vwCl [(x, .inr (6, [.ref xt, .int 0, .ref xr, .ref xd, .ref xn, .ref xa, .ref xz, .ref xy, .int 0])), (xr, .inl (g 0, 4, .inl (fun _ => 0))), (m_, .inr (7, [.int 0, .ref mt, .int 0, .int 0, .int 0, .ref mrr, .ref mrh, .ref mrc, .int 0, .int 0, .ref mn, .ref mf, .ref mr, .ref mh, .int 0, .int 0, .ref ma, .ref mas, .ref msn, .ref mac, .ref mat])), (mf, .inl (g 0, 4, .inl (fun _ => 0)))] H) (hD : va_D (fun q : Nat => s.heap.size ≤ q) [(x, .inr (6, [.ref xt, .int 0, .ref xr, .ref xd, .ref xn, .ref xa, .ref xz, .ref xy, .int 0])), (xr, .inl (g 0, 4, .inl (fun _ => 0))), (m_, .inr (7, [.int 0, .ref mt, .int 0, .int 0, .int 0, .ref mrr, .ref mrh, .ref mrc, .int 0, .int 0, .ref mn, .ref mf, .ref mr, .ref mh, .int 0, .int 0, .ref ma, .ref mas, .ref msn, .ref mac, .ref mat])), (mf, .inl (g 0, 4, .inl (fun _ => 0)))]) (hS : va_S (fun q : Nat => s.heap.size ≤ q) s.heap H locs) (hl : lv_has ls 7 [(4, .int 0), (3, .ref o_), (2, .ref m_), (1, .ref x), (0, .ref b)]) : W p l e room_1 s m #[Value.ref b] below meth c H locs 91 5288 (lw_Z below #[Value.ref b] s) (F0 m 669 ls []) := by
  obtain ⟨hx, hb, hr, hml, hown, hts0, hX, hbl, hlocks, hgv⟩ := id C0
  have hts : ∀ w ∈ wsL_law, w.before #[Value.ref b] s = true := fun w h => hts0 w (wsL_law_in w h)
  have hA : ∀ q : Nat, s.heap.size ≤ q → (fun q : Nat => s.heap.size ≤ q) q := fun _ h => h
  have hbA : ¬ (fun q : Nat => s.heap.size ≤ q) b := Nat.not_le.mpr hbl
  generalize hAe : (fun q : Nat => s.heap.size ≤ q) = A at hA hbA hZ hD hS
  refine lv_aload_n hx hb dL_law_669 rfl (lv_at hl 3 rfl) ?_
  refine lv_aload_n hx hb dL_law_670 rfl (lv_at hl 4 rfl) ?_
  refine lv_iload hx hb dL_law_671 (lv_at hl 0 rfl) ?_
  refine lv_iconst (v := 1) hx hb dL_law_673 (by decide) ?_
  refine lv_iadd hx hb dL_law_674 ?_
  refine lv_eqi (y := 1) (by decide) ?_
  refine va_sld hx hb hX hbl hbA hS (by unfold vp_in; decide) dL_law_675 ?_
  refine lv_eqi (y := (xs 1)) (rfl) ?_
  refine lv_aload_n hx hb dL_law_676 rfl (lv_at hl 4 rfl) ?_
  refine lv_iload hx hb dL_law_677 (lv_at hl 0 rfl) ?_
  refine lv_iconst (v := 2) hx hb dL_law_679 (by decide) ?_
  refine lv_iadd hx hb dL_law_680 ?_
  refine lv_eqi (y := 2) (by decide) ?_
  refine va_sld hx hb hX hbl hbA hS (by unfold vp_in; decide) dL_law_681 ?_
  refine lv_eqi (y := (xs 2)) (rfl) ?_
  refine ky_Vi (As := [.int (xs 1), .int (xs 2)]) (rest := []) ⟨hx, hb, hml, hown, hts⟩ ⟨hK, hN⟩ hZ hP hD hS hA [0, 1] [2, 3] (wc := [(x, .inr (6, [.ref xt, .int 0, .ref xr, .ref xd, .ref xn, .ref xa, .ref xz, .ref xy, .int 0])), (xr, .inl (g 0, 4, .inl (fun _ => 0)))]) (wr := [(m_, .inr (7, [.int 0, .ref mt, .int 0, .int 0, .int 0, .ref mrr, .ref mrh, .ref mrc, .int 0, .int 0, .ref mn, .ref mf, .ref mr, .ref mh, .int 0, .int 0, .ref ma, .ref mas, .ref msn, .ref mac, .ref mat])), (mf, .inl (g 0, 4, .inl (fun _ => 0)))]) rfl rfl rfl rfl (by decide) (c_X6_jam l D g H.size x xt 0 xr xd xn xa xz xy (xs 1) (xs 2) (fun _ => 0)) (cwV 2 hts gL_law_X6_jam rfl rfl rfl (by decide +kernel) ⟨(Nat.le_of_ble_eq_true rfl), (Nat.le_of_ble_eq_true rfl)⟩) 0 6 rfl rfl rfl rfl hl.1 rfl (Nat.le_of_ble_eq_true rfl) dL_law_682 ⟨(Nat.le_of_ble_eq_true rfl), (Nat.le_of_ble_eq_true rfl)⟩ (fun r_1 u H locs hw hP hD hS => ?_)
  obtain ⟨rfl, rfl⟩ := hw
  have hP : va_P D vwCl [(m_, .inr (7, [.int 0, .ref mt, .int 0, .int 0, .int 0, .ref mrr, .ref mrh, .ref mrc, .int 0, .int 0, .ref mn, .ref mf, .ref mr, .ref mh, .int 0, .int 0, .ref ma, .ref mas, .ref msn, .ref mac, .ref mat])), (mf, .inl (g 0, 4, .inl (fun _ => 0))), (x, .inr (6, [.ref xt, .int 0, .ref xr, .ref xd, .ref xn, .ref xa, .ref xz, .ref xy, .int 0])), (xr, .inl (g 0, 4, .inl (upd (fun _ => 0) 0 ((fun _ => 0) 0 + 1))))] H := hP
  have hD : va_D A [(m_, .inr (7, [.int 0, .ref mt, .int 0, .int 0, .int 0, .ref mrr, .ref mrh, .ref mrc, .int 0, .int 0, .ref mn, .ref mf, .ref mr, .ref mh, .int 0, .int 0, .ref ma, .ref mas, .ref msn, .ref mac, .ref mat])), (mf, .inl (g 0, 4, .inl (fun _ => 0))), (x, .inr (6, [.ref xt, .int 0, .ref xr, .ref xd, .ref xn, .ref xa, .ref xz, .ref xy, .int 0])), (xr, .inl (g 0, 4, .inl (upd (fun _ => 0) 0 ((fun _ => 0) 0 + 1))))] := hD
  refine W.widen (k := 91) (n := 5288) (Nat.le_of_ble_eq_true rfl) (Nat.le_of_ble_eq_true rfl) ?_
  refine lv_aload_n hx hb dL_law_685 rfl (lv_at hl 2 rfl) ?_
  refine lv_aload_n hx hb dL_law_686 rfl (lv_at hl 4 rfl) ?_
  refine lv_iload hx hb dL_law_687 (lv_at hl 0 rfl) ?_
  refine lv_iconst (v := 1) hx hb dL_law_689 (by decide) ?_
  refine lv_iadd hx hb dL_law_690 ?_
  refine lv_eqi (y := 1) (by decide) ?_
  refine va_sld hx hb hX hbl hbA hS (by unfold vp_in; decide) dL_law_691 ?_
  refine lv_eqi (y := (xs 1)) (rfl) ?_
  refine lv_aload_n hx hb dL_law_692 rfl (lv_at hl 4 rfl) ?_
  refine lv_iload hx hb dL_law_693 (lv_at hl 0 rfl) ?_
  refine lv_iconst (v := 2) hx hb dL_law_695 (by decide) ?_
  refine lv_iadd hx hb dL_law_696 ?_
  refine lv_eqi (y := 2) (by decide) ?_
  refine va_sld hx hb hX hbl hbA hS (by unfold vp_in; decide) dL_law_697 ?_
  refine lv_eqi (y := (xs 2)) (rfl) ?_
  refine ky_Vi (As := [.int (xs 1), .int (xs 2)]) (rest := [.int (-1)]) ⟨hx, hb, hml, hown, hts⟩ ⟨hK, hN⟩ hZ hP hD hS hA [0, 1] [2, 3] (wc := [(m_, .inr (7, [.int 0, .ref mt, .int 0, .int 0, .int 0, .ref mrr, .ref mrh, .ref mrc, .int 0, .int 0, .ref mn, .ref mf, .ref mr, .ref mh, .int 0, .int 0, .ref ma, .ref mas, .ref msn, .ref mac, .ref mat])), (mf, .inl (g 0, 4, .inl (fun _ => 0)))]) (wr := [(x, .inr (6, [.ref xt, .int 0, .ref xr, .ref xd, .ref xn, .ref xa, .ref xz, .ref xy, .int 0])), (xr, .inl (g 0, 4, .inl (upd (fun _ => 0) 0 ((fun _ => 0) 0 + 1))))]) rfl rfl rfl rfl (by decide) (c_X7_jam l D g H.size m_ 0 mt 0 0 0 mrr mrh mrc 0 0 mn mf mr mh ma mas msn mac mat (xs 1) (xs 2) (fun _ => 0)) (cwV 2 hts gL_law_X7_jam rfl rfl rfl (by decide +kernel) ⟨(Nat.le_of_ble_eq_true rfl), (Nat.le_of_ble_eq_true rfl)⟩) 0 7 rfl rfl rfl rfl hl.1 rfl (Nat.le_of_ble_eq_true rfl) dL_law_698 ⟨(Nat.le_of_ble_eq_true rfl), (Nat.le_of_ble_eq_true rfl)⟩ (fun r_2 u H locs hw hP hD hS => ?_)
  obtain ⟨rfl, rfl⟩ := hw
  have hP : va_P D vwCl [(x, .inr (6, [.ref xt, .int 0, .ref xr, .ref xd, .ref xn, .ref xa, .ref xz, .ref xy, .int 0])), (xr, .inl (g 0, 4, .inl (upd (fun _ => 0) 0 ((fun _ => 0) 0 + 1)))), (m_, .inr (7, [.int 0, .ref mt, .int 0, .int 0, .int 0, .ref mrr, .ref mrh, .ref mrc, .int 0, .int 0, .ref mn, .ref mf, .ref mr, .ref mh, .int 0, .int 0, .ref ma, .ref mas, .ref msn, .ref mac, .ref mat])), (mf, .inl (g 0, 4, .inl (upd (fun _ => 0) 0 ((fun _ => 0) 0 + 1))))] H := hP
  have hD : va_D A [(x, .inr (6, [.ref xt, .int 0, .ref xr, .ref xd, .ref xn, .ref xa, .ref xz, .ref xy, .int 0])), (xr, .inl (g 0, 4, .inl (upd (fun _ => 0) 0 ((fun _ => 0) 0 + 1)))), (m_, .inr (7, [.int 0, .ref mt, .int 0, .int 0, .int 0, .ref mrr, .ref mrh, .ref mrc, .int 0, .int 0, .ref mn, .ref mf, .ref mr, .ref mh, .int 0, .int 0, .ref ma, .ref mas, .ref msn, .ref mac, .ref mat])), (mf, .inl (g 0, 4, .inl (upd (fun _ => 0) 0 ((fun _ => 0) 0 + 1))))] := hD
  refine W.widen (k := 91) (n := 5288) (Nat.le_of_ble_eq_true rfl) (Nat.le_of_ble_eq_true rfl) ?_
  refine lv_icmp_eq (tgt := 1900) hx hb dL_law_701 (by decide) (fun _ => ?_) (fun cb => absurd (by decide) cb)
  subst hAe
  refine W.widen (k := 600002) (n := 7302232) (Nat.le_of_ble_eq_true rfl) (Nat.le_of_ble_eq_true rfl) ?_
  exact law_tail l C0 hS (lv_sub hl [0, 4] rfl)
