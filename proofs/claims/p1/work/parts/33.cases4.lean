set_option maxHeartbeats 4000000 in
set_option maxRecDepth 100000 in
/-- loss -/
theorem law_case_24 {p : Program} {e : Env} {s : State} {m : MethodId} {below : List Frame} {meth : Method} {c : Code} (l : Launch) (hl9 : l.stackTraces = false) {b : Nat} {xs : Nat → Int32} (C0 : lw_At p s m meth c b 6 xs) (D : va_G) (g : Nat → ClassId) (hK : va_K D vwCl (kY g) s) (hN : kn g s) (hZ : ks g (fun q : Nat => s.heap.size ≤ q) s s.heap) {m_ ma mac mas mat mf mh mn mr mrc mrh mrr msn mt o_ x xa xd xn xr xt xy xz : Nat} {H : Heap} {locs : List Loc} {ls : Array Slot} (hP : va_P D vwCl [(x, .inr (6, [.ref xt, .int 0, .ref xr, .ref xd, .ref xn, .ref xa, .ref xz, .ref xy, .int 0])), (m_, .inr (7, [.int 0, .ref mt, .int 0, .int 0, .int 0, .ref mrr, .ref mrh, .ref mrc, .int 0, .int 0, .ref mn, .ref mf, .ref mr, .ref mh, .int 0, .int 0, .ref ma, .ref mas, .ref msn, .ref mac, .ref mat]))] H) (hD : va_D (fun q : Nat => s.heap.size ≤ q) [(x, .inr (6, [.ref xt, .int 0, .ref xr, .ref xd, .ref xn, .ref xa, .ref xz, .ref xy, .int 0])), (m_, .inr (7, [.int 0, .ref mt, .int 0, .int 0, .int 0, .ref mrr, .ref mrh, .ref mrc, .int 0, .int 0, .ref mn, .ref mf, .ref mr, .ref mh, .int 0, .int 0, .ref ma, .ref mas, .ref msn, .ref mac, .ref mat]))]) (hS : va_S (fun q : Nat => s.heap.size ≤ q) s.heap H locs) (hl : lv_has ls 7 [(4, .int 0), (3, .ref o_), (2, .ref m_), (1, .ref x), (0, .ref b)]) : W p l e room_1 s m #[Value.ref b] below meth c H locs 91 5288 (lw_Z below #[Value.ref b] s) (F0 m 1198 ls []) := by
  obtain ⟨hx, hb, hr, hml, hown, hts0, hX, hbl, hlocks, hgv⟩ := id C0
  have hts : ∀ w ∈ wsL_law, w.before #[Value.ref b] s = true := fun w h => hts0 w (wsL_law_in w h)
  have hA : ∀ q : Nat, s.heap.size ≤ q → (fun q : Nat => s.heap.size ≤ q) q := fun _ h => h
  have hbA : ¬ (fun q : Nat => s.heap.size ≤ q) b := Nat.not_le.mpr hbl
  generalize hAe : (fun q : Nat => s.heap.size ≤ q) = A at hA hbA hZ hD hS
  refine lv_aload_n hx hb dL_law_1198 rfl (lv_at hl 3 rfl) ?_
  refine lv_aload_n hx hb dL_law_1199 rfl (lv_at hl 4 rfl) ?_
  refine lv_iload hx hb dL_law_1200 (lv_at hl 0 rfl) ?_
  refine lv_iconst (v := 1) hx hb dL_law_1202 (by decide) ?_
  refine lv_iadd hx hb dL_law_1203 ?_
  refine lv_eqi (y := 1) (by decide) ?_
  refine va_sld hx hb hX hbl hbA hS (by unfold vp_in; decide) dL_law_1204 ?_
  refine lv_eqi (y := (xs 1)) (rfl) ?_
  refine lv_aload_n hx hb dL_law_1205 rfl (lv_at hl 4 rfl) ?_
  refine lv_iload hx hb dL_law_1206 (lv_at hl 0 rfl) ?_
  refine lv_iconst (v := 2) hx hb dL_law_1208 (by decide) ?_
  refine lv_iadd hx hb dL_law_1209 ?_
  refine lv_eqi (y := 2) (by decide) ?_
  refine va_sld hx hb hX hbl hbA hS (by unfold vp_in; decide) dL_law_1210 ?_
  refine lv_eqi (y := (xs 2)) (rfl) ?_
  refine ky_Vi (As := [.int (xs 1), .int (xs 2)]) (rest := []) ⟨hx, hb, hml, hown, hts⟩ ⟨hK, hN⟩ hZ hP hD hS hA [0] [1] (wc := [(x, .inr (6, [.ref xt, .int 0, .ref xr, .ref xd, .ref xn, .ref xa, .ref xz, .ref xy, .int 0]))]) (wr := [(m_, .inr (7, [.int 0, .ref mt, .int 0, .int 0, .int 0, .ref mrr, .ref mrh, .ref mrc, .int 0, .int 0, .ref mn, .ref mf, .ref mr, .ref mh, .int 0, .int 0, .ref ma, .ref mas, .ref msn, .ref mac, .ref mat]))]) rfl rfl rfl rfl (by decide) (c_X6_loss l D g H.size x xt 0 xr xd xn xa xz xy (xs 1) (xs 2)) (cwV 2 hts gL_law_X6_loss rfl rfl rfl (by decide +kernel) ⟨(Nat.le_of_ble_eq_true rfl), (Nat.le_of_ble_eq_true rfl)⟩) 0 6 rfl rfl rfl rfl hl.1 rfl (Nat.le_of_ble_eq_true rfl) dL_law_1211 ⟨(Nat.le_of_ble_eq_true rfl), (Nat.le_of_ble_eq_true rfl)⟩ (fun r_1 u H locs hw hP hD hS => ?_)
  obtain ⟨rfl, rfl⟩ := hw
  have hP : va_P D vwCl [(m_, .inr (7, [.int 0, .ref mt, .int 0, .int 0, .int 0, .ref mrr, .ref mrh, .ref mrc, .int 0, .int 0, .ref mn, .ref mf, .ref mr, .ref mh, .int 0, .int 0, .ref ma, .ref mas, .ref msn, .ref mac, .ref mat])), (x, .inr (6, [.ref xt, .int 0, .ref xr, .ref xd, .ref xn, .ref xa, .ref xz, .ref xy, .int 0]))] H := hP
  have hD : va_D A [(m_, .inr (7, [.int 0, .ref mt, .int 0, .int 0, .int 0, .ref mrr, .ref mrh, .ref mrc, .int 0, .int 0, .ref mn, .ref mf, .ref mr, .ref mh, .int 0, .int 0, .ref ma, .ref mas, .ref msn, .ref mac, .ref mat])), (x, .inr (6, [.ref xt, .int 0, .ref xr, .ref xd, .ref xn, .ref xa, .ref xz, .ref xy, .int 0]))] := hD
  refine W.widen (k := 91) (n := 5288) (Nat.le_of_ble_eq_true rfl) (Nat.le_of_ble_eq_true rfl) ?_
  refine lv_aload_n hx hb dL_law_1214 rfl (lv_at hl 2 rfl) ?_
  refine lv_aload_n hx hb dL_law_1215 rfl (lv_at hl 4 rfl) ?_
  refine lv_iload hx hb dL_law_1216 (lv_at hl 0 rfl) ?_
  refine lv_iconst (v := 1) hx hb dL_law_1218 (by decide) ?_
  refine lv_iadd hx hb dL_law_1219 ?_
  refine lv_eqi (y := 1) (by decide) ?_
  refine va_sld hx hb hX hbl hbA hS (by unfold vp_in; decide) dL_law_1220 ?_
  refine lv_eqi (y := (xs 1)) (rfl) ?_
  refine lv_aload_n hx hb dL_law_1221 rfl (lv_at hl 4 rfl) ?_
  refine lv_iload hx hb dL_law_1222 (lv_at hl 0 rfl) ?_
  refine lv_iconst (v := 2) hx hb dL_law_1224 (by decide) ?_
  refine lv_iadd hx hb dL_law_1225 ?_
  refine lv_eqi (y := 2) (by decide) ?_
  refine va_sld hx hb hX hbl hbA hS (by unfold vp_in; decide) dL_law_1226 ?_
  refine lv_eqi (y := (xs 2)) (rfl) ?_
  refine ky_Vi (As := [.int (xs 1), .int (xs 2)]) (rest := [.int (-1000000)]) ⟨hx, hb, hml, hown, hts⟩ ⟨hK, hN⟩ hZ hP hD hS hA [0] [1] (wc := [(m_, .inr (7, [.int 0, .ref mt, .int 0, .int 0, .int 0, .ref mrr, .ref mrh, .ref mrc, .int 0, .int 0, .ref mn, .ref mf, .ref mr, .ref mh, .int 0, .int 0, .ref ma, .ref mas, .ref msn, .ref mac, .ref mat]))]) (wr := [(x, .inr (6, [.ref xt, .int 0, .ref xr, .ref xd, .ref xn, .ref xa, .ref xz, .ref xy, .int 0]))]) rfl rfl rfl rfl (by decide) (c_X7_loss l D g H.size m_ 0 mt 0 0 0 mrr mrh mrc 0 0 mn mf mr mh ma mas msn mac mat (xs 1) (xs 2)) (cwV 2 hts gL_law_X7_loss rfl rfl rfl (by decide +kernel) ⟨(Nat.le_of_ble_eq_true rfl), (Nat.le_of_ble_eq_true rfl)⟩) 0 7 rfl rfl rfl rfl hl.1 rfl (Nat.le_of_ble_eq_true rfl) dL_law_1227 ⟨(Nat.le_of_ble_eq_true rfl), (Nat.le_of_ble_eq_true rfl)⟩ (fun r_2 u H locs hw hP hD hS => ?_)
  obtain ⟨rfl, rfl⟩ := hw
  have hP : va_P D vwCl [(x, .inr (6, [.ref xt, .int 0, .ref xr, .ref xd, .ref xn, .ref xa, .ref xz, .ref xy, .int 0])), (m_, .inr (7, [.int 0, .ref mt, .int 0, .int 0, .int 0, .ref mrr, .ref mrh, .ref mrc, .int 0, .int 0, .ref mn, .ref mf, .ref mr, .ref mh, .int 0, .int 0, .ref ma, .ref mas, .ref msn, .ref mac, .ref mat]))] H := hP
  have hD : va_D A [(x, .inr (6, [.ref xt, .int 0, .ref xr, .ref xd, .ref xn, .ref xa, .ref xz, .ref xy, .int 0])), (m_, .inr (7, [.int 0, .ref mt, .int 0, .int 0, .int 0, .ref mrr, .ref mrh, .ref mrc, .int 0, .int 0, .ref mn, .ref mf, .ref mr, .ref mh, .int 0, .int 0, .ref ma, .ref mas, .ref msn, .ref mac, .ref mat]))] := hD
  refine W.widen (k := 91) (n := 5288) (Nat.le_of_ble_eq_true rfl) (Nat.le_of_ble_eq_true rfl) ?_
  refine lv_icmp_eq (tgt := 1900) hx hb dL_law_1230 (by decide) (fun _ => ?_) (fun cb => absurd (by decide) cb)
  subst hAe
  refine W.widen (k := 600002) (n := 7302232) (Nat.le_of_ble_eq_true rfl) (Nat.le_of_ble_eq_true rfl) ?_
  exact law_tail l C0 hS (lv_sub hl [0, 4] rfl)
set_option maxHeartbeats 4000000 in
set_option maxRecDepth 100000 in
/-- fair -/
theorem law_case_25 {p : Program} {e : Env} {s : State} {m : MethodId} {below : List Frame} {meth : Method} {c : Code} (l : Launch) (hl9 : l.stackTraces = false) {b : Nat} {xs : Nat → Int32} (C0 : lw_At p s m meth c b 6 xs) (D : va_G) (g : Nat → ClassId) (hK : va_K D vwCl (kY g) s) (hN : kn g s) (hZ : ks g (fun q : Nat => s.heap.size ≤ q) s s.heap) {m_ ma mac mas mat mf mh mn mr mrc mrh mrr msn mt o_ x xa xd xn xr xt xy xz : Nat} {H : Heap} {locs : List Loc} {ls : Array Slot} (hP : va_P D vwCl [(x, .inr (6, [.ref xt, .int 0, .ref xr, .ref xd, .ref xn, .ref xa, .ref xz, .ref xy, .int 0])), (m_, .inr (7, [.int 0, .ref mt, .int 0, .int 0, .int 0, .ref mrr, .ref mrh, .ref mrc, .int 0, .int 0, .ref mn, .ref mf, .ref mr, .ref mh, .int 0, .int 0, .ref ma, .ref mas, .ref msn, .ref mac, .ref mat]))] H) (hD : va_D (fun q : Nat => s.heap.size ≤ q) [(x, .inr (6, [.ref xt, .int 0, .ref xr, .ref xd, .ref xn, .ref xa, .ref xz, .ref xy, .int 0])), (m_, .inr (7, [.int 0, .ref mt, .int 0, .int 0, .int 0, .ref mrr, .ref mrh, .ref mrc, .int 0, .int 0, .ref mn, .ref mf, .ref mr, .ref mh, .int 0, .int 0, .ref ma, .ref mas, .ref msn, .ref mac, .ref mat]))]) (hS : va_S (fun q : Nat => s.heap.size ≤ q) s.heap H locs) (hl : lv_has ls 7 [(4, .int 0), (3, .ref o_), (2, .ref m_), (1, .ref x), (0, .ref b)]) : W p l e room_1 s m #[Value.ref b] below meth c H locs 91 5288 (lw_Z below #[Value.ref b] s) (F0 m 1235 ls []) := by
  obtain ⟨hx, hb, hr, hml, hown, hts0, hX, hbl, hlocks, hgv⟩ := id C0
  have hts : ∀ w ∈ wsL_law, w.before #[Value.ref b] s = true := fun w h => hts0 w (wsL_law_in w h)
  have hA : ∀ q : Nat, s.heap.size ≤ q → (fun q : Nat => s.heap.size ≤ q) q := fun _ h => h
  have hbA : ¬ (fun q : Nat => s.heap.size ≤ q) b := Nat.not_le.mpr hbl
  generalize hAe : (fun q : Nat => s.heap.size ≤ q) = A at hA hbA hZ hD hS
  refine lv_aload_n hx hb dL_law_1235 rfl (lv_at hl 3 rfl) ?_
  refine lv_aload_n hx hb dL_law_1236 rfl (lv_at hl 4 rfl) ?_
  refine lv_iload hx hb dL_law_1237 (lv_at hl 0 rfl) ?_
  refine lv_iconst (v := 1) hx hb dL_law_1239 (by decide) ?_
  refine lv_iadd hx hb dL_law_1240 ?_
  refine lv_eqi (y := 1) (by decide) ?_
  refine va_sld hx hb hX hbl hbA hS (by unfold vp_in; decide) dL_law_1241 ?_
  refine lv_eqi (y := (xs 1)) (rfl) ?_
  refine ky_Vi (As := [.int (xs 1)]) (rest := []) ⟨hx, hb, hml, hown, hts⟩ ⟨hK, hN⟩ hZ hP hD hS hA [0] [1] (wc := [(x, .inr (6, [.ref xt, .int 0, .ref xr, .ref xd, .ref xn, .ref xa, .ref xz, .ref xy, .int 0]))]) (wr := [(m_, .inr (7, [.int 0, .ref mt, .int 0, .int 0, .int 0, .ref mrr, .ref mrh, .ref mrc, .int 0, .int 0, .ref mn, .ref mf, .ref mr, .ref mh, .int 0, .int 0, .ref ma, .ref mas, .ref msn, .ref mac, .ref mat]))]) rfl rfl rfl rfl (by decide) (c_X6_fair l D g H.size x xt 0 xr xd xn xa xz xy (xs 1)) (cwV 1 hts gL_law_X6_fair rfl rfl rfl (by decide +kernel) ⟨(Nat.le_of_ble_eq_true rfl), (Nat.le_of_ble_eq_true rfl)⟩) 0 6 rfl rfl rfl rfl hl.1 rfl (Nat.le_of_ble_eq_true rfl) dL_law_1242 ⟨(Nat.le_of_ble_eq_true rfl), (Nat.le_of_ble_eq_true rfl)⟩ (fun r_1 u H locs hw hP hD hS => ?_)
  obtain ⟨rfl, rfl⟩ := hw
  have hP : va_P D vwCl [(m_, .inr (7, [.int 0, .ref mt, .int 0, .int 0, .int 0, .ref mrr, .ref mrh, .ref mrc, .int 0, .int 0, .ref mn, .ref mf, .ref mr, .ref mh, .int 0, .int 0, .ref ma, .ref mas, .ref msn, .ref mac, .ref mat])), (x, .inr (6, [.ref xt, .int 0, .ref xr, .ref xd, .ref xn, .ref xa, .ref xz, .ref xy, .int 0]))] H := hP
  have hD : va_D A [(m_, .inr (7, [.int 0, .ref mt, .int 0, .int 0, .int 0, .ref mrr, .ref mrh, .ref mrc, .int 0, .int 0, .ref mn, .ref mf, .ref mr, .ref mh, .int 0, .int 0, .ref ma, .ref mas, .ref msn, .ref mac, .ref mat])), (x, .inr (6, [.ref xt, .int 0, .ref xr, .ref xd, .ref xn, .ref xa, .ref xz, .ref xy, .int 0]))] := hD
  refine W.widen (k := 91) (n := 5288) (Nat.le_of_ble_eq_true rfl) (Nat.le_of_ble_eq_true rfl) ?_
  refine lv_aload_n hx hb dL_law_1245 rfl (lv_at hl 2 rfl) ?_
  refine lv_aload_n hx hb dL_law_1246 rfl (lv_at hl 4 rfl) ?_
  refine lv_iload hx hb dL_law_1247 (lv_at hl 0 rfl) ?_
  refine lv_iconst (v := 1) hx hb dL_law_1249 (by decide) ?_
  refine lv_iadd hx hb dL_law_1250 ?_
  refine lv_eqi (y := 1) (by decide) ?_
  refine va_sld hx hb hX hbl hbA hS (by unfold vp_in; decide) dL_law_1251 ?_
  refine lv_eqi (y := (xs 1)) (rfl) ?_
  refine ky_Vi (As := [.int (xs 1)]) (rest := [.int (-1)]) ⟨hx, hb, hml, hown, hts⟩ ⟨hK, hN⟩ hZ hP hD hS hA [0] [1] (wc := [(m_, .inr (7, [.int 0, .ref mt, .int 0, .int 0, .int 0, .ref mrr, .ref mrh, .ref mrc, .int 0, .int 0, .ref mn, .ref mf, .ref mr, .ref mh, .int 0, .int 0, .ref ma, .ref mas, .ref msn, .ref mac, .ref mat]))]) (wr := [(x, .inr (6, [.ref xt, .int 0, .ref xr, .ref xd, .ref xn, .ref xa, .ref xz, .ref xy, .int 0]))]) rfl rfl rfl rfl (by decide) (c_X7_fair l D g H.size m_ 0 mt 0 0 0 mrr mrh mrc 0 0 mn mf mr mh ma mas msn mac mat (xs 1)) (cwV 1 hts gL_law_X7_fair rfl rfl rfl (by decide +kernel) ⟨(Nat.le_of_ble_eq_true rfl), (Nat.le_of_ble_eq_true rfl)⟩) 0 7 rfl rfl rfl rfl hl.1 rfl (Nat.le_of_ble_eq_true rfl) dL_law_1252 ⟨(Nat.le_of_ble_eq_true rfl), (Nat.le_of_ble_eq_true rfl)⟩ (fun r_2 u H locs hw hP hD hS => ?_)
  obtain ⟨rfl, rfl⟩ := hw
  have hP : va_P D vwCl [(x, .inr (6, [.ref xt, .int 0, .ref xr, .ref xd, .ref xn, .ref xa, .ref xz, .ref xy, .int 0])), (m_, .inr (7, [.int 0, .ref mt, .int 0, .int 0, .int 0, .ref mrr, .ref mrh, .ref mrc, .int 0, .int 0, .ref mn, .ref mf, .ref mr, .ref mh, .int 0, .int 0, .ref ma, .ref mas, .ref msn, .ref mac, .ref mat]))] H := hP
  have hD : va_D A [(x, .inr (6, [.ref xt, .int 0, .ref xr, .ref xd, .ref xn, .ref xa, .ref xz, .ref xy, .int 0])), (m_, .inr (7, [.int 0, .ref mt, .int 0, .int 0, .int 0, .ref mrr, .ref mrh, .ref mrc, .int 0, .int 0, .ref mn, .ref mf, .ref mr, .ref mh, .int 0, .int 0, .ref ma, .ref mas, .ref msn, .ref mac, .ref mat]))] := hD
  refine W.widen (k := 91) (n := 5288) (Nat.le_of_ble_eq_true rfl) (Nat.le_of_ble_eq_true rfl) ?_
  refine lv_icmp_eq (tgt := 1900) hx hb dL_law_1255 (by decide) (fun _ => ?_) (fun cb => absurd (by decide) cb)
  subst hAe
  refine W.widen (k := 600002) (n := 7302232) (Nat.le_of_ble_eq_true rfl) (Nat.le_of_ble_eq_true rfl) ?_
  exact law_tail l C0 hS (lv_sub hl [0, 4] rfl)
set_option maxHeartbeats 4000000 in
set_option maxRecDepth 100000 in
/-- alone -/
theorem law_case_26 {p : Program} {e : Env} {s : State} {m : MethodId} {below : List Frame} {meth : Method} {c : Code} (l : Launch) (hl9 : l.stackTraces = false) {b : Nat} {xs : Nat → Int32} (C0 : lw_At p s m meth c b 6 xs) (D : va_G) (g : Nat → ClassId) (hK : va_K D vwCl (kY g) s) (hN : kn g s) (hZ : ks g (fun q : Nat => s.heap.size ≤ q) s s.heap) {m_ ma mac mas mat mf mh mn mr mrc mrh mrr msn mt o_ vF0_ vF1_ vF2_ vL0 vL1 vL2 vn1 vn2 vn3 vx00 vx01 vx02 vx03 vy00 vy01 vy02 x xa xd xn xr xt xy xz : Nat} {H : Heap} {locs : List Loc} {ls : Array Slot} (hP : va_P D vwCl [(x, .inr (6, [.ref xt, .int 0, .ref xr, .ref xd, .ref xn, .ref xa, .ref xz, .ref xy, .int 0])), (xa, .inr (3, [.int 0, .int 0, .int 0, .int 0, .int 0, .int 0, .int 0, .int 0, .ref vn1, .ref vn2, .ref vn3])), (vn1, .inl (g 1, 3, .inr (.inr (.inr (.inr (rf3 vL0 vL1 vL2)))))), (vn2, .inl (g 3, 3, .inr (.inr (.inr (.inr (rf3 vF0_ vF1_ vF2_)))))), (vn3, .inl (g 0, 12, .inl (fun _ => 0))), (vL0, .inr (2, [.int 0, .int 0, .int 0, .int 0, .int 0, .int 0, .ref vx00, .ref vx01, .ref vx02, .ref vx03])), (vx00, .inl (g 0, 5, .inl (fun _ => 0))), (vx01, .inl (g 0, 15, .inl (fun _ => 0))), (vx02, .inl (g 0, 15, .inl (fun _ => 0))), (vx03, .inl (g 2, 3, .inr (.inr (.inr (.inr (rf3 vy00 vy01 vy02)))))), (vy00, .inr (1, [.int 0, .int 0, .int 0, .int 0, .int 0, .int 0, .int 0])), (vy01, .inr (1, [.int 0, .int 0, .int 0, .int 0, .int 0, .int 0, .int 0])), (vy02, .inr (1, [.int 0, .int 0, .int 0, .int 0, .int 0, .int 0, .int 0])), (vF0_, .inr (0, [.int 0, .int 0, .int 0, .int 0, .int 0, .int 0, .int 0, .int 0])), (m_, .inr (7, [.int 0, .ref mt, .int 0, .int 0, .int 0, .ref mrr, .ref mrh, .ref mrc, .int 0, .int 0, .ref mn, .ref mf, .ref mr, .ref mh, .int 0, .int 0, .ref ma, .ref mas, .ref msn, .ref mac, .ref mat])), (mac, .inl (g 0, 8, .inl (fun _ => 0))), (mat, .inl (g 0, 8, .inl (fun _ => 0)))] H) (hD : va_D (fun q : Nat => s.heap.size ≤ q) [(x, .inr (6, [.ref xt, .int 0, .ref xr, .ref xd, .ref xn, .ref xa, .ref xz, .ref xy, .int 0])), (xa, .inr (3, [.int 0, .int 0, .int 0, .int 0, .int 0, .int 0, .int 0, .int 0, .ref vn1, .ref vn2, .ref vn3])), (vn1, .inl (g 1, 3, .inr (.inr (.inr (.inr (rf3 vL0 vL1 vL2)))))), (vn2, .inl (g 3, 3, .inr (.inr (.inr (.inr (rf3 vF0_ vF1_ vF2_)))))), (vn3, .inl (g 0, 12, .inl (fun _ => 0))), (vL0, .inr (2, [.int 0, .int 0, .int 0, .int 0, .int 0, .int 0, .ref vx00, .ref vx01, .ref vx02, .ref vx03])), (vx00, .inl (g 0, 5, .inl (fun _ => 0))), (vx01, .inl (g 0, 15, .inl (fun _ => 0))), (vx02, .inl (g 0, 15, .inl (fun _ => 0))), (vx03, .inl (g 2, 3, .inr (.inr (.inr (.inr (rf3 vy00 vy01 vy02)))))), (vy00, .inr (1, [.int 0, .int 0, .int 0, .int 0, .int 0, .int 0, .int 0])), (vy01, .inr (1, [.int 0, .int 0, .int 0, .int 0, .int 0, .int 0, .int 0])), (vy02, .inr (1, [.int 0, .int 0, .int 0, .int 0, .int 0, .int 0, .int 0])), (vF0_, .inr (0, [.int 0, .int 0, .int 0, .int 0, .int 0, .int 0, .int 0, .int 0])), (m_, .inr (7, [.int 0, .ref mt, .int 0, .int 0, .int 0, .ref mrr, .ref mrh, .ref mrc, .int 0, .int 0, .ref mn, .ref mf, .ref mr, .ref mh, .int 0, .int 0, .ref ma, .ref mas, .ref msn, .ref mac, .ref mat])), (mac, .inl (g 0, 8, .inl (fun _ => 0))), (mat, .inl (g 0, 8, .inl (fun _ => 0)))]) (hS : va_S (fun q : Nat => s.heap.size ≤ q) s.heap H locs) (hl : lv_has ls 7 [(4, .int 0), (3, .ref o_), (2, .ref m_), (1, .ref x), (0, .ref b)]) : W p l e room_1 s m #[Value.ref b] below meth c H locs 91 5288 (lw_Z below #[Value.ref b] s) (F0 m 1260 ls []) := by
  obtain ⟨hx, hb, hr, hml, hown, hts0, hX, hbl, hlocks, hgv⟩ := id C0
  have hts : ∀ w ∈ wsL_law, w.before #[Value.ref b] s = true := fun w h => hts0 w (wsL_law_in w h)
  have hA : ∀ q : Nat, s.heap.size ≤ q → (fun q : Nat => s.heap.size ≤ q) q := fun _ h => h
  have hbA : ¬ (fun q : Nat => s.heap.size ≤ q) b := Nat.not_le.mpr hbl
  generalize hAe : (fun q : Nat => s.heap.size ≤ q) = A at hA hbA hZ hD hS
  refine lv_aload_n hx hb dL_law_1260 rfl (lv_at hl 3 rfl) ?_
  refine lv_aload_n hx hb dL_law_1261 rfl (lv_at hl 4 rfl) ?_
  refine lv_iload hx hb dL_law_1262 (lv_at hl 0 rfl) ?_
  refine lv_iconst (v := 1) hx hb dL_law_1264 (by decide) ?_
  refine lv_iadd hx hb dL_law_1265 ?_
  refine lv_eqi (y := 1) (by decide) ?_
  refine va_sld hx hb hX hbl hbA hS (by unfold vp_in; decide) dL_law_1266 ?_
  refine lv_eqi (y := (xs 1)) (rfl) ?_
  refine lv_aload_n hx hb dL_law_1267 rfl (lv_at hl 4 rfl) ?_
  refine lv_iload hx hb dL_law_1268 (lv_at hl 0 rfl) ?_
  refine lv_iconst (v := 2) hx hb dL_law_1270 (by decide) ?_
  refine lv_iadd hx hb dL_law_1271 ?_
  refine lv_eqi (y := 2) (by decide) ?_
  refine va_sld hx hb hX hbl hbA hS (by unfold vp_in; decide) dL_law_1272 ?_
  refine lv_eqi (y := (xs 2)) (rfl) ?_
  refine lv_aload_n hx hb dL_law_1273 rfl (lv_at hl 4 rfl) ?_
  refine lv_iload hx hb dL_law_1274 (lv_at hl 0 rfl) ?_
  refine lv_iconst (v := 3) hx hb dL_law_1276 (by decide) ?_
  refine lv_iadd hx hb dL_law_1277 ?_
  refine lv_eqi (y := 3) (by decide) ?_
  refine va_sld hx hb hX hbl hbA hS (by unfold vp_in; decide) dL_law_1278 ?_
  refine lv_eqi (y := (xs 3)) (rfl) ?_
  refine lv_aload_n hx hb dL_law_1279 rfl (lv_at hl 4 rfl) ?_
  refine lv_iload hx hb dL_law_1280 (lv_at hl 0 rfl) ?_
  refine lv_iconst (v := 4) hx hb dL_law_1282 (by decide) ?_
  refine lv_iadd hx hb dL_law_1283 ?_
  refine lv_eqi (y := 4) (by decide) ?_
  refine va_sld hx hb hX hbl hbA hS (by unfold vp_in; decide) dL_law_1284 ?_
  refine lv_eqi (y := (xs 4)) (rfl) ?_
  refine lv_aload_n hx hb dL_law_1285 rfl (lv_at hl 4 rfl) ?_
  refine lv_iload hx hb dL_law_1286 (lv_at hl 0 rfl) ?_
  refine lv_iconst (v := 5) hx hb dL_law_1288 (by decide) ?_
  refine lv_iadd hx hb dL_law_1289 ?_
  refine lv_eqi (y := 5) (by decide) ?_
  refine va_sld hx hb hX hbl hbA hS (by unfold vp_in; decide) dL_law_1290 ?_
  refine lv_eqi (y := (xs 5)) (rfl) ?_
  refine ky_Vi (As := [.int (xs 1), .int (xs 2), .int (xs 3), .int (xs 4), .int (xs 5)]) (rest := []) ⟨hx, hb, hml, hown, hts⟩ ⟨hK, hN⟩ hZ hP hD hS hA [0, 1, 2, 3, 4, 5, 6, 7, 8, 9, 10, 11, 12, 13] [14, 15, 16] (wc := [(x, .inr (6, [.ref xt, .int 0, .ref xr, .ref xd, .ref xn, .ref xa, .ref xz, .ref xy, .int 0])), (xa, .inr (3, [.int 0, .int 0, .int 0, .int 0, .int 0, .int 0, .int 0, .int 0, .ref vn1, .ref vn2, .ref vn3])), (vn1, .inl (g 1, 3, .inr (.inr (.inr (.inr (rf3 vL0 vL1 vL2)))))), (vn2, .inl (g 3, 3, .inr (.inr (.inr (.inr (rf3 vF0_ vF1_ vF2_)))))), (vn3, .inl (g 0, 12, .inl (fun _ => 0))), (vL0, .inr (2, [.int 0, .int 0, .int 0, .int 0, .int 0, .int 0, .ref vx00, .ref vx01, .ref vx02, .ref vx03])), (vx00, .inl (g 0, 5, .inl (fun _ => 0))), (vx01, .inl (g 0, 15, .inl (fun _ => 0))), (vx02, .inl (g 0, 15, .inl (fun _ => 0))), (vx03, .inl (g 2, 3, .inr (.inr (.inr (.inr (rf3 vy00 vy01 vy02)))))), (vy00, .inr (1, [.int 0, .int 0, .int 0, .int 0, .int 0, .int 0, .int 0])), (vy01, .inr (1, [.int 0, .int 0, .int 0, .int 0, .int 0, .int 0, .int 0])), (vy02, .inr (1, [.int 0, .int 0, .int 0, .int 0, .int 0, .int 0, .int 0])), (vF0_, .inr (0, [.int 0, .int 0, .int 0, .int 0, .int 0, .int 0, .int 0, .int 0]))]) (wr := [(m_, .inr (7, [.int 0, .ref mt, .int 0, .int 0, .int 0, .ref mrr, .ref mrh, .ref mrc, .int 0, .int 0, .ref mn, .ref mf, .ref mr, .ref mh, .int 0, .int 0, .ref ma, .ref mas, .ref msn, .ref mac, .ref mat])), (mac, .inl (g 0, 8, .inl (fun _ => 0))), (mat, .inl (g 0, 8, .inl (fun _ => 0)))]) rfl rfl rfl rfl (by decide) (c_X6_alone l D g H.size x xt 0 xr xd xn xz xy 0 xa 0 0 0 0 0 0 0 0 vn1 vn2 vn3 (fun _ => 0) vL0 vL1 vL2 0 0 0 0 0 0 vx00 vx01 vx02 vx03 (fun _ => 0) (fun _ => 0) (fun _ => 0) vy00 vy01 vy02 0 0 0 0 0 0 0 0 0 0 0 0 0 0 0 0 0 0 0 0 0 vF0_ vF1_ vF2_ 0 0 0 0 0 0 0 0 (xs 1) (xs 2) (xs 3) (xs 4) (xs 5)) (cwV 5 hts gL_law_X6_alone rfl rfl rfl (by decide +kernel) ⟨(Nat.le_of_ble_eq_true rfl), (Nat.le_of_ble_eq_true rfl)⟩) 0 6 rfl rfl rfl rfl hl.1 rfl (Nat.le_of_ble_eq_true rfl) dL_law_1291 ⟨(Nat.le_of_ble_eq_true rfl), (Nat.le_of_ble_eq_true rfl)⟩ (fun r_49 u H locs hw hP hD hS => ?_)
  obtain ⟨m0_1, m1_2, m2_3, m3_4, m4_5, m5_6, m6_7, m7_8, fb3_9, k0_10, k1_11, k2_12, k3_13, k4_14, k5_15, fc3_16, fu3_17, fp3_18, s0_19, s1_20, s2_21, s3_22, s4_23, s5_24, s6_25, u0_26, u1_27, u2_28, u3_29, u4_30, u5_31, u6_32, v0_33, v1_34, v2_35, v3_36, v4_37, v5_38, v6_39, w0__40, w1__41, w2__42, w3__43, w4__44, w5__45, w6__46, w7__47, r9_48, rfl, rfl, hf_50⟩ := hw
  have hP : va_P D vwCl [(m_, .inr (7, [.int 0, .ref mt, .int 0, .int 0, .int 0, .ref mrr, .ref mrh, .ref mrc, .int 0, .int 0, .ref mn, .ref mf, .ref mr, .ref mh, .int 0, .int 0, .ref ma, .ref mas, .ref msn, .ref mac, .ref mat])), (mac, .inl (g 0, 8, .inl (fun _ => 0))), (mat, .inl (g 0, 8, .inl (fun _ => 0))), (x, .inr (6, [.ref xt, .int 0, .ref xr, .ref xd, .ref xn, .ref xa, .ref xz, .ref xy, .int 0])), (xa, .inr (3, [.int m0_1, .int m1_2, .int m2_3, .int m3_4, .int m4_5, .int m5_6, .int m6_7, .int m7_8, .ref vn1, .ref vn2, .ref vn3])), (vn1, .inl (g 1, 3, .inr (.inr (.inr (.inr (rf3 vL0 vL1 vL2)))))), (vn2, .inl (g 3, 3, .inr (.inr (.inr (.inr (rf3 vF0_ vF1_ vF2_)))))), (vn3, .inl (g 0, 12, .inl fb3_9)), (vL0, .inr (2, [.int k0_10, .int k1_11, .int k2_12, .int k3_13, .int k4_14, .int k5_15, .ref vx00, .ref vx01, .ref vx02, .ref vx03])), (vx00, .inl (g 0, 5, .inl fc3_16)), (vx01, .inl (g 0, 15, .inl fu3_17)), (vx02, .inl (g 0, 15, .inl fp3_18)), (vx03, .inl (g 2, 3, .inr (.inr (.inr (.inr (rf3 vy00 vy01 vy02)))))), (vy00, .inr (1, [.int s0_19, .int s1_20, .int s2_21, .int s3_22, .int s4_23, .int s5_24, .int s6_25])), (vy01, .inr (1, [.int u0_26, .int u1_27, .int u2_28, .int u3_29, .int u4_30, .int u5_31, .int u6_32])), (vy02, .inr (1, [.int v0_33, .int v1_34, .int v2_35, .int v3_36, .int v4_37, .int v5_38, .int v6_39])), (vF0_, .inr (0, [.int w0__40, .int w1__41, .int w2__42, .int w3__43, .int w4__44, .int w5__45, .int w6__46, .int w7__47]))] H := hP
  have hD : va_D A [(m_, .inr (7, [.int 0, .ref mt, .int 0, .int 0, .int 0, .ref mrr, .ref mrh, .ref mrc, .int 0, .int 0, .ref mn, .ref mf, .ref mr, .ref mh, .int 0, .int 0, .ref ma, .ref mas, .ref msn, .ref mac, .ref mat])), (mac, .inl (g 0, 8, .inl (fun _ => 0))), (mat, .inl (g 0, 8, .inl (fun _ => 0))), (x, .inr (6, [.ref xt, .int 0, .ref xr, .ref xd, .ref xn, .ref xa, .ref xz, .ref xy, .int 0])), (xa, .inr (3, [.int m0_1, .int m1_2, .int m2_3, .int m3_4, .int m4_5, .int m5_6, .int m6_7, .int m7_8, .ref vn1, .ref vn2, .ref vn3])), (vn1, .inl (g 1, 3, .inr (.inr (.inr (.inr (rf3 vL0 vL1 vL2)))))), (vn2, .inl (g 3, 3, .inr (.inr (.inr (.inr (rf3 vF0_ vF1_ vF2_)))))), (vn3, .inl (g 0, 12, .inl fb3_9)), (vL0, .inr (2, [.int k0_10, .int k1_11, .int k2_12, .int k3_13, .int k4_14, .int k5_15, .ref vx00, .ref vx01, .ref vx02, .ref vx03])), (vx00, .inl (g 0, 5, .inl fc3_16)), (vx01, .inl (g 0, 15, .inl fu3_17)), (vx02, .inl (g 0, 15, .inl fp3_18)), (vx03, .inl (g 2, 3, .inr (.inr (.inr (.inr (rf3 vy00 vy01 vy02)))))), (vy00, .inr (1, [.int s0_19, .int s1_20, .int s2_21, .int s3_22, .int s4_23, .int s5_24, .int s6_25])), (vy01, .inr (1, [.int u0_26, .int u1_27, .int u2_28, .int u3_29, .int u4_30, .int u5_31, .int u6_32])), (vy02, .inr (1, [.int v0_33, .int v1_34, .int v2_35, .int v3_36, .int v4_37, .int v5_38, .int v6_39])), (vF0_, .inr (0, [.int w0__40, .int w1__41, .int w2__42, .int w3__43, .int w4__44, .int w5__45, .int w6__46, .int w7__47]))] := hD
  refine W.widen (k := 91) (n := 5288) (Nat.le_of_ble_eq_true rfl) (Nat.le_of_ble_eq_true rfl) ?_
  refine lv_aload_n hx hb dL_law_1294 rfl (lv_at hl 2 rfl) ?_
  refine lv_aload_n hx hb dL_law_1295 rfl (lv_at hl 4 rfl) ?_
  refine lv_iload hx hb dL_law_1296 (lv_at hl 0 rfl) ?_
  refine lv_iconst (v := 1) hx hb dL_law_1298 (by decide) ?_
  refine lv_iadd hx hb dL_law_1299 ?_
  refine lv_eqi (y := 1) (by decide) ?_
  refine va_sld hx hb hX hbl hbA hS (by unfold vp_in; decide) dL_law_1300 ?_
  refine lv_eqi (y := (xs 1)) (rfl) ?_
  refine lv_aload_n hx hb dL_law_1301 rfl (lv_at hl 4 rfl) ?_
  refine lv_iload hx hb dL_law_1302 (lv_at hl 0 rfl) ?_
  refine lv_iconst (v := 2) hx hb dL_law_1304 (by decide) ?_
  refine lv_iadd hx hb dL_law_1305 ?_
  refine lv_eqi (y := 2) (by decide) ?_
  refine va_sld hx hb hX hbl hbA hS (by unfold vp_in; decide) dL_law_1306 ?_
  refine lv_eqi (y := (xs 2)) (rfl) ?_
  refine lv_aload_n hx hb dL_law_1307 rfl (lv_at hl 4 rfl) ?_
  refine lv_iload hx hb dL_law_1308 (lv_at hl 0 rfl) ?_
  refine lv_iconst (v := 3) hx hb dL_law_1310 (by decide) ?_
  refine lv_iadd hx hb dL_law_1311 ?_
  refine lv_eqi (y := 3) (by decide) ?_
  refine va_sld hx hb hX hbl hbA hS (by unfold vp_in; decide) dL_law_1312 ?_
  refine lv_eqi (y := (xs 3)) (rfl) ?_
  refine lv_aload_n hx hb dL_law_1313 rfl (lv_at hl 4 rfl) ?_
  refine lv_iload hx hb dL_law_1314 (lv_at hl 0 rfl) ?_
  refine lv_iconst (v := 4) hx hb dL_law_1316 (by decide) ?_
  refine lv_iadd hx hb dL_law_1317 ?_
  refine lv_eqi (y := 4) (by decide) ?_
  refine va_sld hx hb hX hbl hbA hS (by unfold vp_in; decide) dL_law_1318 ?_
  refine lv_eqi (y := (xs 4)) (rfl) ?_
  refine lv_aload_n hx hb dL_law_1319 rfl (lv_at hl 4 rfl) ?_
  refine lv_iload hx hb dL_law_1320 (lv_at hl 0 rfl) ?_
  refine lv_iconst (v := 5) hx hb dL_law_1322 (by decide) ?_
  refine lv_iadd hx hb dL_law_1323 ?_
  refine lv_eqi (y := 5) (by decide) ?_
  refine va_sld hx hb hX hbl hbA hS (by unfold vp_in; decide) dL_law_1324 ?_
  refine lv_eqi (y := (xs 5)) (rfl) ?_
  refine ky_Vi (As := [.int (xs 1), .int (xs 2), .int (xs 3), .int (xs 4), .int (xs 5)]) (rest := [.int r_49]) ⟨hx, hb, hml, hown, hts⟩ ⟨hK, hN⟩ hZ hP hD hS hA [0, 1, 2] [3, 4, 5, 6, 7, 8, 9, 10, 11, 12, 13, 14, 15, 16] (wc := [(m_, .inr (7, [.int 0, .ref mt, .int 0, .int 0, .int 0, .ref mrr, .ref mrh, .ref mrc, .int 0, .int 0, .ref mn, .ref mf, .ref mr, .ref mh, .int 0, .int 0, .ref ma, .ref mas, .ref msn, .ref mac, .ref mat])), (mac, .inl (g 0, 8, .inl (fun _ => 0))), (mat, .inl (g 0, 8, .inl (fun _ => 0)))]) (wr := [(x, .inr (6, [.ref xt, .int 0, .ref xr, .ref xd, .ref xn, .ref xa, .ref xz, .ref xy, .int 0])), (xa, .inr (3, [.int m0_1, .int m1_2, .int m2_3, .int m3_4, .int m4_5, .int m5_6, .int m6_7, .int m7_8, .ref vn1, .ref vn2, .ref vn3])), (vn1, .inl (g 1, 3, .inr (.inr (.inr (.inr (rf3 vL0 vL1 vL2)))))), (vn2, .inl (g 3, 3, .inr (.inr (.inr (.inr (rf3 vF0_ vF1_ vF2_)))))), (vn3, .inl (g 0, 12, .inl fb3_9)), (vL0, .inr (2, [.int k0_10, .int k1_11, .int k2_12, .int k3_13, .int k4_14, .int k5_15, .ref vx00, .ref vx01, .ref vx02, .ref vx03])), (vx00, .inl (g 0, 5, .inl fc3_16)), (vx01, .inl (g 0, 15, .inl fu3_17)), (vx02, .inl (g 0, 15, .inl fp3_18)), (vx03, .inl (g 2, 3, .inr (.inr (.inr (.inr (rf3 vy00 vy01 vy02)))))), (vy00, .inr (1, [.int s0_19, .int s1_20, .int s2_21, .int s3_22, .int s4_23, .int s5_24, .int s6_25])), (vy01, .inr (1, [.int u0_26, .int u1_27, .int u2_28, .int u3_29, .int u4_30, .int u5_31, .int u6_32])), (vy02, .inr (1, [.int v0_33, .int v1_34, .int v2_35, .int v3_36, .int v4_37, .int v5_38, .int v6_39])), (vF0_, .inr (0, [.int w0__40, .int w1__41, .int w2__42, .int w3__43, .int w4__44, .int w5__45, .int w6__46, .int w7__47]))]) rfl rfl rfl rfl (by decide) (c_X7_alone l D g H.size m_ 0 mt 0 0 0 mrr mrh mrc 0 0 mn mf mr mh ma mas msn mac mat (fun _ => 0) (fun _ => 0) (xs 1) (xs 2) (xs 3) (xs 4) (xs 5)) (cwV 5 hts gL_law_X7_alone rfl rfl rfl (by decide +kernel) ⟨(Nat.le_of_ble_eq_true rfl), (Nat.le_of_ble_eq_true rfl)⟩) 0 7 rfl rfl rfl rfl hl.1 rfl (Nat.le_of_ble_eq_true rfl) dL_law_1325 ⟨(Nat.le_of_ble_eq_true rfl), (Nat.le_of_ble_eq_true rfl)⟩ (fun r_54 u H locs hw hP hD hS => ?_)
  obtain ⟨fA2_51, fB2_52, r9_53, rfl, rfl, hf_55⟩ := hw
  have hP : va_P D vwCl [(x, .inr (6, [.ref xt, .int 0, .ref xr, .ref xd, .ref xn, .ref xa, .ref xz, .ref xy, .int 0])), (xa, .inr (3, [.int m0_1, .int m1_2, .int m2_3, .int m3_4, .int m4_5, .int m5_6, .int m6_7, .int m7_8, .ref vn1, .ref vn2, .ref vn3])), (vn1, .inl (g 1, 3, .inr (.inr (.inr (.inr (rf3 vL0 vL1 vL2)))))), (vn2, .inl (g 3, 3, .inr (.inr (.inr (.inr (rf3 vF0_ vF1_ vF2_)))))), (vn3, .inl (g 0, 12, .inl fb3_9)), (vL0, .inr (2, [.int k0_10, .int k1_11, .int k2_12, .int k3_13, .int k4_14, .int k5_15, .ref vx00, .ref vx01, .ref vx02, .ref vx03])), (vx00, .inl (g 0, 5, .inl fc3_16)), (vx01, .inl (g 0, 15, .inl fu3_17)), (vx02, .inl (g 0, 15, .inl fp3_18)), (vx03, .inl (g 2, 3, .inr (.inr (.inr (.inr (rf3 vy00 vy01 vy02)))))), (vy00, .inr (1, [.int s0_19, .int s1_20, .int s2_21, .int s3_22, .int s4_23, .int s5_24, .int s6_25])), (vy01, .inr (1, [.int u0_26, .int u1_27, .int u2_28, .int u3_29, .int u4_30, .int u5_31, .int u6_32])), (vy02, .inr (1, [.int v0_33, .int v1_34, .int v2_35, .int v3_36, .int v4_37, .int v5_38, .int v6_39])), (vF0_, .inr (0, [.int w0__40, .int w1__41, .int w2__42, .int w3__43, .int w4__44, .int w5__45, .int w6__46, .int w7__47])), (m_, .inr (7, [.int 0, .ref mt, .int 0, .int 0, .int 0, .ref mrr, .ref mrh, .ref mrc, .int 0, .int 0, .ref mn, .ref mf, .ref mr, .ref mh, .int 0, .int 0, .ref ma, .ref mas, .ref msn, .ref mac, .ref mat])), (mac, .inl (g 0, 8, .inl fA2_51)), (mat, .inl (g 0, 8, .inl fB2_52))] H := hP
  have hD : va_D A [(x, .inr (6, [.ref xt, .int 0, .ref xr, .ref xd, .ref xn, .ref xa, .ref xz, .ref xy, .int 0])), (xa, .inr (3, [.int m0_1, .int m1_2, .int m2_3, .int m3_4, .int m4_5, .int m5_6, .int m6_7, .int m7_8, .ref vn1, .ref vn2, .ref vn3])), (vn1, .inl (g 1, 3, .inr (.inr (.inr (.inr (rf3 vL0 vL1 vL2)))))), (vn2, .inl (g 3, 3, .inr (.inr (.inr (.inr (rf3 vF0_ vF1_ vF2_)))))), (vn3, .inl (g 0, 12, .inl fb3_9)), (vL0, .inr (2, [.int k0_10, .int k1_11, .int k2_12, .int k3_13, .int k4_14, .int k5_15, .ref vx00, .ref vx01, .ref vx02, .ref vx03])), (vx00, .inl (g 0, 5, .inl fc3_16)), (vx01, .inl (g 0, 15, .inl fu3_17)), (vx02, .inl (g 0, 15, .inl fp3_18)), (vx03, .inl (g 2, 3, .inr (.inr (.inr (.inr (rf3 vy00 vy01 vy02)))))), (vy00, .inr (1, [.int s0_19, .int s1_20, .int s2_21, .int s3_22, .int s4_23, .int s5_24, .int s6_25])), (vy01, .inr (1, [.int u0_26, .int u1_27, .int u2_28, .int u3_29, .int u4_30, .int u5_31, .int u6_32])), (vy02, .inr (1, [.int v0_33, .int v1_34, .int v2_35, .int v3_36, .int v4_37, .int v5_38, .int v6_39])), (vF0_, .inr (0, [.int w0__40, .int w1__41, .int w2__42, .int w3__43, .int w4__44, .int w5__45, .int w6__46, .int w7__47])), (m_, .inr (7, [.int 0, .ref mt, .int 0, .int 0, .int 0, .ref mrr, .ref mrh, .ref mrc, .int 0, .int 0, .ref mn, .ref mf, .ref mr, .ref mh, .int 0, .int 0, .ref ma, .ref mas, .ref msn, .ref mac, .ref mat])), (mac, .inl (g 0, 8, .inl fA2_51)), (mat, .inl (g 0, 8, .inl fB2_52))] := hD
  refine W.widen (k := 91) (n := 5288) (Nat.le_of_ble_eq_true rfl) (Nat.le_of_ble_eq_true rfl) ?_
  refine lv_icmp_eq (tgt := 1900) hx hb dL_law_1328 (by decide) (fun _ => ?_) (fun cb => absurd (alP_eq hf_50 hf_55) cb)
  subst hAe
  refine W.widen (k := 600002) (n := 7302232) (Nat.le_of_ble_eq_true rfl) (Nat.le_of_ble_eq_true rfl) ?_
  exact law_tail l C0 hS (lv_sub hl [0, 4] rfl)
set_option maxHeartbeats 4000000 in
set_option maxRecDepth 100000 in
/-- full -/
theorem law_case_27 {p : Program} {e : Env} {s : State} {m : MethodId} {below : List Frame} {meth : Method} {c : Code} (l : Launch) (hl9 : l.stackTraces = false) {b : Nat} {xs : Nat → Int32} (C0 : lw_At p s m meth c b 6 xs) (D : va_G) (g : Nat → ClassId) (hK : va_K D vwCl (kY g) s) (hN : kn g s) (hZ : ks g (fun q : Nat => s.heap.size ≤ q) s s.heap) {m_ ma mac mas mat mf mh mn mr mrc mrh mrr msn mt o_ vF0_ vF1_ vF2_ vL0 vL1 vL2 vn1 vn2 vn3 vx00 vx01 vx02 vx03 vy00 vy01 vy02 x xa xd xn xr xt xy xz : Nat} {H : Heap} {locs : List Loc} {ls : Array Slot} (hP : va_P D vwCl [(x, .inr (6, [.ref xt, .int 0, .ref xr, .ref xd, .ref xn, .ref xa, .ref xz, .ref xy, .int 0])), (xa, .inr (3, [.int 0, .int 0, .int 0, .int 0, .int 0, .int 0, .int 0, .int 0, .ref vn1, .ref vn2, .ref vn3])), (vn1, .inl (g 1, 3, .inr (.inr (.inr (.inr (rf3 vL0 vL1 vL2)))))), (vn2, .inl (g 3, 3, .inr (.inr (.inr (.inr (rf3 vF0_ vF1_ vF2_)))))), (vn3, .inl (g 0, 12, .inl (fun _ => 0))), (vL0, .inr (2, [.int 0, .int 0, .int 0, .int 0, .int 0, .int 0, .ref vx00, .ref vx01, .ref vx02, .ref vx03])), (vx00, .inl (g 0, 5, .inl (fun _ => 0))), (vx01, .inl (g 0, 15, .inl (fun _ => 0))), (vx02, .inl (g 0, 15, .inl (fun _ => 0))), (vx03, .inl (g 2, 3, .inr (.inr (.inr (.inr (rf3 vy00 vy01 vy02)))))), (vy00, .inr (1, [.int 0, .int 0, .int 0, .int 0, .int 0, .int 0, .int 0])), (vy01, .inr (1, [.int 0, .int 0, .int 0, .int 0, .int 0, .int 0, .int 0])), (vy02, .inr (1, [.int 0, .int 0, .int 0, .int 0, .int 0, .int 0, .int 0])), (vF0_, .inr (0, [.int 0, .int 0, .int 0, .int 0, .int 0, .int 0, .int 0, .int 0])), (m_, .inr (7, [.int 0, .ref mt, .int 0, .int 0, .int 0, .ref mrr, .ref mrh, .ref mrc, .int 0, .int 0, .ref mn, .ref mf, .ref mr, .ref mh, .int 0, .int 0, .ref ma, .ref mas, .ref msn, .ref mac, .ref mat])), (mac, .inl (g 0, 8, .inl (fun _ => 0))), (mat, .inl (g 0, 8, .inl (fun _ => 0)))] H) (hD : va_D (fun q : Nat => s.heap.size ≤ q) [(x, .inr (6, [.ref xt, .int 0, .ref xr, .ref xd, .ref xn, .ref xa, .ref xz, .ref xy, .int 0])), (xa, .inr (3, [.int 0, .int 0, .int 0, .int 0, .int 0, .int 0, .int 0, .int 0, .ref vn1, .ref vn2, .ref vn3])), (vn1, .inl (g 1, 3, .inr (.inr (.inr (.inr (rf3 vL0 vL1 vL2)))))), (vn2, .inl (g 3, 3, .inr (.inr (.inr (.inr (rf3 vF0_ vF1_ vF2_)))))), (vn3, .inl (g 0, 12, .inl (fun _ => 0))), (vL0, .inr (2, [.int 0, .int 0, .int 0, .int 0, .int 0, .int 0, .ref vx00, .ref vx01, .ref vx02, .ref vx03])), (vx00, .inl (g 0, 5, .inl (fun _ => 0))), (vx01, .inl (g 0, 15, .inl (fun _ => 0))), (vx02, .inl (g 0, 15, .inl (fun _ => 0))), (vx03, .inl (g 2, 3, .inr (.inr (.inr (.inr (rf3 vy00 vy01 vy02)))))), (vy00, .inr (1, [.int 0, .int 0, .int 0, .int 0, .int 0, .int 0, .int 0])), (vy01, .inr (1, [.int 0, .int 0, .int 0, .int 0, .int 0, .int 0, .int 0])), (vy02, .inr (1, [.int 0, .int 0, .int 0, .int 0, .int 0, .int 0, .int 0])), (vF0_, .inr (0, [.int 0, .int 0, .int 0, .int 0, .int 0, .int 0, .int 0, .int 0])), (m_, .inr (7, [.int 0, .ref mt, .int 0, .int 0, .int 0, .ref mrr, .ref mrh, .ref mrc, .int 0, .int 0, .ref mn, .ref mf, .ref mr, .ref mh, .int 0, .int 0, .ref ma, .ref mas, .ref msn, .ref mac, .ref mat])), (mac, .inl (g 0, 8, .inl (fun _ => 0))), (mat, .inl (g 0, 8, .inl (fun _ => 0)))]) (hS : va_S (fun q : Nat => s.heap.size ≤ q) s.heap H locs) (hl : lv_has ls 7 [(4, .int 0), (3, .ref o_), (2, .ref m_), (1, .ref x), (0, .ref b)]) : W p l e room_1 s m #[Value.ref b] below meth c H locs 91 5288 (lw_Z below #[Value.ref b] s) (F0 m 1333 ls []) := by
  obtain ⟨hx, hb, hr, hml, hown, hts0, hX, hbl, hlocks, hgv⟩ := id C0
  have hts : ∀ w ∈ wsL_law, w.before #[Value.ref b] s = true := fun w h => hts0 w (wsL_law_in w h)
  have hA : ∀ q : Nat, s.heap.size ≤ q → (fun q : Nat => s.heap.size ≤ q) q := fun _ h => h
  have hbA : ¬ (fun q : Nat => s.heap.size ≤ q) b := Nat.not_le.mpr hbl
  generalize hAe : (fun q : Nat => s.heap.size ≤ q) = A at hA hbA hZ hD hS
  refine lv_aload_n hx hb dL_law_1333 rfl (lv_at hl 3 rfl) ?_
  refine lv_aload_n hx hb dL_law_1334 rfl (lv_at hl 4 rfl) ?_
  refine lv_iload hx hb dL_law_1335 (lv_at hl 0 rfl) ?_
  refine lv_iconst (v := 1) hx hb dL_law_1337 (by decide) ?_
  refine lv_iadd hx hb dL_law_1338 ?_
  refine lv_eqi (y := 1) (by decide) ?_
  refine va_sld hx hb hX hbl hbA hS (by unfold vp_in; decide) dL_law_1339 ?_
  refine lv_eqi (y := (xs 1)) (rfl) ?_
  refine lv_aload_n hx hb dL_law_1340 rfl (lv_at hl 4 rfl) ?_
  refine lv_iload hx hb dL_law_1341 (lv_at hl 0 rfl) ?_
  refine lv_iconst (v := 2) hx hb dL_law_1343 (by decide) ?_
  refine lv_iadd hx hb dL_law_1344 ?_
  refine lv_eqi (y := 2) (by decide) ?_
  refine va_sld hx hb hX hbl hbA hS (by unfold vp_in; decide) dL_law_1345 ?_
  refine lv_eqi (y := (xs 2)) (rfl) ?_
  refine lv_aload_n hx hb dL_law_1346 rfl (lv_at hl 4 rfl) ?_
  refine lv_iload hx hb dL_law_1347 (lv_at hl 0 rfl) ?_
  refine lv_iconst (v := 3) hx hb dL_law_1349 (by decide) ?_
  refine lv_iadd hx hb dL_law_1350 ?_
  refine lv_eqi (y := 3) (by decide) ?_
  refine va_sld hx hb hX hbl hbA hS (by unfold vp_in; decide) dL_law_1351 ?_
  refine lv_eqi (y := (xs 3)) (rfl) ?_
  refine lv_aload_n hx hb dL_law_1352 rfl (lv_at hl 4 rfl) ?_
  refine lv_iload hx hb dL_law_1353 (lv_at hl 0 rfl) ?_
  refine lv_iconst (v := 4) hx hb dL_law_1355 (by decide) ?_
  refine lv_iadd hx hb dL_law_1356 ?_
  refine lv_eqi (y := 4) (by decide) ?_
  refine va_sld hx hb hX hbl hbA hS (by unfold vp_in; decide) dL_law_1357 ?_
  refine lv_eqi (y := (xs 4)) (rfl) ?_
  refine ky_Vi (As := [.int (xs 1), .int (xs 2), .int (xs 3), .int (xs 4)]) (rest := []) ⟨hx, hb, hml, hown, hts⟩ ⟨hK, hN⟩ hZ hP hD hS hA [0, 1, 2, 3, 4, 5, 6, 7, 8, 9, 10, 11, 12, 13] [14, 15, 16] (wc := [(x, .inr (6, [.ref xt, .int 0, .ref xr, .ref xd, .ref xn, .ref xa, .ref xz, .ref xy, .int 0])), (xa, .inr (3, [.int 0, .int 0, .int 0, .int 0, .int 0, .int 0, .int 0, .int 0, .ref vn1, .ref vn2, .ref vn3])), (vn1, .inl (g 1, 3, .inr (.inr (.inr (.inr (rf3 vL0 vL1 vL2)))))), (vn2, .inl (g 3, 3, .inr (.inr (.inr (.inr (rf3 vF0_ vF1_ vF2_)))))), (vn3, .inl (g 0, 12, .inl (fun _ => 0))), (vL0, .inr (2, [.int 0, .int 0, .int 0, .int 0, .int 0, .int 0, .ref vx00, .ref vx01, .ref vx02, .ref vx03])), (vx00, .inl (g 0, 5, .inl (fun _ => 0))), (vx01, .inl (g 0, 15, .inl (fun _ => 0))), (vx02, .inl (g 0, 15, .inl (fun _ => 0))), (vx03, .inl (g 2, 3, .inr (.inr (.inr (.inr (rf3 vy00 vy01 vy02)))))), (vy00, .inr (1, [.int 0, .int 0, .int 0, .int 0, .int 0, .int 0, .int 0])), (vy01, .inr (1, [.int 0, .int 0, .int 0, .int 0, .int 0, .int 0, .int 0])), (vy02, .inr (1, [.int 0, .int 0, .int 0, .int 0, .int 0, .int 0, .int 0])), (vF0_, .inr (0, [.int 0, .int 0, .int 0, .int 0, .int 0, .int 0, .int 0, .int 0]))]) (wr := [(m_, .inr (7, [.int 0, .ref mt, .int 0, .int 0, .int 0, .ref mrr, .ref mrh, .ref mrc, .int 0, .int 0, .ref mn, .ref mf, .ref mr, .ref mh, .int 0, .int 0, .ref ma, .ref mas, .ref msn, .ref mac, .ref mat])), (mac, .inl (g 0, 8, .inl (fun _ => 0))), (mat, .inl (g 0, 8, .inl (fun _ => 0)))]) rfl rfl rfl rfl (by decide) (c_X6_full l D g H.size x xt 0 xr xd xn xz xy 0 xa 0 0 0 0 0 0 0 0 vn1 vn2 vn3 (fun _ => 0) vL0 vL1 vL2 0 0 0 0 0 0 vx00 vx01 vx02 vx03 (fun _ => 0) (fun _ => 0) (fun _ => 0) vy00 vy01 vy02 0 0 0 0 0 0 0 0 0 0 0 0 0 0 0 0 0 0 0 0 0 vF0_ vF1_ vF2_ 0 0 0 0 0 0 0 0 (xs 1) (xs 2) (xs 3) (xs 4)) (cwV 4 hts gL_law_X6_full rfl rfl rfl (by decide +kernel) ⟨(Nat.le_of_ble_eq_true rfl), (Nat.le_of_ble_eq_true rfl)⟩) 0 6 rfl rfl rfl rfl hl.1 rfl (Nat.le_of_ble_eq_true rfl) dL_law_1358 ⟨(Nat.le_of_ble_eq_true rfl), (Nat.le_of_ble_eq_true rfl)⟩ (fun r_49 u H locs hw hP hD hS => ?_)
  obtain ⟨m0_1, m1_2, m2_3, m3_4, m4_5, m5_6, m6_7, m7_8, fb3_9, k0_10, k1_11, k2_12, k3_13, k4_14, k5_15, fc3_16, fu3_17, fp3_18, s0_19, s1_20, s2_21, s3_22, s4_23, s5_24, s6_25, u0_26, u1_27, u2_28, u3_29, u4_30, u5_31, u6_32, v0_33, v1_34, v2_35, v3_36, v4_37, v5_38, v6_39, w0__40, w1__41, w2__42, w3__43, w4__44, w5__45, w6__46, w7__47, r9_48, rfl, rfl, hf_50⟩ := hw
  have hP : va_P D vwCl [(m_, .inr (7, [.int 0, .ref mt, .int 0, .int 0, .int 0, .ref mrr, .ref mrh, .ref mrc, .int 0, .int 0, .ref mn, .ref mf, .ref mr, .ref mh, .int 0, .int 0, .ref ma, .ref mas, .ref msn, .ref mac, .ref mat])), (mac, .inl (g 0, 8, .inl (fun _ => 0))), (mat, .inl (g 0, 8, .inl (fun _ => 0))), (x, .inr (6, [.ref xt, .int 0, .ref xr, .ref xd, .ref xn, .ref xa, .ref xz, .ref xy, .int 0])), (xa, .inr (3, [.int m0_1, .int m1_2, .int m2_3, .int m3_4, .int m4_5, .int m5_6, .int m6_7, .int m7_8, .ref vn1, .ref vn2, .ref vn3])), (vn1, .inl (g 1, 3, .inr (.inr (.inr (.inr (rf3 vL0 vL1 vL2)))))), (vn2, .inl (g 3, 3, .inr (.inr (.inr (.inr (rf3 vF0_ vF1_ vF2_)))))), (vn3, .inl (g 0, 12, .inl fb3_9)), (vL0, .inr (2, [.int k0_10, .int k1_11, .int k2_12, .int k3_13, .int k4_14, .int k5_15, .ref vx00, .ref vx01, .ref vx02, .ref vx03])), (vx00, .inl (g 0, 5, .inl fc3_16)), (vx01, .inl (g 0, 15, .inl fu3_17)), (vx02, .inl (g 0, 15, .inl fp3_18)), (vx03, .inl (g 2, 3, .inr (.inr (.inr (.inr (rf3 vy00 vy01 vy02)))))), (vy00, .inr (1, [.int s0_19, .int s1_20, .int s2_21, .int s3_22, .int s4_23, .int s5_24, .int s6_25])), (vy01, .inr (1, [.int u0_26, .int u1_27, .int u2_28, .int u3_29, .int u4_30, .int u5_31, .int u6_32])), (vy02, .inr (1, [.int v0_33, .int v1_34, .int v2_35, .int v3_36, .int v4_37, .int v5_38, .int v6_39])), (vF0_, .inr (0, [.int w0__40, .int w1__41, .int w2__42, .int w3__43, .int w4__44, .int w5__45, .int w6__46, .int w7__47]))] H := hP
  have hD : va_D A [(m_, .inr (7, [.int 0, .ref mt, .int 0, .int 0, .int 0, .ref mrr, .ref mrh, .ref mrc, .int 0, .int 0, .ref mn, .ref mf, .ref mr, .ref mh, .int 0, .int 0, .ref ma, .ref mas, .ref msn, .ref mac, .ref mat])), (mac, .inl (g 0, 8, .inl (fun _ => 0))), (mat, .inl (g 0, 8, .inl (fun _ => 0))), (x, .inr (6, [.ref xt, .int 0, .ref xr, .ref xd, .ref xn, .ref xa, .ref xz, .ref xy, .int 0])), (xa, .inr (3, [.int m0_1, .int m1_2, .int m2_3, .int m3_4, .int m4_5, .int m5_6, .int m6_7, .int m7_8, .ref vn1, .ref vn2, .ref vn3])), (vn1, .inl (g 1, 3, .inr (.inr (.inr (.inr (rf3 vL0 vL1 vL2)))))), (vn2, .inl (g 3, 3, .inr (.inr (.inr (.inr (rf3 vF0_ vF1_ vF2_)))))), (vn3, .inl (g 0, 12, .inl fb3_9)), (vL0, .inr (2, [.int k0_10, .int k1_11, .int k2_12, .int k3_13, .int k4_14, .int k5_15, .ref vx00, .ref vx01, .ref vx02, .ref vx03])), (vx00, .inl (g 0, 5, .inl fc3_16)), (vx01, .inl (g 0, 15, .inl fu3_17)), (vx02, .inl (g 0, 15, .inl fp3_18)), (vx03, .inl (g 2, 3, .inr (.inr (.inr (.inr (rf3 vy00 vy01 vy02)))))), (vy00, .inr (1, [.int s0_19, .int s1_20, .int s2_21, .int s3_22, .int s4_23, .int s5_24, .int s6_25])), (vy01, .inr (1, [.int u0_26, .int u1_27, .int u2_28, .int u3_29, .int u4_30, .int u5_31, .int u6_32])), (vy02, .inr (1, [.int v0_33, .int v1_34, .int v2_35, .int v3_36, .int v4_37, .int v5_38, .int v6_39])), (vF0_, .inr (0, [.int w0__40, .int w1__41, .int w2__42, .int w3__43, .int w4__44, .int w5__45, .int w6__46, .int w7__47]))] := hD
  refine W.widen (k := 91) (n := 5288) (Nat.le_of_ble_eq_true rfl) (Nat.le_of_ble_eq_true rfl) ?_
  refine lv_aload_n hx hb dL_law_1361 rfl (lv_at hl 2 rfl) ?_
  refine lv_aload_n hx hb dL_law_1362 rfl (lv_at hl 4 rfl) ?_
  refine lv_iload hx hb dL_law_1363 (lv_at hl 0 rfl) ?_
  refine lv_iconst (v := 1) hx hb dL_law_1365 (by decide) ?_
  refine lv_iadd hx hb dL_law_1366 ?_
  refine lv_eqi (y := 1) (by decide) ?_
  refine va_sld hx hb hX hbl hbA hS (by unfold vp_in; decide) dL_law_1367 ?_
  refine lv_eqi (y := (xs 1)) (rfl) ?_
  refine lv_aload_n hx hb dL_law_1368 rfl (lv_at hl 4 rfl) ?_
  refine lv_iload hx hb dL_law_1369 (lv_at hl 0 rfl) ?_
  refine lv_iconst (v := 2) hx hb dL_law_1371 (by decide) ?_
  refine lv_iadd hx hb dL_law_1372 ?_
  refine lv_eqi (y := 2) (by decide) ?_
  refine va_sld hx hb hX hbl hbA hS (by unfold vp_in; decide) dL_law_1373 ?_
  refine lv_eqi (y := (xs 2)) (rfl) ?_
  refine lv_aload_n hx hb dL_law_1374 rfl (lv_at hl 4 rfl) ?_
  refine lv_iload hx hb dL_law_1375 (lv_at hl 0 rfl) ?_
  refine lv_iconst (v := 3) hx hb dL_law_1377 (by decide) ?_
  refine lv_iadd hx hb dL_law_1378 ?_
  refine lv_eqi (y := 3) (by decide) ?_
  refine va_sld hx hb hX hbl hbA hS (by unfold vp_in; decide) dL_law_1379 ?_
  refine lv_eqi (y := (xs 3)) (rfl) ?_
  refine lv_aload_n hx hb dL_law_1380 rfl (lv_at hl 4 rfl) ?_
  refine lv_iload hx hb dL_law_1381 (lv_at hl 0 rfl) ?_
  refine lv_iconst (v := 4) hx hb dL_law_1383 (by decide) ?_
  refine lv_iadd hx hb dL_law_1384 ?_
  refine lv_eqi (y := 4) (by decide) ?_
  refine va_sld hx hb hX hbl hbA hS (by unfold vp_in; decide) dL_law_1385 ?_
  refine lv_eqi (y := (xs 4)) (rfl) ?_
  refine ky_Vi (As := [.int (xs 1), .int (xs 2), .int (xs 3), .int (xs 4)]) (rest := [.int r_49]) ⟨hx, hb, hml, hown, hts⟩ ⟨hK, hN⟩ hZ hP hD hS hA [0, 1, 2] [3, 4, 5, 6, 7, 8, 9, 10, 11, 12, 13, 14, 15, 16] (wc := [(m_, .inr (7, [.int 0, .ref mt, .int 0, .int 0, .int 0, .ref mrr, .ref mrh, .ref mrc, .int 0, .int 0, .ref mn, .ref mf, .ref mr, .ref mh, .int 0, .int 0, .ref ma, .ref mas, .ref msn, .ref mac, .ref mat])), (mac, .inl (g 0, 8, .inl (fun _ => 0))), (mat, .inl (g 0, 8, .inl (fun _ => 0)))]) (wr := [(x, .inr (6, [.ref xt, .int 0, .ref xr, .ref xd, .ref xn, .ref xa, .ref xz, .ref xy, .int 0])), (xa, .inr (3, [.int m0_1, .int m1_2, .int m2_3, .int m3_4, .int m4_5, .int m5_6, .int m6_7, .int m7_8, .ref vn1, .ref vn2, .ref vn3])), (vn1, .inl (g 1, 3, .inr (.inr (.inr (.inr (rf3 vL0 vL1 vL2)))))), (vn2, .inl (g 3, 3, .inr (.inr (.inr (.inr (rf3 vF0_ vF1_ vF2_)))))), (vn3, .inl (g 0, 12, .inl fb3_9)), (vL0, .inr (2, [.int k0_10, .int k1_11, .int k2_12, .int k3_13, .int k4_14, .int k5_15, .ref vx00, .ref vx01, .ref vx02, .ref vx03])), (vx00, .inl (g 0, 5, .inl fc3_16)), (vx01, .inl (g 0, 15, .inl fu3_17)), (vx02, .inl (g 0, 15, .inl fp3_18)), (vx03, .inl (g 2, 3, .inr (.inr (.inr (.inr (rf3 vy00 vy01 vy02)))))), (vy00, .inr (1, [.int s0_19, .int s1_20, .int s2_21, .int s3_22, .int s4_23, .int s5_24, .int s6_25])), (vy01, .inr (1, [.int u0_26, .int u1_27, .int u2_28, .int u3_29, .int u4_30, .int u5_31, .int u6_32])), (vy02, .inr (1, [.int v0_33, .int v1_34, .int v2_35, .int v3_36, .int v4_37, .int v5_38, .int v6_39])), (vF0_, .inr (0, [.int w0__40, .int w1__41, .int w2__42, .int w3__43, .int w4__44, .int w5__45, .int w6__46, .int w7__47]))]) rfl rfl rfl rfl (by decide) (c_X7_full l D g H.size m_ 0 mt 0 0 0 mrr mrh mrc 0 0 mn mf mr mh ma mas msn mac mat (fun _ => 0) (fun _ => 0) (xs 1) (xs 2) (xs 3) (xs 4)) (cwV 4 hts gL_law_X7_full rfl rfl rfl (by decide +kernel) ⟨(Nat.le_of_ble_eq_true rfl), (Nat.le_of_ble_eq_true rfl)⟩) 0 7 rfl rfl rfl rfl hl.1 rfl (Nat.le_of_ble_eq_true rfl) dL_law_1386 ⟨(Nat.le_of_ble_eq_true rfl), (Nat.le_of_ble_eq_true rfl)⟩ (fun r_54 u H locs hw hP hD hS => ?_)
  obtain ⟨fA2_51, fB2_52, r9_53, rfl, rfl, hf_55⟩ := hw
  have hP : va_P D vwCl [(x, .inr (6, [.ref xt, .int 0, .ref xr, .ref xd, .ref xn, .ref xa, .ref xz, .ref xy, .int 0])), (xa, .inr (3, [.int m0_1, .int m1_2, .int m2_3, .int m3_4, .int m4_5, .int m5_6, .int m6_7, .int m7_8, .ref vn1, .ref vn2, .ref vn3])), (vn1, .inl (g 1, 3, .inr (.inr (.inr (.inr (rf3 vL0 vL1 vL2)))))), (vn2, .inl (g 3, 3, .inr (.inr (.inr (.inr (rf3 vF0_ vF1_ vF2_)))))), (vn3, .inl (g 0, 12, .inl fb3_9)), (vL0, .inr (2, [.int k0_10, .int k1_11, .int k2_12, .int k3_13, .int k4_14, .int k5_15, .ref vx00, .ref vx01, .ref vx02, .ref vx03])), (vx00, .inl (g 0, 5, .inl fc3_16)), (vx01, .inl (g 0, 15, .inl fu3_17)), (vx02, .inl (g 0, 15, .inl fp3_18)), (vx03, .inl (g 2, 3, .inr (.inr (.inr (.inr (rf3 vy00 vy01 vy02)))))), (vy00, .inr (1, [.int s0_19, .int s1_20, .int s2_21, .int s3_22, .int s4_23, .int s5_24, .int s6_25])), (vy01, .inr (1, [.int u0_26, .int u1_27, .int u2_28, .int u3_29, .int u4_30, .int u5_31, .int u6_32])), (vy02, .inr (1, [.int v0_33, .int v1_34, .int v2_35, .int v3_36, .int v4_37, .int v5_38, .int v6_39])), (vF0_, .inr (0, [.int w0__40, .int w1__41, .int w2__42, .int w3__43, .int w4__44, .int w5__45, .int w6__46, .int w7__47])), (m_, .inr (7, [.int 0, .ref mt, .int 0, .int 0, .int 0, .ref mrr, .ref mrh, .ref mrc, .int 0, .int 0, .ref mn, .ref mf, .ref mr, .ref mh, .int 0, .int 0, .ref ma, .ref mas, .ref msn, .ref mac, .ref mat])), (mac, .inl (g 0, 8, .inl fA2_51)), (mat, .inl (g 0, 8, .inl fB2_52))] H := hP
  have hD : va_D A [(x, .inr (6, [.ref xt, .int 0, .ref xr, .ref xd, .ref xn, .ref xa, .ref xz, .ref xy, .int 0])), (xa, .inr (3, [.int m0_1, .int m1_2, .int m2_3, .int m3_4, .int m4_5, .int m5_6, .int m6_7, .int m7_8, .ref vn1, .ref vn2, .ref vn3])), (vn1, .inl (g 1, 3, .inr (.inr (.inr (.inr (rf3 vL0 vL1 vL2)))))), (vn2, .inl (g 3, 3, .inr (.inr (.inr (.inr (rf3 vF0_ vF1_ vF2_)))))), (vn3, .inl (g 0, 12, .inl fb3_9)), (vL0, .inr (2, [.int k0_10, .int k1_11, .int k2_12, .int k3_13, .int k4_14, .int k5_15, .ref vx00, .ref vx01, .ref vx02, .ref vx03])), (vx00, .inl (g 0, 5, .inl fc3_16)), (vx01, .inl (g 0, 15, .inl fu3_17)), (vx02, .inl (g 0, 15, .inl fp3_18)), (vx03, .inl (g 2, 3, .inr (.inr (.inr (.inr (rf3 vy00 vy01 vy02)))))), (vy00, .inr (1, [.int s0_19, .int s1_20, .int s2_21, .int s3_22, .int s4_23, .int s5_24, .int s6_25])), (vy01, .inr (1, [.int u0_26, .int u1_27, .int u2_28, .int u3_29, .int u4_30, .int u5_31, .int u6_32])), (vy02, .inr (1, [.int v0_33, .int v1_34, .int v2_35, .int v3_36, .int v4_37, .int v5_38, .int v6_39])), (vF0_, .inr (0, [.int w0__40, .int w1__41, .int w2__42, .int w3__43, .int w4__44, .int w5__45, .int w6__46, .int w7__47])), (m_, .inr (7, [.int 0, .ref mt, .int 0, .int 0, .int 0, .ref mrr, .ref mrh, .ref mrc, .int 0, .int 0, .ref mn, .ref mf, .ref mr, .ref mh, .int 0, .int 0, .ref ma, .ref mas, .ref msn, .ref mac, .ref mat])), (mac, .inl (g 0, 8, .inl fA2_51)), (mat, .inl (g 0, 8, .inl fB2_52))] := hD
  refine W.widen (k := 91) (n := 5288) (Nat.le_of_ble_eq_true rfl) (Nat.le_of_ble_eq_true rfl) ?_
  refine lv_icmp_eq (tgt := 1900) hx hb dL_law_1389 (by decide) (fun _ => ?_) (fun cb => absurd (fu_eq hf_50 hf_55) cb)
  subst hAe
  refine W.widen (k := 600002) (n := 7302232) (Nat.le_of_ble_eq_true rfl) (Nat.le_of_ble_eq_true rfl) ?_
  exact law_tail l C0 hS (lv_sub hl [0, 4] rfl)
set_option maxHeartbeats 4000000 in
set_option maxRecDepth 100000 in
/-- law -/
theorem law_case_28 {p : Program} {e : Env} {s : State} {m : MethodId} {below : List Frame} {meth : Method} {c : Code} (l : Launch) (hl9 : l.stackTraces = false) {b : Nat} {xs : Nat → Int32} (C0 : lw_At p s m meth c b 6 xs) (D : va_G) (g : Nat → ClassId) (hK : va_K D vwCl (kY g) s) (hN : kn g s) (hZ : ks g (fun q : Nat => s.heap.size ≤ q) s s.heap) {m_ ma mac mas mat mf mh mn mr mrc mrh mrr msn mt o_ x xa xd xn xr xt xy xz : Nat} {H : Heap} {locs : List Loc} {ls : Array Slot} (hP : va_P D vwCl [(x, .inr (6, [.ref xt, .int 0, .ref xr, .ref xd, .ref xn, .ref xa, .ref xz, .ref xy, .int 0])), (m_, .inr (7, [.int 0, .ref mt, .int 0, .int 0, .int 0, .ref mrr, .ref mrh, .ref mrc, .int 0, .int 0, .ref mn, .ref mf, .ref mr, .ref mh, .int 0, .int 0, .ref ma, .ref mas, .ref msn, .ref mac, .ref mat]))] H) (hD : va_D (fun q : Nat => s.heap.size ≤ q) [(x, .inr (6, [.ref xt, .int 0, .ref xr, .ref xd, .ref xn, .ref xa, .ref xz, .ref xy, .int 0])), (m_, .inr (7, [.int 0, .ref mt, .int 0, .int 0, .int 0, .ref mrr, .ref mrh, .ref mrc, .int 0, .int 0, .ref mn, .ref mf, .ref mr, .ref mh, .int 0, .int 0, .ref ma, .ref mas, .ref msn, .ref mac, .ref mat]))]) (hS : va_S (fun q : Nat => s.heap.size ≤ q) s.heap H locs) (hl : lv_has ls 7 [(4, .int 0), (3, .ref o_), (2, .ref m_), (1, .ref x), (0, .ref b)]) : W p l e room_1 s m #[Value.ref b] below meth c H locs 91 5288 (lw_Z below #[Value.ref b] s) (F0 m 1394 ls []) := by
  obtain ⟨hx, hb, hr, hml, hown, hts0, hX, hbl, hlocks, hgv⟩ := id C0
  have hts : ∀ w ∈ wsL_law, w.before #[Value.ref b] s = true := fun w h => hts0 w (wsL_law_in w h)
  have hA : ∀ q : Nat, s.heap.size ≤ q → (fun q : Nat => s.heap.size ≤ q) q := fun _ h => h
  have hbA : ¬ (fun q : Nat => s.heap.size ≤ q) b := Nat.not_le.mpr hbl
  generalize hAe : (fun q : Nat => s.heap.size ≤ q) = A at hA hbA hZ hD hS
  refine lv_aload_n hx hb dL_law_1394 rfl (lv_at hl 3 rfl) ?_
  refine lv_aload_n hx hb dL_law_1395 rfl (lv_at hl 4 rfl) ?_
  refine lv_iload hx hb dL_law_1396 (lv_at hl 0 rfl) ?_
  refine lv_iconst (v := 1) hx hb dL_law_1398 (by decide) ?_
  refine lv_iadd hx hb dL_law_1399 ?_
  refine lv_eqi (y := 1) (by decide) ?_
  refine va_sld hx hb hX hbl hbA hS (by unfold vp_in; decide) dL_law_1400 ?_
  refine lv_eqi (y := (xs 1)) (rfl) ?_
  refine lv_aload_n hx hb dL_law_1401 rfl (lv_at hl 4 rfl) ?_
  refine lv_iload hx hb dL_law_1402 (lv_at hl 0 rfl) ?_
  refine lv_iconst (v := 2) hx hb dL_law_1404 (by decide) ?_
  refine lv_iadd hx hb dL_law_1405 ?_
  refine lv_eqi (y := 2) (by decide) ?_
  refine va_sld hx hb hX hbl hbA hS (by unfold vp_in; decide) dL_law_1406 ?_
  refine lv_eqi (y := (xs 2)) (rfl) ?_
  refine lv_aload_n hx hb dL_law_1407 rfl (lv_at hl 4 rfl) ?_
  refine lv_iload hx hb dL_law_1408 (lv_at hl 0 rfl) ?_
  refine lv_iconst (v := 3) hx hb dL_law_1410 (by decide) ?_
  refine lv_iadd hx hb dL_law_1411 ?_
  refine lv_eqi (y := 3) (by decide) ?_
  refine va_sld hx hb hX hbl hbA hS (by unfold vp_in; decide) dL_law_1412 ?_
  refine lv_eqi (y := (xs 3)) (rfl) ?_
  refine ky_Vi (As := [.int (xs 1), .int (xs 2), .int (xs 3)]) (rest := []) ⟨hx, hb, hml, hown, hts⟩ ⟨hK, hN⟩ hZ hP hD hS hA [0] [1] (wc := [(x, .inr (6, [.ref xt, .int 0, .ref xr, .ref xd, .ref xn, .ref xa, .ref xz, .ref xy, .int 0]))]) (wr := [(m_, .inr (7, [.int 0, .ref mt, .int 0, .int 0, .int 0, .ref mrr, .ref mrh, .ref mrc, .int 0, .int 0, .ref mn, .ref mf, .ref mr, .ref mh, .int 0, .int 0, .ref ma, .ref mas, .ref msn, .ref mac, .ref mat]))]) rfl rfl rfl rfl (by decide) (c_X6_law l D g H.size x xt 0 xr xd xn xa xz xy (xs 1) (xs 2) (xs 3)) (cwV 3 hts gL_law_X6_law rfl rfl rfl (by decide +kernel) ⟨(Nat.le_of_ble_eq_true rfl), (Nat.le_of_ble_eq_true rfl)⟩) 0 6 rfl rfl rfl rfl hl.1 rfl (Nat.le_of_ble_eq_true rfl) dL_law_1413 ⟨(Nat.le_of_ble_eq_true rfl), (Nat.le_of_ble_eq_true rfl)⟩ (fun r_1 u H locs hw hP hD hS => ?_)
  obtain ⟨rfl, rfl⟩ := hw
  have hP : va_P D vwCl [(m_, .inr (7, [.int 0, .ref mt, .int 0, .int 0, .int 0, .ref mrr, .ref mrh, .ref mrc, .int 0, .int 0, .ref mn, .ref mf, .ref mr, .ref mh, .int 0, .int 0, .ref ma, .ref mas, .ref msn, .ref mac, .ref mat])), (x, .inr (6, [.ref xt, .int 0, .ref xr, .ref xd, .ref xn, .ref xa, .ref xz, .ref xy, .int 0]))] H := hP
  have hD : va_D A [(m_, .inr (7, [.int 0, .ref mt, .int 0, .int 0, .int 0, .ref mrr, .ref mrh, .ref mrc, .int 0, .int 0, .ref mn, .ref mf, .ref mr, .ref mh, .int 0, .int 0, .ref ma, .ref mas, .ref msn, .ref mac, .ref mat])), (x, .inr (6, [.ref xt, .int 0, .ref xr, .ref xd, .ref xn, .ref xa, .ref xz, .ref xy, .int 0]))] := hD
  refine W.widen (k := 91) (n := 5288) (Nat.le_of_ble_eq_true rfl) (Nat.le_of_ble_eq_true rfl) ?_
  refine lv_aload_n hx hb dL_law_1416 rfl (lv_at hl 2 rfl) ?_
  refine lv_aload_n hx hb dL_law_1417 rfl (lv_at hl 4 rfl) ?_
  refine lv_iload hx hb dL_law_1418 (lv_at hl 0 rfl) ?_
  refine lv_iconst (v := 1) hx hb dL_law_1420 (by decide) ?_
  refine lv_iadd hx hb dL_law_1421 ?_
  refine lv_eqi (y := 1) (by decide) ?_
  refine va_sld hx hb hX hbl hbA hS (by unfold vp_in; decide) dL_law_1422 ?_
  refine lv_eqi (y := (xs 1)) (rfl) ?_
  refine lv_aload_n hx hb dL_law_1423 rfl (lv_at hl 4 rfl) ?_
  refine lv_iload hx hb dL_law_1424 (lv_at hl 0 rfl) ?_
  refine lv_iconst (v := 2) hx hb dL_law_1426 (by decide) ?_
  refine lv_iadd hx hb dL_law_1427 ?_
  refine lv_eqi (y := 2) (by decide) ?_
  refine va_sld hx hb hX hbl hbA hS (by unfold vp_in; decide) dL_law_1428 ?_
  refine lv_eqi (y := (xs 2)) (rfl) ?_
  refine lv_aload_n hx hb dL_law_1429 rfl (lv_at hl 4 rfl) ?_
  refine lv_iload hx hb dL_law_1430 (lv_at hl 0 rfl) ?_
  refine lv_iconst (v := 3) hx hb dL_law_1432 (by decide) ?_
  refine lv_iadd hx hb dL_law_1433 ?_
  refine lv_eqi (y := 3) (by decide) ?_
  refine va_sld hx hb hX hbl hbA hS (by unfold vp_in; decide) dL_law_1434 ?_
  refine lv_eqi (y := (xs 3)) (rfl) ?_
  refine ky_Vi (As := [.int (xs 1), .int (xs 2), .int (xs 3)]) (rest := [.int (if ((xs 1) < 1 ∨ 4 < (xs 1)) ∨ ((xs 2) < 1 ∨ 4 < (xs 2)) ∨ ((xs 3) < 1 ∨ 9 < (xs 3)) then (-1) else ((((((2 * (xs 1)) + (xs 3)) - 1) / (xs 3)) + (xs 2)) - 1))]) ⟨hx, hb, hml, hown, hts⟩ ⟨hK, hN⟩ hZ hP hD hS hA [0] [1] (wc := [(m_, .inr (7, [.int 0, .ref mt, .int 0, .int 0, .int 0, .ref mrr, .ref mrh, .ref mrc, .int 0, .int 0, .ref mn, .ref mf, .ref mr, .ref mh, .int 0, .int 0, .ref ma, .ref mas, .ref msn, .ref mac, .ref mat]))]) (wr := [(x, .inr (6, [.ref xt, .int 0, .ref xr, .ref xd, .ref xn, .ref xa, .ref xz, .ref xy, .int 0]))]) rfl rfl rfl rfl (by decide) (c_X7_law l D g H.size m_ 0 mt 0 0 0 mrr mrh mrc 0 0 mn mf mr mh ma mas msn mac mat (xs 1) (xs 2) (xs 3)) (cwV 3 hts gL_law_X7_law rfl rfl rfl (by decide +kernel) ⟨(Nat.le_of_ble_eq_true rfl), (Nat.le_of_ble_eq_true rfl)⟩) 0 7 rfl rfl rfl rfl hl.1 rfl (Nat.le_of_ble_eq_true rfl) dL_law_1435 ⟨(Nat.le_of_ble_eq_true rfl), (Nat.le_of_ble_eq_true rfl)⟩ (fun r_2 u H locs hw hP hD hS => ?_)
  obtain ⟨rfl, rfl⟩ := hw
  have hP : va_P D vwCl [(x, .inr (6, [.ref xt, .int 0, .ref xr, .ref xd, .ref xn, .ref xa, .ref xz, .ref xy, .int 0])), (m_, .inr (7, [.int 0, .ref mt, .int 0, .int 0, .int 0, .ref mrr, .ref mrh, .ref mrc, .int 0, .int 0, .ref mn, .ref mf, .ref mr, .ref mh, .int 0, .int 0, .ref ma, .ref mas, .ref msn, .ref mac, .ref mat]))] H := hP
  have hD : va_D A [(x, .inr (6, [.ref xt, .int 0, .ref xr, .ref xd, .ref xn, .ref xa, .ref xz, .ref xy, .int 0])), (m_, .inr (7, [.int 0, .ref mt, .int 0, .int 0, .int 0, .ref mrr, .ref mrh, .ref mrc, .int 0, .int 0, .ref mn, .ref mf, .ref mr, .ref mh, .int 0, .int 0, .ref ma, .ref mas, .ref msn, .ref mac, .ref mat]))] := hD
  refine W.widen (k := 91) (n := 5288) (Nat.le_of_ble_eq_true rfl) (Nat.le_of_ble_eq_true rfl) ?_
  refine lv_icmp_eq (tgt := 1900) hx hb dL_law_1438 (by decide) (fun _ => ?_) (fun cb => absurd (law_eq (xs 1) (xs 2) (xs 3)) cb)
  subst hAe
  refine W.widen (k := 600002) (n := 7302232) (Nat.le_of_ble_eq_true rfl) (Nat.le_of_ble_eq_true rfl) ?_
  exact law_tail l C0 hS (lv_sub hl [0, 4] rfl)
set_option maxHeartbeats 4000000 in
set_option maxRecDepth 100000 in
/-- aim -/
theorem law_case_29 {p : Program} {e : Env} {s : State} {m : MethodId} {below : List Frame} {meth : Method} {c : Code} (l : Launch) (hl9 : l.stackTraces = false) {b : Nat} {xs : Nat → Int32} (C0 : lw_At p s m meth c b 6 xs) (D : va_G) (g : Nat → ClassId) (hK : va_K D vwCl (kY g) s) (hN : kn g s) (hZ : ks g (fun q : Nat => s.heap.size ≤ q) s s.heap) {m_ ma mac mas mat mf mh mn mr mrc mrh mrr msn mt o_ x xa xd xn xr xt xy xz : Nat} {H : Heap} {locs : List Loc} {ls : Array Slot} (hP : va_P D vwCl [(x, .inr (6, [.ref xt, .int 0, .ref xr, .ref xd, .ref xn, .ref xa, .ref xz, .ref xy, .int 0])), (m_, .inr (7, [.int 0, .ref mt, .int 0, .int 0, .int 0, .ref mrr, .ref mrh, .ref mrc, .int 0, .int 0, .ref mn, .ref mf, .ref mr, .ref mh, .int 0, .int 0, .ref ma, .ref mas, .ref msn, .ref mac, .ref mat]))] H) (hD : va_D (fun q : Nat => s.heap.size ≤ q) [(x, .inr (6, [.ref xt, .int 0, .ref xr, .ref xd, .ref xn, .ref xa, .ref xz, .ref xy, .int 0])), (m_, .inr (7, [.int 0, .ref mt, .int 0, .int 0, .int 0, .ref mrr, .ref mrh, .ref mrc, .int 0, .int 0, .ref mn, .ref mf, .ref mr, .ref mh, .int 0, .int 0, .ref ma, .ref mas, .ref msn, .ref mac, .ref mat]))]) (hS : va_S (fun q : Nat => s.heap.size ≤ q) s.heap H locs) (hl : lv_has ls 7 [(4, .int 0), (3, .ref o_), (2, .ref m_), (1, .ref x), (0, .ref b)]) : W p l e room_1 s m #[Value.ref b] below meth c H locs 91 5288 (lw_Z below #[Value.ref b] s) (F0 m 1443 ls []) := by
  obtain ⟨hx, hb, hr, hml, hown, hts0, hX, hbl, hlocks, hgv⟩ := id C0
  have hts : ∀ w ∈ wsL_law, w.before #[Value.ref b] s = true := fun w h => hts0 w (wsL_law_in w h)
  have hA : ∀ q : Nat, s.heap.size ≤ q → (fun q : Nat => s.heap.size ≤ q) q := fun _ h => h
  have hbA : ¬ (fun q : Nat => s.heap.size ≤ q) b := Nat.not_le.mpr hbl
  generalize hAe : (fun q : Nat => s.heap.size ≤ q) = A at hA hbA hZ hD hS
  refine lv_aload_n hx hb dL_law_1443 rfl (lv_at hl 3 rfl) ?_
  refine lv_aload_n hx hb dL_law_1444 rfl (lv_at hl 4 rfl) ?_
  refine lv_iload hx hb dL_law_1445 (lv_at hl 0 rfl) ?_
  refine lv_iconst (v := 1) hx hb dL_law_1447 (by decide) ?_
  refine lv_iadd hx hb dL_law_1448 ?_
  refine lv_eqi (y := 1) (by decide) ?_
  refine va_sld hx hb hX hbl hbA hS (by unfold vp_in; decide) dL_law_1449 ?_
  refine lv_eqi (y := (xs 1)) (rfl) ?_
  refine lv_aload_n hx hb dL_law_1450 rfl (lv_at hl 4 rfl) ?_
  refine lv_iload hx hb dL_law_1451 (lv_at hl 0 rfl) ?_
  refine lv_iconst (v := 2) hx hb dL_law_1453 (by decide) ?_
  refine lv_iadd hx hb dL_law_1454 ?_
  refine lv_eqi (y := 2) (by decide) ?_
  refine va_sld hx hb hX hbl hbA hS (by unfold vp_in; decide) dL_law_1455 ?_
  refine lv_eqi (y := (xs 2)) (rfl) ?_
  refine ky_Vi (As := [.int (xs 1), .int (xs 2)]) (rest := []) ⟨hx, hb, hml, hown, hts⟩ ⟨hK, hN⟩ hZ hP hD hS hA [0] [1] (wc := [(x, .inr (6, [.ref xt, .int 0, .ref xr, .ref xd, .ref xn, .ref xa, .ref xz, .ref xy, .int 0]))]) (wr := [(m_, .inr (7, [.int 0, .ref mt, .int 0, .int 0, .int 0, .ref mrr, .ref mrh, .ref mrc, .int 0, .int 0, .ref mn, .ref mf, .ref mr, .ref mh, .int 0, .int 0, .ref ma, .ref mas, .ref msn, .ref mac, .ref mat]))]) rfl rfl rfl rfl (by decide) (c_X6_aim l D g H.size x xt 0 xr xd xn xa xz xy (xs 1) (xs 2)) (cwV 2 hts gL_law_X6_aim rfl rfl rfl (by decide +kernel) ⟨(Nat.le_of_ble_eq_true rfl), (Nat.le_of_ble_eq_true rfl)⟩) 0 6 rfl rfl rfl rfl hl.1 rfl (Nat.le_of_ble_eq_true rfl) dL_law_1456 ⟨(Nat.le_of_ble_eq_true rfl), (Nat.le_of_ble_eq_true rfl)⟩ (fun r_1 u H locs hw hP hD hS => ?_)
  obtain ⟨rfl, rfl⟩ := hw
  have hP : va_P D vwCl [(m_, .inr (7, [.int 0, .ref mt, .int 0, .int 0, .int 0, .ref mrr, .ref mrh, .ref mrc, .int 0, .int 0, .ref mn, .ref mf, .ref mr, .ref mh, .int 0, .int 0, .ref ma, .ref mas, .ref msn, .ref mac, .ref mat])), (x, .inr (6, [.ref xt, .int 0, .ref xr, .ref xd, .ref xn, .ref xa, .ref xz, .ref xy, .int 0]))] H := hP
  have hD : va_D A [(m_, .inr (7, [.int 0, .ref mt, .int 0, .int 0, .int 0, .ref mrr, .ref mrh, .ref mrc, .int 0, .int 0, .ref mn, .ref mf, .ref mr, .ref mh, .int 0, .int 0, .ref ma, .ref mas, .ref msn, .ref mac, .ref mat])), (x, .inr (6, [.ref xt, .int 0, .ref xr, .ref xd, .ref xn, .ref xa, .ref xz, .ref xy, .int 0]))] := hD
  refine W.widen (k := 91) (n := 5288) (Nat.le_of_ble_eq_true rfl) (Nat.le_of_ble_eq_true rfl) ?_
  refine lv_aload_n hx hb dL_law_1459 rfl (lv_at hl 2 rfl) ?_
  refine lv_aload_n hx hb dL_law_1460 rfl (lv_at hl 4 rfl) ?_
  refine lv_iload hx hb dL_law_1461 (lv_at hl 0 rfl) ?_
  refine lv_iconst (v := 1) hx hb dL_law_1463 (by decide) ?_
  refine lv_iadd hx hb dL_law_1464 ?_
  refine lv_eqi (y := 1) (by decide) ?_
  refine va_sld hx hb hX hbl hbA hS (by unfold vp_in; decide) dL_law_1465 ?_
  refine lv_eqi (y := (xs 1)) (rfl) ?_
  refine lv_aload_n hx hb dL_law_1466 rfl (lv_at hl 4 rfl) ?_
  refine lv_iload hx hb dL_law_1467 (lv_at hl 0 rfl) ?_
  refine lv_iconst (v := 2) hx hb dL_law_1469 (by decide) ?_
  refine lv_iadd hx hb dL_law_1470 ?_
  refine lv_eqi (y := 2) (by decide) ?_
  refine va_sld hx hb hX hbl hbA hS (by unfold vp_in; decide) dL_law_1471 ?_
  refine lv_eqi (y := (xs 2)) (rfl) ?_
  refine ky_Vi (As := [.int (xs 1), .int (xs 2)]) (rest := [.int (-1)]) ⟨hx, hb, hml, hown, hts⟩ ⟨hK, hN⟩ hZ hP hD hS hA [0] [1] (wc := [(m_, .inr (7, [.int 0, .ref mt, .int 0, .int 0, .int 0, .ref mrr, .ref mrh, .ref mrc, .int 0, .int 0, .ref mn, .ref mf, .ref mr, .ref mh, .int 0, .int 0, .ref ma, .ref mas, .ref msn, .ref mac, .ref mat]))]) (wr := [(x, .inr (6, [.ref xt, .int 0, .ref xr, .ref xd, .ref xn, .ref xa, .ref xz, .ref xy, .int 0]))]) rfl rfl rfl rfl (by decide) (c_X7_aim l D g H.size m_ 0 mt 0 0 0 mrr mrh mrc 0 0 mn mf mr mh ma mas msn mac mat (xs 1) (xs 2)) (cwV 2 hts gL_law_X7_aim rfl rfl rfl (by decide +kernel) ⟨(Nat.le_of_ble_eq_true rfl), (Nat.le_of_ble_eq_true rfl)⟩) 0 7 rfl rfl rfl rfl hl.1 rfl (Nat.le_of_ble_eq_true rfl) dL_law_1472 ⟨(Nat.le_of_ble_eq_true rfl), (Nat.le_of_ble_eq_true rfl)⟩ (fun r_2 u H locs hw hP hD hS => ?_)
  obtain ⟨rfl, rfl⟩ := hw
  have hP : va_P D vwCl [(x, .inr (6, [.ref xt, .int 0, .ref xr, .ref xd, .ref xn, .ref xa, .ref xz, .ref xy, .int 0])), (m_, .inr (7, [.int 0, .ref mt, .int 0, .int 0, .int 0, .ref mrr, .ref mrh, .ref mrc, .int 0, .int 0, .ref mn, .ref mf, .ref mr, .ref mh, .int 0, .int 0, .ref ma, .ref mas, .ref msn, .ref mac, .ref mat]))] H := hP
  have hD : va_D A [(x, .inr (6, [.ref xt, .int 0, .ref xr, .ref xd, .ref xn, .ref xa, .ref xz, .ref xy, .int 0])), (m_, .inr (7, [.int 0, .ref mt, .int 0, .int 0, .int 0, .ref mrr, .ref mrh, .ref mrc, .int 0, .int 0, .ref mn, .ref mf, .ref mr, .ref mh, .int 0, .int 0, .ref ma, .ref mas, .ref msn, .ref mac, .ref mat]))] := hD
  refine W.widen (k := 91) (n := 5288) (Nat.le_of_ble_eq_true rfl) (Nat.le_of_ble_eq_true rfl) ?_
  refine lv_icmp_eq (tgt := 1900) hx hb dL_law_1475 (by decide) (fun _ => ?_) (fun cb => absurd (by decide) cb)
  subst hAe
  refine W.widen (k := 600002) (n := 7302232) (Nat.le_of_ble_eq_true rfl) (Nat.le_of_ble_eq_true rfl) ?_
  exact law_tail l C0 hS (lv_sub hl [0, 4] rfl)
