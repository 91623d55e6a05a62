set_option maxHeartbeats 4000000 in
set_option maxRecDepth 100000 in
/-- bufferAhead -/
theorem law_case_18 {p : Program} {e : Env} {s : State} {m : MethodId} {below : List Frame} {meth : Method} {c : Code} (l : Launch) (hl9 : l.stackTraces = false) {b : Nat} {xs : Nat → Int32} (C0 : lw_At p s m meth c b 6 xs) (D : va_G) (g : Nat → ClassId) (hK : va_K D vwCl (kY g) s) (hN : kn g s) (hZ : ks g (fun q : Nat => s.heap.size ≤ q) s s.heap) {m_ ma mac mas mat mf mh mn mr mrc mrh mrr msn mt o_ x xa xd xn xr xt xy xz : Nat} {H : Heap} {locs : List Loc} {ls : Array Slot} (hP : va_P D vwCl [(x, .inr (6, [.ref xt, .int 0, .ref xr, .ref xd, .ref xn, .ref xa, .ref xz, .ref xy, .int 0])), (m_, .inr (7, [.int 0, .ref mt, .int 0, .int 0, .int 0, .ref mrr, .ref mrh, .ref mrc, .int 0, .int 0, .ref mn, .ref mf, .ref mr, .ref mh, .int 0, .int 0, .ref ma, .ref mas, .ref msn, .ref mac, .ref mat]))] H) (hD : va_D (fun q : Nat => s.heap.size ≤ q) [(x, .inr (6, [.ref xt, .int 0, .ref xr, .ref xd, .ref xn, .ref xa, .ref xz, .ref xy, .int 0])), (m_, .inr (7, [.int 0, .ref mt, .int 0, .int 0, .int 0, .ref mrr, .ref mrh, .ref mrc, .int 0, .int 0, .ref mn, .ref mf, .ref mr, .ref mh, .int 0, .int 0, .ref ma, .ref mas, .ref msn, .ref mac, .ref mat]))]) (hS : va_S (fun q : Nat => s.heap.size ≤ q) s.heap H locs) (hl : lv_has ls 7 [(4, .int 0), (3, .ref o_), (2, .ref m_), (1, .ref x), (0, .ref b)]) : W p l e room_1 s m #[Value.ref b] below meth c H locs 91 5288 (lw_Z below #[Value.ref b] s) (F0 m 964 ls []) := by
  obtain ⟨hx, hb, hr, hml, hown, hts0, hX, hbl, hlocks, hgv⟩ := id C0
  have hts : ∀ w ∈ wsL_law, w.before #[Value.ref b] s = true := fun w h => hts0 w (wsL_law_in w h)
  have hA : ∀ q : Nat, s.heap.size ≤ q → (fun q : Nat => s.heap.size ≤ q) q := fun _ h => h
  have hbA : ¬ (fun q : Nat => s.heap.size ≤ q) b := Nat.not_le.mpr hbl
  generalize hAe : (fun q : Nat => s.heap.size ≤ q) = A at hA hbA hZ hD hS
  refine lv_aload_n hx hb dL_law_964 rfl (lv_at hl 3 rfl) ?_
  refine lv_aload_n hx hb dL_law_965 rfl (lv_at hl 4 rfl) ?_
  refine lv_iload hx hb dL_law_966 (lv_at hl 0 rfl) ?_
  refine lv_iconst (v := 1) hx hb dL_law_968 (by decide) ?_
  refine lv_iadd hx hb dL_law_969 ?_
  refine lv_eqi (y := 1) (by decide) ?_
  refine va_sld hx hb hX hbl hbA hS (by unfold vp_in; decide) dL_law_970 ?_
  refine lv_eqi (y := (xs 1)) (rfl) ?_
  refine lv_aload_n hx hb dL_law_971 rfl (lv_at hl 4 rfl) ?_
  refine lv_iload hx hb dL_law_972 (lv_at hl 0 rfl) ?_
  refine lv_iconst (v := 2) hx hb dL_law_974 (by decide) ?_
  refine lv_iadd hx hb dL_law_975 ?_
  refine lv_eqi (y := 2) (by decide) ?_
  refine va_sld hx hb hX hbl hbA hS (by unfold vp_in; decide) dL_law_976 ?_
  refine lv_eqi (y := (xs 2)) (rfl) ?_
  refine lv_aload_n hx hb dL_law_977 rfl (lv_at hl 4 rfl) ?_
  refine lv_iload hx hb dL_law_978 (lv_at hl 0 rfl) ?_
  refine lv_iconst (v := 3) hx hb dL_law_980 (by decide) ?_
  refine lv_iadd hx hb dL_law_981 ?_
  refine lv_eqi (y := 3) (by decide) ?_
  refine va_sld hx hb hX hbl hbA hS (by unfold vp_in; decide) dL_law_982 ?_
  refine lv_eqi (y := (xs 3)) (rfl) ?_
  refine ky_Vi (As := [.int (xs 1), .int (xs 2), .int (xs 3)]) (rest := []) ⟨hx, hb, hml, hown, hts⟩ ⟨hK, hN⟩ hZ hP hD hS hA [0] [1] (wc := [(x, .inr (6, [.ref xt, .int 0, .ref xr, .ref xd, .ref xn, .ref xa, .ref xz, .ref xy, .int 0]))]) (wr := [(m_, .inr (7, [.int 0, .ref mt, .int 0, .int 0, .int 0, .ref mrr, .ref mrh, .ref mrc, .int 0, .int 0, .ref mn, .ref mf, .ref mr, .ref mh, .int 0, .int 0, .ref ma, .ref mas, .ref msn, .ref mac, .ref mat]))]) rfl rfl rfl rfl (by decide) (c_X6_bufferAhead l D g H.size x xt 0 xr xd xn xa xz xy (xs 1) (xs 2) (xs 3)) (cwV 3 hts gL_law_X6_bufferAhead rfl rfl rfl (by decide +kernel) ⟨(Nat.le_of_ble_eq_true rfl), (Nat.le_of_ble_eq_true rfl)⟩) 0 6 rfl rfl rfl rfl hl.1 rfl (Nat.le_of_ble_eq_true rfl) dL_law_983 ⟨(Nat.le_of_ble_eq_true rfl), (Nat.le_of_ble_eq_true rfl)⟩ (fun r_1 u H locs hw hP hD hS => ?_)
  obtain ⟨rfl, rfl⟩ := hw
  have hP : va_P D vwCl [(m_, .inr (7, [.int 0, .ref mt, .int 0, .int 0, .int 0, .ref mrr, .ref mrh, .ref mrc, .int 0, .int 0, .ref mn, .ref mf, .ref mr, .ref mh, .int 0, .int 0, .ref ma, .ref mas, .ref msn, .ref mac, .ref mat])), (x, .inr (6, [.ref xt, .int 0, .ref xr, .ref xd, .ref xn, .ref xa, .ref xz, .ref xy, .int 0]))] H := hP
  have hD : va_D A [(m_, .inr (7, [.int 0, .ref mt, .int 0, .int 0, .int 0, .ref mrr, .ref mrh, .ref mrc, .int 0, .int 0, .ref mn, .ref mf, .ref mr, .ref mh, .int 0, .int 0, .ref ma, .ref mas, .ref msn, .ref mac, .ref mat])), (x, .inr (6, [.ref xt, .int 0, .ref xr, .ref xd, .ref xn, .ref xa, .ref xz, .ref xy, .int 0]))] := hD
  refine W.widen (k := 91) (n := 5288) (Nat.le_of_ble_eq_true rfl) (Nat.le_of_ble_eq_true rfl) ?_
  refine lv_aload_n hx hb dL_law_986 rfl (lv_at hl 2 rfl) ?_
  refine lv_aload_n hx hb dL_law_987 rfl (lv_at hl 4 rfl) ?_
  refine lv_iload hx hb dL_law_988 (lv_at hl 0 rfl) ?_
  refine lv_iconst (v := 1) hx hb dL_law_990 (by decide) ?_
  refine lv_iadd hx hb dL_law_991 ?_
  refine lv_eqi (y := 1) (by decide) ?_
  refine va_sld hx hb hX hbl hbA hS (by unfold vp_in; decide) dL_law_992 ?_
  refine lv_eqi (y := (xs 1)) (rfl) ?_
  refine lv_aload_n hx hb dL_law_993 rfl (lv_at hl 4 rfl) ?_
  refine lv_iload hx hb dL_law_994 (lv_at hl 0 rfl) ?_
  refine lv_iconst (v := 2) hx hb dL_law_996 (by decide) ?_
  refine lv_iadd hx hb dL_law_997 ?_
  refine lv_eqi (y := 2) (by decide) ?_
  refine va_sld hx hb hX hbl hbA hS (by unfold vp_in; decide) dL_law_998 ?_
  refine lv_eqi (y := (xs 2)) (rfl) ?_
  refine lv_aload_n hx hb dL_law_999 rfl (lv_at hl 4 rfl) ?_
  refine lv_iload hx hb dL_law_1000 (lv_at hl 0 rfl) ?_
  refine lv_iconst (v := 3) hx hb dL_law_1002 (by decide) ?_
  refine lv_iadd hx hb dL_law_1003 ?_
  refine lv_eqi (y := 3) (by decide) ?_
  refine va_sld hx hb hX hbl hbA hS (by unfold vp_in; decide) dL_law_1004 ?_
  refine lv_eqi (y := (xs 3)) (rfl) ?_
  refine ky_Vi (As := [.int (xs 1), .int (xs 2), .int (xs 3)]) (rest := [.int (-1)]) ⟨hx, hb, hml, hown, hts⟩ ⟨hK, hN⟩ hZ hP hD hS hA [0] [1] (wc := [(m_, .inr (7, [.int 0, .ref mt, .int 0, .int 0, .int 0, .ref mrr, .ref mrh, .ref mrc, .int 0, .int 0, .ref mn, .ref mf, .ref mr, .ref mh, .int 0, .int 0, .ref ma, .ref mas, .ref msn, .ref mac, .ref mat]))]) (wr := [(x, .inr (6, [.ref xt, .int 0, .ref xr, .ref xd, .ref xn, .ref xa, .ref xz, .ref xy, .int 0]))]) rfl rfl rfl rfl (by decide) (c_X7_bufferAhead l D g H.size m_ 0 mt 0 0 0 mrr mrh mrc 0 0 mn mf mr mh ma mas msn mac mat (xs 1) (xs 2) (xs 3)) (cwV 3 hts gL_law_X7_bufferAhead rfl rfl rfl (by decide +kernel) ⟨(Nat.le_of_ble_eq_true rfl), (Nat.le_of_ble_eq_true rfl)⟩) 0 7 rfl rfl rfl rfl hl.1 rfl (Nat.le_of_ble_eq_true rfl) dL_law_1005 ⟨(Nat.le_of_ble_eq_true rfl), (Nat.le_of_ble_eq_true rfl)⟩ (fun r_2 u H locs hw hP hD hS => ?_)
  obtain ⟨rfl, rfl⟩ := hw
  have hP : va_P D vwCl [(x, .inr (6, [.ref xt, .int 0, .ref xr, .ref xd, .ref xn, .ref xa, .ref xz, .ref xy, .int 0])), (m_, .inr (7, [.int 0, .ref mt, .int 0, .int 0, .int 0, .ref mrr, .ref mrh, .ref mrc, .int 0, .int 0, .ref mn, .ref mf, .ref mr, .ref mh, .int 0, .int 0, .ref ma, .ref mas, .ref msn, .ref mac, .ref mat]))] H := hP
  have hD : va_D A [(x, .inr (6, [.ref xt, .int 0, .ref xr, .ref xd, .ref xn, .ref xa, .ref xz, .ref xy, .int 0])), (m_, .inr (7, [.int 0, .ref mt, .int 0, .int 0, .int 0, .ref mrr, .ref mrh, .ref mrc, .int 0, .int 0, .ref mn, .ref mf, .ref mr, .ref mh, .int 0, .int 0, .ref ma, .ref mas, .ref msn, .ref mac, .ref mat]))] := hD
  refine W.widen (k := 91) (n := 5288) (Nat.le_of_ble_eq_true rfl) (Nat.le_of_ble_eq_true rfl) ?_
  refine lv_icmp_eq (tgt := 1900) hx hb dL_law_1008 (by decide) (fun _ => ?_) (fun cb => absurd (by decide) cb)
  subst hAe
  refine W.widen (k := 600002) (n := 7302232) (Nat.le_of_ble_eq_true rfl) (Nat.le_of_ble_eq_true rfl) ?_
  exact law_tail l C0 hS (lv_sub hl [0, 4] rfl)
set_option maxHeartbeats 4000000 in
set_option maxRecDepth 100000 in
/-- delivered -/
theorem law_case_19 {p : Program} {e : Env} {s : State} {m : MethodId} {below : List Frame} {meth : Method} {c : Code} (l : Launch) (hl9 : l.stackTraces = false) {b : Nat} {xs : Nat → Int32} (C0 : lw_At p s m meth c b 6 xs) (D : va_G) (g : Nat → ClassId) (hK : va_K D vwCl (kY g) s) (hN : kn g s) (hZ : ks g (fun q : Nat => s.heap.size ≤ q) s s.heap) {m_ ma mac mas mat mf mh mn mr mrc mrh mrr msn mt o_ x xa xd xn xr xt xy xz : Nat} {H : Heap} {locs : List Loc} {ls : Array Slot} (hP : va_P D vwCl [(x, .inr (6, [.ref xt, .int 0, .ref xr, .ref xd, .ref xn, .ref xa, .ref xz, .ref xy, .int 0])), (m_, .inr (7, [.int 0, .ref mt, .int 0, .int 0, .int 0, .ref mrr, .ref mrh, .ref mrc, .int 0, .int 0, .ref mn, .ref mf, .ref mr, .ref mh, .int 0, .int 0, .ref ma, .ref mas, .ref msn, .ref mac, .ref mat]))] H) (hD : va_D (fun q : Nat => s.heap.size ≤ q) [(x, .inr (6, [.ref xt, .int 0, .ref xr, .ref xd, .ref xn, .ref xa, .ref xz, .ref xy, .int 0])), (m_, .inr (7, [.int 0, .ref mt, .int 0, .int 0, .int 0, .ref mrr, .ref mrh, .ref mrc, .int 0, .int 0, .ref mn, .ref mf, .ref mr, .ref mh, .int 0, .int 0, .ref ma, .ref mas, .ref msn, .ref mac, .ref mat]))]) (hS : va_S (fun q : Nat => s.heap.size ≤ q) s.heap H locs) (hl : lv_has ls 7 [(4, .int 0), (3, .ref o_), (2, .ref m_), (1, .ref x), (0, .ref b)]) : W p l e room_1 s m #[Value.ref b] below meth c H locs 91 5288 (lw_Z below #[Value.ref b] s) (F0 m 1013 ls []) := by
  obtain ⟨hx, hb, hr, hml, hown, hts0, hX, hbl, hlocks, hgv⟩ := id C0
  have hts : ∀ w ∈ wsL_law, w.before #[Value.ref b] s = true := fun w h => hts0 w (wsL_law_in w h)
  have hA : ∀ q : Nat, s.heap.size ≤ q → (fun q : Nat => s.heap.size ≤ q) q := fun _ h => h
  have hbA : ¬ (fun q : Nat => s.heap.size ≤ q) b := Nat.not_le.mpr hbl
  generalize hAe : (fun q : Nat => s.heap.size ≤ q) = A at hA hbA hZ hD hS
  refine lv_aload_n hx hb dL_law_1013 rfl (lv_at hl 3 rfl) ?_
  refine lv_aload_n hx hb dL_law_1014 rfl (lv_at hl 4 rfl) ?_
  refine lv_iload hx hb dL_law_1015 (lv_at hl 0 rfl) ?_
  refine lv_iconst (v := 1) hx hb dL_law_1017 (by decide) ?_
  refine lv_iadd hx hb dL_law_1018 ?_
  refine lv_eqi (y := 1) (by decide) ?_
  refine va_sld hx hb hX hbl hbA hS (by unfold vp_in; decide) dL_law_1019 ?_
  refine lv_eqi (y := (xs 1)) (rfl) ?_
  refine lv_aload_n hx hb dL_law_1020 rfl (lv_at hl 4 rfl) ?_
  refine lv_iload hx hb dL_law_1021 (lv_at hl 0 rfl) ?_
  refine lv_iconst (v := 2) hx hb dL_law_1023 (by decide) ?_
  refine lv_iadd hx hb dL_law_1024 ?_
  refine lv_eqi (y := 2) (by decide) ?_
  refine va_sld hx hb hX hbl hbA hS (by unfold vp_in; decide) dL_law_1025 ?_
  refine lv_eqi (y := (xs 2)) (rfl) ?_
  refine ky_Vi (As := [.int (xs 1), .int (xs 2)]) (rest := []) ⟨hx, hb, hml, hown, hts⟩ ⟨hK, hN⟩ hZ hP hD hS hA [0] [1] (wc := [(x, .inr (6, [.ref xt, .int 0, .ref xr, .ref xd, .ref xn, .ref xa, .ref xz, .ref xy, .int 0]))]) (wr := [(m_, .inr (7, [.int 0, .ref mt, .int 0, .int 0, .int 0, .ref mrr, .ref mrh, .ref mrc, .int 0, .int 0, .ref mn, .ref mf, .ref mr, .ref mh, .int 0, .int 0, .ref ma, .ref mas, .ref msn, .ref mac, .ref mat]))]) rfl rfl rfl rfl (by decide) (c_X6_delivered l D g H.size x xt 0 xr xd xn xa xz xy (xs 1) (xs 2)) (cwV 2 hts gL_law_X6_delivered rfl rfl rfl (by decide +kernel) ⟨(Nat.le_of_ble_eq_true rfl), (Nat.le_of_ble_eq_true rfl)⟩) 0 6 rfl rfl rfl rfl hl.1 rfl (Nat.le_of_ble_eq_true rfl) dL_law_1026 ⟨(Nat.le_of_ble_eq_true rfl), (Nat.le_of_ble_eq_true rfl)⟩ (fun r_1 u H locs hw hP hD hS => ?_)
  obtain ⟨rfl, rfl⟩ := hw
  have hP : va_P D vwCl [(m_, .inr (7, [.int 0, .ref mt, .int 0, .int 0, .int 0, .ref mrr, .ref mrh, .ref mrc, .int 0, .int 0, .ref mn, .ref mf, .ref mr, .ref mh, .int 0, .int 0, .ref ma, .ref mas, .ref msn, .ref mac, .ref mat])), (x, .inr (6, [.ref xt, .int 0, .ref xr, .ref xd, .ref xn, .ref xa, .ref xz, .ref xy, .int 0]))] H := hP
  have hD : va_D A [(m_, .inr (7, [.int 0, .ref mt, .int 0, .int 0, .int 0, .ref mrr, .ref mrh, .ref mrc, .int 0, .int 0, .ref mn, .ref mf, .ref mr, .ref mh, .int 0, .int 0, .ref ma, .ref mas, .ref msn, .ref mac, .ref mat])), (x, .inr (6, [.ref xt, .int 0, .ref xr, .ref xd, .ref xn, .ref xa, .ref xz, .ref xy, .int 0]))] := hD
  refine W.widen (k := 91) (n := 5288) (Nat.le_of_ble_eq_true rfl) (Nat.le_of_ble_eq_true rfl) ?_
  refine lv_aload_n hx hb dL_law_1029 rfl (lv_at hl 2 rfl) ?_
  refine lv_aload_n hx hb dL_law_1030 rfl (lv_at hl 4 rfl) ?_
  refine lv_iload hx hb dL_law_1031 (lv_at hl 0 rfl) ?_
  refine lv_iconst (v := 1) hx hb dL_law_1033 (by decide) ?_
  refine lv_iadd hx hb dL_law_1034 ?_
  refine lv_eqi (y := 1) (by decide) ?_
  refine va_sld hx hb hX hbl hbA hS (by unfold vp_in; decide) dL_law_1035 ?_
  refine lv_eqi (y := (xs 1)) (rfl) ?_
  refine lv_aload_n hx hb dL_law_1036 rfl (lv_at hl 4 rfl) ?_
  refine lv_iload hx hb dL_law_1037 (lv_at hl 0 rfl) ?_
  refine lv_iconst (v := 2) hx hb dL_law_1039 (by decide) ?_
  refine lv_iadd hx hb dL_law_1040 ?_
  refine lv_eqi (y := 2) (by decide) ?_
  refine va_sld hx hb hX hbl hbA hS (by unfold vp_in; decide) dL_law_1041 ?_
  refine lv_eqi (y := (xs 2)) (rfl) ?_
  refine ky_Vi (As := [.int (xs 1), .int (xs 2)]) (rest := [.int (-1)]) ⟨hx, hb, hml, hown, hts⟩ ⟨hK, hN⟩ hZ hP hD hS hA [0] [1] (wc := [(m_, .inr (7, [.int 0, .ref mt, .int 0, .int 0, .int 0, .ref mrr, .ref mrh, .ref mrc, .int 0, .int 0, .ref mn, .ref mf, .ref mr, .ref mh, .int 0, .int 0, .ref ma, .ref mas, .ref msn, .ref mac, .ref mat]))]) (wr := [(x, .inr (6, [.ref xt, .int 0, .ref xr, .ref xd, .ref xn, .ref xa, .ref xz, .ref xy, .int 0]))]) rfl rfl rfl rfl (by decide) (c_X7_delivered l D g H.size m_ 0 mt 0 0 0 mrr mrh mrc 0 0 mn mf mr mh ma mas msn mac mat (xs 1) (xs 2)) (cwV 2 hts gL_law_X7_delivered rfl rfl rfl (by decide +kernel) ⟨(Nat.le_of_ble_eq_true rfl), (Nat.le_of_ble_eq_true rfl)⟩) 0 7 rfl rfl rfl rfl hl.1 rfl (Nat.le_of_ble_eq_true rfl) dL_law_1042 ⟨(Nat.le_of_ble_eq_true rfl), (Nat.le_of_ble_eq_true rfl)⟩ (fun r_2 u H locs hw hP hD hS => ?_)
  obtain ⟨rfl, rfl⟩ := hw
  have hP : va_P D vwCl [(x, .inr (6, [.ref xt, .int 0, .ref xr, .ref xd, .ref xn, .ref xa, .ref xz, .ref xy, .int 0])), (m_, .inr (7, [.int 0, .ref mt, .int 0, .int 0, .int 0, .ref mrr, .ref mrh, .ref mrc, .int 0, .int 0, .ref mn, .ref mf, .ref mr, .ref mh, .int 0, .int 0, .ref ma, .ref mas, .ref msn, .ref mac, .ref mat]))] H := hP
  have hD : va_D A [(x, .inr (6, [.ref xt, .int 0, .ref xr, .ref xd, .ref xn, .ref xa, .ref xz, .ref xy, .int 0])), (m_, .inr (7, [.int 0, .ref mt, .int 0, .int 0, .int 0, .ref mrr, .ref mrh, .ref mrc, .int 0, .int 0, .ref mn, .ref mf, .ref mr, .ref mh, .int 0, .int 0, .ref ma, .ref mas, .ref msn, .ref mac, .ref mat]))] := hD
  refine W.widen (k := 91) (n := 5288) (Nat.le_of_ble_eq_true rfl) (Nat.le_of_ble_eq_true rfl) ?_
  refine lv_icmp_eq (tgt := 1900) hx hb dL_law_1045 (by decide) (fun _ => ?_) (fun cb => absurd (by decide) cb)
  subst hAe
  refine W.widen (k := 600002) (n := 7302232) (Nat.le_of_ble_eq_true rfl) (Nat.le_of_ble_eq_true rfl) ?_
  exact law_tail l C0 hS (lv_sub hl [0, 4] rfl)
set_option maxHeartbeats 4000000 in
set_option maxRecDepth 100000 in
/-- heldUp -/
theorem law_case_20 {p : Program} {e : Env} {s : State} {m : MethodId} {below : List Frame} {meth : Method} {c : Code} (l : Launch) (hl9 : l.stackTraces = false) {b : Nat} {xs : Nat → Int32} (C0 : lw_At p s m meth c b 6 xs) (D : va_G) (g : Nat → ClassId) (hK : va_K D vwCl (kY g) s) (hN : kn g s) (hZ : ks g (fun q : Nat => s.heap.size ≤ q) s s.heap) {m_ ma mac mas mat mf mh mn mr mrc mrh mrr msn mt o_ x xa xd xn xr xt xy xz : Nat} {H : Heap} {locs : List Loc} {ls : Array Slot} (hP : va_P D vwCl [(x, .inr (6, [.ref xt, .int 0, .ref xr, .ref xd, .ref xn, .ref xa, .ref xz, .ref xy, .int 0])), (m_, .inr (7, [.int 0, .ref mt, .int 0, .int 0, .int 0, .ref mrr, .ref mrh, .ref mrc, .int 0, .int 0, .ref mn, .ref mf, .ref mr, .ref mh, .int 0, .int 0, .ref ma, .ref mas, .ref msn, .ref mac, .ref mat]))] H) (hD : va_D (fun q : Nat => s.heap.size ≤ q) [(x, .inr (6, [.ref xt, .int 0, .ref xr, .ref xd, .ref xn, .ref xa, .ref xz, .ref xy, .int 0])), (m_, .inr (7, [.int 0, .ref mt, .int 0, .int 0, .int 0, .ref mrr, .ref mrh, .ref mrc, .int 0, .int 0, .ref mn, .ref mf, .ref mr, .ref mh, .int 0, .int 0, .ref ma, .ref mas, .ref msn, .ref mac, .ref mat]))]) (hS : va_S (fun q : Nat => s.heap.size ≤ q) s.heap H locs) (hl : lv_has ls 7 [(4, .int 0), (3, .ref o_), (2, .ref m_), (1, .ref x), (0, .ref b)]) : W p l e room_1 s m #[Value.ref b] below meth c H locs 91 5288 (lw_Z below #[Value.ref b] s) (F0 m 1050 ls []) := by
  obtain ⟨hx, hb, hr, hml, hown, hts0, hX, hbl, hlocks, hgv⟩ := id C0
  have hts : ∀ w ∈ wsL_law, w.before #[Value.ref b] s = true := fun w h => hts0 w (wsL_law_in w h)
  have hA : ∀ q : Nat, s.heap.size ≤ q → (fun q : Nat => s.heap.size ≤ q) q := fun _ h => h
  have hbA : ¬ (fun q : Nat => s.heap.size ≤ q) b := Nat.not_le.mpr hbl
  generalize hAe : (fun q : Nat => s.heap.size ≤ q) = A at hA hbA hZ hD hS
  refine lv_aload_n hx hb dL_law_1050 rfl (lv_at hl 3 rfl) ?_
  refine lv_aload_n hx hb dL_law_1051 rfl (lv_at hl 4 rfl) ?_
  refine lv_iload hx hb dL_law_1052 (lv_at hl 0 rfl) ?_
  refine lv_iconst (v := 1) hx hb dL_law_1054 (by decide) ?_
  refine lv_iadd hx hb dL_law_1055 ?_
  refine lv_eqi (y := 1) (by decide) ?_
  refine va_sld hx hb hX hbl hbA hS (by unfold vp_in; decide) dL_law_1056 ?_
  refine lv_eqi (y := (xs 1)) (rfl) ?_
  refine lv_aload_n hx hb dL_law_1057 rfl (lv_at hl 4 rfl) ?_
  refine lv_iload hx hb dL_law_1058 (lv_at hl 0 rfl) ?_
  refine lv_iconst (v := 2) hx hb dL_law_1060 (by decide) ?_
  refine lv_iadd hx hb dL_law_1061 ?_
  refine lv_eqi (y := 2) (by decide) ?_
  refine va_sld hx hb hX hbl hbA hS (by unfold vp_in; decide) dL_law_1062 ?_
  refine lv_eqi (y := (xs 2)) (rfl) ?_
  refine ky_Vi (As := [.int (xs 1), .int (xs 2)]) (rest := []) ⟨hx, hb, hml, hown, hts⟩ ⟨hK, hN⟩ hZ hP hD hS hA [0] [1] (wc := [(x, .inr (6, [.ref xt, .int 0, .ref xr, .ref xd, .ref xn, .ref xa, .ref xz, .ref xy, .int 0]))]) (wr := [(m_, .inr (7, [.int 0, .ref mt, .int 0, .int 0, .int 0, .ref mrr, .ref mrh, .ref mrc, .int 0, .int 0, .ref mn, .ref mf, .ref mr, .ref mh, .int 0, .int 0, .ref ma, .ref mas, .ref msn, .ref mac, .ref mat]))]) rfl rfl rfl rfl (by decide) (c_X6_heldUp l D g H.size x xt 0 xr xd xn xa xz xy (xs 1) (xs 2)) (cwV 2 hts gL_law_X6_heldUp rfl rfl rfl (by decide +kernel) ⟨(Nat.le_of_ble_eq_true rfl), (Nat.le_of_ble_eq_true rfl)⟩) 0 6 rfl rfl rfl rfl hl.1 rfl (Nat.le_of_ble_eq_true rfl) dL_law_1063 ⟨(Nat.le_of_ble_eq_true rfl), (Nat.le_of_ble_eq_true rfl)⟩ (fun r_1 u H locs hw hP hD hS => ?_)
  obtain ⟨rfl, rfl⟩ := hw
  have hP : va_P D vwCl [(m_, .inr (7, [.int 0, .ref mt, .int 0, .int 0, .int 0, .ref mrr, .ref mrh, .ref mrc, .int 0, .int 0, .ref mn, .ref mf, .ref mr, .ref mh, .int 0, .int 0, .ref ma, .ref mas, .ref msn, .ref mac, .ref mat])), (x, .inr (6, [.ref xt, .int 0, .ref xr, .ref xd, .ref xn, .ref xa, .ref xz, .ref xy, .int 0]))] H := hP
  have hD : va_D A [(m_, .inr (7, [.int 0, .ref mt, .int 0, .int 0, .int 0, .ref mrr, .ref mrh, .ref mrc, .int 0, .int 0, .ref mn, .ref mf, .ref mr, .ref mh, .int 0, .int 0, .ref ma, .ref mas, .ref msn, .ref mac, .ref mat])), (x, .inr (6, [.ref xt, .int 0, .ref xr, .ref xd, .ref xn, .ref xa, .ref xz, .ref xy, .int 0]))] := hD
  refine W.widen (k := 91) (n := 5288) (Nat.le_of_ble_eq_true rfl) (Nat.le_of_ble_eq_true rfl) ?_
  refine lv_aload_n hx hb dL_law_1066 rfl (lv_at hl 2 rfl) ?_
  refine lv_aload_n hx hb dL_law_1067 rfl (lv_at hl 4 rfl) ?_
  refine lv_iload hx hb dL_law_1068 (lv_at hl 0 rfl) ?_
  refine lv_iconst (v := 1) hx hb dL_law_1070 (by decide) ?_
  refine lv_iadd hx hb dL_law_1071 ?_
  refine lv_eqi (y := 1) (by decide) ?_
  refine va_sld hx hb hX hbl hbA hS (by unfold vp_in; decide) dL_law_1072 ?_
  refine lv_eqi (y := (xs 1)) (rfl) ?_
  refine lv_aload_n hx hb dL_law_1073 rfl (lv_at hl 4 rfl) ?_
  refine lv_iload hx hb dL_law_1074 (lv_at hl 0 rfl) ?_
  refine lv_iconst (v := 2) hx hb dL_law_1076 (by decide) ?_
  refine lv_iadd hx hb dL_law_1077 ?_
  refine lv_eqi (y := 2) (by decide) ?_
  refine va_sld hx hb hX hbl hbA hS (by unfold vp_in; decide) dL_law_1078 ?_
  refine lv_eqi (y := (xs 2)) (rfl) ?_
  refine ky_Vi (As := [.int (xs 1), .int (xs 2)]) (rest := [.int (-1)]) ⟨hx, hb, hml, hown, hts⟩ ⟨hK, hN⟩ hZ hP hD hS hA [0] [1] (wc := [(m_, .inr (7, [.int 0, .ref mt, .int 0, .int 0, .int 0, .ref mrr, .ref mrh, .ref mrc, .int 0, .int 0, .ref mn, .ref mf, .ref mr, .ref mh, .int 0, .int 0, .ref ma, .ref mas, .ref msn, .ref mac, .ref mat]))]) (wr := [(x, .inr (6, [.ref xt, .int 0, .ref xr, .ref xd, .ref xn, .ref xa, .ref xz, .ref xy, .int 0]))]) rfl rfl rfl rfl (by decide) (c_X7_heldUp l D g H.size m_ 0 mt 0 0 0 mrr mrh mrc 0 0 mn mf mr mh ma mas msn mac mat (xs 1) (xs 2)) (cwV 2 hts gL_law_X7_heldUp rfl rfl rfl (by decide +kernel) ⟨(Nat.le_of_ble_eq_true rfl), (Nat.le_of_ble_eq_true rfl)⟩) 0 7 rfl rfl rfl rfl hl.1 rfl (Nat.le_of_ble_eq_true rfl) dL_law_1079 ⟨(Nat.le_of_ble_eq_true rfl), (Nat.le_of_ble_eq_true rfl)⟩ (fun r_2 u H locs hw hP hD hS => ?_)
  obtain ⟨rfl, rfl⟩ := hw
  have hP : va_P D vwCl [(x, .inr (6, [.ref xt, .int 0, .ref xr, .ref xd, .ref xn, .ref xa, .ref xz, .ref xy, .int 0])), (m_, .inr (7, [.int 0, .ref mt, .int 0, .int 0, .int 0, .ref mrr, .ref mrh, .ref mrc, .int 0, .int 0, .ref mn, .ref mf, .ref mr, .ref mh, .int 0, .int 0, .ref ma, .ref mas, .ref msn, .ref mac, .ref mat]))] H := hP
  have hD : va_D A [(x, .inr (6, [.ref xt, .int 0, .ref xr, .ref xd, .ref xn, .ref xa, .ref xz, .ref xy, .int 0])), (m_, .inr (7, [.int 0, .ref mt, .int 0, .int 0, .int 0, .ref mrr, .ref mrh, .ref mrc, .int 0, .int 0, .ref mn, .ref mf, .ref mr, .ref mh, .int 0, .int 0, .ref ma, .ref mas, .ref msn, .ref mac, .ref mat]))] := hD
  refine W.widen (k := 91) (n := 5288) (Nat.le_of_ble_eq_true rfl) (Nat.le_of_ble_eq_true rfl) ?_
  refine lv_icmp_eq (tgt := 1900) hx hb dL_law_1082 (by decide) (fun _ => ?_) (fun cb => absurd (by decide) cb)
  subst hAe
  refine W.widen (k := 600002) (n := 7302232) (Nat.le_of_ble_eq_true rfl) (Nat.le_of_ble_eq_true rfl) ?_
  exact law_tail l C0 hS (lv_sub hl [0, 4] rfl)
set_option maxHeartbeats 4000000 in
set_option maxRecDepth 100000 in
/-- idle -/
theorem law_case_21 {p : Program} {e : Env} {s : State} {m : MethodId} {below : List Frame} {meth : Method} {c : Code} (l : Launch) (hl9 : l.stackTraces = false) {b : Nat} {xs : Nat → Int32} (C0 : lw_At p s m meth c b 6 xs) (D : va_G) (g : Nat → ClassId) (hK : va_K D vwCl (kY g) s) (hN : kn g s) (hZ : ks g (fun q : Nat => s.heap.size ≤ q) s s.heap) {m_ ma mac mas mat mf mh mn mr mrc mrh mrr msn mt o_ x xa xd xn xr xt xy xz : Nat} {H : Heap} {locs : List Loc} {ls : Array Slot} (hP : va_P D vwCl [(x, .inr (6, [.ref xt, .int 0, .ref xr, .ref xd, .ref xn, .ref xa, .ref xz, .ref xy, .int 0])), (m_, .inr (7, [.int 0, .ref mt, .int 0, .int 0, .int 0, .ref mrr, .ref mrh, .ref mrc, .int 0, .int 0, .ref mn, .ref mf, .ref mr, .ref mh, .int 0, .int 0, .ref ma, .ref mas, .ref msn, .ref mac, .ref mat]))] H) (hD : va_D (fun q : Nat => s.heap.size ≤ q) [(x, .inr (6, [.ref xt, .int 0, .ref xr, .ref xd, .ref xn, .ref xa, .ref xz, .ref xy, .int 0])), (m_, .inr (7, [.int 0, .ref mt, .int 0, .int 0, .int 0, .ref mrr, .ref mrh, .ref mrc, .int 0, .int 0, .ref mn, .ref mf, .ref mr, .ref mh, .int 0, .int 0, .ref ma, .ref mas, .ref msn, .ref mac, .ref mat]))]) (hS : va_S (fun q : Nat => s.heap.size ≤ q) s.heap H locs) (hl : lv_has ls 7 [(4, .int 0), (3, .ref o_), (2, .ref m_), (1, .ref x), (0, .ref b)]) : W p l e room_1 s m #[Value.ref b] below meth c H locs 91 5288 (lw_Z below #[Value.ref b] s) (F0 m 1087 ls []) := by
  obtain ⟨hx, hb, hr, hml, hown, hts0, hX, hbl, hlocks, hgv⟩ := id C0
  have hts : ∀ w ∈ wsL_law, w.before #[Value.ref b] s = true := fun w h => hts0 w (wsL_law_in w h)
  have hA : ∀ q : Nat, s.heap.size ≤ q → (fun q : Nat => s.heap.size ≤ q) q := fun _ h => h
  have hbA : ¬ (fun q : Nat => s.heap.size ≤ q) b := Nat.not_le.mpr hbl
  generalize hAe : (fun q : Nat => s.heap.size ≤ q) = A at hA hbA hZ hD hS
  refine lv_aload_n hx hb dL_law_1087 rfl (lv_at hl 3 rfl) ?_
  refine lv_aload_n hx hb dL_law_1088 rfl (lv_at hl 4 rfl) ?_
  refine lv_iload hx hb dL_law_1089 (lv_at hl 0 rfl) ?_
  refine lv_iconst (v := 1) hx hb dL_law_1091 (by decide) ?_
  refine lv_iadd hx hb dL_law_1092 ?_
  refine lv_eqi (y := 1) (by decide) ?_
  refine va_sld hx hb hX hbl hbA hS (by unfold vp_in; decide) dL_law_1093 ?_
  refine lv_eqi (y := (xs 1)) (rfl) ?_
  refine lv_aload_n hx hb dL_law_1094 rfl (lv_at hl 4 rfl) ?_
  refine lv_iload hx hb dL_law_1095 (lv_at hl 0 rfl) ?_
  refine lv_iconst (v := 2) hx hb dL_law_1097 (by decide) ?_
  refine lv_iadd hx hb dL_law_1098 ?_
  refine lv_eqi (y := 2) (by decide) ?_
  refine va_sld hx hb hX hbl hbA hS (by unfold vp_in; decide) dL_law_1099 ?_
  refine lv_eqi (y := (xs 2)) (rfl) ?_
  refine ky_Vi (As := [.int (xs 1), .int (xs 2)]) (rest := []) ⟨hx, hb, hml, hown, hts⟩ ⟨hK, hN⟩ hZ hP hD hS hA [0] [1] (wc := [(x, .inr (6, [.ref xt, .int 0, .ref xr, .ref xd, .ref xn, .ref xa, .ref xz, .ref xy, .int 0]))]) (wr := [(m_, .inr (7, [.int 0, .ref mt, .int 0, .int 0, .int 0, .ref mrr, .ref mrh, .ref mrc, .int 0, .int 0, .ref mn, .ref mf, .ref mr, .ref mh, .int 0, .int 0, .ref ma, .ref mas, .ref msn, .ref mac, .ref mat]))]) rfl rfl rfl rfl (by decide) (c_X6_idle l D g H.size x xt 0 xr xd xn xa xz xy (xs 1) (xs 2)) (cwV 2 hts gL_law_X6_idle rfl rfl rfl (by decide +kernel) ⟨(Nat.le_of_ble_eq_true rfl), (Nat.le_of_ble_eq_true rfl)⟩) 0 6 rfl rfl rfl rfl hl.1 rfl (Nat.le_of_ble_eq_true rfl) dL_law_1100 ⟨(Nat.le_of_ble_eq_true rfl), (Nat.le_of_ble_eq_true rfl)⟩ (fun r_1 u H locs hw hP hD hS => ?_)
  obtain ⟨rfl, rfl⟩ := hw
  have hP : va_P D vwCl [(m_, .inr (7, [.int 0, .ref mt, .int 0, .int 0, .int 0, .ref mrr, .ref mrh, .ref mrc, .int 0, .int 0, .ref mn, .ref mf, .ref mr, .ref mh, .int 0, .int 0, .ref ma, .ref mas, .ref msn, .ref mac, .ref mat])), (x, .inr (6, [.ref xt, .int 0, .ref xr, .ref xd, .ref xn, .ref xa, .ref xz, .ref xy, .int 0]))] H := hP
  have hD : va_D A [(m_, .inr (7, [.int 0, .ref mt, .int 0, .int 0, .int 0, .ref mrr, .ref mrh, .ref mrc, .int 0, .int 0, .ref mn, .ref mf, .ref mr, .ref mh, .int 0, .int 0, .ref ma, .ref mas, .ref msn, .ref mac, .ref mat])), (x, .inr (6, [.ref xt, .int 0, .ref xr, .ref xd, .ref xn, .ref xa, .ref xz, .ref xy, .int 0]))] := hD
  refine W.widen (k := 91) (n := 5288) (Nat.le_of_ble_eq_true rfl) (Nat.le_of_ble_eq_true rfl) ?_
  refine lv_aload_n hx hb dL_law_1103 rfl (lv_at hl 2 rfl) ?_
  refine lv_aload_n hx hb dL_law_1104 rfl (lv_at hl 4 rfl) ?_
  refine lv_iload hx hb dL_law_1105 (lv_at hl 0 rfl) ?_
  refine lv_iconst (v := 1) hx hb dL_law_1107 (by decide) ?_
  refine lv_iadd hx hb dL_law_1108 ?_
  refine lv_eqi (y := 1) (by decide) ?_
  refine va_sld hx hb hX hbl hbA hS (by unfold vp_in; decide) dL_law_1109 ?_
  refine lv_eqi (y := (xs 1)) (rfl) ?_
  refine lv_aload_n hx hb dL_law_1110 rfl (lv_at hl 4 rfl) ?_
  refine lv_iload hx hb dL_law_1111 (lv_at hl 0 rfl) ?_
  refine lv_iconst (v := 2) hx hb dL_law_1113 (by decide) ?_
  refine lv_iadd hx hb dL_law_1114 ?_
  refine lv_eqi (y := 2) (by decide) ?_
  refine va_sld hx hb hX hbl hbA hS (by unfold vp_in; decide) dL_law_1115 ?_
  refine lv_eqi (y := (xs 2)) (rfl) ?_
  refine ky_Vi (As := [.int (xs 1), .int (xs 2)]) (rest := [.int (-1)]) ⟨hx, hb, hml, hown, hts⟩ ⟨hK, hN⟩ hZ hP hD hS hA [0] [1] (wc := [(m_, .inr (7, [.int 0, .ref mt, .int 0, .int 0, .int 0, .ref mrr, .ref mrh, .ref mrc, .int 0, .int 0, .ref mn, .ref mf, .ref mr, .ref mh, .int 0, .int 0, .ref ma, .ref mas, .ref msn, .ref mac, .ref mat]))]) (wr := [(x, .inr (6, [.ref xt, .int 0, .ref xr, .ref xd, .ref xn, .ref xa, .ref xz, .ref xy, .int 0]))]) rfl rfl rfl rfl (by decide) (c_X7_idle l D g H.size m_ 0 mt 0 0 0 mrr mrh mrc 0 0 mn mf mr mh ma mas msn mac mat (xs 1) (xs 2)) (cwV 2 hts gL_law_X7_idle rfl rfl rfl (by decide +kernel) ⟨(Nat.le_of_ble_eq_true rfl), (Nat.le_of_ble_eq_true rfl)⟩) 0 7 rfl rfl rfl rfl hl.1 rfl (Nat.le_of_ble_eq_true rfl) dL_law_1116 ⟨(Nat.le_of_ble_eq_true rfl), (Nat.le_of_ble_eq_true rfl)⟩ (fun r_2 u H locs hw hP hD hS => ?_)
  obtain ⟨rfl, rfl⟩ := hw
  have hP : va_P D vwCl [(x, .inr (6, [.ref xt, .int 0, .ref xr, .ref xd, .ref xn, .ref xa, .ref xz, .ref xy, .int 0])), (m_, .inr (7, [.int 0, .ref mt, .int 0, .int 0, .int 0, .ref mrr, .ref mrh, .ref mrc, .int 0, .int 0, .ref mn, .ref mf, .ref mr, .ref mh, .int 0, .int 0, .ref ma, .ref mas, .ref msn, .ref mac, .ref mat]))] H := hP
  have hD : va_D A [(x, .inr (6, [.ref xt, .int 0, .ref xr, .ref xd, .ref xn, .ref xa, .ref xz, .ref xy, .int 0])), (m_, .inr (7, [.int 0, .ref mt, .int 0, .int 0, .int 0, .ref mrr, .ref mrh, .ref mrc, .int 0, .int 0, .ref mn, .ref mf, .ref mr, .ref mh, .int 0, .int 0, .ref ma, .ref mas, .ref msn, .ref mac, .ref mat]))] := hD
  refine W.widen (k := 91) (n := 5288) (Nat.le_of_ble_eq_true rfl) (Nat.le_of_ble_eq_true rfl) ?_
  refine lv_icmp_eq (tgt := 1900) hx hb dL_law_1119 (by decide) (fun _ => ?_) (fun cb => absurd (by decide) cb)
  subst hAe
  refine W.widen (k := 600002) (n := 7302232) (Nat.le_of_ble_eq_true rfl) (Nat.le_of_ble_eq_true rfl) ?_
  exact law_tail l C0 hS (lv_sub hl [0, 4] rfl)
set_option maxHeartbeats 4000000 in
set_option maxRecDepth 100000 in
/-- most -/
theorem law_case_22 {p : Program} {e : Env} {s : State} {m : MethodId} {below : List Frame} {meth : Method} {c : Code} (l : Launch) (hl9 : l.stackTraces = false) {b : Nat} {xs : Nat → Int32} (C0 : lw_At p s m meth c b 6 xs) (D : va_G) (g : Nat → ClassId) (hK : va_K D vwCl (kY g) s) (hN : kn g s) (hZ : ks g (fun q : Nat => s.heap.size ≤ q) s s.heap) {m_ ma mac mas mat mf mh mn mr mrc mrh mrr msn mt o_ x xa xd xn xr xt xy xz : Nat} {H : Heap} {locs : List Loc} {ls : Array Slot} (hP : va_P D vwCl [(x, .inr (6, [.ref xt, .int 0, .ref xr, .ref xd, .ref xn, .ref xa, .ref xz, .ref xy, .int 0])), (m_, .inr (7, [.int 0, .ref mt, .int 0, .int 0, .int 0, .ref mrr, .ref mrh, .ref mrc, .int 0, .int 0, .ref mn, .ref mf, .ref mr, .ref mh, .int 0, .int 0, .ref ma, .ref mas, .ref msn, .ref mac, .ref mat]))] H) (hD : va_D (fun q : Nat => s.heap.size ≤ q) [(x, .inr (6, [.ref xt, .int 0, .ref xr, .ref xd, .ref xn, .ref xa, .ref xz, .ref xy, .int 0])), (m_, .inr (7, [.int 0, .ref mt, .int 0, .int 0, .int 0, .ref mrr, .ref mrh, .ref mrc, .int 0, .int 0, .ref mn, .ref mf, .ref mr, .ref mh, .int 0, .int 0, .ref ma, .ref mas, .ref msn, .ref mac, .ref mat]))]) (hS : va_S (fun q : Nat => s.heap.size ≤ q) s.heap H locs) (hl : lv_has ls 7 [(4, .int 0), (3, .ref o_), (2, .ref m_), (1, .ref x), (0, .ref b)]) : W p l e room_1 s m #[Value.ref b] below meth c H locs 91 5288 (lw_Z below #[Value.ref b] s) (F0 m 1124 ls []) := by
  obtain ⟨hx, hb, hr, hml, hown, hts0, hX, hbl, hlocks, hgv⟩ := id C0
  have hts : ∀ w ∈ wsL_law, w.before #[Value.ref b] s = true := fun w h => hts0 w (wsL_law_in w h)
  have hA : ∀ q : Nat, s.heap.size ≤ q → (fun q : Nat => s.heap.size ≤ q) q := fun _ h => h
  have hbA : ¬ (fun q : Nat => s.heap.size ≤ q) b := Nat.not_le.mpr hbl
  generalize hAe : (fun q : Nat => s.heap.size ≤ q) = A at hA hbA hZ hD hS
  refine lv_aload_n hx hb dL_law_1124 rfl (lv_at hl 3 rfl) ?_
  refine lv_aload_n hx hb dL_law_1125 rfl (lv_at hl 4 rfl) ?_
  refine lv_iload hx hb dL_law_1126 (lv_at hl 0 rfl) ?_
  refine lv_iconst (v := 1) hx hb dL_law_1128 (by decide) ?_
  refine lv_iadd hx hb dL_law_1129 ?_
  refine lv_eqi (y := 1) (by decide) ?_
  refine va_sld hx hb hX hbl hbA hS (by unfold vp_in; decide) dL_law_1130 ?_
  refine lv_eqi (y := (xs 1)) (rfl) ?_
  refine lv_aload_n hx hb dL_law_1131 rfl (lv_at hl 4 rfl) ?_
  refine lv_iload hx hb dL_law_1132 (lv_at hl 0 rfl) ?_
  refine lv_iconst (v := 2) hx hb dL_law_1134 (by decide) ?_
  refine lv_iadd hx hb dL_law_1135 ?_
  refine lv_eqi (y := 2) (by decide) ?_
  refine va_sld hx hb hX hbl hbA hS (by unfold vp_in; decide) dL_law_1136 ?_
  refine lv_eqi (y := (xs 2)) (rfl) ?_
  refine lv_aload_n hx hb dL_law_1137 rfl (lv_at hl 4 rfl) ?_
  refine lv_iload hx hb dL_law_1138 (lv_at hl 0 rfl) ?_
  refine lv_iconst (v := 3) hx hb dL_law_1140 (by decide) ?_
  refine lv_iadd hx hb dL_law_1141 ?_
  refine lv_eqi (y := 3) (by decide) ?_
  refine va_sld hx hb hX hbl hbA hS (by unfold vp_in; decide) dL_law_1142 ?_
  refine lv_eqi (y := (xs 3)) (rfl) ?_
  refine lv_aload_n hx hb dL_law_1143 rfl (lv_at hl 4 rfl) ?_
  refine lv_iload hx hb dL_law_1144 (lv_at hl 0 rfl) ?_
  refine lv_iconst (v := 4) hx hb dL_law_1146 (by decide) ?_
  refine lv_iadd hx hb dL_law_1147 ?_
  refine lv_eqi (y := 4) (by decide) ?_
  refine va_sld hx hb hX hbl hbA hS (by unfold vp_in; decide) dL_law_1148 ?_
  refine lv_eqi (y := (xs 4)) (rfl) ?_
  refine ky_Vi (As := [.int (xs 1), .int (xs 2), .int (xs 3), .int (xs 4)]) (rest := []) ⟨hx, hb, hml, hown, hts⟩ ⟨hK, hN⟩ hZ hP hD hS hA [0] [1] (wc := [(x, .inr (6, [.ref xt, .int 0, .ref xr, .ref xd, .ref xn, .ref xa, .ref xz, .ref xy, .int 0]))]) (wr := [(m_, .inr (7, [.int 0, .ref mt, .int 0, .int 0, .int 0, .ref mrr, .ref mrh, .ref mrc, .int 0, .int 0, .ref mn, .ref mf, .ref mr, .ref mh, .int 0, .int 0, .ref ma, .ref mas, .ref msn, .ref mac, .ref mat]))]) rfl rfl rfl rfl (by decide) (c_X6_most l D g H.size x xt 0 xr xd xn xa xz xy (xs 1) (xs 2) (xs 3) (xs 4)) (cwV 4 hts gL_law_X6_most rfl rfl rfl (by decide +kernel) ⟨(Nat.le_of_ble_eq_true rfl), (Nat.le_of_ble_eq_true rfl)⟩) 0 6 rfl rfl rfl rfl hl.1 rfl (Nat.le_of_ble_eq_true rfl) dL_law_1149 ⟨(Nat.le_of_ble_eq_true rfl), (Nat.le_of_ble_eq_true rfl)⟩ (fun r_1 u H locs hw hP hD hS => ?_)
  obtain ⟨rfl, rfl⟩ := hw
  have hP : va_P D vwCl [(m_, .inr (7, [.int 0, .ref mt, .int 0, .int 0, .int 0, .ref mrr, .ref mrh, .ref mrc, .int 0, .int 0, .ref mn, .ref mf, .ref mr, .ref mh, .int 0, .int 0, .ref ma, .ref mas, .ref msn, .ref mac, .ref mat])), (x, .inr (6, [.ref xt, .int 0, .ref xr, .ref xd, .ref xn, .ref xa, .ref xz, .ref xy, .int 0]))] H := hP
  have hD : va_D A [(m_, .inr (7, [.int 0, .ref mt, .int 0, .int 0, .int 0, .ref mrr, .ref mrh, .ref mrc, .int 0, .int 0, .ref mn, .ref mf, .ref mr, .ref mh, .int 0, .int 0, .ref ma, .ref mas, .ref msn, .ref mac, .ref mat])), (x, .inr (6, [.ref xt, .int 0, .ref xr, .ref xd, .ref xn, .ref xa, .ref xz, .ref xy, .int 0]))] := hD
  refine W.widen (k := 91) (n := 5288) (Nat.le_of_ble_eq_true rfl) (Nat.le_of_ble_eq_true rfl) ?_
  refine lv_aload_n hx hb dL_law_1152 rfl (lv_at hl 2 rfl) ?_
  refine lv_aload_n hx hb dL_law_1153 rfl (lv_at hl 4 rfl) ?_
  refine lv_iload hx hb dL_law_1154 (lv_at hl 0 rfl) ?_
  refine lv_iconst (v := 1) hx hb dL_law_1156 (by decide) ?_
  refine lv_iadd hx hb dL_law_1157 ?_
  refine lv_eqi (y := 1) (by decide) ?_
  refine va_sld hx hb hX hbl hbA hS (by unfold vp_in; decide) dL_law_1158 ?_
  refine lv_eqi (y := (xs 1)) (rfl) ?_
  refine lv_aload_n hx hb dL_law_1159 rfl (lv_at hl 4 rfl) ?_
  refine lv_iload hx hb dL_law_1160 (lv_at hl 0 rfl) ?_
  refine lv_iconst (v := 2) hx hb dL_law_1162 (by decide) ?_
  refine lv_iadd hx hb dL_law_1163 ?_
  refine lv_eqi (y := 2) (by decide) ?_
  refine va_sld hx hb hX hbl hbA hS (by unfold vp_in; decide) dL_law_1164 ?_
  refine lv_eqi (y := (xs 2)) (rfl) ?_
  refine lv_aload_n hx hb dL_law_1165 rfl (lv_at hl 4 rfl) ?_
  refine lv_iload hx hb dL_law_1166 (lv_at hl 0 rfl) ?_
  refine lv_iconst (v := 3) hx hb dL_law_1168 (by decide) ?_
  refine lv_iadd hx hb dL_law_1169 ?_
  refine lv_eqi (y := 3) (by decide) ?_
  refine va_sld hx hb hX hbl hbA hS (by unfold vp_in; decide) dL_law_1170 ?_
  refine lv_eqi (y := (xs 3)) (rfl) ?_
  refine lv_aload_n hx hb dL_law_1171 rfl (lv_at hl 4 rfl) ?_
  refine lv_iload hx hb dL_law_1172 (lv_at hl 0 rfl) ?_
  refine lv_iconst (v := 4) hx hb dL_law_1174 (by decide) ?_
  refine lv_iadd hx hb dL_law_1175 ?_
  refine lv_eqi (y := 4) (by decide) ?_
  refine va_sld hx hb hX hbl hbA hS (by unfold vp_in; decide) dL_law_1176 ?_
  refine lv_eqi (y := (xs 4)) (rfl) ?_
  refine ky_Vi (As := [.int (xs 1), .int (xs 2), .int (xs 3), .int (xs 4)]) (rest := [.int (-1)]) ⟨hx, hb, hml, hown, hts⟩ ⟨hK, hN⟩ hZ hP hD hS hA [0] [1] (wc := [(m_, .inr (7, [.int 0, .ref mt, .int 0, .int 0, .int 0, .ref mrr, .ref mrh, .ref mrc, .int 0, .int 0, .ref mn, .ref mf, .ref mr, .ref mh, .int 0, .int 0, .ref ma, .ref mas, .ref msn, .ref mac, .ref mat]))]) (wr := [(x, .inr (6, [.ref xt, .int 0, .ref xr, .ref xd, .ref xn, .ref xa, .ref xz, .ref xy, .int 0]))]) rfl rfl rfl rfl (by decide) (c_X7_most l D g H.size m_ 0 mt 0 0 0 mrr mrh mrc 0 0 mn mf mr mh ma mas msn mac mat (xs 1) (xs 2) (xs 3) (xs 4)) (cwV 4 hts gL_law_X7_most rfl rfl rfl (by decide +kernel) ⟨(Nat.le_of_ble_eq_true rfl), (Nat.le_of_ble_eq_true rfl)⟩) 0 7 rfl rfl rfl rfl hl.1 rfl (Nat.le_of_ble_eq_true rfl) dL_law_1177 ⟨(Nat.le_of_ble_eq_true rfl), (Nat.le_of_ble_eq_true rfl)⟩ (fun r_2 u H locs hw hP hD hS => ?_)
  obtain ⟨rfl, rfl⟩ := hw
  have hP : va_P D vwCl [(x, .inr (6, [.ref xt, .int 0, .ref xr, .ref xd, .ref xn, .ref xa, .ref xz, .ref xy, .int 0])), (m_, .inr (7, [.int 0, .ref mt, .int 0, .int 0, .int 0, .ref mrr, .ref mrh, .ref mrc, .int 0, .int 0, .ref mn, .ref mf, .ref mr, .ref mh, .int 0, .int 0, .ref ma, .ref mas, .ref msn, .ref mac, .ref mat]))] H := hP
  have hD : va_D A [(x, .inr (6, [.ref xt, .int 0, .ref xr, .ref xd, .ref xn, .ref xa, .ref xz, .ref xy, .int 0])), (m_, .inr (7, [.int 0, .ref mt, .int 0, .int 0, .int 0, .ref mrr, .ref mrh, .ref mrc, .int 0, .int 0, .ref mn, .ref mf, .ref mr, .ref mh, .int 0, .int 0, .ref ma, .ref mas, .ref msn, .ref mac, .ref mat]))] := hD
  refine W.widen (k := 91) (n := 5288) (Nat.le_of_ble_eq_true rfl) (Nat.le_of_ble_eq_true rfl) ?_
  refine lv_icmp_eq (tgt := 1900) hx hb dL_law_1180 (by decide) (fun _ => ?_) (fun cb => absurd (by decide) cb)
  subst hAe
  refine W.widen (k := 600002) (n := 7302232) (Nat.le_of_ble_eq_true rfl) (Nat.le_of_ble_eq_true rfl) ?_
  exact law_tail l C0 hS (lv_sub hl [0, 4] rfl)
set_option maxHeartbeats 4000000 in
set_option maxRecDepth 100000 in
/-- healed -/
theorem law_case_23 {p : Program} {e : Env} {s : State} {m : MethodId} {below : List Frame} {meth : Method} {c : Code} (l : Launch) (hl9 : l.stackTraces = false) {b : Nat} {xs : Nat → Int32} (C0 : lw_At p s m meth c b 6 xs) (D : va_G) (g : Nat → ClassId) (hK : va_K D vwCl (kY g) s) (hN : kn g s) (hZ : ks g (fun q : Nat => s.heap.size ≤ q) s s.heap) {m_ ma mac mas mat mf mh mn mr mrc mrh mrr msn mt o_ x xa xd xn xr xt xy xz : Nat} {H : Heap} {locs : List Loc} {ls : Array Slot} (hP : va_P D vwCl [(x, .inr (6, [.ref xt, .int 0, .ref xr, .ref xd, .ref xn, .ref xa, .ref xz, .ref xy, .int 0])), (m_, .inr (7, [.int 0, .ref mt, .int 0, .int 0, .int 0, .ref mrr, .ref mrh, .ref mrc, .int 0, .int 0, .ref mn, .ref mf, .ref mr, .ref mh, .int 0, .int 0, .ref ma, .ref mas, .ref msn, .ref mac, .ref mat]))] H) (hD : va_D (fun q : Nat => s.heap.size ≤ q) [(x, .inr (6, [.ref xt, .int 0, .ref xr, .ref xd, .ref xn, .ref xa, .ref xz, .ref xy, .int 0])), (m_, .inr (7, [.int 0, .ref mt, .int 0, .int 0, .int 0, .ref mrr, .ref mrh, .ref mrc, .int 0, .int 0, .ref mn, .ref mf, .ref mr, .ref mh, .int 0, .int 0, .ref ma, .ref mas, .ref msn, .ref mac, .ref mat]))]) (hS : va_S (fun q : Nat => s.heap.size ≤ q) s.heap H locs) (hl : lv_has ls 7 [(4, .int 0), (3, .ref o_), (2, .ref m_), (1, .ref x), (0, .ref b)]) : W p l e room_1 s m #[Value.ref b] below meth c H locs 91 5288 (lw_Z below #[Value.ref b] s) (F0 m 1185 ls []) := by
  obtain ⟨hx, hb, hr, hml, hown, hts0, hX, hbl, hlocks, hgv⟩ := id C0
  have hts : ∀ w ∈ wsL_law, w.before #[Value.ref b] s = true := fun w h => hts0 w (wsL_law_in w h)
  have hA : ∀ q : Nat, s.heap.size ≤ q → (fun q : Nat => s.heap.size ≤ q) q := fun _ h => h
  have hbA : ¬ (fun q : Nat => s.heap.size ≤ q) b := Nat.not_le.mpr hbl
  generalize hAe : (fun q : Nat => s.heap.size ≤ q) = A at hA hbA hZ hD hS
  refine lv_aload_n hx hb dL_law_1185 rfl (lv_at hl 3 rfl) ?_
  refine ky_Vi (As := []) (rest := []) ⟨hx, hb, hml, hown, hts⟩ ⟨hK, hN⟩ hZ hP hD hS hA [0] [1] (wc := [(x, .inr (6, [.ref xt, .int 0, .ref xr, .ref xd, .ref xn, .ref xa, .ref xz, .ref xy, .int 0]))]) (wr := [(m_, .inr (7, [.int 0, .ref mt, .int 0, .int 0, .int 0, .ref mrr, .ref mrh, .ref mrc, .int 0, .int 0, .ref mn, .ref mf, .ref mr, .ref mh, .int 0, .int 0, .ref ma, .ref mas, .ref msn, .ref mac, .ref mat]))]) rfl rfl rfl rfl (by decide) (c_X6_healed l D g H.size x xt 0 xr xd xn xa xz xy) (cwV 0 hts gL_law_X6_healed rfl rfl rfl (by decide +kernel) ⟨(Nat.le_of_ble_eq_true rfl), (Nat.le_of_ble_eq_true rfl)⟩) 0 6 rfl rfl rfl rfl hl.1 rfl (Nat.le_of_ble_eq_true rfl) dL_law_1186 ⟨(Nat.le_of_ble_eq_true rfl), (Nat.le_of_ble_eq_true rfl)⟩ (fun r_1 u H locs hw hP hD hS => ?_)
  obtain ⟨rfl, rfl⟩ := hw
  have hP : va_P D vwCl [(m_, .inr (7, [.int 0, .ref mt, .int 0, .int 0, .int 0, .ref mrr, .ref mrh, .ref mrc, .int 0, .int 0, .ref mn, .ref mf, .ref mr, .ref mh, .int 0, .int 0, .ref ma, .ref mas, .ref msn, .ref mac, .ref mat])), (x, .inr (6, [.ref xt, .int 0, .ref xr, .ref xd, .ref xn, .ref xa, .ref xz, .ref xy, .int 0]))] H := hP
  have hD : va_D A [(m_, .inr (7, [.int 0, .ref mt, .int 0, .int 0, .int 0, .ref mrr, .ref mrh, .ref mrc, .int 0, .int 0, .ref mn, .ref mf, .ref mr, .ref mh, .int 0, .int 0, .ref ma, .ref mas, .ref msn, .ref mac, .ref mat])), (x, .inr (6, [.ref xt, .int 0, .ref xr, .ref xd, .ref xn, .ref xa, .ref xz, .ref xy, .int 0]))] := hD
  refine W.widen (k := 91) (n := 5288) (Nat.le_of_ble_eq_true rfl) (Nat.le_of_ble_eq_true rfl) ?_
  refine lv_aload_n hx hb dL_law_1189 rfl (lv_at hl 2 rfl) ?_
  refine ky_Vi (As := []) (rest := [.int (-1)]) ⟨hx, hb, hml, hown, hts⟩ ⟨hK, hN⟩ hZ hP hD hS hA [0] [1] (wc := [(m_, .inr (7, [.int 0, .ref mt, .int 0, .int 0, .int 0, .ref mrr, .ref mrh, .ref mrc, .int 0, .int 0, .ref mn, .ref mf, .ref mr, .ref mh, .int 0, .int 0, .ref ma, .ref mas, .ref msn, .ref mac, .ref mat]))]) (wr := [(x, .inr (6, [.ref xt, .int 0, .ref xr, .ref xd, .ref xn, .ref xa, .ref xz, .ref xy, .int 0]))]) rfl rfl rfl rfl (by decide) (c_X7_healed l D g H.size m_ 0 mt 0 0 0 mrr mrh mrc 0 0 mn mf mr mh ma mas msn mac mat) (cwV 0 hts gL_law_X7_healed rfl rfl rfl (by decide +kernel) ⟨(Nat.le_of_ble_eq_true rfl), (Nat.le_of_ble_eq_true rfl)⟩) 0 7 rfl rfl rfl rfl hl.1 rfl (Nat.le_of_ble_eq_true rfl) dL_law_1190 ⟨(Nat.le_of_ble_eq_true rfl), (Nat.le_of_ble_eq_true rfl)⟩ (fun r_2 u H locs hw hP hD hS => ?_)
  obtain ⟨rfl, rfl⟩ := hw
  have hP : va_P D vwCl [(x, .inr (6, [.ref xt, .int 0, .ref xr, .ref xd, .ref xn, .ref xa, .ref xz, .ref xy, .int 0])), (m_, .inr (7, [.int 0, .ref mt, .int 0, .int 0, .int 0, .ref mrr, .ref mrh, .ref mrc, .int 0, .int 0, .ref mn, .ref mf, .ref mr, .ref mh, .int 0, .int 0, .ref ma, .ref mas, .ref msn, .ref mac, .ref mat]))] H := hP
  have hD : va_D A [(x, .inr (6, [.ref xt, .int 0, .ref xr, .ref xd, .ref xn, .ref xa, .ref xz, .ref xy, .int 0])), (m_, .inr (7, [.int 0, .ref mt, .int 0, .int 0, .int 0, .ref mrr, .ref mrh, .ref mrc, .int 0, .int 0, .ref mn, .ref mf, .ref mr, .ref mh, .int 0, .int 0, .ref ma, .ref mas, .ref msn, .ref mac, .ref mat]))] := hD
  refine W.widen (k := 91) (n := 5288) (Nat.le_of_ble_eq_true rfl) (Nat.le_of_ble_eq_true rfl) ?_
  refine lv_icmp_eq (tgt := 1900) hx hb dL_law_1193 (by decide) (fun _ => ?_) (fun cb => absurd (by decide) cb)
  subst hAe
  refine W.widen (k := 600002) (n := 7302232) (Nat.le_of_ble_eq_true rfl) (Nat.le_of_ble_eq_true rfl) ?_
  exact law_tail l C0 hS (lv_sub hl [0, 4] rfl)
