theorem inlX6 : ∀ w ∈ wsX60, w ∈ wsL_law := fun _ h => List.mem_append_left _ (List.mem_append_left _ (List.mem_append_left _ (List.mem_append_left _ (List.mem_append_left _ (List.mem_append_left _ (List.mem_append_left _ (List.mem_append_left _ (List.mem_append_left _ (List.mem_append_right _ h)))))))))
theorem inlX7 : ∀ w ∈ wsX70, w ∈ wsL_law := fun _ h => List.mem_append_left _ (List.mem_append_left _ (List.mem_append_left _ (List.mem_append_left _ (List.mem_append_left _ (List.mem_append_left _ (List.mem_append_left _ (List.mem_append_left _ (List.mem_append_right _ h))))))))
theorem lw_st {l : Launch} (hflags : l.flags = flags0) : l.stackTraces = false := by unfold Launch.stackTraces; rw [hflags]; decide +kernel
theorem lt9 : ∀ j : Nat, j < 9 → (j = 0 ∨ j = 1 ∨ j = 2 ∨ j = 3 ∨ j = 4 ∨ j = 5 ∨ j = 6 ∨ j = 7 ∨ j = 8) := by decide +kernel
theorem lt21 : ∀ j : Nat, j < 21 → (j = 0 ∨ j = 1 ∨ j = 2 ∨ j = 3 ∨ j = 4 ∨ j = 5 ∨ j = 6 ∨ j = 7 ∨ j = 8 ∨ j = 9 ∨ j = 10 ∨ j = 11 ∨ j = 12 ∨ j = 13 ∨ j = 14 ∨ j = 15 ∨ j = 16 ∨ j = 17 ∨ j = 18 ∨ j = 19 ∨ j = 20) := by decide +kernel
set_option maxHeartbeats 4000000 in
set_option maxRecDepth 100000 in
theorem whole_start {p : Program} {e : Env} {s : State} {m : MethodId} {below : List Frame} {meth : Method} {c : Code} (l : Launch) (hflags : l.flags = flags0) {b L : Nat} {xs : Nat → Int32} (hL : L ≤ 3072) (C0 : lw_At p s m meth c b L xs) : W p l e room_1 s m #[Value.ref b] below meth c s.heap [] 0 0 (lw_Z below #[Value.ref b] s) (entryFrame m ([Value.ref b] : List Value).toArray 7) := by
  have hl9 : l.stackTraces = false := lw_st hflags
  obtain ⟨D, g, hK, hN, hZ⟩ := law_known C0
  obtain ⟨hx, hb, hr, hml, hown, hts0, hX, hbl, hlocks, hgv⟩ := id C0
  have hts : ∀ w ∈ wsL_law, w.before #[Value.ref b] s = true := fun w h => hts0 w (wsL_law_in w h)
  have hA : ∀ q : Nat, s.heap.size ≤ q → lwA s q := fun _ h => h
  have hS : va_S (lwA s) s.heap s.heap [] := va_S.rf
  have hP : va_P D vwCl [] s.heap := fun k q h => by simp at h
  have hD : va_D (lwA s) [] := ⟨fun i j p q h => by simp at h, fun k q h => by simp at h⟩
  have hl := lv_entry ([.ref b]) (n := 7) (Nat.le_of_ble_eq_true rfl)
  rw [lg_entry_eq]
  generalize (lg_sl ([.ref b]) ++ List.replicate (7 - (lg_sl ([.ref b])).length) Slot.unset).toArray = ls at hl ⊢
  have hl : lv_has ls 7 [(0, .ref b)] := hl
  generalize hH : s.heap = H at hP ⊢
  have hS : va_S (lwA s) s.heap H [] := by rw [← hH]; exact hS
  clear hH
  have iX6 : ∀ w ∈ u_ws RX6 TX6 9, w ∈ wsL_law := inlX6
  have cl8 := hts0 (.classLink RL 8 RX6) (List.mem_of_getElem? (i := 111) (by decide +kernel))
  have iiX6 := hts0 (.initialized RX6) (List.mem_of_getElem? (i := 93) (by decide +kernel))
  have imX6_init := hts0 (.instanceMethod yX6_init) (List.mem_of_getElem? (i := 114) (by decide +kernel))
  have inX6 := hts0 (.instantiable RX6 9) (List.mem_of_getElem? (i := 112) (by decide +kernel))
  have mlX6_init := hts0 (.methodLink RL 18 yX6_init) (List.mem_of_getElem? (i := 113) (by decide +kernel))
  have iX7 : ∀ w ∈ u_ws RX7 TX7 21, w ∈ wsL_law := inlX7
  have cl19 := hts0 (.classLink RL 19 RX7) (List.mem_of_getElem? (i := 1061) (by decide +kernel))
  have iiX7 := hts0 (.initialized RX7) (List.mem_of_getElem? (i := 100) (by decide +kernel))
  have imX7_init := hts0 (.instanceMethod yX7_init) (List.mem_of_getElem? (i := 1064) (by decide +kernel))
  have inX7 := hts0 (.instantiable RX7 21) (List.mem_of_getElem? (i := 1062) (by decide +kernel))
  have mlX7_init := hts0 (.methodLink RL 21 yX7_init) (List.mem_of_getElem? (i := 1063) (by decide +kernel))
  have ac_long := hts0 (.arrayClass .long) (List.mem_of_getElem? (i := 1571) (by decide +kernel))
  refine va_new (ci := 6) (fs := [.null, .int 0, .null, .null, .null, .null, .null, .null, .int 0]) (C := RX6) (T := TX6) (N := 9) hx hb hts iX6 tyX6 tyX6_ok hown cl8 inX6 iiX6 hK hP hD hS hA rfl (fun j hj => by rcases lt9 j hj with rfl | rfl | rfl | rfl | rfl | rfl | rfl | rfl | rfl <;> rfl) (Nat.le_of_ble_eq_true rfl) (Nat.le_of_ble_eq_true rfl) dL_law_0 (fun x H hP hD hS => ?_)
  have hP : va_P D vwCl ([(x, .inr (6, [.null, .int 0, .null, .null, .null, .null, .null, .null, .int 0]))] ++ []) H := hP
  have hD : va_D (lwA s) ([(x, .inr (6, [.null, .int 0, .null, .null, .null, .null, .null, .null, .int 0]))] ++ []) := hD
  refine lv_dup hx hb dL_law_3 rfl ?_
  refine ka_I (As := []) (rest := [.ref x]) ⟨hx, hb, hml, hown, hts⟩ ⟨hK, hN⟩ hZ hP hD hS hA (ci_X6 l D g H.size x) (cwI 0 hts ggL_law_X6_init rfl rfl rfl iiX6 mlX6_init imX6_init rfl (by decide +kernel) ⟨(Nat.le_of_ble_eq_true rfl), (Nat.le_of_ble_eq_true rfl)⟩) rfl hl.1 rfl (Nat.le_of_ble_eq_true rfl) dL_law_4 ⟨(Nat.le_of_ble_eq_true rfl), (Nat.le_of_ble_eq_true rfl)⟩ (fun wC H locs hC hPn hDn hSn => ?_)
  obtain ⟨A, rfl, hC⟩ := hC
  have hP : va_P D vwCl wC H := hPn
  have hD : va_D (lwA s) wC := hDn
  have hS := hSn
  refine lv_astore_n (lv' := [(1, .ref (A 0)), (0, .ref b)]) hx hb dL_law_7 rfl hl (by decide) rfl (fun ls hl => ?_)
  refine va_new (ci := 7) (fs := [.int 0, .null, .int 0, .int 0, .int 0, .null, .null, .null, .int 0, .int 0, .null, .null, .null, .null, .int 0, .int 0, .null, .null, .null, .null, .null]) (C := RX7) (T := TX7) (N := 21) hx hb hts iX7 tyX7 tyX7_ok hown cl19 inX7 iiX7 hK hP hD hS hA rfl (fun j hj => by rcases lt21 j hj with rfl | rfl | rfl | rfl | rfl | rfl | rfl | rfl | rfl | rfl | rfl | rfl | rfl | rfl | rfl | rfl | rfl | rfl | rfl | rfl | rfl <;> rfl) (Nat.le_of_ble_eq_true rfl) (Nat.le_of_ble_eq_true rfl) dL_law_8 (fun m_ H hP hD hS => ?_)
  have hP := rot_P hP
  have hD := rot_D hD
  refine lv_dup hx hb dL_law_11 rfl ?_
  refine ka_I (As := []) (rest := [.ref m_]) ⟨hx, hb, hml, hown, hts⟩ ⟨hK, hN⟩ hZ hP hD hS hA (ci_X7 l D g H.size m_) (cwI 0 hts ggL_law_X7_init rfl rfl rfl iiX7 mlX7_init imX7_init rfl (by decide +kernel) ⟨(Nat.le_of_ble_eq_true rfl), (Nat.le_of_ble_eq_true rfl)⟩) rfl hl.1 rfl (Nat.le_of_ble_eq_true rfl) dL_law_12 ⟨(Nat.le_of_ble_eq_true rfl), (Nat.le_of_ble_eq_true rfl)⟩ (fun wM H locs hM hPn hDn hSn => ?_)
  obtain ⟨B, rfl, hM⟩ := hM
  have hP := hPn
  have hD := hDn
  have hS := hSn
  refine lv_astore_n (lv' := [(2, .ref (B 0)), (1, .ref (A 0)), (0, .ref b)]) hx hb dL_law_15 rfl hl (by decide) rfl (fun ls hl => ?_)
  refine lv_iconst (v := 1) hx hb dL_law_16 (by decide) ?_
  refine ky_newl hx hb ac_long hK hP hD hS hA (N := 1) (by decide) (by decide) (by decide) (Nat.le_of_ble_eq_true rfl) (Nat.le_of_ble_eq_true rfl) dL_law_17 (fun o_ H hP hD hS => ?_)
  rw [List.append_assoc] at hP hD
  refine lv_astore_n (lv' := [(3, .ref o_), (2, .ref (B 0)), (1, .ref (A 0)), (0, .ref b)]) hx hb dL_law_19 rfl hl (by decide) rfl (fun ls hl => ?_)
  refine lv_iconst (v := 0) hx hb dL_law_20 (by decide) ?_
  refine lv_istore (lv' := [(4, .int (nI (6 * 0))), (3, .ref o_), (2, .ref (B 0)), (1, .ref (A 0)), (0, .ref b)]) hx hb dL_law_21 hl (by decide) rfl (fun ls hl => ?_)
  refine W.widen (k := 91 + 0) (n := 5288 + 6 * 0) (Nat.le_of_ble_eq_true rfl) (Nat.le_of_ble_eq_true rfl) ?_
  exact lw_loop l hl9 C0 hL D g hK hN hZ A B o_ 512 0 rfl _ _ wC wM _ H _ ls hC hM hP hD hS hl
