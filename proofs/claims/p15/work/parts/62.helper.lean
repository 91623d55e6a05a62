theorem CK.next {g : Nat → ClassId} {A : Nat → Nat} {n : Nat} {pt : Nat × (Nat → Int32)} {qt : Nat × Nat × Nat × Nat × (Nat → Int32)} {w : va_W} (h : CK g A n pt qt w) : CK g A (n + 1) pt qt w := by
  obtain ⟨N, En0, En1, En2, Eo0, Eo1, Eo2, Ew, Ev, Et, Er, hi, hp, h1⟩ := h
  refine ⟨N, En0, En1, En2, Eo0, Eo1, Eo2, Ew, Ev, Et, Er, hi, hp, ?_⟩
  rcases h1 with ⟨a, b, c, d, e, f, f9⟩ | h1
  · exact Or.inl ⟨a, b, c, d, e, by omega, f9⟩
  · exact Or.inr h1
theorem rg_dis1 (b : Nat) : ((List.range 1).all fun i => !(List.range' 1 b).contains i) = true := by
  rw [List.all_eq_true]
  intro i hi
  have h1 := List.mem_range.mp hi
  have h3 : i = 0 := by omega
  subst h3
  simp
set_option maxHeartbeats 4000000 in
set_option maxRecDepth 100000 in
/-- the law's hop: it stores what comes back, and catches what is thrown -/
theorem ch_hop (l : Launch) (hl9 : l.stackTraces = false) (D : va_G) (g : Nat → ClassId) (sz : Nat) (A0 : Nat → Nat) (n : Nat) (hn : n ≤ 512) (o_ : Nat) (fo : Nat → Int64) (p0 p1 : Int32) {pt : Nat × (Nat → Int32)} {qt : Nat × Nat × Nat × Nat × (Nat → Int32)} {w : va_W} (h : CK g A0 n pt qt w) : Met l yL_hop wsL_hopx ({ frames := 7, cells := 1, slots := 6, locals := 113 }) (va_Pc [.ref (A0 0), .int p0, .int p1, .ref o_] (pre D g sz ([(o_, .inl (g 5, 1, .inr (.inl fo)))] ++ w))) (va_Qi (fun (_ : Int32) (u : va_W) => ∃ (fo2 : Nat → Int64) (w2 : va_W), CK g A0 (n + 1) pt qt w2 ∧ u = [(o_, .inl (g 5, 1, .inr (.inl fo2)))] ++ w2) (wd D (va_A ([(o_, .inl (g 5, 1, .inr (.inl fo)))] ++ w) sz)) (va_A ([(o_, .inl (g 5, 1, .inr (.inl fo)))] ++ w) sz)) 1 6 (va_A ([(o_, .inl (g 5, 1, .inr (.inl fo)))] ++ w) sz) := by
  refine va_MetW (cc := cL_hop) (maxL := 5) (ret := (some .int)) (hh := [(0, 10, 13, 13)]) (by decide) rfl ?_
  intro p e s m args below meth c s₁ B hml hv
  obtain ⟨rfl, hsz, hP, ⟨hK, hN⟩, hD0, hZ⟩ := hv
  have hx := B.exec
  have hb := B.bytes
  have hr := B.returns
  have hts := atoms_spec (ws := wsL_hopx) B.pre
  have hown : s.vm.findClass RL = some m.cls := findClass_of_methodNamed B.named
  have hlocks := B.notSynchronized
  have htab := vx_table (x := yL_hop) B (hts (.codeWith yL_hop cL_hop 5 (some .int) [(0, 10, 13, 13)]) List.mem_cons_self)
  clear B
  subst hsz
  have hD := hD0.self (sz := s.heap.size)
  clear hD0
  generalize hAe : va_A ([(o_, .inl (g 5, 1, .inr (.inl fo)))] ++ w) s.heap.size = A at hD hZ ⊢
  have hA : ∀ q : Nat, s.heap.size ≤ q → A q := fun q h => by rw [← hAe]; exact Or.inr h
  have hS : va_S A s.heap s.heap [] := va_S.rf
  have cl13 := hts (.classLink RL 13 "java/util/NoSuchElementException") (List.mem_cons_of_mem _ (by decide +kernel))
  have hl := lv_entry ([.ref (A0 0), .int p0, .int p1, .ref o_]) (n := 5) (Nat.le_of_ble_eq_true rfl)
  rw [lg_entry_eq]
  generalize (lg_sl ([.ref (A0 0), .int p0, .int p1, .ref o_]) ++ List.replicate (5 - (lg_sl ([.ref (A0 0), .int p0, .int p1, .ref o_])).length) Slot.unset).toArray = ls at hl ⊢
  have hl : lv_has ls 5 [(0, .ref (A0 0)), (1, .int p0), (2, .int p1), (3, .ref o_)] := hl
  generalize hQ : MQ below _ _ s _ _ _ = Q
  generalize hH : s.heap = H at hP ⊢
  have hS : va_S A s.heap H [] := by rw [← hH]; exact hS
  clear hH
  refine lv_aload_n hx hb dL_hop_0 rfl (lv_at hl 3 rfl) ?_
  refine lv_iconst (v := 0) hx hb dL_hop_1 (by decide) ?_
  refine lv_aload_n hx hb dL_hop_2 rfl (lv_at hl 0 rfl) ?_
  refine lv_iload_n hx hb dL_hop_3 rfl (lv_at hl 1 rfl) ?_
  refine lv_iload_n hx hb dL_hop_4 rfl (lv_at hl 2 rfl) ?_
  obtain ⟨fs, he⟩ := h.x
  have hC9 := rg_r [(o_, .inl (g 5, 1, .inr (.inl fo)))] w
  have hn9 := rg_nd (List.nodup_range' (s := [((o_, .inl (g 5, 1, .inr (.inl fo))) : Nat × va_E)].length) (n := w.length) (step := 1))
  have hF := va_free (wc := w) hD hS hA _ hC9
  have hPw := ky_sub hP hC9
  have hDw := hD.sub _ hn9 hC9
  have he1 : ([(o_, .inl (g 5, 1, .inr (.inl fo)))] ++ w)[1]? = some (A0 0, .inr (6, fs)) := he
  refine vx_calli (vx_runV (As := [.int p0, .int p1]) (rest := [.int 0, .ref o_]) ⟨hx, hb, hml, hown, hts⟩ (ck_hop l hl9 D g H.size A0 n hn p0 p1 h) (cwV 2 hts gL_hopx_X6_hopx rfl rfl rfl (by decide +kernel) ⟨(Nat.le_of_ble_eq_true rfl), (Nat.le_of_ble_eq_true rfl)⟩) ⟨ky_blind, va_recv hK hP (ci := 6) (q0 := 1) rfl he1, ky_mk hPw ⟨hK, hN⟩ hDw ((hZ.kept hS.2.1).narrow hF)⟩ rfl rfl hl.1 rfl (lv_room (Nat.le_of_ble_eq_true rfl)) dL_hop_5 ⟨(Nat.le_of_ble_eq_true rfl), (Nat.le_of_ble_eq_true rfl)⟩) hS (fun q _ h => hF q h) hF (fun q _ h => hF q h) (fun E ce q9 u t H1 locs ht hvm _ hB hz1 hk1 hS => ?_) (fun r u t H1 locs ht hvm hw hB hz1 hk1 hS => ?_)
  · intro hce hcv hcl
    obtain ⟨rfl, hP1⟩ := hB
    rw [ht] at hP1
    obtain ⟨hP2, hD2⟩ := ky_back (wr := [(o_, .inl (g 5, 1, .inr (.inl fo)))]) hP hD _ (List.range 1) hC9 (rg_l [(o_, .inl (g 5, 1, .inr (.inl fo)))] w) rfl (rg_dis1 _) hk1 hF hP1 (hDw.self (sz := H.size))
    refine vx_catch (name := "java/util/NoSuchElementException") hown [] ⟨0, 10, 13, 13⟩ [] (by rw [htab]; rfl) (fun z h => nomatch h) (by decide) (by decide) cl13 (va_Nw.use rfl hN.2.2.2.2.2.2.2.2.2.2.2.2.1) hce hcv hcl ?_
    refine lv_astore (lv' := [(4, .ref q9), (0, .ref (A0 0)), (1, .int p0), (2, .int p1), (3, .ref o_)]) hx hb dL_hop_13 hl (by decide) rfl (fun ls hl => ?_)
    refine lv_iconst (v := 1) hx hb dL_hop_15 (by decide) ?_
    subst hQ
    refine W.widen (k := 1) (n := 6) (Nat.le_of_ble_eq_true rfl) (Nat.le_of_ble_eq_true rfl) ?_
    exact W.iret (v := 1) hx hb hr (fun tS htS _ => ⟨⟨_, _, rfl, ⟨fo, w, h.next, rfl⟩, by rw [htS]; exact hP2, hD2⟩, hS.F htS⟩) hS.2.2 dL_hop_16
  · obtain ⟨hP1, hD1⟩ := hB
    rw [ht] at hP1
    obtain ⟨hP, hD⟩ := ky_back (wr := [(o_, .inl (g 5, 1, .inr (.inl fo)))]) hP hD _ (List.range 1) hC9 (rg_l [(o_, .inl (g 5, 1, .inr (.inl fo)))] w) rfl (rg_dis1 _) hk1 hF hP1 hD1
    refine lv_i2l hx hb dL_hop_8 rfl ?_
    refine va_last (tys := kY g) hx hb hK hP hD hS 0 5 rfl rfl (by unfold vp_in; decide) dL_hop_9 (fun H locs hP hD hS => ?_)
    refine lv_goto (tgt := 17) hx hb dL_hop_10 (by decide) ?_
    refine lv_iconst (v := 0) hx hb dL_hop_17 (by decide) ?_
    subst hQ
    refine W.widen (k := 1) (n := 6) (Nat.le_of_ble_eq_true rfl) (Nat.le_of_ble_eq_true rfl) ?_
    exact W.iret (v := 0) hx hb hr (fun tS htS _ => ⟨⟨_, _, rfl, ⟨_, u, hw, rfl⟩, by rw [htS]; exact hP, hD⟩, hS.F htS⟩) hS.2.2 dL_hop_18
set_option maxHeartbeats 4000000 in
set_option maxRecDepth 100000 in
/-- the law's circuit: it stores what comes back, and catches what is thrown -/
theorem ch_circuit (l : Launch) (hl9 : l.stackTraces = false) (D : va_G) (g : Nat → ClassId) (sz : Nat) (A0 : Nat → Nat) (n : Nat) (hn : n ≤ 512) (o_ : Nat) (fo : Nat → Int64) (p0 p1 : Int32) {pt : Nat × (Nat → Int32)} {qt : Nat × Nat × Nat × Nat × (Nat → Int32)} {w : va_W} (h : CK g A0 n pt qt w) : Met l yL_circuit wsL_circuitx ({ frames := 7, cells := 1, slots := 6, locals := 113 }) (va_Pc [.ref (A0 0), .int p0, .int p1, .ref o_] (pre D g sz ([(o_, .inl (g 5, 1, .inr (.inl fo)))] ++ w))) (va_Qi (fun (_ : Int32) (u : va_W) => ∃ (fo2 : Nat → Int64) (w2 : va_W), CK g A0 (n + 1) pt qt w2 ∧ u = [(o_, .inl (g 5, 1, .inr (.inl fo2)))] ++ w2) (wd D (va_A ([(o_, .inl (g 5, 1, .inr (.inl fo)))] ++ w) sz)) (va_A ([(o_, .inl (g 5, 1, .inr (.inl fo)))] ++ w) sz)) 1 6 (va_A ([(o_, .inl (g 5, 1, .inr (.inl fo)))] ++ w) sz) := by
  refine va_MetW (cc := cL_circuit) (maxL := 5) (ret := (some .int)) (hh := [(0, 10, 13, 13)]) (by decide) rfl ?_
  intro p e s m args below meth c s₁ B hml hv
  obtain ⟨rfl, hsz, hP, ⟨hK, hN⟩, hD0, hZ⟩ := hv
  have hx := B.exec
  have hb := B.bytes
  have hr := B.returns
  have hts := atoms_spec (ws := wsL_circuitx) B.pre
  have hown : s.vm.findClass RL = some m.cls := findClass_of_methodNamed B.named
  have hlocks := B.notSynchronized
  have htab := vx_table (x := yL_circuit) B (hts (.codeWith yL_circuit cL_circuit 5 (some .int) [(0, 10, 13, 13)]) List.mem_cons_self)
  clear B
  subst hsz
  have hD := hD0.self (sz := s.heap.size)
  clear hD0
  generalize hAe : va_A ([(o_, .inl (g 5, 1, .inr (.inl fo)))] ++ w) s.heap.size = A at hD hZ ⊢
  have hA : ∀ q : Nat, s.heap.size ≤ q → A q := fun q h => by rw [← hAe]; exact Or.inr h
  have hS : va_S A s.heap s.heap [] := va_S.rf
  have cl13 := hts (.classLink RL 13 "java/util/NoSuchElementException") (List.mem_cons_of_mem _ (by decide +kernel))
  have hl := lv_entry ([.ref (A0 0), .int p0, .int p1, .ref o_]) (n := 5) (Nat.le_of_ble_eq_true rfl)
  rw [lg_entry_eq]
  generalize (lg_sl ([.ref (A0 0), .int p0, .int p1, .ref o_]) ++ List.replicate (5 - (lg_sl ([.ref (A0 0), .int p0, .int p1, .ref o_])).length) Slot.unset).toArray = ls at hl ⊢
  have hl : lv_has ls 5 [(0, .ref (A0 0)), (1, .int p0), (2, .int p1), (3, .ref o_)] := hl
  generalize hQ : MQ below _ _ s _ _ _ = Q
  generalize hH : s.heap = H at hP ⊢
  have hS : va_S A s.heap H [] := by rw [← hH]; exact hS
  clear hH
  refine lv_aload_n hx hb dL_circuit_0 rfl (lv_at hl 3 rfl) ?_
  refine lv_iconst (v := 0) hx hb dL_circuit_1 (by decide) ?_
  refine lv_aload_n hx hb dL_circuit_2 rfl (lv_at hl 0 rfl) ?_
  refine lv_iload_n hx hb dL_circuit_3 rfl (lv_at hl 1 rfl) ?_
  refine lv_iload_n hx hb dL_circuit_4 rfl (lv_at hl 2 rfl) ?_
  obtain ⟨fs, he⟩ := h.x
  have hC9 := rg_r [(o_, .inl (g 5, 1, .inr (.inl fo)))] w
  have hn9 := rg_nd (List.nodup_range' (s := [((o_, .inl (g 5, 1, .inr (.inl fo))) : Nat × va_E)].length) (n := w.length) (step := 1))
  have hF := va_free (wc := w) hD hS hA _ hC9
  have hPw := ky_sub hP hC9
  have hDw := hD.sub _ hn9 hC9
  have he1 : ([(o_, .inl (g 5, 1, .inr (.inl fo)))] ++ w)[1]? = some (A0 0, .inr (6, fs)) := he
  refine vx_calli (vx_runV (As := [.int p0, .int p1]) (rest := [.int 0, .ref o_]) ⟨hx, hb, hml, hown, hts⟩ (ck_circuit l hl9 D g H.size A0 n hn p0 p1 h) (cwV 2 hts gL_circuitx_X6_circuitx rfl rfl rfl (by decide +kernel) ⟨(Nat.le_of_ble_eq_true rfl), (Nat.le_of_ble_eq_true rfl)⟩) ⟨ky_blind, va_recv hK hP (ci := 6) (q0 := 1) rfl he1, ky_mk hPw ⟨hK, hN⟩ hDw ((hZ.kept hS.2.1).narrow hF)⟩ rfl rfl hl.1 rfl (lv_room (Nat.le_of_ble_eq_true rfl)) dL_circuit_5 ⟨(Nat.le_of_ble_eq_true rfl), (Nat.le_of_ble_eq_true rfl)⟩) hS (fun q _ h => hF q h) hF (fun q _ h => hF q h) (fun E ce q9 u t H1 locs ht hvm _ hB hz1 hk1 hS => ?_) (fun r u t H1 locs ht hvm hw hB hz1 hk1 hS => ?_)
  · intro hce hcv hcl
    obtain ⟨rfl, hP1⟩ := hB
    rw [ht] at hP1
    obtain ⟨hP2, hD2⟩ := ky_back (wr := [(o_, .inl (g 5, 1, .inr (.inl fo)))]) hP hD _ (List.range 1) hC9 (rg_l [(o_, .inl (g 5, 1, .inr (.inl fo)))] w) rfl (rg_dis1 _) hk1 hF hP1 (hDw.self (sz := H.size))
    refine vx_catch (name := "java/util/NoSuchElementException") hown [] ⟨0, 10, 13, 13⟩ [] (by rw [htab]; rfl) (fun z h => nomatch h) (by decide) (by decide) cl13 (va_Nw.use rfl hN.2.2.2.2.2.2.2.2.2.2.2.2.1) hce hcv hcl ?_
    refine lv_astore (lv' := [(4, .ref q9), (0, .ref (A0 0)), (1, .int p0), (2, .int p1), (3, .ref o_)]) hx hb dL_circuit_13 hl (by decide) rfl (fun ls hl => ?_)
    refine lv_iconst (v := 1) hx hb dL_circuit_15 (by decide) ?_
    subst hQ
    refine W.widen (k := 1) (n := 6) (Nat.le_of_ble_eq_true rfl) (Nat.le_of_ble_eq_true rfl) ?_
    exact W.iret (v := 1) hx hb hr (fun tS htS _ => ⟨⟨_, _, rfl, ⟨fo, w, h.next, rfl⟩, by rw [htS]; exact hP2, hD2⟩, hS.F htS⟩) hS.2.2 dL_circuit_16
  · obtain ⟨hP1, hD1⟩ := hB
    rw [ht] at hP1
    obtain ⟨hP, hD⟩ := ky_back (wr := [(o_, .inl (g 5, 1, .inr (.inl fo)))]) hP hD _ (List.range 1) hC9 (rg_l [(o_, .inl (g 5, 1, .inr (.inl fo)))] w) rfl (rg_dis1 _) hk1 hF hP1 hD1
    refine lv_i2l hx hb dL_circuit_8 rfl ?_
    refine va_last (tys := kY g) hx hb hK hP hD hS 0 5 rfl rfl (by unfold vp_in; decide) dL_circuit_9 (fun H locs hP hD hS => ?_)
    refine lv_goto (tgt := 17) hx hb dL_circuit_10 (by decide) ?_
    refine lv_iconst (v := 0) hx hb dL_circuit_17 (by decide) ?_
    subst hQ
    refine W.widen (k := 1) (n := 6) (Nat.le_of_ble_eq_true rfl) (Nat.le_of_ble_eq_true rfl) ?_
    exact W.iret (v := 0) hx hb hr (fun tS htS _ => ⟨⟨_, _, rfl, ⟨_, u, hw, rfl⟩, by rw [htS]; exact hP, hD⟩, hS.F htS⟩) hS.2.2 dL_circuit_18
