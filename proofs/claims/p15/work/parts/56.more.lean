/-! a contract on some cells is one on more cells; calls over two worlds side by side -/
section MORE
theorem kr_mono {s : State} {pl : Platform} {r r' : Room} (hf : r.frames ≤ r'.frames) (hl : r.locals ≤ r'.locals) (hc : r.cells ≤ r'.cells) (hs : r.slots ≤ r'.slots) (h : s.hasRoom pl r' = true) : s.hasRoom pl r = true := by
  simp only [State.hasRoom, Bool.and_eq_true, decide_eq_true_eq] at h ⊢
  refine ⟨⟨⟨⟨?_, ?_⟩, ?_⟩, ?_⟩, h.2⟩
  · have h1 := h.1.1.1.1
    omega
  · obtain ⟨h1, h2, h3, h4, h5⟩ := h.1.1.1.2
    exact ⟨by omega, by omega, by omega, by omega, h5⟩
  · have h1 := h.1.1.2
    omega
  · have h1 := h.1.2
    omega
theorem mt_app {x : MethodName} {pl : Platform} {s : State} {wl : List Cond} {r r' : Room} {m : MethodId} {args : Array Value} {below : List Frame} (hfr : s.frames = .invoking m args :: below) (hf : r.frames ≤ r'.frames) (hl : r.locals ≤ r'.locals) (hc : r.cells ≤ r'.cells) (hs : r.slots ≤ r'.slots) (h : (headSpec wl r').appliesLoose x pl s = true) : (headSpec wl r).appliesLoose x pl s = true := by
  rw [Spec.appliesLoose_iff hfr] at h ⊢
  obtain ⟨a1, a2, a3, a4, a5, a6, a7, a8⟩ := h
  exact ⟨a1, a2, a3, a4, a5, a6, kr_mono hf hl hc hs a7, a8⟩
variable {l : Launch} {y : MethodName} {wl : List Cond} {rm rm' : Room} {av : List Value} {D : va_G} {g : Nat → ClassId} {sz : Nat} {ws wc wr : va_W} {mc ms : Nat} {post post2 : Int32 → va_W → Prop}
theorem mt_sub (hD : va_D (fun _ => True) ws) (isC : List Nat) (hC : isC.map (fun i => ws[i]?) = wc.map some) : ∀ q, va_A wc sz q → va_A ws sz q := by
  intro q h
  rcases h with ⟨k, e, h⟩ | h
  · have h1 : (isC.map (fun i => ws[i]?))[k]? = some (some (q, e)) := by rw [hC, List.getElem?_map, h]; rfl
    rw [List.getElem?_map] at h1
    cases hi : isC[k]? with
    | none => rw [hi] at h1; cases h1
    | some i => rw [hi] at h1; exact Or.inl ⟨i, e, Option.some.inj h1⟩
  · exact Or.inr h
theorem mt_i (hM : Met l y wl rm (va_Pc av (pre D g sz wc)) (va_Qi post (wd D (va_A wc sz)) (va_A wc sz)) mc ms (va_A wc sz))
    (hf : rm.frames ≤ rm'.frames) (hl : rm.locals ≤ rm'.locals) (hc : rm.cells ≤ rm'.cells) (hs : rm.slots ≤ rm'.slots)
    (isC isR : List Nat) (hC : isC.map (fun i => ws[i]?) = wc.map some) (hR : isR.map (fun i => ws[i]?) = wr.map some) (hn1 : va_nd isC = true) (hn2 : va_nd isR = true) (hdis : (isR.all fun i => !isC.contains i) = true)
    (hq : ∀ r u, post r u → ∃ (isN : List Nat) (w2 : va_W), post2 r w2 ∧ va_nd isN = true ∧ isN.map (fun i => (wr ++ u)[i]?) = w2.map some) :
    Met l y wl rm' (va_Pc av (pre D g sz ws)) (va_Qi post2 (wd D (va_A ws sz)) (va_A ws sz)) mc ms (va_A ws sz) := by
  intro p e ha hcs hk s m args below hfr happ hpre hKK
  obtain ⟨hav, hz, hP, hkx, hD, hZ⟩ := hpre
  subst hz
  have hsub : ∀ q, va_A wc s.heap.size q → va_A ws s.heap.size q := mt_sub hD isC hC
  have hDs : va_D (va_A ws s.heap.size) ws := hD.self (sz := s.heap.size)
  obtain ⟨n, o, h1, h2, h3, ⟨⟨r, u, ho, hp, hw⟩, hF⟩, L, hE, hL⟩ := hM p e ha hcs hk s m args below hfr (mt_app hfr hf hl hc hs happ) ⟨hav, rfl, ky_sub hP hC, hkx, hD.sub isC hn1 hC, hZ.narrow hsub⟩ hKK
  refine ⟨n, o, h1, h2, h3, ⟨?_, hF.1, fun q h1 h2 => hF.2 q h1 (fun z => h2 (hsub q z))⟩, L, hE, fun q hq => hsub _ (hL q hq)⟩
  obtain ⟨isN, w2, hp2, hn3, hN⟩ := hq r u hp
  obtain ⟨a, b⟩ := ky_back hP hDs isC isR hC hR hn2 hdis hF.2 hsub hw.1 hw.2
  exact ⟨r, w2, ho, hp2, ky_sub a hN, b.sub isN hn3 hN⟩
theorem mt_x (hM : vx_Met l y wl rm (va_Pc av (pre D g sz wc)) (va_Qi post (wd D (va_A wc sz)) (va_A wc sz)) (vx_X (fun (_ : Unit) => True) (fun E _ tX => E = "java/util/NoSuchElementException" ∧ va_P D vwCl wc tX.heap) (va_A wc sz)) mc ms (va_A wc sz))
    (hf : rm.frames ≤ rm'.frames) (hl : rm.locals ≤ rm'.locals) (hc : rm.cells ≤ rm'.cells) (hs : rm.slots ≤ rm'.slots)
    (isC isR isW : List Nat) (hC : isC.map (fun i => ws[i]?) = wc.map some) (hR : isR.map (fun i => ws[i]?) = wr.map some) (hn1 : va_nd isC = true) (hn2 : va_nd isR = true) (hdis : (isR.all fun i => !isC.contains i) = true) (hW : isW.map (fun i => (wr ++ wc)[i]?) = ws.map some)
    (hq : ∀ r u, post r u → ∃ (isN : List Nat) (w2 : va_W), post2 r w2 ∧ va_nd isN = true ∧ isN.map (fun i => (wr ++ u)[i]?) = w2.map some) :
    vx_Met l y wl rm' (va_Pc av (pre D g sz ws)) (va_Qi post2 (wd D (va_A ws sz)) (va_A ws sz)) (vx_X (fun (_ : Unit) => True) (fun E _ tX => E = "java/util/NoSuchElementException" ∧ va_P D vwCl ws tX.heap) (va_A ws sz)) mc ms (va_A ws sz) := by
  intro p e ha hcs hk s m args below hfr happ hpre hKK
  obtain ⟨hav, hz, hP, hkx, hD, hZ⟩ := hpre
  subst hz
  have hsub : ∀ q, va_A wc s.heap.size q → va_A ws s.heap.size q := mt_sub hD isC hC
  have hDs : va_D (va_A ws s.heap.size) ws := hD.self (sz := s.heap.size)
  obtain ⟨n, o, h1, h2, h3, hQ⟩ := hM p e ha hcs hk s m args below hfr (mt_app hfr hf hl hc hs happ) ⟨hav, rfl, ky_sub hP hC, hkx, hD.sub isC hn1 hC, hZ.narrow hsub⟩ hKK
  refine ⟨n, o, h1, h2, h3, ?_⟩
  rcases hQ with ⟨⟨⟨r, u, ho, hp, hw⟩, hF⟩, L, hE, hL⟩ | ⟨q, ho, E, ce, L, ⟨u, -, ⟨hE, hP1⟩, hF⟩, b1, b2, b3, b4, b5, hL⟩
  · refine Or.inl ⟨⟨?_, hF.1, fun q h1 h2 => hF.2 q h1 (fun z => h2 (hsub q z))⟩, L, hE, fun q hq => hsub _ (hL q hq)⟩
    obtain ⟨isN, w2, hp2, hn3, hN⟩ := hq r u hp
    obtain ⟨a, b⟩ := ky_back hP hDs isC isR hC hR hn2 hdis hF.2 hsub hw.1 hw.2
    exact ⟨r, w2, ho, hp2, ky_sub a hN, b.sub isN hn3 hN⟩
  · refine Or.inr ⟨q, ho, E, ce, L, ⟨u, trivial, ⟨hE, ?_⟩, hF.1, fun q h1 h2 => hF.2 q h1 (fun z => h2 (hsub q z))⟩, b1, b2, b3, b4, b5, fun z hz => hsub _ (hL z hz)⟩
    obtain ⟨a, -⟩ := ky_back hP hDs isC isR hC hR hn2 hdis hF.2 hsub hP1 ((hD.sub isC hn1 hC).self (sz := s.heap.size))
    exact ky_sub a hW
theorem rg_l (a b : va_W) : (List.range a.length).map (fun i => (a ++ b)[i]?) = a.map some := by
  refine List.ext_getElem (by simp) (fun i h1 h2 => ?_)
  have h3 : i < a.length := by simpa using h1
  rw [List.getElem_map, List.getElem_range, List.getElem?_append_left h3, List.getElem?_eq_getElem h3, List.getElem_map]
theorem rg_r (a b : va_W) : (List.range' a.length b.length).map (fun i => (a ++ b)[i]?) = b.map some := by
  refine List.ext_getElem (by simp) (fun i h1 h2 => ?_)
  have h3 : i < b.length := by simpa using h1
  rw [List.getElem_map, List.getElem_range', List.getElem?_append_right (by omega), List.getElem_map]
  rw [show a.length + 1 * i - a.length = i by omega, List.getElem?_eq_getElem h3]
theorem rg_nd : ∀ {is : List Nat}, is.Nodup → va_nd is = true
  | [], _ => rfl
  | a :: is, h => by
    obtain ⟨h1, h2⟩ := List.nodup_cons.mp h
    show (decide (a ∉ is) && va_nd is) = true
    rw [rg_nd h2, decide_eq_true h1]
    rfl
theorem rg_dis (a b : Nat) : ((List.range' a b).all fun i => !(List.range a).contains i) = true := by
  rw [List.all_eq_true]
  intro i hi
  have h1 := (List.mem_range'_1.mp hi).1
  have h2 : i ∉ List.range a := fun h => by
    have h3 := List.mem_range.mp h
    omega
  simpa using h2
/-- the parts of a world turned round -/
theorem rot_P {a b : va_W} {H : Heap} (h : va_P D vwCl (a ++ b) H) : va_P D vwCl (b ++ a) H := by
  intro k q hk
  have h1 : q ∈ b ++ a := List.mem_of_getElem? hk
  have h2 : q ∈ a ++ b := List.mem_append.mpr ((List.mem_append.mp h1).symm)
  obtain ⟨i, hi⟩ := List.getElem?_of_mem h2
  exact h i q hi
theorem rot_D {A : Nat → Prop} {a b : va_W} (h : va_D A (a ++ b)) : va_D A (b ++ a) := by
  have ha := h.sub (ws' := a) _ (rg_nd List.nodup_range) (rg_l a b)
  have hb := h.sub (ws' := b) _ (rg_nd (List.nodup_range' (step := 1))) (rg_r a b)
  refine hb.app ha (fun i j p q hi hj e => ?_)
  have hjl : j < a.length := (List.getElem?_eq_some_iff.mp hj).1
  have h1 : (a ++ b)[j]? = some q := by rw [List.getElem?_append_left hjl]; exact hj
  have h2 : (a ++ b)[a.length + i]? = some p := by rw [List.getElem?_append_right (by omega), Nat.add_sub_cancel_left]; exact hi
  have h3 := h.1 _ _ p q h2 h1 e
  omega
section Rows
variable {p : Program} {e : Env} {R : Room} {s : State} {m : MethodId} {args : Array Value} {below : List Frame} {meth : Method} {c : Code} {H : Heap} {locs : List Loc} {cells slots : Nat} {Q : State → Prop}
variable {cc : ByteArray} {pc : Nat} {ls : Array Slot} {rest st0 : List Value} {A : Nat → Prop} {nL index n maxL : Nat} {Ts wsC : List Cond} {own C host : String} {bytes : ByteArray} {ret : Option FieldType} {b : Addr} {As : List Value}
theorem ka_V (S : CallFix p m c cc nL s args Ts own) (hKN : kx D g s) (hZ : ks g A s s.heap) (hP : va_P D vwCl (wc ++ wr) H) (hD : va_D A (wc ++ wr)) (hS : va_S A s.heap H locs) (hA : ∀ q, s.heap.size ≤ q → A q)
    (hM : Met l y wsC rm (va_Pc (.ref b :: As) (pre D g H.size wc)) (va_Qi post (wd D (va_A wc H.size)) (va_A wc H.size)) mc ms (va_A wc H.size)) (cw : CallW R s args own C index y bytes maxL ret wsC rm mc ms n)
    (ci : Nat) {q : vw_C} {fs : List Value} (he : wc[0]? = some (b, .inr (ci, fs))) (hc : vwCl[ci]? = some q) (hq : q.1 = C) (hn : As.length = n) (hsize : ls.size = nL) (hst : st0 = As.reverse ++ .ref b :: rest) (hW : (rest.map fun v => v.category).sum ≤ 8) (hdg : decode cc pc = .ok (.invokevirtual index, 3)) (hf : cells + mc ≤ R.cells ∧ slots + ms ≤ R.slots)
    (kk : ∀ (r : Int32) (u : va_W) (H1 : Heap) (locs1 : List Loc), post r u → va_P D vwCl (wr ++ u) H1 → va_D A (wr ++ u) → va_S A s.heap H1 locs1 → W p l e R s m args below meth c H1 locs1 (cells + mc) (slots + ms) Q (F0 m (pc + 3) ls (.int r :: rest))) : W p l e R s m args below meth c H locs cells slots Q (F0 m pc ls st0) := by
  have h0 : (wc ++ wr)[0]? = some (b, .inr (ci, fs)) := by
    rw [List.getElem?_append_left (List.getElem?_eq_some_iff.mp he).1]
    exact he
  subst hq
  exact ky_Ki S hKN hZ hP hD hS hA (List.range wc.length) (List.range' wc.length wr.length) (rg_l wc wr) (rg_r wc wr) (rg_nd List.nodup_range) (rg_nd (List.nodup_range' (step := 1))) (rg_dis _ _) hM cw (va_recv hKN.1 hP (ci := ci) (q0 := 0) hc h0) hn hsize hst hW hdg hf kk
theorem ka_I (S : CallFix p m c cc nL s args Ts own) (hKN : kx D g s) (hZ : ks g A s s.heap) (hP : va_P D vwCl (wc ++ wr) H) (hD : va_D A (wc ++ wr)) (hS : va_S A s.heap H locs) (hA : ∀ q, s.heap.size ≤ q → A q) {postv : va_W → Prop}
    (hM : Met l y wsC rm (va_Pc (.ref b :: As) (pre D g H.size wc)) (va_Qv postv (wd D (va_A wc H.size)) (va_A wc H.size)) mc ms (va_A wc H.size)) (cw : CallB R s args own index y bytes maxL none wsC rm mc ms n ∧ y.name = "<init>" ∧ (Cond.instanceMethod y).before args s = true)
    (hn : As.length = n) (hsize : ls.size = nL) (hst : st0 = As.reverse ++ .ref b :: rest) (hW : (rest.map fun v => v.category).sum ≤ 8) (hdg : decode cc pc = .ok (.invokespecial index, 3)) (hf : cells + mc ≤ R.cells ∧ slots + ms ≤ R.slots)
    (kk : ∀ (u : va_W) (H1 : Heap) (locs1 : List Loc), postv u → va_P D vwCl (wr ++ u) H1 → va_D A (wr ++ u) → va_S A s.heap H1 locs1 → W p l e R s m args below meth c H1 locs1 (cells + mc) (slots + ms) Q (F0 m (pc + 3) ls rest)) : W p l e R s m args below meth c H locs cells slots Q (F0 m pc ls st0) :=
  ky_Iv S hKN hZ hP hD hS hA (List.range wc.length) (List.range' wc.length wr.length) (rg_l wc wr) (rg_r wc wr) (rg_nd List.nodup_range) (rg_nd (List.nodup_range' (step := 1))) (rg_dis _ _) hM cw hn hsize hst hW hdg hf kk
theorem ka_SW {hh : List (Nat × Nat × Nat × Nat)} (S : CallFix p m c cc nL s args Ts own) (hKN : kx D g s) (hZ : ks g A s s.heap) (hP : va_P D vwCl (wc ++ wr) H) (hD : va_D A (wc ++ wr)) (hS : va_S A s.heap H locs) (hA : ∀ q, s.heap.size ≤ q → A q)
    (hM : Met l y wsC rm (va_Pc As (pre D g H.size wc)) (va_Qi post (wd D (va_A wc H.size)) (va_A wc H.size)) mc ms (va_A wc H.size)) (cw : vx_CSW R s args own index y bytes maxL ret hh wsC rm mc ms n)
    (hn : As.length = n) (hsize : ls.size = nL) (hst : st0 = As.reverse ++ rest) (hW : (rest.map fun v => v.category).sum ≤ 8) (hdg : decode cc pc = .ok (.invokestatic index, 3)) (hf : cells + mc ≤ R.cells ∧ slots + ms ≤ R.slots)
    (kk : ∀ (r : Int32) (u : va_W) (H1 : Heap) (locs1 : List Loc), post r u → va_P D vwCl (wr ++ u) H1 → va_D A (wr ++ u) → va_S A s.heap H1 locs1 → W p l e R s m args below meth c H1 locs1 (cells + mc) (slots + ms) Q (F0 m (pc + 3) ls (.int r :: rest))) : W p l e R s m args below meth c H locs cells slots Q (F0 m pc ls st0) := by
  have hF := va_free (wc := wc) hD hS hA (List.range wc.length) (rg_l wc wr)
  refine va_calli (vx_runSW (As := As) (rest := rest) S hM cw ⟨ky_blind, ky_mk (ky_sub hP (rg_l wc wr)) hKN (hD.sub _ (rg_nd List.nodup_range) (rg_l wc wr)) ((hZ.kept hS.2.1).narrow hF)⟩ rfl hn hsize hst (lv_room hW) hdg hf) hS (fun q _ h => hF q h) hF (fun r u t H1 locs ht hvm hw hB hz1 hk1 hS => ?_)
  obtain ⟨hP1, hD1⟩ := hB
  rw [ht] at hP1
  obtain ⟨a, b⟩ := ky_back hP hD (List.range wc.length) (List.range' wc.length wr.length) (rg_l wc wr) (rg_r wc wr) (rg_nd (List.nodup_range' (step := 1))) (rg_dis _ _) hk1 hF hP1 hD1
  exact kk r u H1 locs hw a b hS
end Rows
theorem turn_P {a b c : va_W} {H : Heap} (h : va_P D vwCl ((a ++ b) ++ c) H) : va_P D vwCl (b ++ (c ++ a)) H := by
  rw [List.append_assoc] at h
  have h1 := rot_P h
  rwa [List.append_assoc] at h1
theorem turn_D {A : Nat → Prop} {a b c : va_W} (h : va_D A ((a ++ b) ++ c)) : va_D A (b ++ (c ++ a)) := by
  rw [List.append_assoc] at h
  have h1 := rot_D h
  rwa [List.append_assoc] at h1
theorem mt_v {Pc : Array Value → State → Prop} {pv pv2 : va_W → Prop} {A1 A2 : Nat → Prop} {free : Addr → Prop} (hM : Met l y wl rm Pc (va_Qv pv (wd D A1) A2) mc ms free)
    (hq : ∀ u, pv u → ∃ (isN : List Nat) (w2 : va_W), pv2 w2 ∧ va_nd isN = true ∧ isN.map (fun i => u[i]?) = w2.map some) : Met l y wl rm Pc (va_Qv pv2 (wd D A1) A2) mc ms free := by
  intro p e ha hcs hk s m args below hfr happ hpre hKK
  obtain ⟨n, o, h1, h2, h3, ⟨⟨u, ho, hp, hw⟩, hF⟩, L, hE, hL⟩ := hM p e ha hcs hk s m args below hfr happ hpre hKK
  obtain ⟨isN, w2, hp2, hn3, hN⟩ := hq u hp
  exact ⟨n, o, h1, h2, h3, ⟨⟨w2, ho, hp2, ky_sub hw.1 hN, hw.2.sub isN hn3 hN⟩, hF⟩, L, hE, hL⟩
end MORE
