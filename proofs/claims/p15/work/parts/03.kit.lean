/-! rows of my own over the kit: what a contract says before and behind, calls with the frame rule in one row, arrays whose class is known -/
section KY
/-- the array classes: 0 int, 1 Link, 2 Lane, 3 Flow, 4 Trips, 5 long -/
abbrev kY (g : Nat → ClassId) : List (ClassId × FieldType) := [(g 0, .int), (g 1, .object "HopCredits$Link"), (g 2, .object "HopCredits$Lane"), (g 3, .object "HopCredits$Flow"), (g 4, .object "HopCredits$Trips"), (g 5, .long)]
/-- what the tables say beside the words: the links within the nest, the classes of the arrays of references -/
def kn (g : Nat → ClassId) (U : State) : Prop := va_Nw (.methodLinkNest RX6 18 yX4_init RX6) U ∧ va_Nw (.methodLinkNest RX6 42 yX5_init RX6) U ∧ va_Nw (.methodLinkNest RX1 43 yX6_reaches RX6) U ∧ va_Nw (.methodLinkNest RX2 27 yX1_init RX6) U ∧ va_Nw (.methodLinkNest RX3 28 yX0_init RX6) U ∧ va_Nw (.methodLinkNest RX4 90 yX6_outside RX6) U ∧ va_AO "HopCredits$Link" U ∧ va_AO "HopCredits$Lane" U ∧ va_AO "HopCredits$Flow" U ∧ va_AO "HopCredits$Trips" U ∧ vk_R RX6 99 "no such HOP" (g 13) U ∧ vk_R RX6 138 "no such CIRCUIT" (g 14) U ∧ va_Nw (.castable "java/util/NoSuchElementException" "java/util/NoSuchElementException") U ∧ vk_R RX4 72 "rapdbegst" (g 15) U
theorem kn.warm {g : Nat → ClassId} {s U : State} (hW : s.WarmedH U.vm) (h : kn g s) : kn g U := by
  obtain ⟨h1, h2, h3, h4, h5, h6, h7, h8, h9, h10, h11, h12, h13, h14⟩ := h
  exact ⟨va_Nw.warmM hW h1, va_Nw.warmM hW h2, va_Nw.warmM hW h3, va_Nw.warmM hW h4, va_Nw.warmM hW h5, va_Nw.warmM hW h6, va_AO.moved hW.alike h7, va_AO.moved hW.alike h8, va_AO.moved hW.alike h9, va_AO.moved hW.alike h10, vk_R.warm hW h11, vk_R.warm hW h12, va_Nw.warmC hW h13, vk_R.warm hW h14⟩
theorem kn.same {g : Nat → ClassId} {u U : State} (hv : u.vm = U.vm) (h : kn g u) : kn g U := by
  obtain ⟨h1, h2, h3, h4, h5, h6, h7, h8, h9, h10, h11, h12, h13, h14⟩ := h
  have ha : u.vm.Alike U.vm := by rw [hv]; exact Vm.Alike.refl _
  exact ⟨va_Nw.same rfl hv h1, va_Nw.same rfl hv h2, va_Nw.same rfl hv h3, va_Nw.same rfl hv h4, va_Nw.same rfl hv h5, va_Nw.same rfl hv h6, va_AO.moved ha h7, va_AO.moved ha h8, va_AO.moved ha h9, va_AO.moved ha h10, vk_R.same hv.symm h11, vk_R.same hv.symm h12, va_Nw.same rfl hv h13, vk_R.same hv.symm h14⟩
/-- the static tables of Reading: USUAL at g 10, LOWS at g 11, HIGHS at g 12 -/
def tU (j : Nat) : Value := .int (([1, 0, 0, 1, 12, 1, 1, 0, 1] : List Int32).getD j 0)
def tLo (j : Nat) : Value := .int (([1, 0, 0, 1, 1, 1, 0, 0, 0] : List Int32).getD j 0)
def tHi (j : Nat) : Value := .int (([4, 20, 9, 4, 30, 4, 9, 20, 9] : List Int32).getD j 0)
def ks (g : Nat → ClassId) (A : Nat → Prop) (U : State) (H : Heap) : Prop := va_Z "HopCredits$Reading" "USUAL" "[I" (.ref (g 10)) A U H ∧ va_T .int (g 10) 9 tU A U H ∧ va_Z "HopCredits$Reading" "LOWS" "[I" (.ref (g 11)) A U H ∧ va_T .int (g 11) 9 tLo A U H ∧ va_Z "HopCredits$Reading" "HIGHS" "[I" (.ref (g 12)) A U H ∧ va_T .int (g 12) 9 tHi A U H ∧ vx_Zq Bundle.tN "UNASSIGNED_STACK" Bundle.steD A U H ∧ vx_Zq Bundle.tN "SUPPRESSED_SENTINEL" Bundle.listD A U H ∧ va_Z "java/lang/String" "COMPACT_STRINGS" "Z" (.int 1) A U H ∧ va_Zq "jdk/internal/util/Preconditions" "SIOOBE_FORMATTER" "Ljava/util/function/BiFunction;" A U H ∧ vk_S 1 [9] [[114, 97, 112, 100, 98, 101, 103, 115, 116]] (fun _ => g 15) (fun _ => g 16) A U H
theorem ks.moved {g : Nat → ClassId} {A : Nat → Prop} {u U : State} {H : Heap} (hvm : u.vm.Alike U.vm) (h : ks g A u H) : ks g A U H := by
  obtain ⟨h1, h2, h3, h4, h5, h6, h7, h8, h9, h10, h11⟩ := h
  exact ⟨va_Z.moved hvm h1, va_T.moved hvm h2, va_Z.moved hvm h3, va_T.moved hvm h4, va_Z.moved hvm h5, va_T.moved hvm h6, vx_Zq.moved hvm h7, vx_Zq.moved hvm h8, va_Z.moved hvm h9, va_Zq.moved hvm h10, vk_S.moved hvm h11⟩
theorem ks.kept {g : Nat → ClassId} {A : Nat → Prop} {U : State} {H H1 : Heap} (h : ks g A U H) (hq : ∀ a : Nat, a < H.size → ¬ A a → H1[a]? = H[a]?) : ks g A U H1 := by
  obtain ⟨h1, h2, h3, h4, h5, h6, h7, h8, h9, h10, h11⟩ := h
  exact ⟨va_Z.kept h1 hq, va_T.kept h2 hq, va_Z.kept h3 hq, va_T.kept h4 hq, va_Z.kept h5 hq, va_T.kept h6 hq, vx_Zq.kept h7 hq, vx_Zq.kept h8 hq, va_Z.kept h9 hq, va_Zq.kept h10 hq, vk_S.kept h11 hq⟩
theorem ks.narrow {g : Nat → ClassId} {A B : Nat → Prop} {U : State} {H : Heap} (h : ks g A U H) (hq : ∀ q, B q → A q) : ks g B U H := by
  obtain ⟨h1, h2, h3, h4, h5, h6, h7, h8, h9, h10, h11⟩ := h
  exact ⟨va_Z.narrow h1 hq, va_T.narrow h2 hq, va_Z.narrow h3 hq, va_T.narrow h4 hq, va_Z.narrow h5 hq, va_T.narrow h6 hq, vx_Zq.narrow h7 hq, vx_Zq.narrow h8 hq, va_Z.narrow h9 hq, va_Zq.narrow h10 hq, vk_S.narrow h11 hq⟩
def kx (D : va_G) (g : Nat → ClassId) (U : State) : Prop := va_K D vwCl (kY g) U ∧ kn g U
def pre (D : va_G) (g : Nat → ClassId) (sz : Nat) (ws : va_W) (U : State) : Prop := U.heap.size = sz ∧ va_P D vwCl ws U.heap ∧ kx D g U ∧ va_D (fun _ => True) ws ∧ ks g (va_A ws sz) U U.heap
def wd (D : va_G) (A : Nat → Prop) (ws : va_W) (t : State) : Prop := va_P D vwCl ws t.heap ∧ va_D A ws
theorem ky_blind {av : List Value} {D : va_G} {g : Nat → ClassId} {sz : Nat} {ws : va_W} : FrameBlind (va_Pc av (pre D g sz ws)) := by
  intro a U g1 mk q
  obtain ⟨q0, q1, qP, ⟨qK, qN⟩, qD, qZ⟩ := q
  exact ⟨q0, q1, qP, ⟨va_K.moved (u := U) (U := U.calling g1 mk a) (Vm.Alike.refl U.vm) qK, kn.same (U := U.calling g1 mk a) rfl qN⟩, qD, ks.moved (u := U) (U := U.calling g1 mk a) (Vm.Alike.refl U.vm) qZ⟩
theorem ky_mk {av : List Value} {D : va_G} {g : Nat → ClassId} {ws : va_W} {H : Heap} {s : State} {A : Nat → Prop} (hP : va_P D vwCl ws H) (hK : kx D g s) (hD : va_D A ws) (hZ : ks g (va_A ws H.size) s H) : ∀ U : State, U.heap = H → s.WarmedH U.vm → va_Pc av (pre D g H.size ws) av.toArray U := fun U hU hW => ⟨rfl, by rw [hU], by rw [hU]; exact hP, ⟨va_K.moved hW.alike hK.1, kn.warm hW hK.2⟩, hD.weaken (fun _ _ _ _ => trivial), by rw [hU]; exact ks.moved hW.alike hZ⟩
/-- both at once, so that the list of cells is written once -/
def PD (D : va_G) (A : Nat → Prop) (ws : va_W) (H : Heap) : Prop := va_P D vwCl ws H ∧ va_D A ws
section Rows
variable {p : Program} {l : Launch} {e : Env} {R : Room} {s : State} {m : MethodId} {args : Array Value} {below : List Frame} {meth : Method} {c : Code} {H : Heap} {locs : List Loc} {cells slots : Nat} {Q : State → Prop}
variable {cc : ByteArray} {pc : Nat} {ls : Array Slot} {rest st0 : List Value} {D : va_G} {A : Nat → Prop} {H0 : Heap} {g : Nat → ClassId} {ws wc wr : va_W}
theorem lv_eqi {x y : Int32} (h : x = y) (k : W p l e R s m args below meth c H locs cells slots Q (F0 m pc ls (.int y :: rest))) : W p l e R s m args below meth c H locs cells slots Q (F0 m pc ls (.int x :: rest)) := h ▸ k
theorem lv_eqv {v v2 : Value} (h : v = v2) (k : W p l e R s m args below meth c H locs cells slots Q (F0 m pc ls (v2 :: rest))) : W p l e R s m args below meth c H locs cells slots Q (F0 m pc ls (v :: rest)) := h ▸ k
theorem ky_newa (hx : p.tables.exec = Jvm.exec) (hb : c.code = cc) (harr : (Cond.arrayClass .int).before args s = true) (hK : va_K D vwCl (kY g) s) (hP : va_P D vwCl ws H) (hD : va_D A ws) (hS : va_S A H0 H locs) (hA : ∀ q, H0.size ≤ q → A q)
    {n : Int32} {N : Nat} (hn : ¬ n < 0) (hN : n.toNatClampNeg = N) (hbytes : N * 4 ≤ 536870912) (hcells : cells + 1 ≤ R.cells) (hslots : slots + N ≤ R.slots) (hdg : decode cc pc = .ok (.newarray .int, 2))
    (kk : ∀ (q : Nat) (H1 : Heap), va_P D vwCl (ws ++ [(q, .inl (g 0, N, .inl (fun _ => 0)))]) H1 → va_D A (ws ++ [(q, .inl (g 0, N, .inl (fun _ => 0)))]) → va_S A H0 H1 locs →
      W p l e R s m args below meth c H1 locs (cells + 1) (slots + N) Q (F0 m (pc + 2) ls (.ref q :: rest))) : W p l e R s m args below meth c H locs cells slots Q (F0 m pc ls (.int n :: rest)) := by
  refine va_newa (atype := .int) (ty := .int) (a0 := (N, .inl (fun _ => 0))) hx hb harr rfl hK hP hD hS hA (fun cA => rfl) hn hN hbytes hcells hslots hdg (fun q cA H1 hK1 hP1 hD1 hS1 => ?_)
  have h0 : s.vm.findClass ("[" ++ FieldType.int.toString) = some (g 0) := (hK.2 0 _ rfl).2
  have h1 : s.vm.findClass ("[" ++ FieldType.int.toString) = some cA := (hK1.2 6 (cA, .int) rfl).2
  have he : cA = g 0 := Option.some.inj (h1.symm.trans h0)
  subst he
  exact kk q H1 hP1 hD1 hS1
theorem ky_newq {C : String} {own : String} {index t0 : Nat} (hx : p.tables.exec = Jvm.exec) (hb : c.code = cc) (hown : s.vm.findClass own = some m.cls) (hcl : (Cond.classLink own index C).before args s = true) (hAO : va_AO C s) (ht : (kY g)[t0]? = some (g t0, .object C)) (hK : va_K D vwCl (kY g) s) (hP : va_P D vwCl ws H) (hD : va_D A ws) (hS : va_S A H0 H locs) (hA : ∀ q, H0.size ≤ q → A q)
    {n : Int32} {N : Nat} (hn : ¬ n < 0) (hN : n.toNatClampNeg = N) (hbytes : N * 4 ≤ 536870912) (hcells : cells + 1 ≤ R.cells) (hslots : slots + N ≤ R.slots) (hdg : decode cc pc = .ok (.anewarray index, 3))
    (kk : ∀ (q : Nat) (H1 : Heap), va_P D vwCl (ws ++ [(q, .inl (g t0, N, .inr (.inr (.inr (.inr (fun _ => none))))))]) H1 → va_D A (ws ++ [(q, .inl (g t0, N, .inr (.inr (.inr (.inr (fun _ => none))))))]) → va_S A H0 H1 locs →
      W p l e R s m args below meth c H1 locs (cells + 1) (slots + N) Q (F0 m (pc + 3) ls (.ref q :: rest))) : W p l e R s m args below meth c H locs cells slots Q (F0 m pc ls (.int n :: rest)) := by
  refine va_newq hx hb hown hcl hAO hK hP hD hS hA hn hN hbytes hcells hslots hdg (fun q cA H1 hK1 hP1 hD1 hS1 => ?_)
  obtain ⟨-, -, -, -, -, h0⟩ := (hK.2 t0 _ ht).2
  obtain ⟨-, -, -, -, -, h1⟩ := (hK1.2 6 (cA, .object C) rfl).2
  have he : cA = g t0 := Option.some.inj (h1.symm.trans h0)
  subst he
  exact kk q H1 hP1 hD1 hS1
/-- behind a call: what came back beside the rest -/
theorem ky_back (hP : va_P D vwCl ws H) (hD : va_D A ws) (isC isR : List Nat) (hC : isC.map (fun i => ws[i]?) = wc.map some) (hR : isR.map (fun i => ws[i]?) = wr.map some) (hn2 : va_nd isR = true) (hdis : (isR.all fun i => !isC.contains i) = true) {H1 : Heap} {w1 : va_W} (hk : ∀ q : Nat, q < H.size → ¬ va_A wc H.size q → H1[q]? = H[q]?) (hF : ∀ q, va_A wc H.size q → A q) (hP1 : va_P D vwCl w1 H1) (hD1 : va_D (va_A wc H.size) w1) : va_P D vwCl (wr ++ w1) H1 ∧ va_D A (wr ++ w1) :=
  va_join hP hD isC isR hC hR hn2 (fun i hi hc => by have h1 := List.all_eq_true.mp hdis i hi; simp at h1; exact h1 hc) hk hF hP1 hD1
theorem ky_sub (hP : va_P D vwCl ws H) {isC : List Nat} (hC : isC.map (fun i => ws[i]?) = wc.map some) : va_P D vwCl wc H := by
  refine hP.sub isC ?_
  rw [show isC.filterMap (fun i => ws[i]?) = (isC.map (fun i => ws[i]?)).filterMap id by rw [List.filterMap_map]; rfl, hC, List.filterMap_map]
  exact List.filterMap_some
variable {nL index n maxL mc ms : Nat} {Ts wsC : List Cond} {own C host : String} {y : MethodName} {bytes : ByteArray} {ret : Option FieldType} {rm : Room} {b : Addr} {As : List Value}
theorem ky_Vi (S : CallFix p m c cc nL s args Ts own) (hKN : kx D g s) (hZ : ks g A s s.heap) (hP : va_P D vwCl ws H) (hD : va_D A ws) (hS : va_S A s.heap H locs) (hA : ∀ q, s.heap.size ≤ q → A q) (isC isR : List Nat) (hC : isC.map (fun i => ws[i]?) = wc.map some) (hR : isR.map (fun i => ws[i]?) = wr.map some) (hn1 : va_nd isC = true) (hn2 : va_nd isR = true) (hdis : (isR.all fun i => !isC.contains i) = true) {post : Int32 → va_W → Prop}
    (hM : Met l y wsC rm (va_Pc (.ref b :: As) (pre D g H.size wc)) (va_Qi post (wd D (va_A wc H.size)) (va_A wc H.size)) mc ms (va_A wc H.size)) (cw : CallW R s args own C index y bytes maxL ret wsC rm mc ms n)
    (q0 ci : Nat) {q : vw_C} {fs : List Value} (he : ws[q0]? = some (b, .inr (ci, fs))) (hc : vwCl[ci]? = some q) (hq : q.1 = C) (hn : As.length = n) (hsize : ls.size = nL) (hst : st0 = As.reverse ++ .ref b :: rest) (hW : (rest.map fun v => v.category).sum ≤ 8) (hdg : decode cc pc = .ok (.invokevirtual index, 3)) (hf : cells + mc ≤ R.cells ∧ slots + ms ≤ R.slots)
    (kk : ∀ (r : Int32) (u : va_W) (H1 : Heap) (locs1 : List Loc), post r u → va_P D vwCl (wr ++ u) H1 → va_D A (wr ++ u) → va_S A s.heap H1 locs1 → W p l e R s m args below meth c H1 locs1 (cells + mc) (slots + ms) Q (F0 m (pc + 3) ls (.int r :: rest))) : W p l e R s m args below meth c H locs cells slots Q (F0 m pc ls st0) := by
  subst hq
  have hF := va_free (wc := wc) hD hS hA isC hC
  have hPc := ky_sub hP hC
  have hDc := hD.sub isC hn1 hC
  refine va_calli (va_runV (As := As) (rest := rest) S hM cw ⟨ky_blind, va_recv hKN.1 hP (ci := ci) (q0 := q0) hc he, ky_mk hPc hKN hDc ((hZ.kept hS.2.1).narrow hF)⟩ rfl hn hsize hst (lv_room hW) hdg hf) hS (fun q _ h => hF q h) hF (fun r u t H1 locs ht hvm hw hB hz1 hk1 hS => ?_)
  obtain ⟨hP1, hD1⟩ := hB
  rw [ht] at hP1
  obtain ⟨a, b⟩ := ky_back hP hD isC isR hC hR hn2 hdis hk1 hF hP1 hD1
  exact kk r u H1 locs hw a b hS
theorem ky_Ki (S : CallFix p m c cc nL s args Ts own) (hKN : kx D g s) (hZ : ks g A s s.heap) (hP : va_P D vwCl ws H) (hD : va_D A ws) (hS : va_S A s.heap H locs) (hA : ∀ q, s.heap.size ≤ q → A q) (isC isR : List Nat) (hC : isC.map (fun i => ws[i]?) = wc.map some) (hR : isR.map (fun i => ws[i]?) = wr.map some) (hn1 : va_nd isC = true) (hn2 : va_nd isR = true) (hdis : (isR.all fun i => !isC.contains i) = true) {post : Int32 → va_W → Prop}
    (hM : Met l y wsC rm (va_Pc (.ref b :: As) (pre D g H.size wc)) (va_Qi post (wd D (va_A wc H.size)) (va_A wc H.size)) mc ms (va_A wc H.size)) (cw : CallW R s args own C index y bytes maxL ret wsC rm mc ms n)
    (hrc : ∃ cell : Cell, H[b]? = some cell ∧ cell.vm.isStatics = false ∧ s.vm.findClass C = some cell.cls) (hn : As.length = n) (hsize : ls.size = nL) (hst : st0 = As.reverse ++ .ref b :: rest) (hW : (rest.map fun v => v.category).sum ≤ 8) (hdg : decode cc pc = .ok (.invokevirtual index, 3)) (hf : cells + mc ≤ R.cells ∧ slots + ms ≤ R.slots)
    (kk : ∀ (r : Int32) (u : va_W) (H1 : Heap) (locs1 : List Loc), post r u → va_P D vwCl (wr ++ u) H1 → va_D A (wr ++ u) → va_S A s.heap H1 locs1 → W p l e R s m args below meth c H1 locs1 (cells + mc) (slots + ms) Q (F0 m (pc + 3) ls (.int r :: rest))) : W p l e R s m args below meth c H locs cells slots Q (F0 m pc ls st0) := by
  have hF := va_free (wc := wc) hD hS hA isC hC
  have hPc := ky_sub hP hC
  have hDc := hD.sub isC hn1 hC
  refine va_calli (va_runV (As := As) (rest := rest) S hM cw ⟨ky_blind, hrc, ky_mk hPc hKN hDc ((hZ.kept hS.2.1).narrow hF)⟩ rfl hn hsize hst (lv_room hW) hdg hf) hS (fun q _ h => hF q h) hF (fun r u t H1 locs ht hvm hw hB hz1 hk1 hS => ?_)
  obtain ⟨hP1, hD1⟩ := hB
  rw [ht] at hP1
  obtain ⟨a, b⟩ := ky_back hP hD isC isR hC hR hn2 hdis hk1 hF hP1 hD1
  exact kk r u H1 locs hw a b hS
theorem ky_Vv (S : CallFix p m c cc nL s args Ts own) (hKN : kx D g s) (hZ : ks g A s s.heap) (hP : va_P D vwCl ws H) (hD : va_D A ws) (hS : va_S A s.heap H locs) (hA : ∀ q, s.heap.size ≤ q → A q) (isC isR : List Nat) (hC : isC.map (fun i => ws[i]?) = wc.map some) (hR : isR.map (fun i => ws[i]?) = wr.map some) (hn1 : va_nd isC = true) (hn2 : va_nd isR = true) (hdis : (isR.all fun i => !isC.contains i) = true) {post : va_W → Prop}
    (hM : Met l y wsC rm (va_Pc (.ref b :: As) (pre D g H.size wc)) (va_Qv post (wd D (va_A wc H.size)) (va_A wc H.size)) mc ms (va_A wc H.size)) (cw : CallW R s args own C index y bytes maxL ret wsC rm mc ms n)
    (q0 ci : Nat) {q : vw_C} {fs : List Value} (he : ws[q0]? = some (b, .inr (ci, fs))) (hc : vwCl[ci]? = some q) (hq : q.1 = C) (hn : As.length = n) (hsize : ls.size = nL) (hst : st0 = As.reverse ++ .ref b :: rest) (hW : (rest.map fun v => v.category).sum ≤ 8) (hdg : decode cc pc = .ok (.invokevirtual index, 3)) (hf : cells + mc ≤ R.cells ∧ slots + ms ≤ R.slots)
    (kk : ∀ (u : va_W) (H1 : Heap) (locs1 : List Loc), post u → va_P D vwCl (wr ++ u) H1 → va_D A (wr ++ u) → va_S A s.heap H1 locs1 → W p l e R s m args below meth c H1 locs1 (cells + mc) (slots + ms) Q (F0 m (pc + 3) ls rest)) : W p l e R s m args below meth c H locs cells slots Q (F0 m pc ls st0) := by
  subst hq
  have hF := va_free (wc := wc) hD hS hA isC hC
  have hPc := ky_sub hP hC
  have hDc := hD.sub isC hn1 hC
  refine va_callv (va_runV (As := As) (rest := rest) S hM cw ⟨ky_blind, va_recv hKN.1 hP (ci := ci) (q0 := q0) hc he, ky_mk hPc hKN hDc ((hZ.kept hS.2.1).narrow hF)⟩ rfl hn hsize hst (lv_room hW) hdg hf) hS (fun q _ h => hF q h) hF (fun u t H1 locs ht hvm hw hB hz1 hk1 hS => ?_)
  obtain ⟨hP1, hD1⟩ := hB
  rw [ht] at hP1
  obtain ⟨a, b⟩ := ky_back hP hD isC isR hC hR hn2 hdis hk1 hF hP1 hD1
  exact kk u H1 locs hw a b hS
theorem ky_Si (S : CallFix p m c cc nL s args Ts own) (hKN : kx D g s) (hZ : ks g A s s.heap) (hP : va_P D vwCl ws H) (hD : va_D A ws) (hS : va_S A s.heap H locs) (hA : ∀ q, s.heap.size ≤ q → A q) (isC isR : List Nat) (hC : isC.map (fun i => ws[i]?) = wc.map some) (hR : isR.map (fun i => ws[i]?) = wr.map some) (hn1 : va_nd isC = true) (hn2 : va_nd isR = true) (hdis : (isR.all fun i => !isC.contains i) = true) {post : Int32 → va_W → Prop}
    (hM : Met l y wsC rm (va_Pc As (pre D g H.size wc)) (va_Qi post (wd D (va_A wc H.size)) (va_A wc H.size)) mc ms (va_A wc H.size)) (cw : CallB R s args own index y bytes maxL ret wsC rm mc ms n ∧ (Cond.static y).before args s = true)
    (hn : As.length = n) (hsize : ls.size = nL) (hst : st0 = As.reverse ++ rest) (hW : (rest.map fun v => v.category).sum ≤ 8) (hdg : decode cc pc = .ok (.invokestatic index, 3)) (hf : cells + mc ≤ R.cells ∧ slots + ms ≤ R.slots)
    (kk : ∀ (r : Int32) (u : va_W) (H1 : Heap) (locs1 : List Loc), post r u → va_P D vwCl (wr ++ u) H1 → va_D A (wr ++ u) → va_S A s.heap H1 locs1 → W p l e R s m args below meth c H1 locs1 (cells + mc) (slots + ms) Q (F0 m (pc + 3) ls (.int r :: rest))) : W p l e R s m args below meth c H locs cells slots Q (F0 m pc ls st0) := by
  have hF := va_free (wc := wc) hD hS hA isC hC
  have hPc := ky_sub hP hC
  have hDc := hD.sub isC hn1 hC
  refine va_calli (va_runS (As := As) (rest := rest) S hM cw ⟨ky_blind, ky_mk hPc hKN hDc ((hZ.kept hS.2.1).narrow hF)⟩ rfl hn hsize hst (lv_room hW) hdg hf) hS (fun q _ h => hF q h) hF (fun r u t H1 locs ht hvm hw hB hz1 hk1 hS => ?_)
  obtain ⟨hP1, hD1⟩ := hB
  rw [ht] at hP1
  obtain ⟨a, b⟩ := ky_back hP hD isC isR hC hR hn2 hdis hk1 hF hP1 hD1
  exact kk r u H1 locs hw a b hS
theorem ky_SNi (S : CallFix p m c cc nL s args Ts own) (hKN : kx D g s) (hZ : ks g A s s.heap) (hP : va_P D vwCl ws H) (hD : va_D A ws) (hS : va_S A s.heap H locs) (hA : ∀ q, s.heap.size ≤ q → A q) (isC isR : List Nat) (hC : isC.map (fun i => ws[i]?) = wc.map some) (hR : isR.map (fun i => ws[i]?) = wr.map some) (hn1 : va_nd isC = true) (hn2 : va_nd isR = true) (hdis : (isR.all fun i => !isC.contains i) = true) {post : Int32 → va_W → Prop}
    (hM : Met l y wsC rm (va_Pc As (pre D g H.size wc)) (va_Qi post (wd D (va_A wc H.size)) (va_A wc H.size)) mc ms (va_A wc H.size)) (cw : va_CN R s args own index y host bytes maxL ret wsC rm mc ms n ∧ (Cond.static y).before args s = true ∧ True)
    (hn : As.length = n) (hsize : ls.size = nL) (hst : st0 = As.reverse ++ rest) (hW : (rest.map fun v => v.category).sum ≤ 8) (hdg : decode cc pc = .ok (.invokestatic index, 3)) (hf : cells + mc ≤ R.cells ∧ slots + ms ≤ R.slots)
    (kk : ∀ (r : Int32) (u : va_W) (H1 : Heap) (locs1 : List Loc), post r u → va_P D vwCl (wr ++ u) H1 → va_D A (wr ++ u) → va_S A s.heap H1 locs1 → W p l e R s m args below meth c H1 locs1 (cells + mc) (slots + ms) Q (F0 m (pc + 3) ls (.int r :: rest))) : W p l e R s m args below meth c H locs cells slots Q (F0 m pc ls st0) := by
  have hF := va_free (wc := wc) hD hS hA isC hC
  have hPc := ky_sub hP hC
  have hDc := hD.sub isC hn1 hC
  refine va_calli (va_runSN (As := As) (rest := rest) S hM cw ⟨ky_blind, ky_mk hPc hKN hDc ((hZ.kept hS.2.1).narrow hF)⟩ rfl hn hsize hst (lv_room hW) hdg hf) hS (fun q _ h => hF q h) hF (fun r u t H1 locs ht hvm hw hB hz1 hk1 hS => ?_)
  obtain ⟨hP1, hD1⟩ := hB
  rw [ht] at hP1
  obtain ⟨a, b⟩ := ky_back hP hD isC isR hC hR hn2 hdis hk1 hF hP1 hD1
  exact kk r u H1 locs hw a b hS
theorem ky_Iv (S : CallFix p m c cc nL s args Ts own) (hKN : kx D g s) (hZ : ks g A s s.heap) (hP : va_P D vwCl ws H) (hD : va_D A ws) (hS : va_S A s.heap H locs) (hA : ∀ q, s.heap.size ≤ q → A q) (isC isR : List Nat) (hC : isC.map (fun i => ws[i]?) = wc.map some) (hR : isR.map (fun i => ws[i]?) = wr.map some) (hn1 : va_nd isC = true) (hn2 : va_nd isR = true) (hdis : (isR.all fun i => !isC.contains i) = true) {post : va_W → Prop}
    (hM : Met l y wsC rm (va_Pc (.ref b :: As) (pre D g H.size wc)) (va_Qv post (wd D (va_A wc H.size)) (va_A wc H.size)) mc ms (va_A wc H.size)) (cw : CallB R s args own index y bytes maxL none wsC rm mc ms n ∧ y.name = "<init>" ∧ (Cond.instanceMethod y).before args s = true)
    (hn : As.length = n) (hsize : ls.size = nL) (hst : st0 = As.reverse ++ .ref b :: rest) (hW : (rest.map fun v => v.category).sum ≤ 8) (hdg : decode cc pc = .ok (.invokespecial index, 3)) (hf : cells + mc ≤ R.cells ∧ slots + ms ≤ R.slots)
    (kk : ∀ (u : va_W) (H1 : Heap) (locs1 : List Loc), post u → va_P D vwCl (wr ++ u) H1 → va_D A (wr ++ u) → va_S A s.heap H1 locs1 → W p l e R s m args below meth c H1 locs1 (cells + mc) (slots + ms) Q (F0 m (pc + 3) ls rest)) : W p l e R s m args below meth c H locs cells slots Q (F0 m pc ls st0) := by
  have hF := va_free (wc := wc) hD hS hA isC hC
  have hPc := ky_sub hP hC
  have hDc := hD.sub isC hn1 hC
  refine va_callv (va_runI (As := As) (rest := rest) S hM cw ⟨ky_blind, ky_mk hPc hKN hDc ((hZ.kept hS.2.1).narrow hF)⟩ rfl hn hsize hst (lv_room hW) hdg hf) hS (fun q _ h => hF q h) hF (fun u t H1 locs ht hvm hw hB hz1 hk1 hS => ?_)
  obtain ⟨hP1, hD1⟩ := hB
  rw [ht] at hP1
  obtain ⟨a, b⟩ := ky_back hP hD isC isR hC hR hn2 hdis hk1 hF hP1 hD1
  exact kk u H1 locs hw a b hS
theorem ky_INv (S : CallFix p m c cc nL s args Ts own) (hKN : kx D g s) (hZ : ks g A s s.heap) (hP : va_P D vwCl ws H) (hD : va_D A ws) (hS : va_S A s.heap H locs) (hA : ∀ q, s.heap.size ≤ q → A q) (isC isR : List Nat) (hC : isC.map (fun i => ws[i]?) = wc.map some) (hR : isR.map (fun i => ws[i]?) = wr.map some) (hn1 : va_nd isC = true) (hn2 : va_nd isR = true) (hdis : (isR.all fun i => !isC.contains i) = true) {post : va_W → Prop}
    (hM : Met l y wsC rm (va_Pc (.ref b :: As) (pre D g H.size wc)) (va_Qv post (wd D (va_A wc H.size)) (va_A wc H.size)) mc ms (va_A wc H.size)) (cw : va_CN R s args own index y host bytes maxL none wsC rm mc ms n ∧ y.name = "<init>" ∧ (Cond.instanceMethod y).before args s = true)
    (hn : As.length = n) (hsize : ls.size = nL) (hst : st0 = As.reverse ++ .ref b :: rest) (hW : (rest.map fun v => v.category).sum ≤ 8) (hdg : decode cc pc = .ok (.invokespecial index, 3)) (hf : cells + mc ≤ R.cells ∧ slots + ms ≤ R.slots)
    (kk : ∀ (u : va_W) (H1 : Heap) (locs1 : List Loc), post u → va_P D vwCl (wr ++ u) H1 → va_D A (wr ++ u) → va_S A s.heap H1 locs1 → W p l e R s m args below meth c H1 locs1 (cells + mc) (slots + ms) Q (F0 m (pc + 3) ls rest)) : W p l e R s m args below meth c H locs cells slots Q (F0 m pc ls st0) := by
  have hF := va_free (wc := wc) hD hS hA isC hC
  have hPc := ky_sub hP hC
  have hDc := hD.sub isC hn1 hC
  refine va_callv (va_runIN (As := As) (rest := rest) S hM cw ⟨ky_blind, ky_mk hPc hKN hDc ((hZ.kept hS.2.1).narrow hF)⟩ rfl hn hsize hst (lv_room hW) hdg hf) hS (fun q _ h => hF q h) hF (fun u t H1 locs ht hvm hw hB hz1 hk1 hS => ?_)
  obtain ⟨hP1, hD1⟩ := hB
  rw [ht] at hP1
  obtain ⟨a, b⟩ := ky_back hP hD isC isR hC hR hn2 hdis hk1 hF hP1 hD1
  exact kk u H1 locs hw a b hS
end Rows
/-- a row of three references -/
def rf3 (a b c : Nat) : Nat → Option Nat := fun k => match k with
  | 0 => some a
  | 1 => some b
  | 2 => some c
  | _ => none
theorem rf3_of (a b c : Nat) : va_up (va_up (va_up (fun _ => none) 0 (some a)) 1 (some b)) 2 (some c) = rf3 a b c := by
  funext k
  match k with
  | 0 => rfl
  | 1 => rfl
  | 2 => rfl
  | k + 3 => simp [va_up, rf3]
end KY
