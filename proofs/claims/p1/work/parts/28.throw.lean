def wsX6_hopx : List Cond := .code yX6_hop cX6_hop 4 (some .int) :: ((wsX6_hop_r1 ++ wsX6_hop_r2) ++ wsX60 ++ wsX30 ++ wsX20 ++ oxG)
def wsX6_circuitx : List Cond := .code yX6_circuit cX6_circuit 4 (some .int) :: ((wsX6_circuit_r1 ++ wsX6_circuit_r2) ++ wsX60 ++ wsX30 ++ wsX00 ++ wsX20 ++ oxG)
def wsL_hopx : List Cond := .codeWith yL_hop cL_hop 5 (some .int) [(0, 10, 13, 13)] :: ((wsL_hop_r1 ++ wsL_hop_r2) ++ wsX60 ++ wsX30 ++ wsX20 ++ oxG)
def wsL_circuitx : List Cond := .codeWith yL_circuit cL_circuit 5 (some .int) [(0, 10, 13, 13)] :: ((wsL_circuit_r1 ++ wsL_circuit_r2) ++ wsX60 ++ wsX30 ++ wsX00 ++ wsX20 ++ oxG)
set_option maxRecDepth 20000 in
theorem ggX6_hopx_X6_isHop : GoodIn wsX6_hopx wsX6_isHop := goodIn_r _ [14, 15, 3, 16, 36, 37, 38, 39, 40, 41, 42, 43, 44, 45, 46, 47, 48, 49, 50, 51, 52, 53, 54, 55] (by decide +kernel) (by decide +kernel)
set_option maxRecDepth 20000 in
theorem gX6_hopx_X6_isHop : GoodIn wsX6_hopx (wsV RX6 93 RX6 yX6_isHop wsX6_isHop) := goodIn_app (goodIn_of _ (by decide +kernel)) ggX6_hopx_X6_isHop
set_option maxRecDepth 20000 in
theorem ggX6_circuitx_X6_isCircuit : GoodIn wsX6_circuitx wsX6_isCircuit := goodIn_r _ [15, 16, 3, 17, 39, 40, 41, 42, 43, 44, 45, 46, 47, 48, 49, 50, 51, 52, 53, 54, 55, 56, 57, 58] (by decide +kernel) (by decide +kernel)
set_option maxRecDepth 20000 in
theorem gX6_circuitx_X6_isCircuit : GoodIn wsX6_circuitx (wsV RX6 135 RX6 yX6_isCircuit wsX6_isCircuit) := goodIn_app (goodIn_of _ (by decide +kernel)) ggX6_circuitx_X6_isCircuit
set_option maxRecDepth 20000 in
theorem ggL_hopx_X6_hopx : GoodIn wsL_hopx wsX6_hopx := goodIn_ca (goodIn_r _ [6, 7, 8, 9, 10, 11, 12, 13, 14, 15, 16, 17, 18, 5, 19, 20, 21, 22, 23, 24, 25, 26, 27, 28, 29, 30, 31, 32, 33, 34, 35, 36, 37, 38, 39, 40, 41, 42, 43, 44, 45, 46, 47, 48, 49, 50, 51, 52, 53, 54, 55, 56, 57, 58, 59, 60, 61, 62, 63, 64, 65, 66, 67, 68, 69, 70] (by decide +kernel) (by decide +kernel)) (goodIn_sub (fun _ h => List.mem_cons_of_mem _ (List.mem_append_right _ h)) (by decide +kernel))
set_option maxRecDepth 20000 in
theorem gL_hopx_X6_hopx : GoodIn wsL_hopx (wsV RL 7 RX6 yX6_hop wsX6_hopx) := goodIn_app (goodIn_of _ (by decide +kernel)) ggL_hopx_X6_hopx
set_option maxRecDepth 20000 in
theorem ggL_circuitx_X6_circuitx : GoodIn wsL_circuitx wsX6_circuitx := goodIn_ca (goodIn_r _ [6, 7, 8, 9, 10, 11, 12, 13, 14, 15, 16, 17, 18, 19, 5, 20, 21, 22, 23, 24, 25, 26, 27, 28, 29, 30, 31, 32, 33, 34, 35, 36, 37, 38, 39, 40, 41, 42, 43, 44, 45, 46, 47, 48, 49, 50, 51, 52, 53, 54, 55, 56, 57, 58, 59, 60, 61, 62, 63, 64, 65, 66, 67, 68, 69, 70, 71, 72, 73, 74, 75, 76, 77, 78, 79, 80, 81] (by decide +kernel) (by decide +kernel)) (goodIn_sub (fun _ h => List.mem_cons_of_mem _ (List.mem_append_right _ h)) (by decide +kernel))
set_option maxRecDepth 20000 in
theorem gL_circuitx_X6_circuitx : GoodIn wsL_circuitx (wsV RL 15 RX6 yX6_circuit wsX6_circuitx) := goodIn_app (goodIn_of _ (by decide +kernel)) ggL_circuitx_X6_circuitx
theorem decl_of {args : Array Value} {s : State} {x : MethodName} {b : ByteArray} {n : Nat} {r : Option FieldType} (h1 : (Cond.instanceMethod x).before args s = true) (h2 : (Cond.code x b n r).before args s = true) : (Cond.declares x).before args s = true := by
  obtain ⟨m, meth, hn, hm, hst, -⟩ := Cond.instanceMethod_spec (show (Cond.instanceMethod x).holds args s none s [] = true from h1)
  obtain ⟨meth', c, hm', -, -, -, -, -, -, hp⟩ := Cond.code_spec hn (show (Cond.code x b n r).holds args s none s [] = true from h2)
  cases Option.some.inj (hm.symm.trans hm')
  show ((Cond.declares x).holds args s none s []) = true
  simp [Cond.holds, Cond.value, hn, hm, hst, hp]
set_option maxHeartbeats 4000000 in
set_option maxRecDepth 100000 in
theorem c_X6_hop (l : Launch) (hl9 : l.stackTraces = false) (D : va_G) (g : Nat → ClassId) (sz : Nat) (x : Nat) (xt : Nat) (tl : Int32) (xr : Nat) (xd : Nat) (xn : Nat) (xa : Nat) (xs : Nat) (xy : Nat) (p0 : Int32) (p1 : Int32) : vx_Met l yX6_hop wsX6_hopx ({ frames := 6, cells := 1, slots := 6, locals := 90 }) (va_Pc [.ref x, .int p0, .int p1] (pre D g sz [(x, .inr (6, [.ref xt, .int tl, .ref xr, .ref xd, .ref xn, .ref xa, .ref xs, .ref xy, .int 0]))])) (va_Qi (fun (r : Int32) (u : va_W) => False) (wd D (va_A [(x, .inr (6, [.ref xt, .int tl, .ref xr, .ref xd, .ref xn, .ref xa, .ref xs, .ref xy, .int 0]))] sz)) (va_A [(x, .inr (6, [.ref xt, .int tl, .ref xr, .ref xd, .ref xn, .ref xa, .ref xs, .ref xy, .int 0]))] sz)) (vx_X (fun (_ : Unit) => True) (fun E _ t => E = "java/util/NoSuchElementException" ∧ va_P D vwCl [(x, .inr (6, [.ref xt, .int tl, .ref xr, .ref xd, .ref xn, .ref xa, .ref xs, .ref xy, .int 0]))] t.heap) (va_A [(x, .inr (6, [.ref xt, .int tl, .ref xr, .ref xd, .ref xn, .ref xa, .ref xs, .ref xy, .int 0]))] sz)) 1 6 (va_A [(x, .inr (6, [.ref xt, .int tl, .ref xr, .ref xd, .ref xn, .ref xa, .ref xs, .ref xy, .int 0]))] sz) := by
  refine vx_ofW (cc := cX6_hop) (maxL := 4) (ret := (some .int)) (by decide) rfl ?_
  intro p e s m args below meth c s₁ B hml hte hv
  obtain ⟨rfl, hsz, hP, ⟨hK, hN⟩, hD0, hZ⟩ := hv
  have hx := B.exec
  have hb := B.bytes
  have hr := B.returns
  have hts := atoms_spec (ws := wsX6_hopx) B.pre
  have hown : s.vm.findClass RX6 = some m.cls := findClass_of_methodNamed B.named
  have hlocks := B.notSynchronized
  clear B
  subst hsz
  have hD := hD0.self (sz := s.heap.size)
  clear hD0
  generalize hAe : va_A [(x, .inr (6, [.ref xt, .int tl, .ref xr, .ref xd, .ref xn, .ref xa, .ref xs, .ref xy, .int 0]))] s.heap.size = A at hD hZ ⊢
  have hA : ∀ q : Nat, s.heap.size ≤ q → A q := fun q h => by rw [← hAe]; exact Or.inr h
  have hS : va_S A s.heap s.heap [] := va_S.rf
  have cl97 := hts (.classLink RX6 97 "java/util/NoSuchElementException") (by decide +kernel)
  have iiE := hts (.initialized "java/util/NoSuchElementException") (by decide +kernel)
  have hl := lv_entry ([.ref x, .int p0, .int p1]) (n := 4) (Nat.le_of_ble_eq_true rfl)
  rw [lg_entry_eq]
  generalize (lg_sl ([.ref x, .int p0, .int p1]) ++ List.replicate (4 - (lg_sl ([.ref x, .int p0, .int p1])).length) Slot.unset).toArray = ls at hl ⊢
  have hl : lv_has ls 4 [(0, .ref x), (1, .int p0), (2, .int p1)] := hl
  generalize hQ : vx_MQ below _ _ _ s _ _ _ = Q
  generalize hH : s.heap = H at hP ⊢
  have hS : va_S A s.heap H [] := by rw [← hH]; exact hS
  clear hH
  refine lv_aload_n hx hb dX6_hop_0 rfl (lv_at hl 0 rfl) ?_
  refine lv_iload_n hx hb dX6_hop_1 rfl (lv_at hl 1 rfl) ?_
  refine ky_Vi (As := [.int p0]) (rest := []) ⟨hx, hb, hml, hown, hts⟩ ⟨hK, hN⟩ hZ hP hD hS hA [0] [] (wc := [(x, .inr (6, [.ref xt, .int tl, .ref xr, .ref xd, .ref xn, .ref xa, .ref xs, .ref xy, .int 0]))]) (wr := []) rfl rfl rfl rfl (by decide) (c_X6_isHop l D g H.size x xt tl xr xd xn xa xs xy p0) (cwV 1 hts gX6_hopx_X6_isHop rfl rfl rfl (by decide +kernel) ⟨(Nat.le_of_ble_eq_true rfl), (Nat.le_of_ble_eq_true rfl)⟩) 0 6 rfl rfl rfl rfl hl.1 rfl (Nat.le_of_ble_eq_true rfl) dX6_hop_2 ⟨(Nat.le_of_ble_eq_true rfl), (Nat.le_of_ble_eq_true rfl)⟩ (fun r_1 u H locs hw hP hD hS => ?_)
  obtain ⟨rfl, rfl⟩ := hw
  have hP : va_P D vwCl [(x, .inr (6, [.ref xt, .int tl, .ref xr, .ref xd, .ref xn, .ref xa, .ref xs, .ref xy, .int 0]))] H := hP
  have hD : va_D A [(x, .inr (6, [.ref xt, .int tl, .ref xr, .ref xd, .ref xn, .ref xa, .ref xs, .ref xy, .int 0]))] := hD
  refine W.widen (k := 0) (n := 0) (Nat.le_of_ble_eq_true rfl) (Nat.le_of_ble_eq_true rfl) ?_
  refine lv_if_eq (tgt := 18) hx hb dX6_hop_5 (by decide) (fun _ => ?_) (fun cb => absurd (by decide) cb)
  have hgw : ∀ w ∈ oxG, w.before _ s = true := fun w h => hts w (List.mem_cons_of_mem _ (List.mem_append_right _ h))
  have dR := decl_of (hgw (.instanceMethod (Bundle.initS "java/lang/RuntimeException")) (by decide +kernel)) (hgw (.code (Bundle.initS "java/lang/RuntimeException") Bundle.six 2 none) (by decide +kernel))
  have dE := decl_of (hgw (.instanceMethod (Bundle.initS "java/lang/Exception")) (by decide +kernel)) (hgw (.code (Bundle.initS "java/lang/Exception") Bundle.six 2 none) (by decide +kernel))
  have dT := decl_of (hgw (.instanceMethod (Bundle.initS Bundle.tN)) (by decide +kernel)) (hgw (.code (Bundle.initS Bundle.tN) LibCode.Throwable.InitS.code 2 none) (by decide +kernel))
  have hat := vx_hat (L := oxW) (B := [.castable "java/util/NoSuchElementException" "java/util/NoSuchElementException", .declares (Bundle.initS "java/lang/RuntimeException"), .declares (Bundle.initS "java/lang/Exception"), .declares (Bundle.initS Bundle.tN)]) hgw (by decide +kernel) (vx_c (va_Nw.use rfl hN.2.2.2.2.2.2.2.2.2.2.2.2) (vx_c dR (vx_c dE (vx_c dT vx_n))))
  have hP9 := hP.sub (ws' := [(x, .inr (6, [.ref xt, .int tl, .ref xr, .ref xd, .ref xn, .ref xa, .ref xs, .ref xy, .int 0]))]) [0] rfl
  subst hQ
  exact ox_throwS (Y := "java/lang/RuntimeException") (r := ["java/lang/Exception"]) (rx := oxNSE) (ix := 13) hx hb hl9 oxNSE_0 oxNSE_1 oxNSE_2 oxNSE_5 hown (by decide +kernel) (by decide +kernel) (by decide +kernel) cl97 iiE hN.2.2.2.2.2.2.2.2.2.2.1 hat (by decide +kernel) hZ.2.2.2.2.2.2.1 hZ.2.2.2.2.2.2.2 hS (hl.1.trans hml.symm) dX6_hop_18 dX6_hop_21 dX6_hop_22 dX6_hop_24 dX6_hop_27 (fun y h => (hte y h).elim) (Nat.le_of_ble_eq_true rfl) (Nat.le_of_ble_eq_true rfl) (Nat.le_of_ble_eq_true rfl) (Nat.le_of_ble_eq_true rfl) hlocks (fun tS hv9 hz9 hk9 => ⟨(), trivial, ⟨rfl, hP9.kept (fun i q hq => hk9 q.1 (hP9 i q hq).lt)⟩, Nat.le_trans hS.1 hz9, fun q h1 h2 => (hk9 q (Nat.lt_of_lt_of_le h1 hS.1)).trans (hS.2.1 q h1 h2)⟩) hS.2.2 (Nat.le_refl _) (Nat.le_refl _)
set_option maxHeartbeats 4000000 in
set_option maxRecDepth 100000 in
theorem c_X6_circuit (l : Launch) (hl9 : l.stackTraces = false) (D : va_G) (g : Nat → ClassId) (sz : Nat) (x : Nat) (xt : Nat) (tl : Int32) (xr : Nat) (xd : Nat) (xn : Nat) (xa : Nat) (xs : Nat) (xy : Nat) (p0 : Int32) (p1 : Int32) : vx_Met l yX6_circuit wsX6_circuitx ({ frames := 6, cells := 1, slots := 6, locals := 90 }) (va_Pc [.ref x, .int p0, .int p1] (pre D g sz [(x, .inr (6, [.ref xt, .int tl, .ref xr, .ref xd, .ref xn, .ref xa, .ref xs, .ref xy, .int 0]))])) (va_Qi (fun (r : Int32) (u : va_W) => False) (wd D (va_A [(x, .inr (6, [.ref xt, .int tl, .ref xr, .ref xd, .ref xn, .ref xa, .ref xs, .ref xy, .int 0]))] sz)) (va_A [(x, .inr (6, [.ref xt, .int tl, .ref xr, .ref xd, .ref xn, .ref xa, .ref xs, .ref xy, .int 0]))] sz)) (vx_X (fun (_ : Unit) => True) (fun E _ t => E = "java/util/NoSuchElementException" ∧ va_P D vwCl [(x, .inr (6, [.ref xt, .int tl, .ref xr, .ref xd, .ref xn, .ref xa, .ref xs, .ref xy, .int 0]))] t.heap) (va_A [(x, .inr (6, [.ref xt, .int tl, .ref xr, .ref xd, .ref xn, .ref xa, .ref xs, .ref xy, .int 0]))] sz)) 1 6 (va_A [(x, .inr (6, [.ref xt, .int tl, .ref xr, .ref xd, .ref xn, .ref xa, .ref xs, .ref xy, .int 0]))] sz) := by
  refine vx_ofW (cc := cX6_circuit) (maxL := 4) (ret := (some .int)) (by decide) rfl ?_
  intro p e s m args below meth c s₁ B hml hte hv
  obtain ⟨rfl, hsz, hP, ⟨hK, hN⟩, hD0, hZ⟩ := hv
  have hx := B.exec
  have hb := B.bytes
  have hr := B.returns
  have hts := atoms_spec (ws := wsX6_circuitx) B.pre
  have hown : s.vm.findClass RX6 = some m.cls := findClass_of_methodNamed B.named
  have hlocks := B.notSynchronized
  clear B
  subst hsz
  have hD := hD0.self (sz := s.heap.size)
  clear hD0
  generalize hAe : va_A [(x, .inr (6, [.ref xt, .int tl, .ref xr, .ref xd, .ref xn, .ref xa, .ref xs, .ref xy, .int 0]))] s.heap.size = A at hD hZ ⊢
  have hA : ∀ q : Nat, s.heap.size ≤ q → A q := fun q h => by rw [← hAe]; exact Or.inr h
  have hS : va_S A s.heap s.heap [] := va_S.rf
  have cl97 := hts (.classLink RX6 97 "java/util/NoSuchElementException") (by decide +kernel)
  have iiE := hts (.initialized "java/util/NoSuchElementException") (by decide +kernel)
  have hl := lv_entry ([.ref x, .int p0, .int p1]) (n := 4) (Nat.le_of_ble_eq_true rfl)
  rw [lg_entry_eq]
  generalize (lg_sl ([.ref x, .int p0, .int p1]) ++ List.replicate (4 - (lg_sl ([.ref x, .int p0, .int p1])).length) Slot.unset).toArray = ls at hl ⊢
  have hl : lv_has ls 4 [(0, .ref x), (1, .int p0), (2, .int p1)] := hl
  generalize hQ : vx_MQ below _ _ _ s _ _ _ = Q
  generalize hH : s.heap = H at hP ⊢
  have hS : va_S A s.heap H [] := by rw [← hH]; exact hS
  clear hH
  refine lv_aload_n hx hb dX6_circuit_0 rfl (lv_at hl 0 rfl) ?_
  refine lv_iload_n hx hb dX6_circuit_1 rfl (lv_at hl 1 rfl) ?_
  refine ky_Vi (As := [.int p0]) (rest := []) ⟨hx, hb, hml, hown, hts⟩ ⟨hK, hN⟩ hZ hP hD hS hA [0] [] (wc := [(x, .inr (6, [.ref xt, .int tl, .ref xr, .ref xd, .ref xn, .ref xa, .ref xs, .ref xy, .int 0]))]) (wr := []) rfl rfl rfl rfl (by decide) (c_X6_isCircuit l D g H.size x xt tl xr xd xn xa xs xy p0) (cwV 1 hts gX6_circuitx_X6_isCircuit rfl rfl rfl (by decide +kernel) ⟨(Nat.le_of_ble_eq_true rfl), (Nat.le_of_ble_eq_true rfl)⟩) 0 6 rfl rfl rfl rfl hl.1 rfl (Nat.le_of_ble_eq_true rfl) dX6_circuit_2 ⟨(Nat.le_of_ble_eq_true rfl), (Nat.le_of_ble_eq_true rfl)⟩ (fun r_1 u H locs hw hP hD hS => ?_)
  obtain ⟨rfl, rfl⟩ := hw
  have hP : va_P D vwCl [(x, .inr (6, [.ref xt, .int tl, .ref xr, .ref xd, .ref xn, .ref xa, .ref xs, .ref xy, .int 0]))] H := hP
  have hD : va_D A [(x, .inr (6, [.ref xt, .int tl, .ref xr, .ref xd, .ref xn, .ref xa, .ref xs, .ref xy, .int 0]))] := hD
  refine W.widen (k := 0) (n := 0) (Nat.le_of_ble_eq_true rfl) (Nat.le_of_ble_eq_true rfl) ?_
  refine lv_if_eq (tgt := 18) hx hb dX6_circuit_5 (by decide) (fun _ => ?_) (fun cb => absurd (by decide) cb)
  have hgw : ∀ w ∈ oxG, w.before _ s = true := fun w h => hts w (List.mem_cons_of_mem _ (List.mem_append_right _ h))
  have dR := decl_of (hgw (.instanceMethod (Bundle.initS "java/lang/RuntimeException")) (by decide +kernel)) (hgw (.code (Bundle.initS "java/lang/RuntimeException") Bundle.six 2 none) (by decide +kernel))
  have dE := decl_of (hgw (.instanceMethod (Bundle.initS "java/lang/Exception")) (by decide +kernel)) (hgw (.code (Bundle.initS "java/lang/Exception") Bundle.six 2 none) (by decide +kernel))
  have dT := decl_of (hgw (.instanceMethod (Bundle.initS Bundle.tN)) (by decide +kernel)) (hgw (.code (Bundle.initS Bundle.tN) LibCode.Throwable.InitS.code 2 none) (by decide +kernel))
  have hat := vx_hat (L := oxW) (B := [.castable "java/util/NoSuchElementException" "java/util/NoSuchElementException", .declares (Bundle.initS "java/lang/RuntimeException"), .declares (Bundle.initS "java/lang/Exception"), .declares (Bundle.initS Bundle.tN)]) hgw (by decide +kernel) (vx_c (va_Nw.use rfl hN.2.2.2.2.2.2.2.2.2.2.2.2) (vx_c dR (vx_c dE (vx_c dT vx_n))))
  have hP9 := hP.sub (ws' := [(x, .inr (6, [.ref xt, .int tl, .ref xr, .ref xd, .ref xn, .ref xa, .ref xs, .ref xy, .int 0]))]) [0] rfl
  subst hQ
  exact ox_throwS (Y := "java/lang/RuntimeException") (r := ["java/lang/Exception"]) (rx := oxNSE) (ix := 13) hx hb hl9 oxNSE_0 oxNSE_1 oxNSE_2 oxNSE_5 hown (by decide +kernel) (by decide +kernel) (by decide +kernel) cl97 iiE hN.2.2.2.2.2.2.2.2.2.2.2.1 hat (by decide +kernel) hZ.2.2.2.2.2.2.1 hZ.2.2.2.2.2.2.2 hS (hl.1.trans hml.symm) dX6_circuit_18 dX6_circuit_21 dX6_circuit_22 dX6_circuit_24 dX6_circuit_27 (fun y h => (hte y h).elim) (Nat.le_of_ble_eq_true rfl) (Nat.le_of_ble_eq_true rfl) (Nat.le_of_ble_eq_true rfl) (Nat.le_of_ble_eq_true rfl) hlocks (fun tS hv9 hz9 hk9 => ⟨(), trivial, ⟨rfl, hP9.kept (fun i q hq => hk9 q.1 (hP9 i q hq).lt)⟩, Nat.le_trans hS.1 hz9, fun q h1 h2 => (hk9 q (Nat.lt_of_lt_of_le h1 hS.1)).trans (hS.2.1 q h1 h2)⟩) hS.2.2 (Nat.le_refl _) (Nat.le_refl _)
set_option maxHeartbeats 4000000 in
set_option maxRecDepth 100000 in
/-- the law's hop: what is thrown is caught -/
theorem c_L_hop (l : Launch) (hl9 : l.stackTraces = false) (D : va_G) (g : Nat → ClassId) (sz : Nat) (x : Nat) (xt : Nat) (tl : Int32) (xr : Nat) (xd : Nat) (xn : Nat) (xa : Nat) (xs : Nat) (xy : Nat) (o_ : Nat) (p0 p1 : Int32) : Met l yL_hop wsL_hopx ({ frames := 7, cells := 1, slots := 6, locals := 113 }) (va_Pc [.ref x, .int p0, .int p1, .ref o_] (pre D g sz [(x, .inr (6, [.ref xt, .int tl, .ref xr, .ref xd, .ref xn, .ref xa, .ref xs, .ref xy, .int 0]))])) (va_Qi (fun (r : Int32) (u : va_W) => u = [(x, .inr (6, [.ref xt, .int tl, .ref xr, .ref xd, .ref xn, .ref xa, .ref xs, .ref xy, .int 0]))] ∧ r = 1) (wd D (va_A [(x, .inr (6, [.ref xt, .int tl, .ref xr, .ref xd, .ref xn, .ref xa, .ref xs, .ref xy, .int 0]))] sz)) (va_A [(x, .inr (6, [.ref xt, .int tl, .ref xr, .ref xd, .ref xn, .ref xa, .ref xs, .ref xy, .int 0]))] sz)) 1 6 (va_A [(x, .inr (6, [.ref xt, .int tl, .ref xr, .ref xd, .ref xn, .ref xa, .ref xs, .ref xy, .int 0]))] sz) := by
  refine va_MetW (cc := cL_hop) (maxL := 5) (ret := (some .int)) (hh := [(0, 10, 13, 13)]) (by decide) rfl ?_
  intro p e s m args below meth c s₁ B hml hv
  obtain ⟨rfl, hsz, hP, ⟨hK, hN⟩, hD0, hZ⟩ := hv
  have hx := B.exec
  have hb := B.bytes
  have hr := B.returns
  have hts := atoms_spec (ws := wsL_hopx) B.pre
  have hown : s.vm.findClass RL = some m.cls := findClass_of_methodNamed B.named
  have hlocks := B.notSynchronized
  have htab := vx_table (x := yL_hop) B (hts (.codeWith yL_hop cL_hop 5 (some .int) [(0, 10, 13, 13)]) List.mem_cons_self)
  clear B
  subst hsz
  have hD := hD0.self (sz := s.heap.size)
  clear hD0
  generalize hAe : va_A [(x, .inr (6, [.ref xt, .int tl, .ref xr, .ref xd, .ref xn, .ref xa, .ref xs, .ref xy, .int 0]))] s.heap.size = A at hD hZ ⊢
  have hA : ∀ q : Nat, s.heap.size ≤ q → A q := fun q h => by rw [← hAe]; exact Or.inr h
  have hS : va_S A s.heap s.heap [] := va_S.rf
  have cl13 := hts (.classLink RL 13 "java/util/NoSuchElementException") (List.mem_cons_of_mem _ (by decide +kernel))
  have hl := lv_entry ([.ref x, .int p0, .int p1, .ref o_]) (n := 5) (Nat.le_of_ble_eq_true rfl)
  rw [lg_entry_eq]
  generalize (lg_sl ([.ref x, .int p0, .int p1, .ref o_]) ++ List.replicate (5 - (lg_sl ([.ref x, .int p0, .int p1, .ref o_])).length) Slot.unset).toArray = ls at hl ⊢
  have hl : lv_has ls 5 [(0, .ref x), (1, .int p0), (2, .int p1), (3, .ref o_)] := hl
  generalize hQ : MQ below _ _ s _ _ _ = Q
  generalize hH : s.heap = H at hP ⊢
  have hS : va_S A s.heap H [] := by rw [← hH]; exact hS
  clear hH
  refine lv_aload_n hx hb dL_hop_0 rfl (lv_at hl 3 rfl) ?_
  refine lv_iconst (v := 0) hx hb dL_hop_1 (by decide) ?_
  refine lv_aload_n hx hb dL_hop_2 rfl (lv_at hl 0 rfl) ?_
  refine lv_iload_n hx hb dL_hop_3 rfl (lv_at hl 1 rfl) ?_
  refine lv_iload_n hx hb dL_hop_4 rfl (lv_at hl 2 rfl) ?_
  have hF := va_free (wc := [(x, .inr (6, [.ref xt, .int tl, .ref xr, .ref xd, .ref xn, .ref xa, .ref xs, .ref xy, .int 0]))]) hD hS hA [0] rfl
  refine vx_calli (vx_runV (As := [.int p0, .int p1]) (rest := [.int 0, .ref o_]) ⟨hx, hb, hml, hown, hts⟩ (c_X6_hop l hl9 D g H.size x xt tl xr xd xn xa xs xy p0 p1) (cwV 2 hts gL_hopx_X6_hopx rfl rfl rfl (by decide +kernel) ⟨(Nat.le_of_ble_eq_true rfl), (Nat.le_of_ble_eq_true rfl)⟩) ⟨ky_blind, va_recv hK hP (ci := 6) (q0 := 0) rfl rfl, ky_mk hP ⟨hK, hN⟩ hD ((hZ.kept hS.2.1).narrow hF)⟩ rfl rfl hl.1 rfl (lv_room (Nat.le_of_ble_eq_true rfl)) dL_hop_5 ⟨(Nat.le_of_ble_eq_true rfl), (Nat.le_of_ble_eq_true rfl)⟩) hS (fun q _ h => hF q h) hF (fun q _ h => hF q h) (fun E ce q9 u t H1 locs ht hvm _ hB hz1 hk1 hS hce hcv hcl => ?_) (fun r u t H1 locs ht hvm hw hB hz1 hk1 hS => hw.elim)
  obtain ⟨rfl, hP1⟩ := hB
  rw [ht] at hP1
  refine vx_catch (name := "java/util/NoSuchElementException") hown [] ⟨0, 10, 13, 13⟩ [] (by rw [htab]; rfl) (fun z h => nomatch h) (by decide) (by decide) cl13 (va_Nw.use rfl hN.2.2.2.2.2.2.2.2.2.2.2.2) hce hcv hcl ?_
  refine lv_astore (lv' := [(4, .ref q9), (0, .ref x), (1, .int p0), (2, .int p1), (3, .ref o_)]) hx hb dL_hop_13 hl (by decide) rfl (fun ls hl => ?_)
  refine lv_iconst (v := 1) hx hb dL_hop_15 (by decide) ?_
  have hD9 := hD.sub (ws' := [(x, .inr (6, [.ref xt, .int tl, .ref xr, .ref xd, .ref xn, .ref xa, .ref xs, .ref xy, .int 0]))]) [0] (by decide) rfl
  subst hQ
  refine W.widen (k := 1) (n := 6) (Nat.le_of_ble_eq_true rfl) (Nat.le_of_ble_eq_true rfl) ?_
  exact W.iret (v := 1) hx hb hr (fun tS htS _ => ⟨⟨_, _, rfl, ⟨rfl, rfl⟩, by rw [htS]; exact hP1, hD9⟩, hS.F htS⟩) hS.2.2 dL_hop_16
set_option maxHeartbeats 4000000 in
set_option maxRecDepth 100000 in
/-- the law's circuit: what is thrown is caught -/
theorem c_L_circuit (l : Launch) (hl9 : l.stackTraces = false) (D : va_G) (g : Nat → ClassId) (sz : Nat) (x : Nat) (xt : Nat) (tl : Int32) (xr : Nat) (xd : Nat) (xn : Nat) (xa : Nat) (xs : Nat) (xy : Nat) (o_ : Nat) (p0 p1 : Int32) : Met l yL_circuit wsL_circuitx ({ frames := 7, cells := 1, slots := 6, locals := 113 }) (va_Pc [.ref x, .int p0, .int p1, .ref o_] (pre D g sz [(x, .inr (6, [.ref xt, .int tl, .ref xr, .ref xd, .ref xn, .ref xa, .ref xs, .ref xy, .int 0]))])) (va_Qi (fun (r : Int32) (u : va_W) => u = [(x, .inr (6, [.ref xt, .int tl, .ref xr, .ref xd, .ref xn, .ref xa, .ref xs, .ref xy, .int 0]))] ∧ r = 1) (wd D (va_A [(x, .inr (6, [.ref xt, .int tl, .ref xr, .ref xd, .ref xn, .ref xa, .ref xs, .ref xy, .int 0]))] sz)) (va_A [(x, .inr (6, [.ref xt, .int tl, .ref xr, .ref xd, .ref xn, .ref xa, .ref xs, .ref xy, .int 0]))] sz)) 1 6 (va_A [(x, .inr (6, [.ref xt, .int tl, .ref xr, .ref xd, .ref xn, .ref xa, .ref xs, .ref xy, .int 0]))] sz) := by
  refine va_MetW (cc := cL_circuit) (maxL := 5) (ret := (some .int)) (hh := [(0, 10, 13, 13)]) (by decide) rfl ?_
  intro p e s m args below meth c s₁ B hml hv
  obtain ⟨rfl, hsz, hP, ⟨hK, hN⟩, hD0, hZ⟩ := hv
  have hx := B.exec
  have hb := B.bytes
  have hr := B.returns
  have hts := atoms_spec (ws := wsL_circuitx) B.pre
  have hown : s.vm.findClass RL = some m.cls := findClass_of_methodNamed B.named
  have hlocks := B.notSynchronized
  have htab := vx_table (x := yL_circuit) B (hts (.codeWith yL_circuit cL_circuit 5 (some .int) [(0, 10, 13, 13)]) List.mem_cons_self)
  clear B
  subst hsz
  have hD := hD0.self (sz := s.heap.size)
  clear hD0
  generalize hAe : va_A [(x, .inr (6, [.ref xt, .int tl, .ref xr, .ref xd, .ref xn, .ref xa, .ref xs, .ref xy, .int 0]))] s.heap.size = A at hD hZ ⊢
  have hA : ∀ q : Nat, s.heap.size ≤ q → A q := fun q h => by rw [← hAe]; exact Or.inr h
  have hS : va_S A s.heap s.heap [] := va_S.rf
  have cl13 := hts (.classLink RL 13 "java/util/NoSuchElementException") (List.mem_cons_of_mem _ (by decide +kernel))
  have hl := lv_entry ([.ref x, .int p0, .int p1, .ref o_]) (n := 5) (Nat.le_of_ble_eq_true rfl)
  rw [lg_entry_eq]
  generalize (lg_sl ([.ref x, .int p0, .int p1, .ref o_]) ++ List.replicate (5 - (lg_sl ([.ref x, .int p0, .int p1, .ref o_])).length) Slot.unset).toArray = ls at hl ⊢
  have hl : lv_has ls 5 [(0, .ref x), (1, .int p0), (2, .int p1), (3, .ref o_)] := hl
  generalize hQ : MQ below _ _ s _ _ _ = Q
  generalize hH : s.heap = H at hP ⊢
  have hS : va_S A s.heap H [] := by rw [← hH]; exact hS
  clear hH
  refine lv_aload_n hx hb dL_circuit_0 rfl (lv_at hl 3 rfl) ?_
  refine lv_iconst (v := 0) hx hb dL_circuit_1 (by decide) ?_
  refine lv_aload_n hx hb dL_circuit_2 rfl (lv_at hl 0 rfl) ?_
  refine lv_iload_n hx hb dL_circuit_3 rfl (lv_at hl 1 rfl) ?_
  refine lv_iload_n hx hb dL_circuit_4 rfl (lv_at hl 2 rfl) ?_
  have hF := va_free (wc := [(x, .inr (6, [.ref xt, .int tl, .ref xr, .ref xd, .ref xn, .ref xa, .ref xs, .ref xy, .int 0]))]) hD hS hA [0] rfl
  refine vx_calli (vx_runV (As := [.int p0, .int p1]) (rest := [.int 0, .ref o_]) ⟨hx, hb, hml, hown, hts⟩ (c_X6_circuit l hl9 D g H.size x xt tl xr xd xn xa xs xy p0 p1) (cwV 2 hts gL_circuitx_X6_circuitx rfl rfl rfl (by decide +kernel) ⟨(Nat.le_of_ble_eq_true rfl), (Nat.le_of_ble_eq_true rfl)⟩) ⟨ky_blind, va_recv hK hP (ci := 6) (q0 := 0) rfl rfl, ky_mk hP ⟨hK, hN⟩ hD ((hZ.kept hS.2.1).narrow hF)⟩ rfl rfl hl.1 rfl (lv_room (Nat.le_of_ble_eq_true rfl)) dL_circuit_5 ⟨(Nat.le_of_ble_eq_true rfl), (Nat.le_of_ble_eq_true rfl)⟩) hS (fun q _ h => hF q h) hF (fun q _ h => hF q h) (fun E ce q9 u t H1 locs ht hvm _ hB hz1 hk1 hS hce hcv hcl => ?_) (fun r u t H1 locs ht hvm hw hB hz1 hk1 hS => hw.elim)
  obtain ⟨rfl, hP1⟩ := hB
  rw [ht] at hP1
  refine vx_catch (name := "java/util/NoSuchElementException") hown [] ⟨0, 10, 13, 13⟩ [] (by rw [htab]; rfl) (fun z h => nomatch h) (by decide) (by decide) cl13 (va_Nw.use rfl hN.2.2.2.2.2.2.2.2.2.2.2.2) hce hcv hcl ?_
  refine lv_astore (lv' := [(4, .ref q9), (0, .ref x), (1, .int p0), (2, .int p1), (3, .ref o_)]) hx hb dL_circuit_13 hl (by decide) rfl (fun ls hl => ?_)
  refine lv_iconst (v := 1) hx hb dL_circuit_15 (by decide) ?_
  have hD9 := hD.sub (ws' := [(x, .inr (6, [.ref xt, .int tl, .ref xr, .ref xd, .ref xn, .ref xa, .ref xs, .ref xy, .int 0]))]) [0] (by decide) rfl
  subst hQ
  refine W.widen (k := 1) (n := 6) (Nat.le_of_ble_eq_true rfl) (Nat.le_of_ble_eq_true rfl) ?_
  exact W.iret (v := 1) hx hb hr (fun tS htS _ => ⟨⟨_, _, rfl, ⟨rfl, rfl⟩, by rw [htS]; exact hP1, hD9⟩, hS.F htS⟩) hS.2.2 dL_circuit_16
