section WS
variable {p : Program} {l : Launch} {e : Env} {R : Room} {s : State} {m : MethodId} {args : Array Value} {below : List Frame} {meth : Method} {c : Code} {H : Heap} {locs : List Loc} {cells slots : Nat} {Q : State → Prop}
variable {cc : ByteArray} {pc : Nat} {ls : Array Slot} {rest : List Value} {D : va_G} {A : Nat → Prop} {H0 : Heap} {g : Nat → ClassId} {ws : va_W}
theorem ky_newl (hx : p.tables.exec = Jvm.exec) (hb : c.code = cc) (harr : (Cond.arrayClass .long).before args s = true) (hK : va_K D vwCl (kY g) s) (hP : va_P D vwCl ws H) (hD : va_D A ws) (hS : va_S A H0 H locs) (hA : ∀ q, H0.size ≤ q → A q)
    {n : Int32} {N : Nat} (hn : ¬ n < 0) (hN : n.toNatClampNeg = N) (hbytes : N * 8 ≤ 536870912) (hcells : cells + 1 ≤ R.cells) (hslots : slots + N ≤ R.slots) (hdg : decode cc pc = .ok (.newarray .long, 2))
    (kk : ∀ (q : Nat) (H1 : Heap), va_P D vwCl (ws ++ [(q, .inl (g 5, N, .inr (.inl (fun _ => 0))))]) H1 → va_D A (ws ++ [(q, .inl (g 5, N, .inr (.inl (fun _ => 0))))]) → va_S A H0 H1 locs →
      W p l e R s m args below meth c H1 locs (cells + 1) (slots + N) Q (F0 m (pc + 2) ls (.ref q :: rest))) : W p l e R s m args below meth c H locs cells slots Q (F0 m pc ls (.int n :: rest)) := by
  refine va_newa (atype := .long) (ty := .long) (a0 := (N, .inr (.inl (fun _ => 0)))) hx hb harr rfl hK hP hD hS hA (fun cA => rfl) hn hN hbytes hcells hslots hdg (fun q cA H1 hK1 hP1 hD1 hS1 => ?_)
  have h0 : s.vm.findClass ("[" ++ FieldType.long.toString) = some (g 5) := (hK.2 5 _ rfl).2
  have h1 : s.vm.findClass ("[" ++ FieldType.long.toString) = some cA := (hK1.2 6 (cA, .long) rfl).2
  have he : cA = g 5 := Option.some.inj (h1.symm.trans h0)
  subst he
  exact kk q H1 hP1 hD1 hS1
end WS
set_option maxHeartbeats 4000000 in
set_option maxRecDepth 100000 in
/-- what is known at the law's entry: classes, arrays, links, statics -/
theorem law_known {p : Program} {s : State} {m : MethodId} {meth : Method} {c : Code} {b L : Nat} {xs : Nat → Int32} (C0 : lw_At p s m meth c b L xs) : ∃ (D : va_G) (g : Nat → ClassId), va_K D vwCl (kY g) s ∧ kn g s ∧ ks g (lwA s) s s.heap := by
  obtain ⟨hx, hb, hr, hml, hown, hts0, hX, hbl, hlocks, hgv⟩ := id C0
  have hs := flat_of_before _ hgv
  have hA : ∀ q : Nat, q < s.heap.size → ¬ lwA s q := fun q h => Nat.not_le.mpr h
  obtain ⟨c0, iS0, hKn0⟩ := u_known (C := RX0) (T := TX0) (N := 8) (n := 8) hts0 inX0 (hts0 (.instantiable RX0 8) (List.mem_of_getElem? (i := 257) (by decide +kernel)))
  obtain ⟨c1, iS1, hKn1⟩ := u_known (C := RX1) (T := TX1) (N := 7) (n := 7) hts0 inX1 (hts0 (.instantiable RX1 7) (List.mem_of_getElem? (i := 165) (by decide +kernel)))
  obtain ⟨c2, iS2, hKn2⟩ := u_known (C := RX2) (T := TX2) (N := 10) (n := 10) hts0 inX2 (hts0 (.instantiable RX2 10) (List.mem_of_getElem? (i := 158) (by decide +kernel)))
  obtain ⟨c3, iS3, hKn3⟩ := u_known (C := RX3) (T := TX3) (N := 11) (n := 11) hts0 inX3 (hts0 (.instantiable RX3 11) (List.mem_of_getElem? (i := 149) (by decide +kernel)))
  obtain ⟨c4, iS4, hKn4⟩ := u_known (C := RX4) (T := TX4) (N := 7) (n := 7) hts0 inX4 (hts0 (.instantiable RX4 7) (List.mem_of_getElem? (i := 120) (by decide +kernel)))
  obtain ⟨c5, iS5, hKn5⟩ := u_known (C := RX5) (T := TX5) (N := 6) (n := 6) hts0 inX5 (hts0 (.instantiable RX5 6) (List.mem_of_getElem? (i := 346) (by decide +kernel)))
  obtain ⟨c6, iS6, hKn6⟩ := u_known (C := RX6) (T := TX6) (N := 9) (n := 9) hts0 inX6 (hts0 (.instantiable RX6 9) (List.mem_of_getElem? (i := 112) (by decide +kernel)))
  obtain ⟨c7, iS7, hKn7⟩ := u_known (C := RX7) (T := TX7) (N := 21) (n := 21) hts0 inX7 (hts0 (.instantiable RX7 21) (List.mem_of_getElem? (i := 1062) (by decide +kernel)))
  obtain ⟨dC, dI, hKc⟩ : ∃ (dC : Nat → ClassId) (dI : Nat → Nat → Nat), ∀ (k : Nat) (q : vw_C), vwCl[k]? = some q → u_Kn s q.1 q.2.1 q.2.2 (dC k) (dI k) := by
    refine ⟨fun k => if k = 0 then c0 else if k = 1 then c1 else if k = 2 then c2 else if k = 3 then c3 else if k = 4 then c4 else if k = 5 then c5 else if k = 6 then c6 else c7, fun k => if k = 0 then iS0 else if k = 1 then iS1 else if k = 2 then iS2 else if k = 3 then iS3 else if k = 4 then iS4 else if k = 5 then iS5 else if k = 6 then iS6 else iS7, ?_⟩
    intro k q hq
    match k, hq with
    | 0, hq => cases hq; exact hKn0
    | 1, hq => cases hq; exact hKn1
    | 2, hq => cases hq; exact hKn2
    | 3, hq => cases hq; exact hKn3
    | 4, hq => cases hq; exact hKn4
    | 5, hq => cases hq; exact hKn5
    | 6, hq => cases hq; exact hKn6
    | 7, hq => cases hq; exact hKn7
    | k + 8, hq => simp [vwCl] at hq
  obtain ⟨cI, kI, pI, i1, i2, i3⟩ := Cond.arrayClass_spec (hts0 (.arrayClass .int) (List.mem_of_getElem? (i := 147) (by decide +kernel)))
  obtain ⟨cJ, kJ, pJ, j1, j2, j3⟩ := Cond.arrayClass_spec (hts0 (.arrayClass .long) (List.mem_of_getElem? (i := 1571) (by decide +kernel)))
  have aoK := hts0 (.arrayOver (.object "HopCredits$Link")) (List.mem_of_getElem? (i := 155) (by decide +kernel))
  obtain ⟨pK, cK, kK, k1, k2, k3, k4, k5⟩ := Cond.arrayOver_spec aoK
  have aoN := hts0 (.arrayOver (.object "HopCredits$Lane")) (List.mem_of_getElem? (i := 164) (by decide +kernel))
  obtain ⟨pN, cN, kN, n1, n2, n3, n4, n5⟩ := Cond.arrayOver_spec aoN
  have aoF := hts0 (.arrayOver (.object "HopCredits$Flow")) (List.mem_of_getElem? (i := 157) (by decide +kernel))
  obtain ⟨pF, cF, kF, f1, f2, f3, f4, f5⟩ := Cond.arrayOver_spec aoF
  have aoT := hts0 (.arrayOver (.object "HopCredits$Trips")) (List.mem_of_getElem? (i := 345) (by decide +kernel))
  obtain ⟨pT, cT, kT, t1, t2, t3, t4, t5⟩ := Cond.arrayOver_spec aoT
  obtain ⟨uUSUAL, vUSUAL, tUSUAL⟩ := va_Tof (tm := (.static "HopCredits$Reading" "USUAL" "[I")) (ty := .int) (N := 9) (f := tU) (by decide) (hs (.arrayOf (.static "HopCredits$Reading" "USUAL" "[I") .int) (by decide +kernel)) (va_eqt (hs (.eq (.length (.static "HopCredits$Reading" "USUAL" "[I")) (.int 9)) (by decide +kernel))) (fun j hj => by
    rcases (show j = 0 ∨ j = 1 ∨ j = 2 ∨ j = 3 ∨ j = 4 ∨ j = 5 ∨ j = 6 ∨ j = 7 ∨ j = 8 by omega) with rfl | rfl | rfl | rfl | rfl | rfl | rfl | rfl | rfl
    · exact va_eqt (hs (.eq (.elem (.static "HopCredits$Reading" "USUAL" "[I") (.int 0)) (.int 1)) (by decide +kernel))
    · exact va_eqt (hs (.eq (.elem (.static "HopCredits$Reading" "USUAL" "[I") (.int 1)) (.int 0)) (by decide +kernel))
    · exact va_eqt (hs (.eq (.elem (.static "HopCredits$Reading" "USUAL" "[I") (.int 2)) (.int 0)) (by decide +kernel))
    · exact va_eqt (hs (.eq (.elem (.static "HopCredits$Reading" "USUAL" "[I") (.int 3)) (.int 1)) (by decide +kernel))
    · exact va_eqt (hs (.eq (.elem (.static "HopCredits$Reading" "USUAL" "[I") (.int 4)) (.int 12)) (by decide +kernel))
    · exact va_eqt (hs (.eq (.elem (.static "HopCredits$Reading" "USUAL" "[I") (.int 5)) (.int 1)) (by decide +kernel))
    · exact va_eqt (hs (.eq (.elem (.static "HopCredits$Reading" "USUAL" "[I") (.int 6)) (.int 1)) (by decide +kernel))
    · exact va_eqt (hs (.eq (.elem (.static "HopCredits$Reading" "USUAL" "[I") (.int 7)) (.int 0)) (by decide +kernel))
    · exact va_eqt (hs (.eq (.elem (.static "HopCredits$Reading" "USUAL" "[I") (.int 8)) (.int 1)) (by decide +kernel))) hA
  have zUSUAL := va_Zref (hts0 (.laysStatic "HopCredits$Reading" "USUAL" "[I") (List.mem_of_getElem? (i := 436) (by decide +kernel))) (hts0 (.initialized RX4) (List.mem_of_getElem? (i := 94) (by decide +kernel))) vUSUAL hA
  obtain ⟨uLOWS, vLOWS, tLOWS⟩ := va_Tof (tm := (.static "HopCredits$Reading" "LOWS" "[I")) (ty := .int) (N := 9) (f := tLo) (by decide) (hs (.arrayOf (.static "HopCredits$Reading" "LOWS" "[I") .int) (by decide +kernel)) (va_eqt (hs (.eq (.length (.static "HopCredits$Reading" "LOWS" "[I")) (.int 9)) (by decide +kernel))) (fun j hj => by
    rcases (show j = 0 ∨ j = 1 ∨ j = 2 ∨ j = 3 ∨ j = 4 ∨ j = 5 ∨ j = 6 ∨ j = 7 ∨ j = 8 by omega) with rfl | rfl | rfl | rfl | rfl | rfl | rfl | rfl | rfl
    · exact va_eqt (hs (.eq (.elem (.static "HopCredits$Reading" "LOWS" "[I") (.int 0)) (.int 1)) (by decide +kernel))
    · exact va_eqt (hs (.eq (.elem (.static "HopCredits$Reading" "LOWS" "[I") (.int 1)) (.int 0)) (by decide +kernel))
    · exact va_eqt (hs (.eq (.elem (.static "HopCredits$Reading" "LOWS" "[I") (.int 2)) (.int 0)) (by decide +kernel))
    · exact va_eqt (hs (.eq (.elem (.static "HopCredits$Reading" "LOWS" "[I") (.int 3)) (.int 1)) (by decide +kernel))
    · exact va_eqt (hs (.eq (.elem (.static "HopCredits$Reading" "LOWS" "[I") (.int 4)) (.int 1)) (by decide +kernel))
    · exact va_eqt (hs (.eq (.elem (.static "HopCredits$Reading" "LOWS" "[I") (.int 5)) (.int 1)) (by decide +kernel))
    · exact va_eqt (hs (.eq (.elem (.static "HopCredits$Reading" "LOWS" "[I") (.int 6)) (.int 0)) (by decide +kernel))
    · exact va_eqt (hs (.eq (.elem (.static "HopCredits$Reading" "LOWS" "[I") (.int 7)) (.int 0)) (by decide +kernel))
    · exact va_eqt (hs (.eq (.elem (.static "HopCredits$Reading" "LOWS" "[I") (.int 8)) (.int 0)) (by decide +kernel))) hA
  have zLOWS := va_Zref (hts0 (.laysStatic "HopCredits$Reading" "LOWS" "[I") (List.mem_of_getElem? (i := 509) (by decide +kernel))) (hts0 (.initialized RX4) (List.mem_of_getElem? (i := 94) (by decide +kernel))) vLOWS hA
  obtain ⟨uHIGHS, vHIGHS, tHIGHS⟩ := va_Tof (tm := (.static "HopCredits$Reading" "HIGHS" "[I")) (ty := .int) (N := 9) (f := tHi) (by decide) (hs (.arrayOf (.static "HopCredits$Reading" "HIGHS" "[I") .int) (by decide +kernel)) (va_eqt (hs (.eq (.length (.static "HopCredits$Reading" "HIGHS" "[I")) (.int 9)) (by decide +kernel))) (fun j hj => by
    rcases (show j = 0 ∨ j = 1 ∨ j = 2 ∨ j = 3 ∨ j = 4 ∨ j = 5 ∨ j = 6 ∨ j = 7 ∨ j = 8 by omega) with rfl | rfl | rfl | rfl | rfl | rfl | rfl | rfl | rfl
    · exact va_eqt (hs (.eq (.elem (.static "HopCredits$Reading" "HIGHS" "[I") (.int 0)) (.int 4)) (by decide +kernel))
    · exact va_eqt (hs (.eq (.elem (.static "HopCredits$Reading" "HIGHS" "[I") (.int 1)) (.int 20)) (by decide +kernel))
    · exact va_eqt (hs (.eq (.elem (.static "HopCredits$Reading" "HIGHS" "[I") (.int 2)) (.int 9)) (by decide +kernel))
    · exact va_eqt (hs (.eq (.elem (.static "HopCredits$Reading" "HIGHS" "[I") (.int 3)) (.int 4)) (by decide +kernel))
    · exact va_eqt (hs (.eq (.elem (.static "HopCredits$Reading" "HIGHS" "[I") (.int 4)) (.int 30)) (by decide +kernel))
    · exact va_eqt (hs (.eq (.elem (.static "HopCredits$Reading" "HIGHS" "[I") (.int 5)) (.int 4)) (by decide +kernel))
    · exact va_eqt (hs (.eq (.elem (.static "HopCredits$Reading" "HIGHS" "[I") (.int 6)) (.int 9)) (by decide +kernel))
    · exact va_eqt (hs (.eq (.elem (.static "HopCredits$Reading" "HIGHS" "[I") (.int 7)) (.int 20)) (by decide +kernel))
    · exact va_eqt (hs (.eq (.elem (.static "HopCredits$Reading" "HIGHS" "[I") (.int 8)) (.int 9)) (by decide +kernel))) hA
  have zHIGHS := va_Zref (hts0 (.laysStatic "HopCredits$Reading" "HIGHS" "[I") (List.mem_of_getElem? (i := 511) (by decide +kernel))) (hts0 (.initialized RX4) (List.mem_of_getElem? (i := 94) (by decide +kernel))) vHIGHS hA
  have srH := hts0 (.stringRef RX6 99 "no such HOP") (List.mem_of_getElem? (i := 1014) (by decide +kernel))
  obtain ⟨-, -, -, saH, -, -, -, -, -, seH⟩ := Cond.stringRef_spec hKn6.2.1 srH
  have srC := hts0 (.stringRef RX6 138 "no such CIRCUIT") (List.mem_of_getElem? (i := 1059) (by decide +kernel))
  obtain ⟨-, -, -, saC, -, -, -, -, -, seC⟩ := Cond.stringRef_spec hKn6.2.1 srC
  have qUNASSIGNED_STACK := vx_Zqof (hts0 (.laysStatic "java/lang/Throwable" "UNASSIGNED_STACK" "[Ljava/lang/StackTraceElement;") (List.mem_of_getElem? (i := 1002) (by decide +kernel))) (hts0 (.initialized "java/lang/Throwable") (List.mem_of_getElem? (i := 106) (by decide +kernel))) (hs (.isRef (.static "java/lang/Throwable" "UNASSIGNED_STACK" "[Ljava/lang/StackTraceElement;")) (by decide +kernel)) hA
  have qSUPPRESSED_SENTINEL := vx_Zqof (hts0 (.laysStatic "java/lang/Throwable" "SUPPRESSED_SENTINEL" "Ljava/util/List;") (List.mem_of_getElem? (i := 1004) (by decide +kernel))) (hts0 (.initialized "java/lang/Throwable") (List.mem_of_getElem? (i := 106) (by decide +kernel))) (hs (.isRef (.static "java/lang/Throwable" "SUPPRESSED_SENTINEL" "Ljava/util/List;")) (by decide +kernel)) hA
  obtain ⟨adK, adV, hSS, hev⟩ := vk_Sof (N := 1) (tm := fun _ => (.string "HopCredits$Reading" 72)) (len := [9]) (byt := [[114, 97, 112, 100, 98, 101, 103, 115, 116]]) (A := lwA s) (args := #[Value.ref b]) (s := s) (fun i hi => by
      obtain rfl : i = 0 := by omega
      decide) (fun i _ => hs (.exactly (.string "HopCredits$Reading" 72) "java/lang/String") (by decide +kernel)) (fun i _ => hs (.eq (.field (.string "HopCredits$Reading" 72) "java/lang/String" "coder" "B") (.int 0)) (by decide +kernel)) (fun i _ => hs (.arrayOf (.field (.string "HopCredits$Reading" 72) "java/lang/String" "value" "[B") .byte) (by decide +kernel)) (fun i hi => by
      obtain rfl : i = 0 := by omega
      exact hs (.eq (.length (.field (.string "HopCredits$Reading" 72) "java/lang/String" "value" "[B")) (.int 9)) (by decide +kernel)) (fun i hi j hj => by
      obtain rfl : i = 0 := by omega
      have hj : j < 9 := hj
      rcases (show j = 0 ∨ j = 1 ∨ j = 2 ∨ j = 3 ∨ j = 4 ∨ j = 5 ∨ j = 6 ∨ j = 7 ∨ j = 8 by omega) with rfl | rfl | rfl | rfl | rfl | rfl | rfl | rfl | rfl
      · exact hs (.eq (.elem (.field (.string "HopCredits$Reading" 72) "java/lang/String" "value" "[B") (.int 0)) (.int 114)) (by decide +kernel)
      · exact hs (.eq (.elem (.field (.string "HopCredits$Reading" 72) "java/lang/String" "value" "[B") (.int 1)) (.int 97)) (by decide +kernel)
      · exact hs (.eq (.elem (.field (.string "HopCredits$Reading" 72) "java/lang/String" "value" "[B") (.int 2)) (.int 112)) (by decide +kernel)
      · exact hs (.eq (.elem (.field (.string "HopCredits$Reading" 72) "java/lang/String" "value" "[B") (.int 3)) (.int 100)) (by decide +kernel)
      · exact hs (.eq (.elem (.field (.string "HopCredits$Reading" 72) "java/lang/String" "value" "[B") (.int 4)) (.int 98)) (by decide +kernel)
      · exact hs (.eq (.elem (.field (.string "HopCredits$Reading" 72) "java/lang/String" "value" "[B") (.int 5)) (.int 101)) (by decide +kernel)
      · exact hs (.eq (.elem (.field (.string "HopCredits$Reading" 72) "java/lang/String" "value" "[B") (.int 6)) (.int 103)) (by decide +kernel)
      · exact hs (.eq (.elem (.field (.string "HopCredits$Reading" 72) "java/lang/String" "value" "[B") (.int 7)) (.int 115)) (by decide +kernel)
      · exact hs (.eq (.elem (.field (.string "HopCredits$Reading" 72) "java/lang/String" "value" "[B") (.int 8)) (.int 116)) (by decide +kernel)) (fun i j hi hj hij => absurd (show i = j by omega) hij) hA
  have srT := hts0 (.stringRef RX4 72 "rapdbegst") (List.mem_of_getElem? (i := 459) (by decide +kernel))
  have zCS := va_Zof (A := lwA s) (v := .int 1) (hts0 (.laysStatic "java/lang/String" "COMPACT_STRINGS" "Z") (List.mem_of_getElem? (i := 469) (by decide +kernel))) (hts0 (.initialized "java/lang/String") (List.mem_of_getElem? (i := 102) (by decide +kernel))) (va_eqt (hs (.eq (.static "java/lang/String" "COMPACT_STRINGS" "Z") (.int 1)) (by decide +kernel))) hA
  have qSF := va_Zqof (A := lwA s) (hts0 (.laysStatic "jdk/internal/util/Preconditions" "SIOOBE_FORMATTER" "Ljava/util/function/BiFunction;") (List.mem_of_getElem? (i := 477) (by decide +kernel))) (hts0 (.initialized "jdk/internal/util/Preconditions") (List.mem_of_getElem? (i := 104) (by decide +kernel))) (hs (.isRef (.static "jdk/internal/util/Preconditions" "SIOOBE_FORMATTER" "Ljava/util/function/BiFunction;")) (by decide +kernel)) hA
  have hSS2 : vk_S 1 [9] [[114, 97, 112, 100, 98, 101, 103, 115, 116]] (fun _ => adK 0) (fun _ => adV 0) (lwA s) s s.heap := ⟨fun i hi => by
      obtain rfl : i = 0 := by omega
      exact hSS.1 0 (by decide), fun i j hi hj _ => by omega⟩
  refine ⟨(dC, dI), fun k => ([cI, cK, cN, cF, cT, cJ, 0, 0, 0, 0, uUSUAL, uLOWS, uHIGHS, saH, saC, adK 0, adV 0] : List Nat).getD k 0, ⟨hKc, fun k q h => ?_⟩, ?_, ?_⟩
  · match k, h with
    | 0, h => cases h; exact ⟨fun n z => ⟨fun k h => (by cases h), kI, i2, pI, i3⟩, i1⟩
    | 1, h => cases h; exact ⟨fun n z => ⟨fun k h => (by cases h), kK, k3, pK, k4⟩, kK, pK, k3, k4, k1, k5⟩
    | 2, h => cases h; exact ⟨fun n z => ⟨fun k h => (by cases h), kN, n3, pN, n4⟩, kN, pN, n3, n4, n1, n5⟩
    | 3, h => cases h; exact ⟨fun n z => ⟨fun k h => (by cases h), kF, f3, pF, f4⟩, kF, pF, f3, f4, f1, f5⟩
    | 4, h => cases h; exact ⟨fun n z => ⟨fun k h => (by cases h), kT, t3, pT, t4⟩, kT, pT, t3, t4, t1, t5⟩
    | 5, h => cases h; exact ⟨fun n z => ⟨fun k h => (by cases h), kJ, j2, pJ, j3⟩, j1⟩
    | k + 6, h => simp [kY] at h
  · exact ⟨va_Nw.of rfl (hts0 (.methodLinkNest RX6 18 yX4_init RX6) (List.mem_of_getElem? (i := 121) (by decide +kernel))), va_Nw.of rfl (hts0 (.methodLinkNest RX6 42 yX5_init RX6) (List.mem_of_getElem? (i := 347) (by decide +kernel))), va_Nw.of rfl (hts0 (.methodLinkNest RX1 43 yX6_reaches RX6) (List.mem_of_getElem? (i := 652) (by decide +kernel))), va_Nw.of rfl (hts0 (.methodLinkNest RX2 27 yX1_init RX6) (List.mem_of_getElem? (i := 166) (by decide +kernel))), va_Nw.of rfl (hts0 (.methodLinkNest RX3 28 yX0_init RX6) (List.mem_of_getElem? (i := 258) (by decide +kernel))), va_Nw.of rfl (hts0 (.methodLinkNest RX4 90 yX6_outside RX6) (List.mem_of_getElem? (i := 512) (by decide +kernel))), va_AO.of aoK, va_AO.of aoN, va_AO.of aoF, va_AO.of aoT, vk_R.of srH seH, vk_R.of srC seC, va_Nw.of rfl (hts0 (.castable "java/util/NoSuchElementException" "java/util/NoSuchElementException") (List.mem_of_getElem? (i := 977) (by decide +kernel))), vk_R.of srT (hev 0 (by decide))⟩
  · exact ⟨zUSUAL, tUSUAL, zLOWS, tLOWS, zHIGHS, tHIGHS, qUNASSIGNED_STACK, qSUPPRESSED_SENTINEL, zCS, qSF, hSS2⟩
