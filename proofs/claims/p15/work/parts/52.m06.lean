set_option maxHeartbeats 4000000 in
set_option maxRecDepth 100000 in
theorem k_X7_busiest (l : Launch) (D : va_G) (g : Nat → ClassId) (sz : Nat) {gs : Nat → Int32} (Mm : Nat) (zk : Int32) (zth : Int32) (Mt : Nat) (tp : Nat) (zma : Int32) (zwr : Int32) (Mrr : Nat) (Mrh : Nat) (Mrc : Nat) (zrh : Int32) (zrc : Int32) (Mn : Nat) (Mf : Nat) (Mr : Nat) (Mh : Nat) (hp : Nat) (cc : Nat) (Ma : Nat) (Mas : Nat) (Msn : Nat) (Mac : Nat) (Mat : Nat) (fno : Nat → Int32) (fmh : Nat → Int32) (fmr : Nat → Int32) (fma : Nat → Int32) (fas : Nat → Int32) (tb : Nat) (ub : Nat) (h0 : tb < 2 ^ 27) (h1 : ub < 2 ^ 27) (h2 : mOK gs tb ub fno) (h3 : 1 ≤ hp) (h4 : hp ≤ 3) (h5 : 1 ≤ cc) (h6 : cc ≤ 3) (h7 : n3 fmh) : Met l yX7_busiest wsX7_busiest ({ frames := 7, cells := 0, slots := 0, locals := 158 }) (va_Pc [.ref Mm, .int zk] (pre D g sz [(Mm, .inr (7, [.int zth, .ref Mt, .int (nI tp), .int zma, .int zwr, .ref Mrr, .ref Mrh, .ref Mrc, .int zrh, .int zrc, .ref Mn, .ref Mf, .ref Mr, .ref Mh, .int (nI hp), .int (nI cc), .ref Ma, .ref Mas, .ref Msn, .ref Mac, .ref Mat])), (Mn, .inl (g 0, 1767, .inl fno)), (Mh, .inl (g 0, 9, .inl fmh)), (Mr, .inl (g 0, 3, .inl fmr)), (Ma, .inl (g 0, 3, .inl fma)), (Mas, .inl (g 0, 1767, .inl fas))])) (va_Qi (fun (r : Int32) (u : va_W) => ∃ (zthx : Int32) (fnox : Nat → Int32) (fmax : Nat → Int32) (fasx : Nat → Int32), u = [(Mm, .inr (7, [.int zthx, .ref Mt, .int (nI tp), .int zma, .int zwr, .ref Mrr, .ref Mrh, .ref Mrc, .int zrh, .int zrc, .ref Mn, .ref Mf, .ref Mr, .ref Mh, .int (nI hp), .int (nI cc), .ref Ma, .ref Mas, .ref Msn, .ref Mac, .ref Mat])), (Mn, .inl (g 0, 1767, .inl fnox)), (Mh, .inl (g 0, 9, .inl fmh)), (Mr, .inl (g 0, 3, .inl fmr)), (Ma, .inl (g 0, 3, .inl fmax)), (Mas, .inl (g 0, 1767, .inl fasx))] ∧ (mOK gs tb ub fnox)) (wd D (va_A [(Mm, .inr (7, [.int zth, .ref Mt, .int (nI tp), .int zma, .int zwr, .ref Mrr, .ref Mrh, .ref Mrc, .int zrh, .int zrc, .ref Mn, .ref Mf, .ref Mr, .ref Mh, .int (nI hp), .int (nI cc), .ref Ma, .ref Mas, .ref Msn, .ref Mac, .ref Mat])), (Mn, .inl (g 0, 1767, .inl fno)), (Mh, .inl (g 0, 9, .inl fmh)), (Mr, .inl (g 0, 3, .inl fmr)), (Ma, .inl (g 0, 3, .inl fma)), (Mas, .inl (g 0, 1767, .inl fas))] sz)) (va_A [(Mm, .inr (7, [.int zth, .ref Mt, .int (nI tp), .int zma, .int zwr, .ref Mrr, .ref Mrh, .ref Mrc, .int zrh, .int zrc, .ref Mn, .ref Mf, .ref Mr, .ref Mh, .int (nI hp), .int (nI cc), .ref Ma, .ref Mas, .ref Msn, .ref Mac, .ref Mat])), (Mn, .inl (g 0, 1767, .inl fno)), (Mh, .inl (g 0, 9, .inl fmh)), (Mr, .inl (g 0, 3, .inl fmr)), (Ma, .inl (g 0, 3, .inl fma)), (Mas, .inl (g 0, 1767, .inl fas))] sz)) 0 0 (va_A [(Mm, .inr (7, [.int zth, .ref Mt, .int (nI tp), .int zma, .int zwr, .ref Mrr, .ref Mrh, .ref Mrc, .int zrh, .int zrc, .ref Mn, .ref Mf, .ref Mr, .ref Mh, .int (nI hp), .int (nI cc), .ref Ma, .ref Mas, .ref Msn, .ref Mac, .ref Mat])), (Mn, .inl (g 0, 1767, .inl fno)), (Mh, .inl (g 0, 9, .inl fmh)), (Mr, .inl (g 0, 3, .inl fmr)), (Ma, .inl (g 0, 3, .inl fma)), (Mas, .inl (g 0, 1767, .inl fas))] sz) := by
  refine Met.ofW (cc := cX7_busiest) (maxL := 4) (ret := (some .int)) (by decide) rfl ?_
  intro p e s m args below meth c s₁ B hml hv
  obtain ⟨rfl, hsz, hP, ⟨hK, hN⟩, hD0, hZ⟩ := hv
  have hx := B.exec
  have hb := B.bytes
  have hr := B.returns
  have hts := atoms_spec (ws := wsX7_busiest) B.pre
  have hown : s.vm.findClass RX7 = some m.cls := findClass_of_methodNamed B.named
  have hlocks := B.notSynchronized
  clear B
  subst hsz
  have hD := hD0.self (sz := s.heap.size)
  clear hD0
  generalize hAe : va_A [(Mm, .inr (7, [.int zth, .ref Mt, .int (nI tp), .int zma, .int zwr, .ref Mrr, .ref Mrh, .ref Mrc, .int zrh, .int zrc, .ref Mn, .ref Mf, .ref Mr, .ref Mh, .int (nI hp), .int (nI cc), .ref Ma, .ref Mas, .ref Msn, .ref Mac, .ref Mat])), (Mn, .inl (g 0, 1767, .inl fno)), (Mh, .inl (g 0, 9, .inl fmh)), (Mr, .inl (g 0, 3, .inl fmr)), (Ma, .inl (g 0, 3, .inl fma)), (Mas, .inl (g 0, 1767, .inl fas))] s.heap.size = A at hD hZ ⊢
  have hA : ∀ q : Nat, s.heap.size ≤ q → A q := fun q h => by rw [← hAe]; exact Or.inr h
  have hS : va_S A s.heap s.heap [] := va_S.rf
  have f124 := hts (.fieldLink RX7 124 "HopCreditsModel" "hops" "I") (List.mem_of_getElem? (i := 2) rfl)
  have f49 := hts (.fieldLink RX7 49 "HopCreditsModel" "thrown" "I") (List.mem_of_getElem? (i := 1) rfl)
  have iX7 : ∀ w ∈ u_ws RX7 TX7 21, w ∈ wsX7_busiest := fun w h => List.mem_cons_of_mem _ (List.mem_append_right _ (h))
  have hl := lv_entry ([.ref Mm, .int zk]) (n := 4) (Nat.le_of_ble_eq_true rfl)
  rw [lg_entry_eq]
  generalize (lg_sl ([.ref Mm, .int zk]) ++ List.replicate (4 - (lg_sl ([.ref Mm, .int zk])).length) Slot.unset).toArray = ls at hl ⊢
  have hl : lv_has ls 4 [(0, .ref Mm), (1, .int zk)] := hl
  generalize hQ : MQ below _ _ s _ _ _ = Q
  generalize hH : s.heap = H at hP ⊢
  have hS : va_S A s.heap H [] := by rw [← hH]; exact hS
  clear hH
  refine lv_aload_n hx hb dX7_busiest_0 rfl (lv_at hl 0 rfl) ?_
  refine lv_iconst (v := 0) hx hb dX7_busiest_1 (by decide) ?_
  refine va_put (D := D) (ci := 7) (v := .int 0) (ty := .int) (C := RX7) (T := TX7) (N := 21) hx hb hts iX7 tyX7 tyX7_ok nmX7 hown hK hP hD hS 0 rfl rfl 0 (by decide) f49 (fun _ h9 => h9) rfl (by decide +kernel) (rfl) (rfl) (Nat.le_of_ble_eq_true rfl) dX7_busiest_2 (fun H locs hP2 hD2 hS2 => ?_)
  clear hP hD hS
  have hPD : PD D A [(Mm, .inr (7, [.int 0, .ref Mt, .int (nI tp), .int zma, .int zwr, .ref Mrr, .ref Mrh, .ref Mrc, .int zrh, .int zrc, .ref Mn, .ref Mf, .ref Mr, .ref Mh, .int (nI hp), .int (nI cc), .ref Ma, .ref Mas, .ref Msn, .ref Mac, .ref Mat])), (Mn, .inl (g 0, 1767, .inl fno)), (Mh, .inl (g 0, 9, .inl fmh)), (Mr, .inl (g 0, 3, .inl fmr)), (Ma, .inl (g 0, 3, .inl fma)), (Mas, .inl (g 0, 1767, .inl fas))] H := ⟨hP2, hD2⟩
  have hS := hS2; clear hP2 hD2 hS2; have hP := hPD.1; have hD := hPD.2; clear hPD
  refine lv_aload_n hx hb dX7_busiest_5 rfl (lv_at hl 0 rfl) ?_
  refine ky_Vi (As := []) (rest := []) ⟨hx, hb, hml, hown, hts⟩ ⟨hK, hN⟩ hZ hP hD hS hA [0] [1, 2, 3, 4, 5] (wc := [(Mm, .inr (7, [.int 0, .ref Mt, .int (nI tp), .int zma, .int zwr, .ref Mrr, .ref Mrh, .ref Mrc, .int zrh, .int zrc, .ref Mn, .ref Mf, .ref Mr, .ref Mh, .int (nI hp), .int (nI cc), .ref Ma, .ref Mas, .ref Msn, .ref Mac, .ref Mat]))]) (wr := [(Mn, .inl (g 0, 1767, .inl fno)), (Mh, .inl (g 0, 9, .inl fmh)), (Mr, .inl (g 0, 3, .inl fmr)), (Ma, .inl (g 0, 3, .inl fma)), (Mas, .inl (g 0, 1767, .inl fas))]) rfl rfl rfl rfl (by decide) (k_X7_isNet l D g H.size Mm 0 Mt tp zma zwr Mrr Mrh Mrc zrh zrc Mn Mf Mr Mh hp cc Ma Mas Msn Mac Mat (show 1 ≤ hp by omega) (show hp ≤ 3 by omega)) (cwV 0 hts gX7_busiest_X7_isNet rfl rfl rfl (by decide +kernel) ⟨(Nat.le_of_ble_eq_true rfl), (Nat.le_of_ble_eq_true rfl)⟩) 0 7 rfl rfl rfl rfl hl.1 rfl (Nat.le_of_ble_eq_true rfl) dX7_busiest_6 ⟨(Nat.le_of_ble_eq_true rfl), (Nat.le_of_ble_eq_true rfl)⟩ (fun r_1 u H locs hw hP2 hD2 hS2 => ?_)
  clear hP hD hS
  obtain ⟨rfl, rfl⟩ := hw
  have hPD : PD D A [(Mn, .inl (g 0, 1767, .inl fno)), (Mh, .inl (g 0, 9, .inl fmh)), (Mr, .inl (g 0, 3, .inl fmr)), (Ma, .inl (g 0, 3, .inl fma)), (Mas, .inl (g 0, 1767, .inl fas)), (Mm, .inr (7, [.int 0, .ref Mt, .int (nI tp), .int zma, .int zwr, .ref Mrr, .ref Mrh, .ref Mrc, .int zrh, .int zrc, .ref Mn, .ref Mf, .ref Mr, .ref Mh, .int (nI hp), .int (nI cc), .ref Ma, .ref Mas, .ref Msn, .ref Mac, .ref Mat]))] H := ⟨hP2, hD2⟩
  have hS := hS2; clear hP2 hD2 hS2; have hP := hPD.1; have hD := hPD.2; clear hPD
  refine W.widen (k := 0) (n := 0) (Nat.le_of_ble_eq_true rfl) (Nat.le_of_ble_eq_true rfl) ?_
  refine lv_if_eq (tgt := 20) hx hb dX7_busiest_9 (by decide) (fun cb => absurd cb (by decide)) (fun _ => ?_)
  refine lv_iload_n hx hb dX7_busiest_12 rfl (lv_at hl 1 rfl) ?_
  refine lv_iconst (v := 1) hx hb dX7_busiest_13 (by decide) ?_
  refine ky_Si (As := [.int zk, .int 1]) (rest := []) ⟨hx, hb, hml, hown, hts⟩ ⟨hK, hN⟩ hZ hP hD hS hA [] [0, 1, 2, 3, 4, 5] (wc := []) (wr := [(Mn, .inl (g 0, 1767, .inl fno)), (Mh, .inl (g 0, 9, .inl fmh)), (Mr, .inl (g 0, 3, .inl fmr)), (Ma, .inl (g 0, 3, .inl fma)), (Mas, .inl (g 0, 1767, .inl fas)), (Mm, .inr (7, [.int 0, .ref Mt, .int (nI tp), .int zma, .int zwr, .ref Mrr, .ref Mrh, .ref Mrc, .int zrh, .int zrc, .ref Mn, .ref Mf, .ref Mr, .ref Mh, .int (nI hp), .int (nI cc), .ref Ma, .ref Mas, .ref Msn, .ref Mac, .ref Mat]))]) rfl rfl rfl rfl (by decide) (k_X7_isSpan l D g H.size zk 1) (va_cwS 2 hts gX7_busiest_X7_isSpan rfl rfl rfl (by decide +kernel) ⟨(Nat.le_of_ble_eq_true rfl), (Nat.le_of_ble_eq_true rfl)⟩) rfl hl.1 rfl (Nat.le_of_ble_eq_true rfl) dX7_busiest_14 ⟨(Nat.le_of_ble_eq_true rfl), (Nat.le_of_ble_eq_true rfl)⟩ (fun r_2 u H locs hw hP2 hD2 hS2 => ?_)
  clear hP hD hS
  obtain ⟨rfl, rfl⟩ := hw
  have hPD : PD D A [(Mn, .inl (g 0, 1767, .inl fno)), (Mh, .inl (g 0, 9, .inl fmh)), (Mr, .inl (g 0, 3, .inl fmr)), (Ma, .inl (g 0, 3, .inl fma)), (Mas, .inl (g 0, 1767, .inl fas)), (Mm, .inr (7, [.int 0, .ref Mt, .int (nI tp), .int zma, .int zwr, .ref Mrr, .ref Mrh, .ref Mrc, .int zrh, .int zrc, .ref Mn, .ref Mf, .ref Mr, .ref Mh, .int (nI hp), .int (nI cc), .ref Ma, .ref Mas, .ref Msn, .ref Mac, .ref Mat]))] H := ⟨hP2, hD2⟩
  have hS := hS2; clear hP2 hD2 hS2; have hP := hPD.1; have hD := hPD.2; clear hPD
  refine W.widen (k := 0) (n := 0) (Nat.le_of_ble_eq_true rfl) (Nat.le_of_ble_eq_true rfl) ?_
  refine lv_if_ne (tgt := 22) hx hb dX7_busiest_17 (by decide) (fun cb_3 => ?_) (fun cb_3 => ?_)
  · skip
    have hq_4 : 1 ≤ zk ∧ zk ≤ 200 := b01_1.mp cb_3
    have hPq_8 := hP; have hDq_8 := hD; have hSq_8 := hS; have hlq_8 := hl; clear hP hD hS hl
    obtain ⟨j_5, hl_6, hu_7, rfl⟩ := rg (L := 1) (U := 200) rfl rfl (show 1 < 2 ^ 31 by omega) (show 200 < 2 ^ 31 by omega) hq_4
    have hP := hPq_8; have hD := hDq_8; have hS := hSq_8; have hl := hlq_8; clear hPq_8 hDq_8 hSq_8 hlq_8
    refine lv_iconst (v := 0) hx hb dX7_busiest_22 (by decide) ?_
    refine lv_istore_n (lv' := [(2, .int 0), (0, .ref Mm), (1, .int (nI j_5))]) hx hb dX7_busiest_23 rfl hl (by decide) rfl (fun ls hl => ?_)
    refine lv_iconst (v := 1) hx hb dX7_busiest_24 (by decide) ?_
    refine lv_istore_n (lv' := [(3, .int 1), (2, .int 0), (0, .ref Mm), (1, .int (nI j_5))]) hx hb dX7_busiest_25 rfl hl (by decide) rfl (fun ls hl => ?_)
    have loop_43 : ∀ (Nloop_43 : Nat) (i_23 : Nat) (F_24 : Nat → Int32) (F_25 : Nat → Int32) (F_26 : Nat → Int32) (i_27 : Nat) (hF_24 : mOK gs tb ub F_24) (hbi_23 : i_23 ≤ hp) (hv_42 : i_27 < 3) (hmloop_43 : hp - i_23 < Nloop_43) (H : Heap) (locs : List Loc) (ls : Array Slot), va_P D vwCl [(Mn, .inl (g 0, 1767, .inl F_24)), (Mh, .inl (g 0, 9, .inl fmh)), (Mr, .inl (g 0, 3, .inl fmr)), (Ma, .inl (g 0, 3, .inl F_25)), (Mas, .inl (g 0, 1767, .inl F_26)), (Mm, .inr (7, [.int 0, .ref Mt, .int (nI tp), .int zma, .int zwr, .ref Mrr, .ref Mrh, .ref Mrc, .int zrh, .int zrc, .ref Mn, .ref Mf, .ref Mr, .ref Mh, .int (nI hp), .int (nI cc), .ref Ma, .ref Mas, .ref Msn, .ref Mac, .ref Mat]))] H → va_D A [(Mn, .inl (g 0, 1767, .inl F_24)), (Mh, .inl (g 0, 9, .inl fmh)), (Mr, .inl (g 0, 3, .inl fmr)), (Ma, .inl (g 0, 3, .inl F_25)), (Mas, .inl (g 0, 1767, .inl F_26)), (Mm, .inr (7, [.int 0, .ref Mt, .int (nI tp), .int zma, .int zwr, .ref Mrr, .ref Mrh, .ref Mrc, .int zrh, .int zrc, .ref Mn, .ref Mf, .ref Mr, .ref Mh, .int (nI hp), .int (nI cc), .ref Ma, .ref Mas, .ref Msn, .ref Mac, .ref Mat]))] → va_S A s.heap H locs → lv_has ls 4 [(3, .int (nI i_23)), (2, .int (nI i_27)), (0, .ref Mm), (1, .int (nI j_5))] → W p l e (headSpec wsX7_busiest ({ frames := 7, cells := 0, slots := 0, locals := 158 })).room s m ([.ref Mm, .int (nI j_5)] : List Value).toArray below meth c H locs 0 0 Q (F0 m 26 ls []) := by
      clear hP hD hS hl
      intro Nloop_43
      induction Nloop_43 with
      | zero => intro i_23 F_24 F_25 F_26 i_27 hF_24 hbi_23 hv_42 hm9; exact absurd hm9 (Nat.not_lt_zero _)
      | succ Nloop_43 loop_43_ih =>
        intro i_23 F_24 F_25 F_26 i_27 hF_24 hbi_23 hv_42 hmloop_43 H locs ls hP hD hS hl
        refine lv_iload_n hx hb dX7_busiest_26 rfl (lv_at hl 0 rfl) ?_
        refine lv_aload_n hx hb dX7_busiest_27 rfl (lv_at hl 2 rfl) ?_
        refine va_get (D := D) (ci := 7) (v := .int (nI hp)) (C := RX7) (T := TX7) (N := 21) hx hb hts iX7 hown hK hP 5 rfl rfl 14 (by decide) f124 (fun _ h9 => h9) rfl dX7_busiest_28 ?_
        refine lv_icmp_ge (tgt := 61) hx hb dX7_busiest_31 (by decide) (fun cb_44 => ?_) (fun cb_44 => ?_)
        · skip
          have cn_45 : hp ≤ i_23 := (nI_leI (show hp < 2 ^ 31 by omega) (show i_23 < 2 ^ 31 by omega)).mp cb_44
          refine lv_iload_n hx hb dX7_busiest_61 rfl (lv_at hl 1 rfl) ?_
          have hPD9 : PD D A [(Mm, .inr (7, [.int 0, .ref Mt, .int (nI tp), .int zma, .int zwr, .ref Mrr, .ref Mrh, .ref Mrc, .int zrh, .int zrc, .ref Mn, .ref Mf, .ref Mr, .ref Mh, .int (nI hp), .int (nI cc), .ref Ma, .ref Mas, .ref Msn, .ref Mac, .ref Mat])), (Mn, .inl (g 0, 1767, .inl F_24)), (Mh, .inl (g 0, 9, .inl fmh)), (Mr, .inl (g 0, 3, .inl fmr)), (Ma, .inl (g 0, 3, .inl F_25)), (Mas, .inl (g 0, 1767, .inl F_26))] H := ⟨hP.sub [5, 0, 1, 2, 3, 4] rfl, hD.sub [5, 0, 1, 2, 3, 4] (by decide) rfl⟩
          have hP9 := hPD9.1; have hD9 := hPD9.2
          subst hQ
          refine W.widen (k := 0) (n := 0) (Nat.le_of_ble_eq_true rfl) (Nat.le_of_ble_eq_true rfl) ?_
          exact W.iret (v := (nI i_27)) hx hb hr (fun tS htS _ => ⟨⟨_, _, rfl, ⟨0, F_24, F_25, F_26, rfl, (hF_24)⟩, by rw [htS]; exact hP9, hD9⟩, hS.F htS⟩) hS.2.2 dX7_busiest_62
        · skip
          have cn_46 : i_23 < hp := Nat.lt_of_not_le (fun q9 => cb_44 ((nI_leI (show hp < 2 ^ 31 by omega) (show i_23 < 2 ^ 31 by omega)).mpr q9))
          refine lv_aload_n hx hb dX7_busiest_34 rfl (lv_at hl 2 rfl) ?_
          refine lv_iload_n hx hb dX7_busiest_35 rfl (lv_at hl 0 rfl) ?_
          refine lv_iload_n hx hb dX7_busiest_36 rfl (lv_at hl 3 rfl) ?_
          refine ky_Vi (As := [.int (nI i_23), .int (nI j_5)]) (rest := []) ⟨hx, hb, hml, hown, hts⟩ ⟨hK, hN⟩ hZ hP hD hS hA [5, 0, 1, 2, 3, 4] [] (wc := [(Mm, .inr (7, [.int 0, .ref Mt, .int (nI tp), .int zma, .int zwr, .ref Mrr, .ref Mrh, .ref Mrc, .int zrh, .int zrc, .ref Mn, .ref Mf, .ref Mr, .ref Mh, .int (nI hp), .int (nI cc), .ref Ma, .ref Mas, .ref Msn, .ref Mac, .ref Mat])), (Mn, .inl (g 0, 1767, .inl F_24)), (Mh, .inl (g 0, 9, .inl fmh)), (Mr, .inl (g 0, 3, .inl fmr)), (Ma, .inl (g 0, 3, .inl F_25)), (Mas, .inl (g 0, 1767, .inl F_26))]) (wr := []) rfl rfl rfl rfl (by decide) (k_X7_idleOf l D g H.size Mm i_23 j_5 0 Mt tp zma zwr Mrr Mrh Mrc zrh zrc Mn Mf Mr Mh hp cc Ma Mas Msn Mac Mat F_24 fmh fmr F_25 F_26 tb ub (show tb < 2 ^ 27 by omega) (show ub < 2 ^ 27 by omega) (hF_24) (show 1 ≤ hp by omega) (show hp ≤ 3 by omega) (show 1 ≤ cc by omega) (show cc ≤ 3 by omega) (h7) (show i_23 < 3 by omega) (show j_5 ≤ 200 by omega)) (cwV 2 hts gX7_busiest_X7_idleOf rfl rfl rfl (by decide +kernel) ⟨(Nat.le_of_ble_eq_true rfl), (Nat.le_of_ble_eq_true rfl)⟩) 5 7 rfl rfl rfl rfl hl.1 rfl (Nat.le_of_ble_eq_true rfl) dX7_busiest_37 ⟨(Nat.le_of_ble_eq_true rfl), (Nat.le_of_ble_eq_true rfl)⟩ (fun r_47 u H locs hw hP2 hD2 hS2 => ?_)
          clear hP hD hS
          obtain ⟨fnox_48, fmax_49, fasx_50, rfl, hf_51⟩ := hw
          have hPD : PD D A [(Mm, .inr (7, [.int 0, .ref Mt, .int (nI tp), .int zma, .int zwr, .ref Mrr, .ref Mrh, .ref Mrc, .int zrh, .int zrc, .ref Mn, .ref Mf, .ref Mr, .ref Mh, .int (nI hp), .int (nI cc), .ref Ma, .ref Mas, .ref Msn, .ref Mac, .ref Mat])), (Mn, .inl (g 0, 1767, .inl fnox_48)), (Mh, .inl (g 0, 9, .inl fmh)), (Mr, .inl (g 0, 3, .inl fmr)), (Ma, .inl (g 0, 3, .inl fmax_49)), (Mas, .inl (g 0, 1767, .inl fasx_50))] H := ⟨hP2, hD2⟩
          have hS := hS2; clear hP2 hD2 hS2; have hP := hPD.1; have hD := hPD.2; clear hPD
          refine W.widen (k := 0) (n := 0) (Nat.le_of_ble_eq_true rfl) (Nat.le_of_ble_eq_true rfl) ?_
          refine lv_aload_n hx hb dX7_busiest_40 rfl (lv_at hl 2 rfl) ?_
          refine lv_iload_n hx hb dX7_busiest_41 rfl (lv_at hl 1 rfl) ?_
          refine lv_iload_n hx hb dX7_busiest_42 rfl (lv_at hl 3 rfl) ?_
          refine ky_Vi (As := [.int (nI i_27), .int (nI j_5)]) (rest := [.int r_47]) ⟨hx, hb, hml, hown, hts⟩ ⟨hK, hN⟩ hZ hP hD hS hA [0, 1, 2, 3, 4, 5] [] (wc := [(Mm, .inr (7, [.int 0, .ref Mt, .int (nI tp), .int zma, .int zwr, .ref Mrr, .ref Mrh, .ref Mrc, .int zrh, .int zrc, .ref Mn, .ref Mf, .ref Mr, .ref Mh, .int (nI hp), .int (nI cc), .ref Ma, .ref Mas, .ref Msn, .ref Mac, .ref Mat])), (Mn, .inl (g 0, 1767, .inl fnox_48)), (Mh, .inl (g 0, 9, .inl fmh)), (Mr, .inl (g 0, 3, .inl fmr)), (Ma, .inl (g 0, 3, .inl fmax_49)), (Mas, .inl (g 0, 1767, .inl fasx_50))]) (wr := []) rfl rfl rfl rfl (by decide) (k_X7_idleOf l D g H.size Mm i_27 j_5 0 Mt tp zma zwr Mrr Mrh Mrc zrh zrc Mn Mf Mr Mh hp cc Ma Mas Msn Mac Mat fnox_48 fmh fmr fmax_49 fasx_50 tb ub (show tb < 2 ^ 27 by omega) (show ub < 2 ^ 27 by omega) (hf_51) (show 1 ≤ hp by omega) (show hp ≤ 3 by omega) (show 1 ≤ cc by omega) (show cc ≤ 3 by omega) (h7) (show i_27 < 3 by omega) (show j_5 ≤ 200 by omega)) (cwV 2 hts gX7_busiest_X7_idleOf rfl rfl rfl (by decide +kernel) ⟨(Nat.le_of_ble_eq_true rfl), (Nat.le_of_ble_eq_true rfl)⟩) 0 7 rfl rfl rfl rfl hl.1 rfl (Nat.le_of_ble_eq_true rfl) dX7_busiest_43 ⟨(Nat.le_of_ble_eq_true rfl), (Nat.le_of_ble_eq_true rfl)⟩ (fun r_52 u H locs hw hP2 hD2 hS2 => ?_)
          clear hP hD hS
          obtain ⟨fnox_53, fmax_54, fasx_55, rfl, hf_56⟩ := hw
          have hPD : PD D A [(Mm, .inr (7, [.int 0, .ref Mt, .int (nI tp), .int zma, .int zwr, .ref Mrr, .ref Mrh, .ref Mrc, .int zrh, .int zrc, .ref Mn, .ref Mf, .ref Mr, .ref Mh, .int (nI hp), .int (nI cc), .ref Ma, .ref Mas, .ref Msn, .ref Mac, .ref Mat])), (Mn, .inl (g 0, 1767, .inl fnox_53)), (Mh, .inl (g 0, 9, .inl fmh)), (Mr, .inl (g 0, 3, .inl fmr)), (Ma, .inl (g 0, 3, .inl fmax_54)), (Mas, .inl (g 0, 1767, .inl fasx_55))] H := ⟨hP2, hD2⟩
          have hS := hS2; clear hP2 hD2 hS2; have hP := hPD.1; have hD := hPD.2; clear hPD
          refine W.widen (k := 0) (n := 0) (Nat.le_of_ble_eq_true rfl) (Nat.le_of_ble_eq_true rfl) ?_
          refine lv_icmp_ge (tgt := 53) hx hb dX7_busiest_46 (by decide) (fun cb_57 => ?_) (fun cb_57 => ?_)
          · skip
            refine lv_iload_n hx hb dX7_busiest_53 rfl (lv_at hl 1 rfl) ?_
            refine lv_istore_n (lv' := [(2, .int (nI i_27)), (3, .int (nI i_23)), (0, .ref Mm), (1, .int (nI j_5))]) hx hb dX7_busiest_54 rfl hl (by decide) rfl (fun ls hl => ?_)
            refine lv_iinc (v := (nI (i_23 + 1))) (lv' := [(3, .int (nI (i_23 + 1))), (2, .int (nI i_27)), (0, .ref Mm), (1, .int (nI j_5))]) hx hb dX7_busiest_55 hl (k := 1) rfl (nI_1 (i_23)) (by decide) rfl (fun ls hl => ?_)
            refine lv_goto (tgt := 26) hx hb dX7_busiest_58 (by decide) ?_
            exact loop_43_ih (i_23 + 1) fnox_53 fmax_54 fasx_55 i_27 (hf_56) (show (i_23 + 1) ≤ hp by omega) (show i_27 < 3 by omega) (show hp - (i_23 + 1) < Nloop_43 by omega) _ _ _ (hP.sub [1, 2, 3, 4, 5, 0] rfl) (hD.sub [1, 2, 3, 4, 5, 0] (by decide) rfl) hS hl
          · skip
            refine lv_iload_n hx hb dX7_busiest_49 rfl (lv_at hl 0 rfl) ?_
            refine lv_goto (tgt := 54) hx hb dX7_busiest_50 (by decide) ?_
            refine lv_istore_n (lv' := [(2, .int (nI i_23)), (3, .int (nI i_23)), (0, .ref Mm), (1, .int (nI j_5))]) hx hb dX7_busiest_54 rfl hl (by decide) rfl (fun ls hl => ?_)
            refine lv_iinc (v := (nI (i_23 + 1))) (lv' := [(3, .int (nI (i_23 + 1))), (2, .int (nI i_23)), (0, .ref Mm), (1, .int (nI j_5))]) hx hb dX7_busiest_55 hl (k := 1) rfl (nI_1 (i_23)) (by decide) rfl (fun ls hl => ?_)
            refine lv_goto (tgt := 26) hx hb dX7_busiest_58 (by decide) ?_
            exact loop_43_ih (i_23 + 1) fnox_53 fmax_54 fasx_55 i_23 (hf_56) (show (i_23 + 1) ≤ hp by omega) (show i_23 < 3 by omega) (show hp - (i_23 + 1) < Nloop_43 by omega) _ _ _ (hP.sub [1, 2, 3, 4, 5, 0] rfl) (hD.sub [1, 2, 3, 4, 5, 0] (by decide) rfl) hS hl
    exact loop_43 _ 1 fno fma fas 0 (h2) (show 1 ≤ hp by omega) (show 0 < 3 by omega) (Nat.lt_succ_self _) _ _ _ hP hD hS hl
  · skip
    have hq_58 : ¬ (1 ≤ zk ∧ zk ≤ 200) := b01_0.mp cb_3
    refine lv_iconst (v := (-1)) hx hb dX7_busiest_20 (by decide) ?_
    have hPD9 : PD D A [(Mm, .inr (7, [.int 0, .ref Mt, .int (nI tp), .int zma, .int zwr, .ref Mrr, .ref Mrh, .ref Mrc, .int zrh, .int zrc, .ref Mn, .ref Mf, .ref Mr, .ref Mh, .int (nI hp), .int (nI cc), .ref Ma, .ref Mas, .ref Msn, .ref Mac, .ref Mat])), (Mn, .inl (g 0, 1767, .inl fno)), (Mh, .inl (g 0, 9, .inl fmh)), (Mr, .inl (g 0, 3, .inl fmr)), (Ma, .inl (g 0, 3, .inl fma)), (Mas, .inl (g 0, 1767, .inl fas))] H := ⟨hP.sub [5, 0, 1, 2, 3, 4] rfl, hD.sub [5, 0, 1, 2, 3, 4] (by decide) rfl⟩
    have hP9 := hPD9.1; have hD9 := hPD9.2
    subst hQ
    refine W.widen (k := 0) (n := 0) (Nat.le_of_ble_eq_true rfl) (Nat.le_of_ble_eq_true rfl) ?_
    exact W.iret (v := (-1)) hx hb hr (fun tS htS _ => ⟨⟨_, _, rfl, ⟨0, fno, fma, fas, rfl, (h2)⟩, by rw [htS]; exact hP9, hD9⟩, hS.F htS⟩) hS.2.2 dX7_busiest_21

set_option maxHeartbeats 4000000 in
set_option maxRecDepth 100000 in
theorem k_X7_there_0 (l : Launch) (D : va_G) (g : Nat → ClassId) (sz : Nat) (Mm : Nat) (nx : Nat) (zc : Int32) (zth : Int32) (Mt : Nat) (tp : Nat) (zma : Int32) (zwr : Int32) (Mrr : Nat) (Mrh : Nat) (Mrc : Nat) (zrh : Int32) (zrc : Int32) (Mn : Nat) (Mf : Nat) (Mr : Nat) (Mh : Nat) (hp : Nat) (cc : Nat) (Ma : Nat) (Mas : Nat) (Msn : Nat) (Mac : Nat) (Mat : Nat) (fno : Nat → Int32) (h0 : 1 ≤ cc) (h1 : cc ≤ 3) (h2 : nx ≤ 3) : Met l yX7_there wsX7_there ({ frames := 1, cells := 0, slots := 0, locals := 21 }) (va_Pc [.ref Mm, .int (nI nx), .int zc, .int 0] (pre D g sz [(Mm, .inr (7, [.int zth, .ref Mt, .int (nI tp), .int zma, .int zwr, .ref Mrr, .ref Mrh, .ref Mrc, .int zrh, .int zrc, .ref Mn, .ref Mf, .ref Mr, .ref Mh, .int (nI hp), .int (nI cc), .ref Ma, .ref Mas, .ref Msn, .ref Mac, .ref Mat])), (Mn, .inl (g 0, 1767, .inl fno))])) (va_Qi (fun (r : Int32) (u : va_W) => u = [(Mm, .inr (7, [.int zth, .ref Mt, .int (nI tp), .int zma, .int zwr, .ref Mrr, .ref Mrh, .ref Mrc, .int zrh, .int zrc, .ref Mn, .ref Mf, .ref Mr, .ref Mh, .int (nI hp), .int (nI cc), .ref Ma, .ref Mas, .ref Msn, .ref Mac, .ref Mat])), (Mn, .inl (g 0, 1767, .inl fno))]) (wd D (va_A [(Mm, .inr (7, [.int zth, .ref Mt, .int (nI tp), .int zma, .int zwr, .ref Mrr, .ref Mrh, .ref Mrc, .int zrh, .int zrc, .ref Mn, .ref Mf, .ref Mr, .ref Mh, .int (nI hp), .int (nI cc), .ref Ma, .ref Mas, .ref Msn, .ref Mac, .ref Mat])), (Mn, .inl (g 0, 1767, .inl fno))] sz)) (va_A [(Mm, .inr (7, [.int zth, .ref Mt, .int (nI tp), .int zma, .int zwr, .ref Mrr, .ref Mrh, .ref Mrc, .int zrh, .int zrc, .ref Mn, .ref Mf, .ref Mr, .ref Mh, .int (nI hp), .int (nI cc), .ref Ma, .ref Mas, .ref Msn, .ref Mac, .ref Mat])), (Mn, .inl (g 0, 1767, .inl fno))] sz)) 0 0 (va_A [(Mm, .inr (7, [.int zth, .ref Mt, .int (nI tp), .int zma, .int zwr, .ref Mrr, .ref Mrh, .ref Mrc, .int zrh, .int zrc, .ref Mn, .ref Mf, .ref Mr, .ref Mh, .int (nI hp), .int (nI cc), .ref Ma, .ref Mas, .ref Msn, .ref Mac, .ref Mat])), (Mn, .inl (g 0, 1767, .inl fno))] sz) := by
  refine Met.ofW (cc := cX7_there) (maxL := 6) (ret := (some .int)) (by decide) rfl ?_
  intro p e s m args below meth c s₁ B hml hv
  obtain ⟨rfl, hsz, hP, ⟨hK, hN⟩, hD0, hZ⟩ := hv
  have hx := B.exec
  have hb := B.bytes
  have hr := B.returns
  have hts := atoms_spec (ws := wsX7_there) B.pre
  have hown : s.vm.findClass RX7 = some m.cls := findClass_of_methodNamed B.named
  have hlocks := B.notSynchronized
  clear B
  subst hsz
  have hD := hD0.self (sz := s.heap.size)
  clear hD0
  generalize hAe : va_A [(Mm, .inr (7, [.int zth, .ref Mt, .int (nI tp), .int zma, .int zwr, .ref Mrr, .ref Mrh, .ref Mrc, .int zrh, .int zrc, .ref Mn, .ref Mf, .ref Mr, .ref Mh, .int (nI hp), .int (nI cc), .ref Ma, .ref Mas, .ref Msn, .ref Mac, .ref Mat])), (Mn, .inl (g 0, 1767, .inl fno))] s.heap.size = A at hD hZ ⊢
  have hA : ∀ q : Nat, s.heap.size ≤ q → A q := fun q h => by rw [← hAe]; exact Or.inr h
  have hS : va_S A s.heap s.heap [] := va_S.rf
  have f127 := hts (.fieldLink RX7 127 "HopCreditsModel" "circuits" "I") (List.mem_of_getElem? (i := 1) rfl)
  have f22 := hts (.fieldLink RX7 22 "HopCreditsModel" "now" "[I") (List.mem_of_getElem? (i := 2) rfl)
  have iX7 : ∀ w ∈ u_ws RX7 TX7 21, w ∈ wsX7_there := fun w h => List.mem_cons_of_mem _ (List.mem_append_right _ (h))
  have hl := lv_entry ([.ref Mm, .int (nI nx), .int zc, .int 0]) (n := 6) (Nat.le_of_ble_eq_true rfl)
  rw [lg_entry_eq]
  generalize (lg_sl ([.ref Mm, .int (nI nx), .int zc, .int 0]) ++ List.replicate (6 - (lg_sl ([.ref Mm, .int (nI nx), .int zc, .int 0])).length) Slot.unset).toArray = ls at hl ⊢
  have hl : lv_has ls 6 [(0, .ref Mm), (1, .int (nI nx)), (2, .int zc), (3, .int 0)] := hl
  generalize hQ : MQ below _ _ s _ _ _ = Q
  generalize hH : s.heap = H at hP ⊢
  have hS : va_S A s.heap H [] := by rw [← hH]; exact hS
  clear hH
  refine lv_iload_n hx hb dX7_there_0 rfl (lv_at hl 3 rfl) ?_
  refine lv_iconst (v := 1) hx hb dX7_there_1 (by decide) ?_
  refine lv_icmp_le (tgt := 25) hx hb dX7_there_2 (by decide) (fun _ => ?_) (fun cb => absurd (by decide) cb)
  refine lv_iconst (v := 0) hx hb dX7_there_25 (by decide) ?_
  refine lv_istore (lv' := [(4, .int 0), (0, .ref Mm), (1, .int (nI nx)), (2, .int zc), (3, .int 0)]) hx hb dX7_there_26 hl (by decide) rfl (fun ls hl => ?_)
  refine lv_iconst (v := 0) hx hb dX7_there_28 (by decide) ?_
  refine lv_istore (lv' := [(5, .int 0), (4, .int 0), (0, .ref Mm), (1, .int (nI nx)), (2, .int zc), (3, .int 0)]) hx hb dX7_there_29 hl (by decide) rfl (fun ls hl => ?_)
  have loop_15 : ∀ (Nloop_15 : Nat) (i_5 : Nat) (i_6 : Int32) (hbi_5 : i_5 ≤ cc) (hmloop_15 : cc - i_5 < Nloop_15) (H : Heap) (locs : List Loc) (ls : Array Slot), va_P D vwCl [(Mm, .inr (7, [.int zth, .ref Mt, .int (nI tp), .int zma, .int zwr, .ref Mrr, .ref Mrh, .ref Mrc, .int zrh, .int zrc, .ref Mn, .ref Mf, .ref Mr, .ref Mh, .int (nI hp), .int (nI cc), .ref Ma, .ref Mas, .ref Msn, .ref Mac, .ref Mat])), (Mn, .inl (g 0, 1767, .inl fno))] H → va_D A [(Mm, .inr (7, [.int zth, .ref Mt, .int (nI tp), .int zma, .int zwr, .ref Mrr, .ref Mrh, .ref Mrc, .int zrh, .int zrc, .ref Mn, .ref Mf, .ref Mr, .ref Mh, .int (nI hp), .int (nI cc), .ref Ma, .ref Mas, .ref Msn, .ref Mac, .ref Mat])), (Mn, .inl (g 0, 1767, .inl fno))] → va_S A s.heap H locs → lv_has ls 6 [(5, .int (nI i_5)), (4, .int i_6), (0, .ref Mm), (1, .int (nI nx)), (2, .int zc), (3, .int 0)] → W p l e (headSpec wsX7_there ({ frames := 1, cells := 0, slots := 0, locals := 21 })).room s m ([.ref Mm, .int (nI nx), .int zc, .int 0] : List Value).toArray below meth c H locs 0 0 Q (F0 m 31 ls []) := by
    clear hP hD hS hl
    intro Nloop_15
    induction Nloop_15 with
    | zero => intro i_5 i_6 hbi_5 hm9; exact absurd hm9 (Nat.not_lt_zero _)
    | succ Nloop_15 loop_15_ih =>
      intro i_5 i_6 hbi_5 hmloop_15 H locs ls hP hD hS hl
      refine lv_iload hx hb dX7_there_31 (lv_at hl 0 rfl) ?_
      refine lv_aload_n hx hb dX7_there_33 rfl (lv_at hl 2 rfl) ?_
      refine va_get (D := D) (ci := 7) (v := .int (nI cc)) (C := RX7) (T := TX7) (N := 21) hx hb hts iX7 hown hK hP 0 rfl rfl 15 (by decide) f127 (fun _ h9 => h9) rfl dX7_there_34 ?_
      refine lv_icmp_ge (tgt := 82) hx hb dX7_there_37 (by decide) (fun cb_16 => ?_) (fun cb_16 => ?_)
      · skip
        have cn_17 : cc ≤ i_5 := (nI_leI (show cc < 2 ^ 31 by omega) (show i_5 < 2 ^ 31 by omega)).mp cb_16
        refine lv_iload hx hb dX7_there_82 (lv_at hl 1 rfl) ?_
        have hP9 := hP; have hD9 := hD
        subst hQ
        refine W.widen (k := 0) (n := 0) (Nat.le_of_ble_eq_true rfl) (Nat.le_of_ble_eq_true rfl) ?_
        exact W.iret (v := i_6) hx hb hr (fun tS htS _ => ⟨⟨_, _, rfl, rfl, by rw [htS]; exact hP9, hD9⟩, hS.F htS⟩) hS.2.2 dX7_there_84
      · skip
        have cn_18 : i_5 < cc := Nat.lt_of_not_le (fun q9 => cb_16 ((nI_leI (show cc < 2 ^ 31 by omega) (show i_5 < 2 ^ 31 by omega)).mpr q9))
        refine lv_iload hx hb dX7_there_40 (lv_at hl 1 rfl) ?_
        refine lv_iload hx hb dX7_there_42 (lv_at hl 0 rfl) ?_
        refine lv_iload_n hx hb dX7_there_44 rfl (lv_at hl 4 rfl) ?_
        refine lv_icmp_eq (tgt := 58) hx hb dX7_there_45 (by decide) (fun cb_19 => ?_) (fun cb_19 => ?_)
        · skip
          refine lv_aload_n hx hb dX7_there_58 rfl (lv_at hl 2 rfl) ?_
          refine va_get (D := D) (ci := 7) (v := .ref Mn) (C := RX7) (T := TX7) (N := 21) hx hb hts iX7 hown hK hP 0 rfl rfl 10 (by decide) f22 (fun _ h9 => h9) rfl dX7_there_59 ?_
          refine lv_iload_n hx hb dX7_there_62 rfl (lv_at hl 3 rfl) ?_
          refine lv_iload hx hb dX7_there_63 (lv_at hl 0 rfl) ?_
          refine ky_Si (As := [.int (nI nx), .int (nI i_5)]) (rest := [.ref Mn, .int i_6]) ⟨hx, hb, hml, hown, hts⟩ ⟨hK, hN⟩ hZ hP hD hS hA [] [0, 1] (wc := []) (wr := [(Mm, .inr (7, [.int zth, .ref Mt, .int (nI tp), .int zma, .int zwr, .ref Mrr, .ref Mrh, .ref Mrc, .int zrh, .int zrc, .ref Mn, .ref Mf, .ref Mr, .ref Mh, .int (nI hp), .int (nI cc), .ref Ma, .ref Mas, .ref Msn, .ref Mac, .ref Mat])), (Mn, .inl (g 0, 1767, .inl fno))]) rfl rfl rfl rfl (by decide) (k_X7_bufferAt l D g H.size nx i_5 (show nx ≤ 3 by omega) (show i_5 < 3 by omega)) (va_cwS 2 hts gX7_there_X7_bufferAt rfl rfl rfl (by decide +kernel) ⟨(Nat.le_of_ble_eq_true rfl), (Nat.le_of_ble_eq_true rfl)⟩) rfl hl.1 rfl (Nat.le_of_ble_eq_true rfl) dX7_there_65 ⟨(Nat.le_of_ble_eq_true rfl), (Nat.le_of_ble_eq_true rfl)⟩ (fun r_20 u H locs hw hP2 hD2 hS2 => ?_)
          clear hP hD hS
          obtain ⟨rfl, rfl⟩ := hw
          have hPD : PD D A [(Mm, .inr (7, [.int zth, .ref Mt, .int (nI tp), .int zma, .int zwr, .ref Mrr, .ref Mrh, .ref Mrc, .int zrh, .int zrc, .ref Mn, .ref Mf, .ref Mr, .ref Mh, .int (nI hp), .int (nI cc), .ref Ma, .ref Mas, .ref Msn, .ref Mac, .ref Mat])), (Mn, .inl (g 0, 1767, .inl fno))] H := ⟨hP2, hD2⟩
          have hS := hS2; clear hP2 hD2 hS2; have hP := hPD.1; have hD := hPD.2; clear hPD
          refine W.widen (k := 0) (n := 0) (Nat.le_of_ble_eq_true rfl) (Nat.le_of_ble_eq_true rfl) ?_
          refine va_iald hx hb hK hP 1 0 rfl rfl (vp_in_nI (show 189 + 3 * nx + i_5 < 1767 by omega) (by decide)) dX7_there_68 ?_
          refine lv_eqi (y := (fno (189 + 3 * nx + i_5))) (congrArg fno (nI_clamp (show 189 + 3 * nx + i_5 < 2 ^ 31 by omega))) ?_
          refine lv_topi (fun y_21 _ => ?_)
          refine lv_goto (tgt := 73) hx hb dX7_there_69 (by decide) ?_
          refine lv_iadd hx hb dX7_there_73 ?_
          refine lv_topi (fun y_22 _ => ?_)
          refine lv_istore (lv' := [(4, .int y_22), (5, .int (nI i_5)), (0, .ref Mm), (1, .int (nI nx)), (2, .int zc), (3, .int 0)]) hx hb dX7_there_74 hl (by decide) rfl (fun ls hl => ?_)
          refine lv_iinc (v := (nI (i_5 + 1))) (lv' := [(5, .int (nI (i_5 + 1))), (4, .int y_22), (0, .ref Mm), (1, .int (nI nx)), (2, .int zc), (3, .int 0)]) hx hb dX7_there_76 hl (k := 1) rfl (nI_1 (i_5)) (by decide) rfl (fun ls hl => ?_)
          refine lv_goto (tgt := 31) hx hb dX7_there_79 (by decide) ?_
          exact loop_15_ih (i_5 + 1) y_22 (show (i_5 + 1) ≤ cc by omega) (show cc - (i_5 + 1) < Nloop_15 by omega) _ _ _ hP hD hS hl
        · skip
          refine lv_iload_n hx hb dX7_there_48 rfl (lv_at hl 5 rfl) ?_
          refine lv_iconst (v := 1) hx hb dX7_there_49 (by decide) ?_
          refine lv_icmp_eq (tgt := 58) hx hb dX7_there_50 (by decide) (fun cb => absurd cb (by decide)) (fun _ => ?_)
          refine lv_iload_n hx hb dX7_there_53 rfl (lv_at hl 5 rfl) ?_
          refine lv_iconst (v := 2) hx hb dX7_there_54 (by decide) ?_
          refine lv_icmp_ne (tgt := 72) hx hb dX7_there_55 (by decide) (fun _ => ?_) (fun cb => absurd cb (by decide))
          refine lv_iconst (v := 0) hx hb dX7_there_72 (by decide) ?_
          refine lv_iadd hx hb dX7_there_73 ?_
          refine lv_topi (fun y_23 _ => ?_)
          refine lv_istore (lv' := [(4, .int y_23), (5, .int (nI i_5)), (0, .ref Mm), (1, .int (nI nx)), (2, .int zc), (3, .int 0)]) hx hb dX7_there_74 hl (by decide) rfl (fun ls hl => ?_)
          refine lv_iinc (v := (nI (i_5 + 1))) (lv' := [(5, .int (nI (i_5 + 1))), (4, .int y_23), (0, .ref Mm), (1, .int (nI nx)), (2, .int zc), (3, .int 0)]) hx hb dX7_there_76 hl (k := 1) rfl (nI_1 (i_5)) (by decide) rfl (fun ls hl => ?_)
          refine lv_goto (tgt := 31) hx hb dX7_there_79 (by decide) ?_
          exact loop_15_ih (i_5 + 1) y_23 (show (i_5 + 1) ≤ cc by omega) (show cc - (i_5 + 1) < Nloop_15 by omega) _ _ _ hP hD hS hl
  exact loop_15 _ 0 0 (show 0 ≤ cc by omega) (Nat.lt_succ_self _) _ _ _ hP hD hS hl

set_option maxHeartbeats 4000000 in
set_option maxRecDepth 100000 in
theorem k_X7_there_1 (l : Launch) (D : va_G) (g : Nat → ClassId) (sz : Nat) (Mm : Nat) (nx : Nat) (zc : Int32) (zth : Int32) (Mt : Nat) (tp : Nat) (zma : Int32) (zwr : Int32) (Mrr : Nat) (Mrh : Nat) (Mrc : Nat) (zrh : Int32) (zrc : Int32) (Mn : Nat) (Mf : Nat) (Mr : Nat) (Mh : Nat) (hp : Nat) (cc : Nat) (Ma : Nat) (Mas : Nat) (Msn : Nat) (Mac : Nat) (Mat : Nat) (fno : Nat → Int32) (h0 : 1 ≤ cc) (h1 : cc ≤ 3) (h2 : nx ≤ 3) : Met l yX7_there wsX7_there ({ frames := 1, cells := 0, slots := 0, locals := 21 }) (va_Pc [.ref Mm, .int (nI nx), .int zc, .int 1] (pre D g sz [(Mm, .inr (7, [.int zth, .ref Mt, .int (nI tp), .int zma, .int zwr, .ref Mrr, .ref Mrh, .ref Mrc, .int zrh, .int zrc, .ref Mn, .ref Mf, .ref Mr, .ref Mh, .int (nI hp), .int (nI cc), .ref Ma, .ref Mas, .ref Msn, .ref Mac, .ref Mat])), (Mn, .inl (g 0, 1767, .inl fno))])) (va_Qi (fun (r : Int32) (u : va_W) => u = [(Mm, .inr (7, [.int zth, .ref Mt, .int (nI tp), .int zma, .int zwr, .ref Mrr, .ref Mrh, .ref Mrc, .int zrh, .int zrc, .ref Mn, .ref Mf, .ref Mr, .ref Mh, .int (nI hp), .int (nI cc), .ref Ma, .ref Mas, .ref Msn, .ref Mac, .ref Mat])), (Mn, .inl (g 0, 1767, .inl fno))]) (wd D (va_A [(Mm, .inr (7, [.int zth, .ref Mt, .int (nI tp), .int zma, .int zwr, .ref Mrr, .ref Mrh, .ref Mrc, .int zrh, .int zrc, .ref Mn, .ref Mf, .ref Mr, .ref Mh, .int (nI hp), .int (nI cc), .ref Ma, .ref Mas, .ref Msn, .ref Mac, .ref Mat])), (Mn, .inl (g 0, 1767, .inl fno))] sz)) (va_A [(Mm, .inr (7, [.int zth, .ref Mt, .int (nI tp), .int zma, .int zwr, .ref Mrr, .ref Mrh, .ref Mrc, .int zrh, .int zrc, .ref Mn, .ref Mf, .ref Mr, .ref Mh, .int (nI hp), .int (nI cc), .ref Ma, .ref Mas, .ref Msn, .ref Mac, .ref Mat])), (Mn, .inl (g 0, 1767, .inl fno))] sz)) 0 0 (va_A [(Mm, .inr (7, [.int zth, .ref Mt, .int (nI tp), .int zma, .int zwr, .ref Mrr, .ref Mrh, .ref Mrc, .int zrh, .int zrc, .ref Mn, .ref Mf, .ref Mr, .ref Mh, .int (nI hp), .int (nI cc), .ref Ma, .ref Mas, .ref Msn, .ref Mac, .ref Mat])), (Mn, .inl (g 0, 1767, .inl fno))] sz) := by
  refine Met.ofW (cc := cX7_there) (maxL := 6) (ret := (some .int)) (by decide) rfl ?_
  intro p e s m args below meth c s₁ B hml hv
  obtain ⟨rfl, hsz, hP, ⟨hK, hN⟩, hD0, hZ⟩ := hv
  have hx := B.exec
  have hb := B.bytes
  have hr := B.returns
  have hts := atoms_spec (ws := wsX7_there) B.pre
  have hown : s.vm.findClass RX7 = some m.cls := findClass_of_methodNamed B.named
  have hlocks := B.notSynchronized
  clear B
  subst hsz
  have hD := hD0.self (sz := s.heap.size)
  clear hD0
  generalize hAe : va_A [(Mm, .inr (7, [.int zth, .ref Mt, .int (nI tp), .int zma, .int zwr, .ref Mrr, .ref Mrh, .ref Mrc, .int zrh, .int zrc, .ref Mn, .ref Mf, .ref Mr, .ref Mh, .int (nI hp), .int (nI cc), .ref Ma, .ref Mas, .ref Msn, .ref Mac, .ref Mat])), (Mn, .inl (g 0, 1767, .inl fno))] s.heap.size = A at hD hZ ⊢
  have hA : ∀ q : Nat, s.heap.size ≤ q → A q := fun q h => by rw [← hAe]; exact Or.inr h
  have hS : va_S A s.heap s.heap [] := va_S.rf
  have f127 := hts (.fieldLink RX7 127 "HopCreditsModel" "circuits" "I") (List.mem_of_getElem? (i := 1) rfl)
  have f22 := hts (.fieldLink RX7 22 "HopCreditsModel" "now" "[I") (List.mem_of_getElem? (i := 2) rfl)
  have iX7 : ∀ w ∈ u_ws RX7 TX7 21, w ∈ wsX7_there := fun w h => List.mem_cons_of_mem _ (List.mem_append_right _ (h))
  have hl := lv_entry ([.ref Mm, .int (nI nx), .int zc, .int 1]) (n := 6) (Nat.le_of_ble_eq_true rfl)
  rw [lg_entry_eq]
  generalize (lg_sl ([.ref Mm, .int (nI nx), .int zc, .int 1]) ++ List.replicate (6 - (lg_sl ([.ref Mm, .int (nI nx), .int zc, .int 1])).length) Slot.unset).toArray = ls at hl ⊢
  have hl : lv_has ls 6 [(0, .ref Mm), (1, .int (nI nx)), (2, .int zc), (3, .int 1)] := hl
  generalize hQ : MQ below _ _ s _ _ _ = Q
  generalize hH : s.heap = H at hP ⊢
  have hS : va_S A s.heap H [] := by rw [← hH]; exact hS
  clear hH
  refine lv_iload_n hx hb dX7_there_0 rfl (lv_at hl 3 rfl) ?_
  refine lv_iconst (v := 1) hx hb dX7_there_1 (by decide) ?_
  refine lv_icmp_le (tgt := 25) hx hb dX7_there_2 (by decide) (fun _ => ?_) (fun cb => absurd (by decide) cb)
  refine lv_iconst (v := 0) hx hb dX7_there_25 (by decide) ?_
  refine lv_istore (lv' := [(4, .int 0), (0, .ref Mm), (1, .int (nI nx)), (2, .int zc), (3, .int 1)]) hx hb dX7_there_26 hl (by decide) rfl (fun ls hl => ?_)
  refine lv_iconst (v := 0) hx hb dX7_there_28 (by decide) ?_
  refine lv_istore (lv' := [(5, .int 0), (4, .int 0), (0, .ref Mm), (1, .int (nI nx)), (2, .int zc), (3, .int 1)]) hx hb dX7_there_29 hl (by decide) rfl (fun ls hl => ?_)
  have loop_20 : ∀ (Nloop_20 : Nat) (i_8 : Nat) (i_9 : Int32) (hbi_8 : i_8 ≤ cc) (hmloop_20 : cc - i_8 < Nloop_20) (H : Heap) (locs : List Loc) (ls : Array Slot), va_P D vwCl [(Mm, .inr (7, [.int zth, .ref Mt, .int (nI tp), .int zma, .int zwr, .ref Mrr, .ref Mrh, .ref Mrc, .int zrh, .int zrc, .ref Mn, .ref Mf, .ref Mr, .ref Mh, .int (nI hp), .int (nI cc), .ref Ma, .ref Mas, .ref Msn, .ref Mac, .ref Mat])), (Mn, .inl (g 0, 1767, .inl fno))] H → va_D A [(Mm, .inr (7, [.int zth, .ref Mt, .int (nI tp), .int zma, .int zwr, .ref Mrr, .ref Mrh, .ref Mrc, .int zrh, .int zrc, .ref Mn, .ref Mf, .ref Mr, .ref Mh, .int (nI hp), .int (nI cc), .ref Ma, .ref Mas, .ref Msn, .ref Mac, .ref Mat])), (Mn, .inl (g 0, 1767, .inl fno))] → va_S A s.heap H locs → lv_has ls 6 [(5, .int (nI i_8)), (4, .int i_9), (0, .ref Mm), (1, .int (nI nx)), (2, .int zc), (3, .int 1)] → W p l e (headSpec wsX7_there ({ frames := 1, cells := 0, slots := 0, locals := 21 })).room s m ([.ref Mm, .int (nI nx), .int zc, .int 1] : List Value).toArray below meth c H locs 0 0 Q (F0 m 31 ls []) := by
    clear hP hD hS hl
    intro Nloop_20
    induction Nloop_20 with
    | zero => intro i_8 i_9 hbi_8 hm9; exact absurd hm9 (Nat.not_lt_zero _)
    | succ Nloop_20 loop_20_ih =>
      intro i_8 i_9 hbi_8 hmloop_20 H locs ls hP hD hS hl
      refine lv_iload hx hb dX7_there_31 (lv_at hl 0 rfl) ?_
      refine lv_aload_n hx hb dX7_there_33 rfl (lv_at hl 2 rfl) ?_
      refine va_get (D := D) (ci := 7) (v := .int (nI cc)) (C := RX7) (T := TX7) (N := 21) hx hb hts iX7 hown hK hP 0 rfl rfl 15 (by decide) f127 (fun _ h9 => h9) rfl dX7_there_34 ?_
      refine lv_icmp_ge (tgt := 82) hx hb dX7_there_37 (by decide) (fun cb_21 => ?_) (fun cb_21 => ?_)
      · skip
        have cn_22 : cc ≤ i_8 := (nI_leI (show cc < 2 ^ 31 by omega) (show i_8 < 2 ^ 31 by omega)).mp cb_21
        refine lv_iload hx hb dX7_there_82 (lv_at hl 1 rfl) ?_
        have hP9 := hP; have hD9 := hD
        subst hQ
        refine W.widen (k := 0) (n := 0) (Nat.le_of_ble_eq_true rfl) (Nat.le_of_ble_eq_true rfl) ?_
        exact W.iret (v := i_9) hx hb hr (fun tS htS _ => ⟨⟨_, _, rfl, rfl, by rw [htS]; exact hP9, hD9⟩, hS.F htS⟩) hS.2.2 dX7_there_84
      · skip
        have cn_23 : i_8 < cc := Nat.lt_of_not_le (fun q9 => cb_21 ((nI_leI (show cc < 2 ^ 31 by omega) (show i_8 < 2 ^ 31 by omega)).mpr q9))
        refine lv_iload hx hb dX7_there_40 (lv_at hl 1 rfl) ?_
        refine lv_iload hx hb dX7_there_42 (lv_at hl 0 rfl) ?_
        refine lv_iload_n hx hb dX7_there_44 rfl (lv_at hl 4 rfl) ?_
        refine lv_icmp_eq (tgt := 58) hx hb dX7_there_45 (by decide) (fun cb_24 => ?_) (fun cb_24 => ?_)
        · skip
          refine lv_aload_n hx hb dX7_there_58 rfl (lv_at hl 2 rfl) ?_
          refine va_get (D := D) (ci := 7) (v := .ref Mn) (C := RX7) (T := TX7) (N := 21) hx hb hts iX7 hown hK hP 0 rfl rfl 10 (by decide) f22 (fun _ h9 => h9) rfl dX7_there_59 ?_
          refine lv_iload_n hx hb dX7_there_62 rfl (lv_at hl 3 rfl) ?_
          refine lv_iload hx hb dX7_there_63 (lv_at hl 0 rfl) ?_
          refine ky_Si (As := [.int (nI nx), .int (nI i_8)]) (rest := [.ref Mn, .int i_9]) ⟨hx, hb, hml, hown, hts⟩ ⟨hK, hN⟩ hZ hP hD hS hA [] [0, 1] (wc := []) (wr := [(Mm, .inr (7, [.int zth, .ref Mt, .int (nI tp), .int zma, .int zwr, .ref Mrr, .ref Mrh, .ref Mrc, .int zrh, .int zrc, .ref Mn, .ref Mf, .ref Mr, .ref Mh, .int (nI hp), .int (nI cc), .ref Ma, .ref Mas, .ref Msn, .ref Mac, .ref Mat])), (Mn, .inl (g 0, 1767, .inl fno))]) rfl rfl rfl rfl (by decide) (k_X7_bufferAt l D g H.size nx i_8 (show nx ≤ 3 by omega) (show i_8 < 3 by omega)) (va_cwS 2 hts gX7_there_X7_bufferAt rfl rfl rfl (by decide +kernel) ⟨(Nat.le_of_ble_eq_true rfl), (Nat.le_of_ble_eq_true rfl)⟩) rfl hl.1 rfl (Nat.le_of_ble_eq_true rfl) dX7_there_65 ⟨(Nat.le_of_ble_eq_true rfl), (Nat.le_of_ble_eq_true rfl)⟩ (fun r_25 u H locs hw hP2 hD2 hS2 => ?_)
          clear hP hD hS
          obtain ⟨rfl, rfl⟩ := hw
          have hPD : PD D A [(Mm, .inr (7, [.int zth, .ref Mt, .int (nI tp), .int zma, .int zwr, .ref Mrr, .ref Mrh, .ref Mrc, .int zrh, .int zrc, .ref Mn, .ref Mf, .ref Mr, .ref Mh, .int (nI hp), .int (nI cc), .ref Ma, .ref Mas, .ref Msn, .ref Mac, .ref Mat])), (Mn, .inl (g 0, 1767, .inl fno))] H := ⟨hP2, hD2⟩
          have hS := hS2; clear hP2 hD2 hS2; have hP := hPD.1; have hD := hPD.2; clear hPD
          refine W.widen (k := 0) (n := 0) (Nat.le_of_ble_eq_true rfl) (Nat.le_of_ble_eq_true rfl) ?_
          refine va_iald hx hb hK hP 1 0 rfl rfl (vp_in_nI (show 189 + 3 * nx + i_8 < 1767 by omega) (by decide)) dX7_there_68 ?_
          refine lv_eqi (y := (fno (189 + 3 * nx + i_8))) (congrArg fno (nI_clamp (show 189 + 3 * nx + i_8 < 2 ^ 31 by omega))) ?_
          refine lv_topi (fun y_26 _ => ?_)
          refine lv_goto (tgt := 73) hx hb dX7_there_69 (by decide) ?_
          refine lv_iadd hx hb dX7_there_73 ?_
          refine lv_topi (fun y_27 _ => ?_)
          refine lv_istore (lv' := [(4, .int y_27), (5, .int (nI i_8)), (0, .ref Mm), (1, .int (nI nx)), (2, .int zc), (3, .int 1)]) hx hb dX7_there_74 hl (by decide) rfl (fun ls hl => ?_)
          refine lv_iinc (v := (nI (i_8 + 1))) (lv' := [(5, .int (nI (i_8 + 1))), (4, .int y_27), (0, .ref Mm), (1, .int (nI nx)), (2, .int zc), (3, .int 1)]) hx hb dX7_there_76 hl (k := 1) rfl (nI_1 (i_8)) (by decide) rfl (fun ls hl => ?_)
          refine lv_goto (tgt := 31) hx hb dX7_there_79 (by decide) ?_
          exact loop_20_ih (i_8 + 1) y_27 (show (i_8 + 1) ≤ cc by omega) (show cc - (i_8 + 1) < Nloop_20 by omega) _ _ _ hP hD hS hl
        · skip
          refine lv_iload_n hx hb dX7_there_48 rfl (lv_at hl 5 rfl) ?_
          refine lv_iconst (v := 1) hx hb dX7_there_49 (by decide) ?_
          refine lv_icmp_eq (tgt := 58) hx hb dX7_there_50 (by decide) (fun _ => ?_) (fun cb => absurd (by decide) cb)
          refine lv_aload_n hx hb dX7_there_58 rfl (lv_at hl 2 rfl) ?_
          refine va_get (D := D) (ci := 7) (v := .ref Mn) (C := RX7) (T := TX7) (N := 21) hx hb hts iX7 hown hK hP 0 rfl rfl 10 (by decide) f22 (fun _ h9 => h9) rfl dX7_there_59 ?_
          refine lv_iload_n hx hb dX7_there_62 rfl (lv_at hl 3 rfl) ?_
          refine lv_iload hx hb dX7_there_63 (lv_at hl 0 rfl) ?_
          refine ky_Si (As := [.int (nI nx), .int (nI i_8)]) (rest := [.ref Mn, .int i_9]) ⟨hx, hb, hml, hown, hts⟩ ⟨hK, hN⟩ hZ hP hD hS hA [] [0, 1] (wc := []) (wr := [(Mm, .inr (7, [.int zth, .ref Mt, .int (nI tp), .int zma, .int zwr, .ref Mrr, .ref Mrh, .ref Mrc, .int zrh, .int zrc, .ref Mn, .ref Mf, .ref Mr, .ref Mh, .int (nI hp), .int (nI cc), .ref Ma, .ref Mas, .ref Msn, .ref Mac, .ref Mat])), (Mn, .inl (g 0, 1767, .inl fno))]) rfl rfl rfl rfl (by decide) (k_X7_bufferAt l D g H.size nx i_8 (show nx ≤ 3 by omega) (show i_8 < 3 by omega)) (va_cwS 2 hts gX7_there_X7_bufferAt rfl rfl rfl (by decide +kernel) ⟨(Nat.le_of_ble_eq_true rfl), (Nat.le_of_ble_eq_true rfl)⟩) rfl hl.1 rfl (Nat.le_of_ble_eq_true rfl) dX7_there_65 ⟨(Nat.le_of_ble_eq_true rfl), (Nat.le_of_ble_eq_true rfl)⟩ (fun r_28 u H locs hw hP2 hD2 hS2 => ?_)
          clear hP hD hS
          obtain ⟨rfl, rfl⟩ := hw
          have hPD : PD D A [(Mm, .inr (7, [.int zth, .ref Mt, .int (nI tp), .int zma, .int zwr, .ref Mrr, .ref Mrh, .ref Mrc, .int zrh, .int zrc, .ref Mn, .ref Mf, .ref Mr, .ref Mh, .int (nI hp), .int (nI cc), .ref Ma, .ref Mas, .ref Msn, .ref Mac, .ref Mat])), (Mn, .inl (g 0, 1767, .inl fno))] H := ⟨hP2, hD2⟩
          have hS := hS2; clear hP2 hD2 hS2; have hP := hPD.1; have hD := hPD.2; clear hPD
          refine W.widen (k := 0) (n := 0) (Nat.le_of_ble_eq_true rfl) (Nat.le_of_ble_eq_true rfl) ?_
          refine va_iald hx hb hK hP 1 0 rfl rfl (vp_in_nI (show 189 + 3 * nx + i_8 < 1767 by omega) (by decide)) dX7_there_68 ?_
          refine lv_eqi (y := (fno (189 + 3 * nx + i_8))) (congrArg fno (nI_clamp (show 189 + 3 * nx + i_8 < 2 ^ 31 by omega))) ?_
          refine lv_topi (fun y_29 _ => ?_)
          refine lv_goto (tgt := 73) hx hb dX7_there_69 (by decide) ?_
          refine lv_iadd hx hb dX7_there_73 ?_
          refine lv_topi (fun y_30 _ => ?_)
          refine lv_istore (lv' := [(4, .int y_30), (5, .int (nI i_8)), (0, .ref Mm), (1, .int (nI nx)), (2, .int zc), (3, .int 1)]) hx hb dX7_there_74 hl (by decide) rfl (fun ls hl => ?_)
          refine lv_iinc (v := (nI (i_8 + 1))) (lv' := [(5, .int (nI (i_8 + 1))), (4, .int y_30), (0, .ref Mm), (1, .int (nI nx)), (2, .int zc), (3, .int 1)]) hx hb dX7_there_76 hl (k := 1) rfl (nI_1 (i_8)) (by decide) rfl (fun ls hl => ?_)
          refine lv_goto (tgt := 31) hx hb dX7_there_79 (by decide) ?_
          exact loop_20_ih (i_8 + 1) y_30 (show (i_8 + 1) ≤ cc by omega) (show cc - (i_8 + 1) < Nloop_20 by omega) _ _ _ hP hD hS hl
  exact loop_20 _ 0 0 (show 0 ≤ cc by omega) (Nat.lt_succ_self _) _ _ _ hP hD hS hl

set_option maxHeartbeats 4000000 in
set_option maxRecDepth 100000 in
theorem k_X7_there_2 (l : Launch) (D : va_G) (g : Nat → ClassId) (sz : Nat) (Mm : Nat) (nx : Nat) (zc : Int32) (zth : Int32) (Mt : Nat) (tp : Nat) (zma : Int32) (zwr : Int32) (Mrr : Nat) (Mrh : Nat) (Mrc : Nat) (zrh : Int32) (zrc : Int32) (Mn : Nat) (Mf : Nat) (Mr : Nat) (Mh : Nat) (hp : Nat) (cc : Nat) (Ma : Nat) (Mas : Nat) (Msn : Nat) (Mac : Nat) (Mat : Nat) (fno : Nat → Int32) (h0 : 1 ≤ cc) (h1 : cc ≤ 3) (h2 : nx ≤ 3) (h3 : 1 ≤ nx) : Met l yX7_there wsX7_there ({ frames := 2, cells := 0, slots := 0, locals := 46 }) (va_Pc [.ref Mm, .int (nI nx), .int zc, .int 2] (pre D g sz [(Mm, .inr (7, [.int zth, .ref Mt, .int (nI tp), .int zma, .int zwr, .ref Mrr, .ref Mrh, .ref Mrc, .int zrh, .int zrc, .ref Mn, .ref Mf, .ref Mr, .ref Mh, .int (nI hp), .int (nI cc), .ref Ma, .ref Mas, .ref Msn, .ref Mac, .ref Mat])), (Mn, .inl (g 0, 1767, .inl fno))])) (va_Qi (fun (r : Int32) (u : va_W) => u = [(Mm, .inr (7, [.int zth, .ref Mt, .int (nI tp), .int zma, .int zwr, .ref Mrr, .ref Mrh, .ref Mrc, .int zrh, .int zrc, .ref Mn, .ref Mf, .ref Mr, .ref Mh, .int (nI hp), .int (nI cc), .ref Ma, .ref Mas, .ref Msn, .ref Mac, .ref Mat])), (Mn, .inl (g 0, 1767, .inl fno))]) (wd D (va_A [(Mm, .inr (7, [.int zth, .ref Mt, .int (nI tp), .int zma, .int zwr, .ref Mrr, .ref Mrh, .ref Mrc, .int zrh, .int zrc, .ref Mn, .ref Mf, .ref Mr, .ref Mh, .int (nI hp), .int (nI cc), .ref Ma, .ref Mas, .ref Msn, .ref Mac, .ref Mat])), (Mn, .inl (g 0, 1767, .inl fno))] sz)) (va_A [(Mm, .inr (7, [.int zth, .ref Mt, .int (nI tp), .int zma, .int zwr, .ref Mrr, .ref Mrh, .ref Mrc, .int zrh, .int zrc, .ref Mn, .ref Mf, .ref Mr, .ref Mh, .int (nI hp), .int (nI cc), .ref Ma, .ref Mas, .ref Msn, .ref Mac, .ref Mat])), (Mn, .inl (g 0, 1767, .inl fno))] sz)) 0 0 (va_A [(Mm, .inr (7, [.int zth, .ref Mt, .int (nI tp), .int zma, .int zwr, .ref Mrr, .ref Mrh, .ref Mrc, .int zrh, .int zrc, .ref Mn, .ref Mf, .ref Mr, .ref Mh, .int (nI hp), .int (nI cc), .ref Ma, .ref Mas, .ref Msn, .ref Mac, .ref Mat])), (Mn, .inl (g 0, 1767, .inl fno))] sz) := by
  refine Met.ofW (cc := cX7_there) (maxL := 6) (ret := (some .int)) (by decide) rfl ?_
  intro p e s m args below meth c s₁ B hml hv
  obtain ⟨rfl, hsz, hP, ⟨hK, hN⟩, hD0, hZ⟩ := hv
  have hx := B.exec
  have hb := B.bytes
  have hr := B.returns
  have hts := atoms_spec (ws := wsX7_there) B.pre
  have hown : s.vm.findClass RX7 = some m.cls := findClass_of_methodNamed B.named
  have hlocks := B.notSynchronized
  clear B
  subst hsz
  have hD := hD0.self (sz := s.heap.size)
  clear hD0
  generalize hAe : va_A [(Mm, .inr (7, [.int zth, .ref Mt, .int (nI tp), .int zma, .int zwr, .ref Mrr, .ref Mrh, .ref Mrc, .int zrh, .int zrc, .ref Mn, .ref Mf, .ref Mr, .ref Mh, .int (nI hp), .int (nI cc), .ref Ma, .ref Mas, .ref Msn, .ref Mac, .ref Mat])), (Mn, .inl (g 0, 1767, .inl fno))] s.heap.size = A at hD hZ ⊢
  have hA : ∀ q : Nat, s.heap.size ≤ q → A q := fun q h => by rw [← hAe]; exact Or.inr h
  have hS : va_S A s.heap s.heap [] := va_S.rf
  have f127 := hts (.fieldLink RX7 127 "HopCreditsModel" "circuits" "I") (List.mem_of_getElem? (i := 1) rfl)
  have f22 := hts (.fieldLink RX7 22 "HopCreditsModel" "now" "[I") (List.mem_of_getElem? (i := 2) rfl)
  have iX7 : ∀ w ∈ u_ws RX7 TX7 21, w ∈ wsX7_there := fun w h => List.mem_cons_of_mem _ (List.mem_append_right _ (h))
  have hl := lv_entry ([.ref Mm, .int (nI nx), .int zc, .int 2]) (n := 6) (Nat.le_of_ble_eq_true rfl)
  rw [lg_entry_eq]
  generalize (lg_sl ([.ref Mm, .int (nI nx), .int zc, .int 2]) ++ List.replicate (6 - (lg_sl ([.ref Mm, .int (nI nx), .int zc, .int 2])).length) Slot.unset).toArray = ls at hl ⊢
  have hl : lv_has ls 6 [(0, .ref Mm), (1, .int (nI nx)), (2, .int zc), (3, .int 2)] := hl
  generalize hQ : MQ below _ _ s _ _ _ = Q
  generalize hH : s.heap = H at hP ⊢
  have hS : va_S A s.heap H [] := by rw [← hH]; exact hS
  clear hH
  refine lv_iload_n hx hb dX7_there_0 rfl (lv_at hl 3 rfl) ?_
  refine lv_iconst (v := 1) hx hb dX7_there_1 (by decide) ?_
  refine lv_icmp_le (tgt := 25) hx hb dX7_there_2 (by decide) (fun cb => absurd cb (by decide)) (fun _ => ?_)
  refine lv_aload_n hx hb dX7_there_5 rfl (lv_at hl 0 rfl) ?_
  refine lv_iload_n hx hb dX7_there_6 rfl (lv_at hl 1 rfl) ?_
  refine lv_iconst (v := 1) hx hb dX7_there_7 (by decide) ?_
  refine lv_isub hx hb dX7_there_8 ?_
  refine lv_eqi (y := (nI (nx - 1))) (pk_sub (show 1 ≤ nx by omega)) ?_
  refine lv_iload_n hx hb dX7_there_9 rfl (lv_at hl 3 rfl) ?_
  refine lv_iconst (v := 2) hx hb dX7_there_10 (by decide) ?_
  refine lv_icmp_ne (tgt := 18) hx hb dX7_there_11 (by decide) (fun cb => absurd (by decide) cb) (fun _ => ?_)
  refine lv_iconst (v := (-1)) hx hb dX7_there_14 (by decide) ?_
  refine lv_goto (tgt := 19) hx hb dX7_there_15 (by decide) ?_
  refine ky_Vi (As := [.int (nI (nx - 1)), .int (-1)]) (rest := []) ⟨hx, hb, hml, hown, hts⟩ ⟨hK, hN⟩ hZ hP hD hS hA [0, 1] [] (wc := [(Mm, .inr (7, [.int zth, .ref Mt, .int (nI tp), .int zma, .int zwr, .ref Mrr, .ref Mrh, .ref Mrc, .int zrh, .int zrc, .ref Mn, .ref Mf, .ref Mr, .ref Mh, .int (nI hp), .int (nI cc), .ref Ma, .ref Mas, .ref Msn, .ref Mac, .ref Mat])), (Mn, .inl (g 0, 1767, .inl fno))]) (wr := []) rfl rfl rfl rfl (by decide) (k_X7_cellsOn l D g H.size Mm (nx - 1) (-1) zth Mt tp zma zwr Mrr Mrh Mrc zrh zrc Mn Mf Mr Mh hp cc Ma Mas Msn Mac Mat fno (show (nx - 1) < 3 by omega)) (cwV 2 hts gX7_there_X7_cellsOn rfl rfl rfl (by decide +kernel) ⟨(Nat.le_of_ble_eq_true rfl), (Nat.le_of_ble_eq_true rfl)⟩) 0 7 rfl rfl rfl rfl hl.1 rfl (Nat.le_of_ble_eq_true rfl) dX7_there_19 ⟨(Nat.le_of_ble_eq_true rfl), (Nat.le_of_ble_eq_true rfl)⟩ (fun r_1 u H locs hw hP2 hD2 hS2 => ?_)
  clear hP hD hS
  obtain rfl := hw
  have hPD : PD D A [(Mm, .inr (7, [.int zth, .ref Mt, .int (nI tp), .int zma, .int zwr, .ref Mrr, .ref Mrh, .ref Mrc, .int zrh, .int zrc, .ref Mn, .ref Mf, .ref Mr, .ref Mh, .int (nI hp), .int (nI cc), .ref Ma, .ref Mas, .ref Msn, .ref Mac, .ref Mat])), (Mn, .inl (g 0, 1767, .inl fno))] H := ⟨hP2, hD2⟩
  have hS := hS2; clear hP2 hD2 hS2; have hP := hPD.1; have hD := hPD.2; clear hPD
  refine W.widen (k := 0) (n := 0) (Nat.le_of_ble_eq_true rfl) (Nat.le_of_ble_eq_true rfl) ?_
  refine lv_goto (tgt := 26) hx hb dX7_there_22 (by decide) ?_
  refine lv_istore (lv' := [(4, .int r_1), (0, .ref Mm), (1, .int (nI nx)), (2, .int zc), (3, .int 2)]) hx hb dX7_there_26 hl (by decide) rfl (fun ls hl => ?_)
  refine lv_iconst (v := 0) hx hb dX7_there_28 (by decide) ?_
  refine lv_istore (lv' := [(5, .int 0), (4, .int r_1), (0, .ref Mm), (1, .int (nI nx)), (2, .int zc), (3, .int 2)]) hx hb dX7_there_29 hl (by decide) rfl (fun ls hl => ?_)
  have loop_21 : ∀ (Nloop_21 : Nat) (i_9 : Nat) (i_10 : Int32) (hbi_9 : i_9 ≤ cc) (hmloop_21 : cc - i_9 < Nloop_21) (H : Heap) (locs : List Loc) (ls : Array Slot), va_P D vwCl [(Mm, .inr (7, [.int zth, .ref Mt, .int (nI tp), .int zma, .int zwr, .ref Mrr, .ref Mrh, .ref Mrc, .int zrh, .int zrc, .ref Mn, .ref Mf, .ref Mr, .ref Mh, .int (nI hp), .int (nI cc), .ref Ma, .ref Mas, .ref Msn, .ref Mac, .ref Mat])), (Mn, .inl (g 0, 1767, .inl fno))] H → va_D A [(Mm, .inr (7, [.int zth, .ref Mt, .int (nI tp), .int zma, .int zwr, .ref Mrr, .ref Mrh, .ref Mrc, .int zrh, .int zrc, .ref Mn, .ref Mf, .ref Mr, .ref Mh, .int (nI hp), .int (nI cc), .ref Ma, .ref Mas, .ref Msn, .ref Mac, .ref Mat])), (Mn, .inl (g 0, 1767, .inl fno))] → va_S A s.heap H locs → lv_has ls 6 [(5, .int (nI i_9)), (4, .int i_10), (0, .ref Mm), (1, .int (nI nx)), (2, .int zc), (3, .int 2)] → W p l e (headSpec wsX7_there ({ frames := 2, cells := 0, slots := 0, locals := 46 })).room s m ([.ref Mm, .int (nI nx), .int zc, .int 2] : List Value).toArray below meth c H locs 0 0 Q (F0 m 31 ls []) := by
    clear hP hD hS hl
    intro Nloop_21
    induction Nloop_21 with
    | zero => intro i_9 i_10 hbi_9 hm9; exact absurd hm9 (Nat.not_lt_zero _)
    | succ Nloop_21 loop_21_ih =>
      intro i_9 i_10 hbi_9 hmloop_21 H locs ls hP hD hS hl
      refine lv_iload hx hb dX7_there_31 (lv_at hl 0 rfl) ?_
      refine lv_aload_n hx hb dX7_there_33 rfl (lv_at hl 2 rfl) ?_
      refine va_get (D := D) (ci := 7) (v := .int (nI cc)) (C := RX7) (T := TX7) (N := 21) hx hb hts iX7 hown hK hP 0 rfl rfl 15 (by decide) f127 (fun _ h9 => h9) rfl dX7_there_34 ?_
      refine lv_icmp_ge (tgt := 82) hx hb dX7_there_37 (by decide) (fun cb_22 => ?_) (fun cb_22 => ?_)
      · skip
        have cn_23 : cc ≤ i_9 := (nI_leI (show cc < 2 ^ 31 by omega) (show i_9 < 2 ^ 31 by omega)).mp cb_22
        refine lv_iload hx hb dX7_there_82 (lv_at hl 1 rfl) ?_
        have hP9 := hP; have hD9 := hD
        subst hQ
        refine W.widen (k := 0) (n := 0) (Nat.le_of_ble_eq_true rfl) (Nat.le_of_ble_eq_true rfl) ?_
        exact W.iret (v := i_10) hx hb hr (fun tS htS _ => ⟨⟨_, _, rfl, rfl, by rw [htS]; exact hP9, hD9⟩, hS.F htS⟩) hS.2.2 dX7_there_84
      · skip
        have cn_24 : i_9 < cc := Nat.lt_of_not_le (fun q9 => cb_22 ((nI_leI (show cc < 2 ^ 31 by omega) (show i_9 < 2 ^ 31 by omega)).mpr q9))
        refine lv_iload hx hb dX7_there_40 (lv_at hl 1 rfl) ?_
        refine lv_iload hx hb dX7_there_42 (lv_at hl 0 rfl) ?_
        refine lv_iload_n hx hb dX7_there_44 rfl (lv_at hl 4 rfl) ?_
        refine lv_icmp_eq (tgt := 58) hx hb dX7_there_45 (by decide) (fun cb_25 => ?_) (fun cb_25 => ?_)
        · skip
          refine lv_aload_n hx hb dX7_there_58 rfl (lv_at hl 2 rfl) ?_
          refine va_get (D := D) (ci := 7) (v := .ref Mn) (C := RX7) (T := TX7) (N := 21) hx hb hts iX7 hown hK hP 0 rfl rfl 10 (by decide) f22 (fun _ h9 => h9) rfl dX7_there_59 ?_
          refine lv_iload_n hx hb dX7_there_62 rfl (lv_at hl 3 rfl) ?_
          refine lv_iload hx hb dX7_there_63 (lv_at hl 0 rfl) ?_
          refine ky_Si (As := [.int (nI nx), .int (nI i_9)]) (rest := [.ref Mn, .int i_10]) ⟨hx, hb, hml, hown, hts⟩ ⟨hK, hN⟩ hZ hP hD hS hA [] [0, 1] (wc := []) (wr := [(Mm, .inr (7, [.int zth, .ref Mt, .int (nI tp), .int zma, .int zwr, .ref Mrr, .ref Mrh, .ref Mrc, .int zrh, .int zrc, .ref Mn, .ref Mf, .ref Mr, .ref Mh, .int (nI hp), .int (nI cc), .ref Ma, .ref Mas, .ref Msn, .ref Mac, .ref Mat])), (Mn, .inl (g 0, 1767, .inl fno))]) rfl rfl rfl rfl (by decide) (k_X7_bufferAt l D g H.size nx i_9 (show nx ≤ 3 by omega) (show i_9 < 3 by omega)) (va_cwS 2 hts gX7_there_X7_bufferAt rfl rfl rfl (by decide +kernel) ⟨(Nat.le_of_ble_eq_true rfl), (Nat.le_of_ble_eq_true rfl)⟩) rfl hl.1 rfl (Nat.le_of_ble_eq_true rfl) dX7_there_65 ⟨(Nat.le_of_ble_eq_true rfl), (Nat.le_of_ble_eq_true rfl)⟩ (fun r_26 u H locs hw hP2 hD2 hS2 => ?_)
          clear hP hD hS
          obtain ⟨rfl, rfl⟩ := hw
          have hPD : PD D A [(Mm, .inr (7, [.int zth, .ref Mt, .int (nI tp), .int zma, .int zwr, .ref Mrr, .ref Mrh, .ref Mrc, .int zrh, .int zrc, .ref Mn, .ref Mf, .ref Mr, .ref Mh, .int (nI hp), .int (nI cc), .ref Ma, .ref Mas, .ref Msn, .ref Mac, .ref Mat])), (Mn, .inl (g 0, 1767, .inl fno))] H := ⟨hP2, hD2⟩
          have hS := hS2; clear hP2 hD2 hS2; have hP := hPD.1; have hD := hPD.2; clear hPD
          refine W.widen (k := 0) (n := 0) (Nat.le_of_ble_eq_true rfl) (Nat.le_of_ble_eq_true rfl) ?_
          refine va_iald hx hb hK hP 1 0 rfl rfl (vp_in_nI (show 189 + 3 * nx + i_9 < 1767 by omega) (by decide)) dX7_there_68 ?_
          refine lv_eqi (y := (fno (189 + 3 * nx + i_9))) (congrArg fno (nI_clamp (show 189 + 3 * nx + i_9 < 2 ^ 31 by omega))) ?_
          refine lv_topi (fun y_27 _ => ?_)
          refine lv_goto (tgt := 73) hx hb dX7_there_69 (by decide) ?_
          refine lv_iadd hx hb dX7_there_73 ?_
          refine lv_topi (fun y_28 _ => ?_)
          refine lv_istore (lv' := [(4, .int y_28), (5, .int (nI i_9)), (0, .ref Mm), (1, .int (nI nx)), (2, .int zc), (3, .int 2)]) hx hb dX7_there_74 hl (by decide) rfl (fun ls hl => ?_)
          refine lv_iinc (v := (nI (i_9 + 1))) (lv' := [(5, .int (nI (i_9 + 1))), (4, .int y_28), (0, .ref Mm), (1, .int (nI nx)), (2, .int zc), (3, .int 2)]) hx hb dX7_there_76 hl (k := 1) rfl (nI_1 (i_9)) (by decide) rfl (fun ls hl => ?_)
          refine lv_goto (tgt := 31) hx hb dX7_there_79 (by decide) ?_
          exact loop_21_ih (i_9 + 1) y_28 (show (i_9 + 1) ≤ cc by omega) (show cc - (i_9 + 1) < Nloop_21 by omega) _ _ _ hP hD hS hl
        · skip
          refine lv_iload_n hx hb dX7_there_48 rfl (lv_at hl 5 rfl) ?_
          refine lv_iconst (v := 1) hx hb dX7_there_49 (by decide) ?_
          refine lv_icmp_eq (tgt := 58) hx hb dX7_there_50 (by decide) (fun cb => absurd cb (by decide)) (fun _ => ?_)
          refine lv_iload_n hx hb dX7_there_53 rfl (lv_at hl 5 rfl) ?_
          refine lv_iconst (v := 2) hx hb dX7_there_54 (by decide) ?_
          refine lv_icmp_ne (tgt := 72) hx hb dX7_there_55 (by decide) (fun cb => absurd (by decide) cb) (fun _ => ?_)
          refine lv_aload_n hx hb dX7_there_58 rfl (lv_at hl 2 rfl) ?_
          refine va_get (D := D) (ci := 7) (v := .ref Mn) (C := RX7) (T := TX7) (N := 21) hx hb hts iX7 hown hK hP 0 rfl rfl 10 (by decide) f22 (fun _ h9 => h9) rfl dX7_there_59 ?_
          refine lv_iload_n hx hb dX7_there_62 rfl (lv_at hl 3 rfl) ?_
          refine lv_iload hx hb dX7_there_63 (lv_at hl 0 rfl) ?_
          refine ky_Si (As := [.int (nI nx), .int (nI i_9)]) (rest := [.ref Mn, .int i_10]) ⟨hx, hb, hml, hown, hts⟩ ⟨hK, hN⟩ hZ hP hD hS hA [] [0, 1] (wc := []) (wr := [(Mm, .inr (7, [.int zth, .ref Mt, .int (nI tp), .int zma, .int zwr, .ref Mrr, .ref Mrh, .ref Mrc, .int zrh, .int zrc, .ref Mn, .ref Mf, .ref Mr, .ref Mh, .int (nI hp), .int (nI cc), .ref Ma, .ref Mas, .ref Msn, .ref Mac, .ref Mat])), (Mn, .inl (g 0, 1767, .inl fno))]) rfl rfl rfl rfl (by decide) (k_X7_bufferAt l D g H.size nx i_9 (show nx ≤ 3 by omega) (show i_9 < 3 by omega)) (va_cwS 2 hts gX7_there_X7_bufferAt rfl rfl rfl (by decide +kernel) ⟨(Nat.le_of_ble_eq_true rfl), (Nat.le_of_ble_eq_true rfl)⟩) rfl hl.1 rfl (Nat.le_of_ble_eq_true rfl) dX7_there_65 ⟨(Nat.le_of_ble_eq_true rfl), (Nat.le_of_ble_eq_true rfl)⟩ (fun r_29 u H locs hw hP2 hD2 hS2 => ?_)
          clear hP hD hS
          obtain ⟨rfl, rfl⟩ := hw
          have hPD : PD D A [(Mm, .inr (7, [.int zth, .ref Mt, .int (nI tp), .int zma, .int zwr, .ref Mrr, .ref Mrh, .ref Mrc, .int zrh, .int zrc, .ref Mn, .ref Mf, .ref Mr, .ref Mh, .int (nI hp), .int (nI cc), .ref Ma, .ref Mas, .ref Msn, .ref Mac, .ref Mat])), (Mn, .inl (g 0, 1767, .inl fno))] H := ⟨hP2, hD2⟩
          have hS := hS2; clear hP2 hD2 hS2; have hP := hPD.1; have hD := hPD.2; clear hPD
          refine W.widen (k := 0) (n := 0) (Nat.le_of_ble_eq_true rfl) (Nat.le_of_ble_eq_true rfl) ?_
          refine va_iald hx hb hK hP 1 0 rfl rfl (vp_in_nI (show 189 + 3 * nx + i_9 < 1767 by omega) (by decide)) dX7_there_68 ?_
          refine lv_eqi (y := (fno (189 + 3 * nx + i_9))) (congrArg fno (nI_clamp (show 189 + 3 * nx + i_9 < 2 ^ 31 by omega))) ?_
          refine lv_topi (fun y_30 _ => ?_)
          refine lv_goto (tgt := 73) hx hb dX7_there_69 (by decide) ?_
          refine lv_iadd hx hb dX7_there_73 ?_
          refine lv_topi (fun y_31 _ => ?_)
          refine lv_istore (lv' := [(4, .int y_31), (5, .int (nI i_9)), (0, .ref Mm), (1, .int (nI nx)), (2, .int zc), (3, .int 2)]) hx hb dX7_there_74 hl (by decide) rfl (fun ls hl => ?_)
          refine lv_iinc (v := (nI (i_9 + 1))) (lv' := [(5, .int (nI (i_9 + 1))), (4, .int y_31), (0, .ref Mm), (1, .int (nI nx)), (2, .int zc), (3, .int 2)]) hx hb dX7_there_76 hl (k := 1) rfl (nI_1 (i_9)) (by decide) rfl (fun ls hl => ?_)
          refine lv_goto (tgt := 31) hx hb dX7_there_79 (by decide) ?_
          exact loop_21_ih (i_9 + 1) y_31 (show (i_9 + 1) ≤ cc by omega) (show cc - (i_9 + 1) < Nloop_21 by omega) _ _ _ hP hD hS hl
  exact loop_21 _ 0 r_1 (show 0 ≤ cc by omega) (Nat.lt_succ_self _) _ _ _ hP hD hS hl

set_option maxHeartbeats 4000000 in
set_option maxRecDepth 100000 in
theorem k_X7_there_3 (l : Launch) (D : va_G) (g : Nat → ClassId) (sz : Nat) (Mm : Nat) (nx : Nat) (zc : Int32) (zth : Int32) (Mt : Nat) (tp : Nat) (zma : Int32) (zwr : Int32) (Mrr : Nat) (Mrh : Nat) (Mrc : Nat) (zrh : Int32) (zrc : Int32) (Mn : Nat) (Mf : Nat) (Mr : Nat) (Mh : Nat) (hp : Nat) (cc : Nat) (Ma : Nat) (Mas : Nat) (Msn : Nat) (Mac : Nat) (Mat : Nat) (fno : Nat → Int32) (h0 : 1 ≤ cc) (h1 : cc ≤ 3) (h2 : nx ≤ 3) (h3 : 1 ≤ nx) : Met l yX7_there wsX7_there ({ frames := 2, cells := 0, slots := 0, locals := 46 }) (va_Pc [.ref Mm, .int (nI nx), .int zc, .int 3] (pre D g sz [(Mm, .inr (7, [.int zth, .ref Mt, .int (nI tp), .int zma, .int zwr, .ref Mrr, .ref Mrh, .ref Mrc, .int zrh, .int zrc, .ref Mn, .ref Mf, .ref Mr, .ref Mh, .int (nI hp), .int (nI cc), .ref Ma, .ref Mas, .ref Msn, .ref Mac, .ref Mat])), (Mn, .inl (g 0, 1767, .inl fno))])) (va_Qi (fun (r : Int32) (u : va_W) => u = [(Mm, .inr (7, [.int zth, .ref Mt, .int (nI tp), .int zma, .int zwr, .ref Mrr, .ref Mrh, .ref Mrc, .int zrh, .int zrc, .ref Mn, .ref Mf, .ref Mr, .ref Mh, .int (nI hp), .int (nI cc), .ref Ma, .ref Mas, .ref Msn, .ref Mac, .ref Mat])), (Mn, .inl (g 0, 1767, .inl fno))]) (wd D (va_A [(Mm, .inr (7, [.int zth, .ref Mt, .int (nI tp), .int zma, .int zwr, .ref Mrr, .ref Mrh, .ref Mrc, .int zrh, .int zrc, .ref Mn, .ref Mf, .ref Mr, .ref Mh, .int (nI hp), .int (nI cc), .ref Ma, .ref Mas, .ref Msn, .ref Mac, .ref Mat])), (Mn, .inl (g 0, 1767, .inl fno))] sz)) (va_A [(Mm, .inr (7, [.int zth, .ref Mt, .int (nI tp), .int zma, .int zwr, .ref Mrr, .ref Mrh, .ref Mrc, .int zrh, .int zrc, .ref Mn, .ref Mf, .ref Mr, .ref Mh, .int (nI hp), .int (nI cc), .ref Ma, .ref Mas, .ref Msn, .ref Mac, .ref Mat])), (Mn, .inl (g 0, 1767, .inl fno))] sz)) 0 0 (va_A [(Mm, .inr (7, [.int zth, .ref Mt, .int (nI tp), .int zma, .int zwr, .ref Mrr, .ref Mrh, .ref Mrc, .int zrh, .int zrc, .ref Mn, .ref Mf, .ref Mr, .ref Mh, .int (nI hp), .int (nI cc), .ref Ma, .ref Mas, .ref Msn, .ref Mac, .ref Mat])), (Mn, .inl (g 0, 1767, .inl fno))] sz) := by
  refine Met.ofW (cc := cX7_there) (maxL := 6) (ret := (some .int)) (by decide) rfl ?_
  intro p e s m args below meth c s₁ B hml hv
  obtain ⟨rfl, hsz, hP, ⟨hK, hN⟩, hD0, hZ⟩ := hv
  have hx := B.exec
  have hb := B.bytes
  have hr := B.returns
  have hts := atoms_spec (ws := wsX7_there) B.pre
  have hown : s.vm.findClass RX7 = some m.cls := findClass_of_methodNamed B.named
  have hlocks := B.notSynchronized
  clear B
  subst hsz
  have hD := hD0.self (sz := s.heap.size)
  clear hD0
  generalize hAe : va_A [(Mm, .inr (7, [.int zth, .ref Mt, .int (nI tp), .int zma, .int zwr, .ref Mrr, .ref Mrh, .ref Mrc, .int zrh, .int zrc, .ref Mn, .ref Mf, .ref Mr, .ref Mh, .int (nI hp), .int (nI cc), .ref Ma, .ref Mas, .ref Msn, .ref Mac, .ref Mat])), (Mn, .inl (g 0, 1767, .inl fno))] s.heap.size = A at hD hZ ⊢
  have hA : ∀ q : Nat, s.heap.size ≤ q → A q := fun q h => by rw [← hAe]; exact Or.inr h
  have hS : va_S A s.heap s.heap [] := va_S.rf
  have f127 := hts (.fieldLink RX7 127 "HopCreditsModel" "circuits" "I") (List.mem_of_getElem? (i := 1) rfl)
  have f22 := hts (.fieldLink RX7 22 "HopCreditsModel" "now" "[I") (List.mem_of_getElem? (i := 2) rfl)
  have iX7 : ∀ w ∈ u_ws RX7 TX7 21, w ∈ wsX7_there := fun w h => List.mem_cons_of_mem _ (List.mem_append_right _ (h))
  have hl := lv_entry ([.ref Mm, .int (nI nx), .int zc, .int 3]) (n := 6) (Nat.le_of_ble_eq_true rfl)
  rw [lg_entry_eq]
  generalize (lg_sl ([.ref Mm, .int (nI nx), .int zc, .int 3]) ++ List.replicate (6 - (lg_sl ([.ref Mm, .int (nI nx), .int zc, .int 3])).length) Slot.unset).toArray = ls at hl ⊢
  have hl : lv_has ls 6 [(0, .ref Mm), (1, .int (nI nx)), (2, .int zc), (3, .int 3)] := hl
  generalize hQ : MQ below _ _ s _ _ _ = Q
  generalize hH : s.heap = H at hP ⊢
  have hS : va_S A s.heap H [] := by rw [← hH]; exact hS
  clear hH
  refine lv_iload_n hx hb dX7_there_0 rfl (lv_at hl 3 rfl) ?_
  refine lv_iconst (v := 1) hx hb dX7_there_1 (by decide) ?_
  refine lv_icmp_le (tgt := 25) hx hb dX7_there_2 (by decide) (fun cb => absurd cb (by decide)) (fun _ => ?_)
  refine lv_aload_n hx hb dX7_there_5 rfl (lv_at hl 0 rfl) ?_
  refine lv_iload_n hx hb dX7_there_6 rfl (lv_at hl 1 rfl) ?_
  refine lv_iconst (v := 1) hx hb dX7_there_7 (by decide) ?_
  refine lv_isub hx hb dX7_there_8 ?_
  refine lv_eqi (y := (nI (nx - 1))) (pk_sub (show 1 ≤ nx by omega)) ?_
  refine lv_iload_n hx hb dX7_there_9 rfl (lv_at hl 3 rfl) ?_
  refine lv_iconst (v := 2) hx hb dX7_there_10 (by decide) ?_
  refine lv_icmp_ne (tgt := 18) hx hb dX7_there_11 (by decide) (fun _ => ?_) (fun cb => absurd cb (by decide))
  refine lv_iload_n hx hb dX7_there_18 rfl (lv_at hl 2 rfl) ?_
  refine ky_Vi (As := [.int (nI (nx - 1)), .int zc]) (rest := []) ⟨hx, hb, hml, hown, hts⟩ ⟨hK, hN⟩ hZ hP hD hS hA [0, 1] [] (wc := [(Mm, .inr (7, [.int zth, .ref Mt, .int (nI tp), .int zma, .int zwr, .ref Mrr, .ref Mrh, .ref Mrc, .int zrh, .int zrc, .ref Mn, .ref Mf, .ref Mr, .ref Mh, .int (nI hp), .int (nI cc), .ref Ma, .ref Mas, .ref Msn, .ref Mac, .ref Mat])), (Mn, .inl (g 0, 1767, .inl fno))]) (wr := []) rfl rfl rfl rfl (by decide) (k_X7_cellsOn l D g H.size Mm (nx - 1) zc zth Mt tp zma zwr Mrr Mrh Mrc zrh zrc Mn Mf Mr Mh hp cc Ma Mas Msn Mac Mat fno (show (nx - 1) < 3 by omega)) (cwV 2 hts gX7_there_X7_cellsOn rfl rfl rfl (by decide +kernel) ⟨(Nat.le_of_ble_eq_true rfl), (Nat.le_of_ble_eq_true rfl)⟩) 0 7 rfl rfl rfl rfl hl.1 rfl (Nat.le_of_ble_eq_true rfl) dX7_there_19 ⟨(Nat.le_of_ble_eq_true rfl), (Nat.le_of_ble_eq_true rfl)⟩ (fun r_1 u H locs hw hP2 hD2 hS2 => ?_)
  clear hP hD hS
  obtain rfl := hw
  have hPD : PD D A [(Mm, .inr (7, [.int zth, .ref Mt, .int (nI tp), .int zma, .int zwr, .ref Mrr, .ref Mrh, .ref Mrc, .int zrh, .int zrc, .ref Mn, .ref Mf, .ref Mr, .ref Mh, .int (nI hp), .int (nI cc), .ref Ma, .ref Mas, .ref Msn, .ref Mac, .ref Mat])), (Mn, .inl (g 0, 1767, .inl fno))] H := ⟨hP2, hD2⟩
  have hS := hS2; clear hP2 hD2 hS2; have hP := hPD.1; have hD := hPD.2; clear hPD
  refine W.widen (k := 0) (n := 0) (Nat.le_of_ble_eq_true rfl) (Nat.le_of_ble_eq_true rfl) ?_
  refine lv_goto (tgt := 26) hx hb dX7_there_22 (by decide) ?_
  refine lv_istore (lv' := [(4, .int r_1), (0, .ref Mm), (1, .int (nI nx)), (2, .int zc), (3, .int 3)]) hx hb dX7_there_26 hl (by decide) rfl (fun ls hl => ?_)
  refine lv_iconst (v := 0) hx hb dX7_there_28 (by decide) ?_
  refine lv_istore (lv' := [(5, .int 0), (4, .int r_1), (0, .ref Mm), (1, .int (nI nx)), (2, .int zc), (3, .int 3)]) hx hb dX7_there_29 hl (by decide) rfl (fun ls hl => ?_)
  have loop_17 : ∀ (Nloop_17 : Nat) (i_7 : Nat) (i_8 : Int32) (hbi_7 : i_7 ≤ cc) (hmloop_17 : cc - i_7 < Nloop_17) (H : Heap) (locs : List Loc) (ls : Array Slot), va_P D vwCl [(Mm, .inr (7, [.int zth, .ref Mt, .int (nI tp), .int zma, .int zwr, .ref Mrr, .ref Mrh, .ref Mrc, .int zrh, .int zrc, .ref Mn, .ref Mf, .ref Mr, .ref Mh, .int (nI hp), .int (nI cc), .ref Ma, .ref Mas, .ref Msn, .ref Mac, .ref Mat])), (Mn, .inl (g 0, 1767, .inl fno))] H → va_D A [(Mm, .inr (7, [.int zth, .ref Mt, .int (nI tp), .int zma, .int zwr, .ref Mrr, .ref Mrh, .ref Mrc, .int zrh, .int zrc, .ref Mn, .ref Mf, .ref Mr, .ref Mh, .int (nI hp), .int (nI cc), .ref Ma, .ref Mas, .ref Msn, .ref Mac, .ref Mat])), (Mn, .inl (g 0, 1767, .inl fno))] → va_S A s.heap H locs → lv_has ls 6 [(5, .int (nI i_7)), (4, .int i_8), (0, .ref Mm), (1, .int (nI nx)), (2, .int zc), (3, .int 3)] → W p l e (headSpec wsX7_there ({ frames := 2, cells := 0, slots := 0, locals := 46 })).room s m ([.ref Mm, .int (nI nx), .int zc, .int 3] : List Value).toArray below meth c H locs 0 0 Q (F0 m 31 ls []) := by
    clear hP hD hS hl
    intro Nloop_17
    induction Nloop_17 with
    | zero => intro i_7 i_8 hbi_7 hm9; exact absurd hm9 (Nat.not_lt_zero _)
    | succ Nloop_17 loop_17_ih =>
      intro i_7 i_8 hbi_7 hmloop_17 H locs ls hP hD hS hl
      refine lv_iload hx hb dX7_there_31 (lv_at hl 0 rfl) ?_
      refine lv_aload_n hx hb dX7_there_33 rfl (lv_at hl 2 rfl) ?_
      refine va_get (D := D) (ci := 7) (v := .int (nI cc)) (C := RX7) (T := TX7) (N := 21) hx hb hts iX7 hown hK hP 0 rfl rfl 15 (by decide) f127 (fun _ h9 => h9) rfl dX7_there_34 ?_
      refine lv_icmp_ge (tgt := 82) hx hb dX7_there_37 (by decide) (fun cb_18 => ?_) (fun cb_18 => ?_)
      · skip
        have cn_19 : cc ≤ i_7 := (nI_leI (show cc < 2 ^ 31 by omega) (show i_7 < 2 ^ 31 by omega)).mp cb_18
        refine lv_iload hx hb dX7_there_82 (lv_at hl 1 rfl) ?_
        have hP9 := hP; have hD9 := hD
        subst hQ
        refine W.widen (k := 0) (n := 0) (Nat.le_of_ble_eq_true rfl) (Nat.le_of_ble_eq_true rfl) ?_
        exact W.iret (v := i_8) hx hb hr (fun tS htS _ => ⟨⟨_, _, rfl, rfl, by rw [htS]; exact hP9, hD9⟩, hS.F htS⟩) hS.2.2 dX7_there_84
      · skip
        have cn_20 : i_7 < cc := Nat.lt_of_not_le (fun q9 => cb_18 ((nI_leI (show cc < 2 ^ 31 by omega) (show i_7 < 2 ^ 31 by omega)).mpr q9))
        refine lv_iload hx hb dX7_there_40 (lv_at hl 1 rfl) ?_
        refine lv_iload hx hb dX7_there_42 (lv_at hl 0 rfl) ?_
        refine lv_iload_n hx hb dX7_there_44 rfl (lv_at hl 4 rfl) ?_
        refine lv_icmp_eq (tgt := 58) hx hb dX7_there_45 (by decide) (fun cb_21 => ?_) (fun cb_21 => ?_)
        · skip
          refine lv_aload_n hx hb dX7_there_58 rfl (lv_at hl 2 rfl) ?_
          refine va_get (D := D) (ci := 7) (v := .ref Mn) (C := RX7) (T := TX7) (N := 21) hx hb hts iX7 hown hK hP 0 rfl rfl 10 (by decide) f22 (fun _ h9 => h9) rfl dX7_there_59 ?_
          refine lv_iload_n hx hb dX7_there_62 rfl (lv_at hl 3 rfl) ?_
          refine lv_iload hx hb dX7_there_63 (lv_at hl 0 rfl) ?_
          refine ky_Si (As := [.int (nI nx), .int (nI i_7)]) (rest := [.ref Mn, .int i_8]) ⟨hx, hb, hml, hown, hts⟩ ⟨hK, hN⟩ hZ hP hD hS hA [] [0, 1] (wc := []) (wr := [(Mm, .inr (7, [.int zth, .ref Mt, .int (nI tp), .int zma, .int zwr, .ref Mrr, .ref Mrh, .ref Mrc, .int zrh, .int zrc, .ref Mn, .ref Mf, .ref Mr, .ref Mh, .int (nI hp), .int (nI cc), .ref Ma, .ref Mas, .ref Msn, .ref Mac, .ref Mat])), (Mn, .inl (g 0, 1767, .inl fno))]) rfl rfl rfl rfl (by decide) (k_X7_bufferAt l D g H.size nx i_7 (show nx ≤ 3 by omega) (show i_7 < 3 by omega)) (va_cwS 2 hts gX7_there_X7_bufferAt rfl rfl rfl (by decide +kernel) ⟨(Nat.le_of_ble_eq_true rfl), (Nat.le_of_ble_eq_true rfl)⟩) rfl hl.1 rfl (Nat.le_of_ble_eq_true rfl) dX7_there_65 ⟨(Nat.le_of_ble_eq_true rfl), (Nat.le_of_ble_eq_true rfl)⟩ (fun r_22 u H locs hw hP2 hD2 hS2 => ?_)
          clear hP hD hS
          obtain ⟨rfl, rfl⟩ := hw
          have hPD : PD D A [(Mm, .inr (7, [.int zth, .ref Mt, .int (nI tp), .int zma, .int zwr, .ref Mrr, .ref Mrh, .ref Mrc, .int zrh, .int zrc, .ref Mn, .ref Mf, .ref Mr, .ref Mh, .int (nI hp), .int (nI cc), .ref Ma, .ref Mas, .ref Msn, .ref Mac, .ref Mat])), (Mn, .inl (g 0, 1767, .inl fno))] H := ⟨hP2, hD2⟩
          have hS := hS2; clear hP2 hD2 hS2; have hP := hPD.1; have hD := hPD.2; clear hPD
          refine W.widen (k := 0) (n := 0) (Nat.le_of_ble_eq_true rfl) (Nat.le_of_ble_eq_true rfl) ?_
          refine va_iald hx hb hK hP 1 0 rfl rfl (vp_in_nI (show 189 + 3 * nx + i_7 < 1767 by omega) (by decide)) dX7_there_68 ?_
          refine lv_eqi (y := (fno (189 + 3 * nx + i_7))) (congrArg fno (nI_clamp (show 189 + 3 * nx + i_7 < 2 ^ 31 by omega))) ?_
          refine lv_topi (fun y_23 _ => ?_)
          refine lv_goto (tgt := 73) hx hb dX7_there_69 (by decide) ?_
          refine lv_iadd hx hb dX7_there_73 ?_
          refine lv_topi (fun y_24 _ => ?_)
          refine lv_istore (lv' := [(4, .int y_24), (5, .int (nI i_7)), (0, .ref Mm), (1, .int (nI nx)), (2, .int zc), (3, .int 3)]) hx hb dX7_there_74 hl (by decide) rfl (fun ls hl => ?_)
          refine lv_iinc (v := (nI (i_7 + 1))) (lv' := [(5, .int (nI (i_7 + 1))), (4, .int y_24), (0, .ref Mm), (1, .int (nI nx)), (2, .int zc), (3, .int 3)]) hx hb dX7_there_76 hl (k := 1) rfl (nI_1 (i_7)) (by decide) rfl (fun ls hl => ?_)
          refine lv_goto (tgt := 31) hx hb dX7_there_79 (by decide) ?_
          exact loop_17_ih (i_7 + 1) y_24 (show (i_7 + 1) ≤ cc by omega) (show cc - (i_7 + 1) < Nloop_17 by omega) _ _ _ hP hD hS hl
        · skip
          refine lv_iload_n hx hb dX7_there_48 rfl (lv_at hl 5 rfl) ?_
          refine lv_iconst (v := 1) hx hb dX7_there_49 (by decide) ?_
          refine lv_icmp_eq (tgt := 58) hx hb dX7_there_50 (by decide) (fun cb => absurd cb (by decide)) (fun _ => ?_)
          refine lv_iload_n hx hb dX7_there_53 rfl (lv_at hl 5 rfl) ?_
          refine lv_iconst (v := 2) hx hb dX7_there_54 (by decide) ?_
          refine lv_icmp_ne (tgt := 72) hx hb dX7_there_55 (by decide) (fun _ => ?_) (fun cb => absurd cb (by decide))
          refine lv_iconst (v := 0) hx hb dX7_there_72 (by decide) ?_
          refine lv_iadd hx hb dX7_there_73 ?_
          refine lv_topi (fun y_25 _ => ?_)
          refine lv_istore (lv' := [(4, .int y_25), (5, .int (nI i_7)), (0, .ref Mm), (1, .int (nI nx)), (2, .int zc), (3, .int 3)]) hx hb dX7_there_74 hl (by decide) rfl (fun ls hl => ?_)
          refine lv_iinc (v := (nI (i_7 + 1))) (lv' := [(5, .int (nI (i_7 + 1))), (4, .int y_25), (0, .ref Mm), (1, .int (nI nx)), (2, .int zc), (3, .int 3)]) hx hb dX7_there_76 hl (k := 1) rfl (nI_1 (i_7)) (by decide) rfl (fun ls hl => ?_)
          refine lv_goto (tgt := 31) hx hb dX7_there_79 (by decide) ?_
          exact loop_17_ih (i_7 + 1) y_25 (show (i_7 + 1) ≤ cc by omega) (show cc - (i_7 + 1) < Nloop_17 by omega) _ _ _ hP hD hS hl
  exact loop_17 _ 0 r_1 (show 0 ≤ cc by omega) (Nat.lt_succ_self _) _ _ _ hP hD hS hl

set_option maxHeartbeats 4000000 in
set_option maxRecDepth 100000 in
theorem k_X7_most (l : Launch) (D : va_G) (g : Nat → ClassId) (sz : Nat) {gs : Nat → Int32} (Mm : Nat) (zn : Int32) (zc : Int32) (zw : Int32) (zk : Int32) (zth : Int32) (Mt : Nat) (tp : Nat) (zma : Int32) (zwr : Int32) (Mrr : Nat) (Mrh : Nat) (Mrc : Nat) (zrh : Int32) (zrc : Int32) (Mn : Nat) (Mf : Nat) (Mr : Nat) (Mh : Nat) (hp : Nat) (cc : Nat) (Ma : Nat) (Mas : Nat) (Msn : Nat) (Mac : Nat) (Mat : Nat) (fno : Nat → Int32) (fmh : Nat → Int32) (fmr : Nat → Int32) (fma : Nat → Int32) (fas : Nat → Int32) (tb : Nat) (ub : Nat) (h0 : tb < 2 ^ 27) (h1 : ub < 2 ^ 27) (h2 : mOK gs tb ub fno) (h3 : 1 ≤ hp) (h4 : hp ≤ 3) (h5 : 1 ≤ cc) (h6 : cc ≤ 3) (h7 : n3 fmh) : Met l yX7_most wsX7_most ({ frames := 6, cells := 0, slots := 0, locals := 133 }) (va_Pc [.ref Mm, .int zn, .int zc, .int zw, .int zk] (pre D g sz [(Mm, .inr (7, [.int zth, .ref Mt, .int (nI tp), .int zma, .int zwr, .ref Mrr, .ref Mrh, .ref Mrc, .int zrh, .int zrc, .ref Mn, .ref Mf, .ref Mr, .ref Mh, .int (nI hp), .int (nI cc), .ref Ma, .ref Mas, .ref Msn, .ref Mac, .ref Mat])), (Mn, .inl (g 0, 1767, .inl fno)), (Mh, .inl (g 0, 9, .inl fmh)), (Mr, .inl (g 0, 3, .inl fmr)), (Ma, .inl (g 0, 3, .inl fma)), (Mas, .inl (g 0, 1767, .inl fas))])) (va_Qi (fun (r : Int32) (u : va_W) => ∃ (zthx : Int32) (fnox : Nat → Int32) (fmax : Nat → Int32) (fasx : Nat → Int32), u = [(Mm, .inr (7, [.int zthx, .ref Mt, .int (nI tp), .int zma, .int zwr, .ref Mrr, .ref Mrh, .ref Mrc, .int zrh, .int zrc, .ref Mn, .ref Mf, .ref Mr, .ref Mh, .int (nI hp), .int (nI cc), .ref Ma, .ref Mas, .ref Msn, .ref Mac, .ref Mat])), (Mn, .inl (g 0, 1767, .inl fnox)), (Mh, .inl (g 0, 9, .inl fmh)), (Mr, .inl (g 0, 3, .inl fmr)), (Ma, .inl (g 0, 3, .inl fmax)), (Mas, .inl (g 0, 1767, .inl fasx))] ∧ (mOK gs tb ub fnox)) (wd D (va_A [(Mm, .inr (7, [.int zth, .ref Mt, .int (nI tp), .int zma, .int zwr, .ref Mrr, .ref Mrh, .ref Mrc, .int zrh, .int zrc, .ref Mn, .ref Mf, .ref Mr, .ref Mh, .int (nI hp), .int (nI cc), .ref Ma, .ref Mas, .ref Msn, .ref Mac, .ref Mat])), (Mn, .inl (g 0, 1767, .inl fno)), (Mh, .inl (g 0, 9, .inl fmh)), (Mr, .inl (g 0, 3, .inl fmr)), (Ma, .inl (g 0, 3, .inl fma)), (Mas, .inl (g 0, 1767, .inl fas))] sz)) (va_A [(Mm, .inr (7, [.int zth, .ref Mt, .int (nI tp), .int zma, .int zwr, .ref Mrr, .ref Mrh, .ref Mrc, .int zrh, .int zrc, .ref Mn, .ref Mf, .ref Mr, .ref Mh, .int (nI hp), .int (nI cc), .ref Ma, .ref Mas, .ref Msn, .ref Mac, .ref Mat])), (Mn, .inl (g 0, 1767, .inl fno)), (Mh, .inl (g 0, 9, .inl fmh)), (Mr, .inl (g 0, 3, .inl fmr)), (Ma, .inl (g 0, 3, .inl fma)), (Mas, .inl (g 0, 1767, .inl fas))] sz)) 0 0 (va_A [(Mm, .inr (7, [.int zth, .ref Mt, .int (nI tp), .int zma, .int zwr, .ref Mrr, .ref Mrh, .ref Mrc, .int zrh, .int zrc, .ref Mn, .ref Mf, .ref Mr, .ref Mh, .int (nI hp), .int (nI cc), .ref Ma, .ref Mas, .ref Msn, .ref Mac, .ref Mat])), (Mn, .inl (g 0, 1767, .inl fno)), (Mh, .inl (g 0, 9, .inl fmh)), (Mr, .inl (g 0, 3, .inl fmr)), (Ma, .inl (g 0, 3, .inl fma)), (Mas, .inl (g 0, 1767, .inl fas))] sz) := by
  refine Met.ofW (cc := cX7_most) (maxL := 7) (ret := (some .int)) (by decide) rfl ?_
  intro p e s m args below meth c s₁ B hml hv
  obtain ⟨rfl, hsz, hP, ⟨hK, hN⟩, hD0, hZ⟩ := hv
  have hx := B.exec
  have hb := B.bytes
  have hr := B.returns
  have hts := atoms_spec (ws := wsX7_most) B.pre
  have hown : s.vm.findClass RX7 = some m.cls := findClass_of_methodNamed B.named
  have hlocks := B.notSynchronized
  clear B
  subst hsz
  have hD := hD0.self (sz := s.heap.size)
  clear hD0
  generalize hAe : va_A [(Mm, .inr (7, [.int zth, .ref Mt, .int (nI tp), .int zma, .int zwr, .ref Mrr, .ref Mrh, .ref Mrc, .int zrh, .int zrc, .ref Mn, .ref Mf, .ref Mr, .ref Mh, .int (nI hp), .int (nI cc), .ref Ma, .ref Mas, .ref Msn, .ref Mac, .ref Mat])), (Mn, .inl (g 0, 1767, .inl fno)), (Mh, .inl (g 0, 9, .inl fmh)), (Mr, .inl (g 0, 3, .inl fmr)), (Ma, .inl (g 0, 3, .inl fma)), (Mas, .inl (g 0, 1767, .inl fas))] s.heap.size = A at hD hZ ⊢
  have hA : ∀ q : Nat, s.heap.size ≤ q → A q := fun q h => by rw [← hAe]; exact Or.inr h
  have hS : va_S A s.heap s.heap [] := va_S.rf
  have f49 := hts (.fieldLink RX7 49 "HopCreditsModel" "thrown" "I") (List.mem_of_getElem? (i := 1) rfl)
  have mcmax := hts (.code Lib.Math.max.name Lib.Math.max.code 2 (some .int)) (List.mem_of_getElem? (i := 5) rfl)
  have mi := hts (.initialized "java/lang/Math") (List.mem_of_getElem? (i := 4) rfl)
  have mmmax := hts (.methodLink RX7 154 Lib.Math.max.name) (List.mem_of_getElem? (i := 2) rfl)
  have mtmax := hts (.static Lib.Math.max.name) (List.mem_of_getElem? (i := 3) rfl)
  have iX7 : ∀ w ∈ u_ws RX7 TX7 21, w ∈ wsX7_most := fun w h => List.mem_cons_of_mem _ (List.mem_append_right _ (h))
  have hl := lv_entry ([.ref Mm, .int zn, .int zc, .int zw, .int zk]) (n := 7) (Nat.le_of_ble_eq_true rfl)
  rw [lg_entry_eq]
  generalize (lg_sl ([.ref Mm, .int zn, .int zc, .int zw, .int zk]) ++ List.replicate (7 - (lg_sl ([.ref Mm, .int zn, .int zc, .int zw, .int zk])).length) Slot.unset).toArray = ls at hl ⊢
  have hl : lv_has ls 7 [(0, .ref Mm), (1, .int zn), (2, .int zc), (3, .int zw), (4, .int zk)] := hl
  generalize hQ : MQ below _ _ s _ _ _ = Q
  generalize hH : s.heap = H at hP ⊢
  have hS : va_S A s.heap H [] := by rw [← hH]; exact hS
  clear hH
  refine lv_aload_n hx hb dX7_most_0 rfl (lv_at hl 0 rfl) ?_
  refine lv_iconst (v := 0) hx hb dX7_most_1 (by decide) ?_
  refine va_put (D := D) (ci := 7) (v := .int 0) (ty := .int) (C := RX7) (T := TX7) (N := 21) hx hb hts iX7 tyX7 tyX7_ok nmX7 hown hK hP hD hS 0 rfl rfl 0 (by decide) f49 (fun _ h9 => h9) rfl (by decide +kernel) (rfl) (rfl) (Nat.le_of_ble_eq_true rfl) dX7_most_2 (fun H locs hP2 hD2 hS2 => ?_)
  clear hP hD hS
  have hPD : PD D A [(Mm, .inr (7, [.int 0, .ref Mt, .int (nI tp), .int zma, .int zwr, .ref Mrr, .ref Mrh, .ref Mrc, .int zrh, .int zrc, .ref Mn, .ref Mf, .ref Mr, .ref Mh, .int (nI hp), .int (nI cc), .ref Ma, .ref Mas, .ref Msn, .ref Mac, .ref Mat])), (Mn, .inl (g 0, 1767, .inl fno)), (Mh, .inl (g 0, 9, .inl fmh)), (Mr, .inl (g 0, 3, .inl fmr)), (Ma, .inl (g 0, 3, .inl fma)), (Mas, .inl (g 0, 1767, .inl fas))] H := ⟨hP2, hD2⟩
  have hS := hS2; clear hP2 hD2 hS2; have hP := hPD.1; have hD := hPD.2; clear hPD
  refine lv_aload_n hx hb dX7_most_5 rfl (lv_at hl 0 rfl) ?_
  refine lv_iload_n hx hb dX7_most_6 rfl (lv_at hl 1 rfl) ?_
  refine ky_Vi (As := [.int zn]) (rest := []) ⟨hx, hb, hml, hown, hts⟩ ⟨hK, hN⟩ hZ hP hD hS hA [0] [1, 2, 3, 4, 5] (wc := [(Mm, .inr (7, [.int 0, .ref Mt, .int (nI tp), .int zma, .int zwr, .ref Mrr, .ref Mrh, .ref Mrc, .int zrh, .int zrc, .ref Mn, .ref Mf, .ref Mr, .ref Mh, .int (nI hp), .int (nI cc), .ref Ma, .ref Mas, .ref Msn, .ref Mac, .ref Mat]))]) (wr := [(Mn, .inl (g 0, 1767, .inl fno)), (Mh, .inl (g 0, 9, .inl fmh)), (Mr, .inl (g 0, 3, .inl fmr)), (Ma, .inl (g 0, 3, .inl fma)), (Mas, .inl (g 0, 1767, .inl fas))]) rfl rfl rfl rfl (by decide) (k_X7_isNode l D g H.size Mm zn 0 Mt tp zma zwr Mrr Mrh Mrc zrh zrc Mn Mf Mr Mh hp cc Ma Mas Msn Mac Mat (show 1 ≤ hp by omega) (show hp ≤ 3 by omega)) (cwV 1 hts gX7_most_X7_isNode rfl rfl rfl (by decide +kernel) ⟨(Nat.le_of_ble_eq_true rfl), (Nat.le_of_ble_eq_true rfl)⟩) 0 7 rfl rfl rfl rfl hl.1 rfl (Nat.le_of_ble_eq_true rfl) dX7_most_7 ⟨(Nat.le_of_ble_eq_true rfl), (Nat.le_of_ble_eq_true rfl)⟩ (fun r_1 u H locs hw hP2 hD2 hS2 => ?_)
  clear hP hD hS
  obtain ⟨rfl, rfl⟩ := hw
  have hPD : PD D A [(Mn, .inl (g 0, 1767, .inl fno)), (Mh, .inl (g 0, 9, .inl fmh)), (Mr, .inl (g 0, 3, .inl fmr)), (Ma, .inl (g 0, 3, .inl fma)), (Mas, .inl (g 0, 1767, .inl fas)), (Mm, .inr (7, [.int 0, .ref Mt, .int (nI tp), .int zma, .int zwr, .ref Mrr, .ref Mrh, .ref Mrc, .int zrh, .int zrc, .ref Mn, .ref Mf, .ref Mr, .ref Mh, .int (nI hp), .int (nI cc), .ref Ma, .ref Mas, .ref Msn, .ref Mac, .ref Mat]))] H := ⟨hP2, hD2⟩
  have hS := hS2; clear hP2 hD2 hS2; have hP := hPD.1; have hD := hPD.2; clear hPD
  refine W.widen (k := 0) (n := 0) (Nat.le_of_ble_eq_true rfl) (Nat.le_of_ble_eq_true rfl) ?_
  refine lv_if_eq (tgt := 48) hx hb dX7_most_10 (by decide) (fun cb_2 => ?_) (fun cb_2 => ?_)
  · skip
    have hq_3 : ¬ (0 ≤ zn ∧ zn ≤ (nI hp)) := b01_0.mp cb_2
    refine lv_iconst (v := (-1)) hx hb dX7_most_48 (by decide) ?_
    have hPD9 : PD D A [(Mm, .inr (7, [.int 0, .ref Mt, .int (nI tp), .int zma, .int zwr, .ref Mrr, .ref Mrh, .ref Mrc, .int zrh, .int zrc, .ref Mn, .ref Mf, .ref Mr, .ref Mh, .int (nI hp), .int (nI cc), .ref Ma, .ref Mas, .ref Msn, .ref Mac, .ref Mat])), (Mn, .inl (g 0, 1767, .inl fno)), (Mh, .inl (g 0, 9, .inl fmh)), (Mr, .inl (g 0, 3, .inl fmr)), (Ma, .inl (g 0, 3, .inl fma)), (Mas, .inl (g 0, 1767, .inl fas))] H := ⟨hP.sub [5, 0, 1, 2, 3, 4] rfl, hD.sub [5, 0, 1, 2, 3, 4] (by decide) rfl⟩
    have hP9 := hPD9.1; have hD9 := hPD9.2
    subst hQ
    refine W.widen (k := 0) (n := 0) (Nat.le_of_ble_eq_true rfl) (Nat.le_of_ble_eq_true rfl) ?_
    exact W.iret (v := (-1)) hx hb hr (fun tS htS _ => ⟨⟨_, _, rfl, ⟨0, fno, fma, fas, rfl, (h2)⟩, by rw [htS]; exact hP9, hD9⟩, hS.F htS⟩) hS.2.2 dX7_most_49
  · skip
    have hq_4 : 0 ≤ zn ∧ zn ≤ (nI hp) := b01_1.mp cb_2
    have hPq_8 := hP; have hDq_8 := hD; have hSq_8 := hS; have hlq_8 := hl; clear hP hD hS hl
    obtain ⟨j_5, hl_6, hu_7, rfl⟩ := rg (L := 0) (U := hp) rfl rfl (show 0 < 2 ^ 31 by omega) (show hp < 2 ^ 31 by omega) hq_4
    have hP := hPq_8; have hD := hDq_8; have hS := hSq_8; have hl := hlq_8; clear hPq_8 hDq_8 hSq_8 hlq_8
    refine lv_aload_n hx hb dX7_most_13 rfl (lv_at hl 0 rfl) ?_
    refine lv_iload_n hx hb dX7_most_14 rfl (lv_at hl 2 rfl) ?_
    refine ky_Vi (As := [.int zc]) (rest := []) ⟨hx, hb, hml, hown, hts⟩ ⟨hK, hN⟩ hZ hP hD hS hA [5] [0, 1, 2, 3, 4] (wc := [(Mm, .inr (7, [.int 0, .ref Mt, .int (nI tp), .int zma, .int zwr, .ref Mrr, .ref Mrh, .ref Mrc, .int zrh, .int zrc, .ref Mn, .ref Mf, .ref Mr, .ref Mh, .int (nI hp), .int (nI cc), .ref Ma, .ref Mas, .ref Msn, .ref Mac, .ref Mat]))]) (wr := [(Mn, .inl (g 0, 1767, .inl fno)), (Mh, .inl (g 0, 9, .inl fmh)), (Mr, .inl (g 0, 3, .inl fmr)), (Ma, .inl (g 0, 3, .inl fma)), (Mas, .inl (g 0, 1767, .inl fas))]) rfl rfl rfl rfl (by decide) (k_X7_isCircuit l D g H.size Mm zc 0 Mt tp zma zwr Mrr Mrh Mrc zrh zrc Mn Mf Mr Mh hp cc Ma Mas Msn Mac Mat (show 1 ≤ cc by omega) (show cc ≤ 3 by omega)) (cwV 1 hts gX7_most_X7_isCircuit rfl rfl rfl (by decide +kernel) ⟨(Nat.le_of_ble_eq_true rfl), (Nat.le_of_ble_eq_true rfl)⟩) 5 7 rfl rfl rfl rfl hl.1 rfl (Nat.le_of_ble_eq_true rfl) dX7_most_15 ⟨(Nat.le_of_ble_eq_true rfl), (Nat.le_of_ble_eq_true rfl)⟩ (fun r_9 u H locs hw hP2 hD2 hS2 => ?_)
    clear hP hD hS
    obtain ⟨rfl, rfl⟩ := hw
    have hPD : PD D A [(Mn, .inl (g 0, 1767, .inl fno)), (Mh, .inl (g 0, 9, .inl fmh)), (Mr, .inl (g 0, 3, .inl fmr)), (Ma, .inl (g 0, 3, .inl fma)), (Mas, .inl (g 0, 1767, .inl fas)), (Mm, .inr (7, [.int 0, .ref Mt, .int (nI tp), .int zma, .int zwr, .ref Mrr, .ref Mrh, .ref Mrc, .int zrh, .int zrc, .ref Mn, .ref Mf, .ref Mr, .ref Mh, .int (nI hp), .int (nI cc), .ref Ma, .ref Mas, .ref Msn, .ref Mac, .ref Mat]))] H := ⟨hP2, hD2⟩
    have hS := hS2; clear hP2 hD2 hS2; have hP := hPD.1; have hD := hPD.2; clear hPD
    refine W.widen (k := 0) (n := 0) (Nat.le_of_ble_eq_true rfl) (Nat.le_of_ble_eq_true rfl) ?_
    refine lv_if_eq (tgt := 48) hx hb dX7_most_18 (by decide) (fun cb_10 => ?_) (fun cb_10 => ?_)
    · skip
      have hq_11 : ¬ (0 ≤ zc ∧ zc ≤ (nI (cc - 1))) := b01_0.mp cb_10
      refine lv_iconst (v := (-1)) hx hb dX7_most_48 (by decide) ?_
      have hPD9 : PD D A [(Mm, .inr (7, [.int 0, .ref Mt, .int (nI tp), .int zma, .int zwr, .ref Mrr, .ref Mrh, .ref Mrc, .int zrh, .int zrc, .ref Mn, .ref Mf, .ref Mr, .ref Mh, .int (nI hp), .int (nI cc), .ref Ma, .ref Mas, .ref Msn, .ref Mac, .ref Mat])), (Mn, .inl (g 0, 1767, .inl fno)), (Mh, .inl (g 0, 9, .inl fmh)), (Mr, .inl (g 0, 3, .inl fmr)), (Ma, .inl (g 0, 3, .inl fma)), (Mas, .inl (g 0, 1767, .inl fas))] H := ⟨hP.sub [5, 0, 1, 2, 3, 4] rfl, hD.sub [5, 0, 1, 2, 3, 4] (by decide) rfl⟩
      have hP9 := hPD9.1; have hD9 := hPD9.2
      subst hQ
      refine W.widen (k := 0) (n := 0) (Nat.le_of_ble_eq_true rfl) (Nat.le_of_ble_eq_true rfl) ?_
      exact W.iret (v := (-1)) hx hb hr (fun tS htS _ => ⟨⟨_, _, rfl, ⟨0, fno, fma, fas, rfl, (h2)⟩, by rw [htS]; exact hP9, hD9⟩, hS.F htS⟩) hS.2.2 dX7_most_49
    · skip
      have hq_12 : 0 ≤ zc ∧ zc ≤ (nI (cc - 1)) := b01_1.mp cb_10
      have hPq_16 := hP; have hDq_16 := hD; have hSq_16 := hS; have hlq_16 := hl; clear hP hD hS hl
      obtain ⟨j_13, hl_14, hu_15, rfl⟩ := rg (L := 0) (U := cc - 1) rfl rfl (show 0 < 2 ^ 31 by omega) (show cc - 1 < 2 ^ 31 by omega) hq_12
      have hP := hPq_16; have hD := hDq_16; have hS := hSq_16; have hl := hlq_16; clear hPq_16 hDq_16 hSq_16 hlq_16
      refine lv_iload_n hx hb dX7_most_21 rfl (lv_at hl 3 rfl) ?_
      refine lv_iconst (v := 0) hx hb dX7_most_22 (by decide) ?_
      refine lv_iconst (v := 3) hx hb dX7_most_23 (by decide) ?_
      refine ky_Si (As := [.int zw, .int 0, .int 3]) (rest := []) ⟨hx, hb, hml, hown, hts⟩ ⟨hK, hN⟩ hZ hP hD hS hA [] [0, 1, 2, 3, 4, 5] (wc := []) (wr := [(Mn, .inl (g 0, 1767, .inl fno)), (Mh, .inl (g 0, 9, .inl fmh)), (Mr, .inl (g 0, 3, .inl fmr)), (Ma, .inl (g 0, 3, .inl fma)), (Mas, .inl (g 0, 1767, .inl fas)), (Mm, .inr (7, [.int 0, .ref Mt, .int (nI tp), .int zma, .int zwr, .ref Mrr, .ref Mrh, .ref Mrc, .int zrh, .int zrc, .ref Mn, .ref Mf, .ref Mr, .ref Mh, .int (nI hp), .int (nI cc), .ref Ma, .ref Mas, .ref Msn, .ref Mac, .ref Mat]))]) rfl rfl rfl rfl (by decide) (k_X7_in l D g H.size zw 0 3) (va_cwS 3 hts gX7_most_X7_in rfl rfl rfl (by decide +kernel) ⟨(Nat.le_of_ble_eq_true rfl), (Nat.le_of_ble_eq_true rfl)⟩) rfl hl.1 rfl (Nat.le_of_ble_eq_true rfl) dX7_most_24 ⟨(Nat.le_of_ble_eq_true rfl), (Nat.le_of_ble_eq_true rfl)⟩ (fun r_17 u H locs hw hP2 hD2 hS2 => ?_)
      clear hP hD hS
      obtain ⟨rfl, rfl⟩ := hw
      have hPD : PD D A [(Mn, .inl (g 0, 1767, .inl fno)), (Mh, .inl (g 0, 9, .inl fmh)), (Mr, .inl (g 0, 3, .inl fmr)), (Ma, .inl (g 0, 3, .inl fma)), (Mas, .inl (g 0, 1767, .inl fas)), (Mm, .inr (7, [.int 0, .ref Mt, .int (nI tp), .int zma, .int zwr, .ref Mrr, .ref Mrh, .ref Mrc, .int zrh, .int zrc, .ref Mn, .ref Mf, .ref Mr, .ref Mh, .int (nI hp), .int (nI cc), .ref Ma, .ref Mas, .ref Msn, .ref Mac, .ref Mat]))] H := ⟨hP2, hD2⟩
      have hS := hS2; clear hP2 hD2 hS2; have hP := hPD.1; have hD := hPD.2; clear hPD
      refine W.widen (k := 0) (n := 0) (Nat.le_of_ble_eq_true rfl) (Nat.le_of_ble_eq_true rfl) ?_
      refine lv_if_eq (tgt := 48) hx hb dX7_most_27 (by decide) (fun cb_18 => ?_) (fun cb_18 => ?_)
      · skip
        have hq_19 : ¬ (0 ≤ zw ∧ zw ≤ 3) := b01_0.mp cb_18
        refine lv_iconst (v := (-1)) hx hb dX7_most_48 (by decide) ?_
        have hPD9 : PD D A [(Mm, .inr (7, [.int 0, .ref Mt, .int (nI tp), .int zma, .int zwr, .ref Mrr, .ref Mrh, .ref Mrc, .int zrh, .int zrc, .ref Mn, .ref Mf, .ref Mr, .ref Mh, .int (nI hp), .int (nI cc), .ref Ma, .ref Mas, .ref Msn, .ref Mac, .ref Mat])), (Mn, .inl (g 0, 1767, .inl fno)), (Mh, .inl (g 0, 9, .inl fmh)), (Mr, .inl (g 0, 3, .inl fmr)), (Ma, .inl (g 0, 3, .inl fma)), (Mas, .inl (g 0, 1767, .inl fas))] H := ⟨hP.sub [5, 0, 1, 2, 3, 4] rfl, hD.sub [5, 0, 1, 2, 3, 4] (by decide) rfl⟩
        have hP9 := hPD9.1; have hD9 := hPD9.2
        subst hQ
        refine W.widen (k := 0) (n := 0) (Nat.le_of_ble_eq_true rfl) (Nat.le_of_ble_eq_true rfl) ?_
        exact W.iret (v := (-1)) hx hb hr (fun tS htS _ => ⟨⟨_, _, rfl, ⟨0, fno, fma, fas, rfl, (h2)⟩, by rw [htS]; exact hP9, hD9⟩, hS.F htS⟩) hS.2.2 dX7_most_49
      · skip
        have hq_20 : 0 ≤ zw ∧ zw ≤ 3 := b01_1.mp cb_18
        have hPq_24 := hP; have hDq_24 := hD; have hSq_24 := hS; have hlq_24 := hl; clear hP hD hS hl
        obtain ⟨j_21, hl_22, hu_23, rfl⟩ := rg (L := 0) (U := 3) rfl rfl (show 0 < 2 ^ 31 by omega) (show 3 < 2 ^ 31 by omega) hq_20
        have hP := hPq_24; have hD := hDq_24; have hS := hSq_24; have hl := hlq_24; clear hPq_24 hDq_24 hSq_24 hlq_24
        have hPq_25 := hP; have hDq_25 := hD; have hSq_25 := hS; have hlq_25 := hl; clear hP hD hS hl
        rcases (show j_21 = 0 ∨ j_21 = 1 ∨ j_21 = 2 ∨ j_21 = 3 by omega) with rfl | rfl | rfl | rfl
        · skip
          have hP := hPq_25; have hD := hDq_25; have hS := hSq_25; have hl := hlq_25; clear hPq_25 hDq_25 hSq_25 hlq_25
          refine lv_iload_n hx hb dX7_most_30 rfl (lv_at hl 3 rfl) ?_
          refine lv_iconst (v := 1) hx hb dX7_most_31 (by decide) ?_
          refine lv_icmp_le (tgt := 39) hx hb dX7_most_32 (by decide) (fun _ => ?_) (fun cb => absurd (by decide) cb)
          refine lv_iload hx hb dX7_most_39 (lv_at hl 4 rfl) ?_
          refine lv_iconst (v := 0) hx hb dX7_most_41 (by decide) ?_
          refine ky_Si (As := [.int zk, .int 0]) (rest := []) ⟨hx, hb, hml, hown, hts⟩ ⟨hK, hN⟩ hZ hP hD hS hA [] [0, 1, 2, 3, 4, 5] (wc := []) (wr := [(Mn, .inl (g 0, 1767, .inl fno)), (Mh, .inl (g 0, 9, .inl fmh)), (Mr, .inl (g 0, 3, .inl fmr)), (Ma, .inl (g 0, 3, .inl fma)), (Mas, .inl (g 0, 1767, .inl fas)), (Mm, .inr (7, [.int 0, .ref Mt, .int (nI tp), .int zma, .int zwr, .ref Mrr, .ref Mrh, .ref Mrc, .int zrh, .int zrc, .ref Mn, .ref Mf, .ref Mr, .ref Mh, .int (nI hp), .int (nI cc), .ref Ma, .ref Mas, .ref Msn, .ref Mac, .ref Mat]))]) rfl rfl rfl rfl (by decide) (k_X7_isSpan l D g H.size zk 0) (va_cwS 2 hts gX7_most_X7_isSpan rfl rfl rfl (by decide +kernel) ⟨(Nat.le_of_ble_eq_true rfl), (Nat.le_of_ble_eq_true rfl)⟩) rfl hl.1 rfl (Nat.le_of_ble_eq_true rfl) dX7_most_42 ⟨(Nat.le_of_ble_eq_true rfl), (Nat.le_of_ble_eq_true rfl)⟩ (fun r_26 u H locs hw hP2 hD2 hS2 => ?_)
          clear hP hD hS
          obtain ⟨rfl, rfl⟩ := hw
          have hPD : PD D A [(Mn, .inl (g 0, 1767, .inl fno)), (Mh, .inl (g 0, 9, .inl fmh)), (Mr, .inl (g 0, 3, .inl fmr)), (Ma, .inl (g 0, 3, .inl fma)), (Mas, .inl (g 0, 1767, .inl fas)), (Mm, .inr (7, [.int 0, .ref Mt, .int (nI tp), .int zma, .int zwr, .ref Mrr, .ref Mrh, .ref Mrc, .int zrh, .int zrc, .ref Mn, .ref Mf, .ref Mr, .ref Mh, .int (nI hp), .int (nI cc), .ref Ma, .ref Mas, .ref Msn, .ref Mac, .ref Mat]))] H := ⟨hP2, hD2⟩
          have hS := hS2; clear hP2 hD2 hS2; have hP := hPD.1; have hD := hPD.2; clear hPD
          refine W.widen (k := 0) (n := 0) (Nat.le_of_ble_eq_true rfl) (Nat.le_of_ble_eq_true rfl) ?_
          refine lv_if_ne (tgt := 50) hx hb dX7_most_45 (by decide) (fun cb_27 => ?_) (fun cb_27 => ?_)
          · skip
            have hq_28 : 0 ≤ zk ∧ zk ≤ 200 := b01_1.mp cb_27
            have hPq_32 := hP; have hDq_32 := hD; have hSq_32 := hS; have hlq_32 := hl; clear hP hD hS hl
            obtain ⟨j_29, hl_30, hu_31, rfl⟩ := rg (L := 0) (U := 200) rfl rfl (show 0 < 2 ^ 31 by omega) (show 200 < 2 ^ 31 by omega) hq_28
            have hP := hPq_32; have hD := hDq_32; have hS := hSq_32; have hl := hlq_32; clear hPq_32 hDq_32 hSq_32 hlq_32
            refine lv_aload_n hx hb dX7_most_50 rfl (lv_at hl 0 rfl) ?_
            refine ky_Vv (As := []) (rest := []) ⟨hx, hb, hml, hown, hts⟩ ⟨hK, hN⟩ hZ hP hD hS hA [5, 0, 4] [1, 2, 3] (wc := [(Mm, .inr (7, [.int 0, .ref Mt, .int (nI tp), .int zma, .int zwr, .ref Mrr, .ref Mrh, .ref Mrc, .int zrh, .int zrc, .ref Mn, .ref Mf, .ref Mr, .ref Mh, .int (nI hp), .int (nI cc), .ref Ma, .ref Mas, .ref Msn, .ref Mac, .ref Mat])), (Mn, .inl (g 0, 1767, .inl fno)), (Mas, .inl (g 0, 1767, .inl fas))]) (wr := [(Mh, .inl (g 0, 9, .inl fmh)), (Mr, .inl (g 0, 3, .inl fmr)), (Ma, .inl (g 0, 3, .inl fma))]) rfl rfl rfl rfl (by decide) (k_X7_putAside l D g H.size Mm 0 Mt tp zma zwr Mrr Mrh Mrc zrh zrc Mn Mf Mr Mh hp cc Ma Mas Msn Mac Mat fno fas tb ub (h2)) (cwV 0 hts gX7_most_X7_putAside rfl rfl rfl (by decide +kernel) ⟨(Nat.le_of_ble_eq_true rfl), (Nat.le_of_ble_eq_true rfl)⟩) 5 7 rfl rfl rfl rfl hl.1 rfl (Nat.le_of_ble_eq_true rfl) dX7_most_51 ⟨(Nat.le_of_ble_eq_true rfl), (Nat.le_of_ble_eq_true rfl)⟩ (fun u H locs hw hP2 hD2 hS2 => ?_)
            clear hP hD hS
            obtain ⟨fasx_34, rfl, hf_35⟩ := hw
            have hPD : PD D A [(Mh, .inl (g 0, 9, .inl fmh)), (Mr, .inl (g 0, 3, .inl fmr)), (Ma, .inl (g 0, 3, .inl fma)), (Mm, .inr (7, [.int 0, .ref Mt, .int (nI tp), .int zma, .int zwr, .ref Mrr, .ref Mrh, .ref Mrc, .int zrh, .int zrc, .ref Mn, .ref Mf, .ref Mr, .ref Mh, .int (nI hp), .int (nI cc), .ref Ma, .ref Mas, .ref Msn, .ref Mac, .ref Mat])), (Mn, .inl (g 0, 1767, .inl fno)), (Mas, .inl (g 0, 1767, .inl fasx_34))] H := ⟨hP2, hD2⟩
            have hS := hS2; clear hP2 hD2 hS2; have hP := hPD.1; have hD := hPD.2; clear hPD
            refine W.widen (k := 0) (n := 0) (Nat.le_of_ble_eq_true rfl) (Nat.le_of_ble_eq_true rfl) ?_
            refine lv_aload_n hx hb dX7_most_54 rfl (lv_at hl 0 rfl) ?_
            refine lv_iload_n hx hb dX7_most_55 rfl (lv_at hl 1 rfl) ?_
            refine lv_iload_n hx hb dX7_most_56 rfl (lv_at hl 2 rfl) ?_
            refine lv_iload_n hx hb dX7_most_57 rfl (lv_at hl 3 rfl) ?_
            refine ky_Vi (As := [.int (nI j_5), .int (nI j_13), .int (nI 0)]) (rest := []) ⟨hx, hb, hml, hown, hts⟩ ⟨hK, hN⟩ hZ hP hD hS hA [3, 4] [0, 1, 2, 5] (wc := [(Mm, .inr (7, [.int 0, .ref Mt, .int (nI tp), .int zma, .int zwr, .ref Mrr, .ref Mrh, .ref Mrc, .int zrh, .int zrc, .ref Mn, .ref Mf, .ref Mr, .ref Mh, .int (nI hp), .int (nI cc), .ref Ma, .ref Mas, .ref Msn, .ref Mac, .ref Mat])), (Mn, .inl (g 0, 1767, .inl fno))]) (wr := [(Mh, .inl (g 0, 9, .inl fmh)), (Mr, .inl (g 0, 3, .inl fmr)), (Ma, .inl (g 0, 3, .inl fma)), (Mas, .inl (g 0, 1767, .inl fasx_34))]) rfl rfl rfl rfl (by decide) (k_X7_there_0 l D g H.size Mm j_5 (nI j_13) 0 Mt tp zma zwr Mrr Mrh Mrc zrh zrc Mn Mf Mr Mh hp cc Ma Mas Msn Mac Mat fno (show 1 ≤ cc by omega) (show cc ≤ 3 by omega) (show j_5 ≤ 3 by omega)) (cwV 3 hts gX7_most_X7_there rfl rfl rfl (by decide +kernel) ⟨(Nat.le_of_ble_eq_true rfl), (Nat.le_of_ble_eq_true rfl)⟩) 3 7 rfl rfl rfl rfl hl.1 rfl (Nat.le_of_ble_eq_true rfl) dX7_most_58 ⟨(Nat.le_of_ble_eq_true rfl), (Nat.le_of_ble_eq_true rfl)⟩ (fun r_36 u H locs hw hP2 hD2 hS2 => ?_)
            clear hP hD hS
            obtain rfl := hw
            have hPD : PD D A [(Mh, .inl (g 0, 9, .inl fmh)), (Mr, .inl (g 0, 3, .inl fmr)), (Ma, .inl (g 0, 3, .inl fma)), (Mas, .inl (g 0, 1767, .inl fasx_34)), (Mm, .inr (7, [.int 0, .ref Mt, .int (nI tp), .int zma, .int zwr, .ref Mrr, .ref Mrh, .ref Mrc, .int zrh, .int zrc, .ref Mn, .ref Mf, .ref Mr, .ref Mh, .int (nI hp), .int (nI cc), .ref Ma, .ref Mas, .ref Msn, .ref Mac, .ref Mat])), (Mn, .inl (g 0, 1767, .inl fno))] H := ⟨hP2, hD2⟩
            have hS := hS2; clear hP2 hD2 hS2; have hP := hPD.1; have hD := hPD.2; clear hPD
            refine W.widen (k := 0) (n := 0) (Nat.le_of_ble_eq_true rfl) (Nat.le_of_ble_eq_true rfl) ?_
            refine lv_istore (lv' := [(5, .int r_36), (0, .ref Mm), (1, .int (nI j_5)), (2, .int (nI j_13)), (3, .int (nI 0)), (4, .int (nI j_29))]) hx hb dX7_most_61 hl (by decide) rfl (fun ls hl => ?_)
            refine lv_iconst (v := 0) hx hb dX7_most_63 (by decide) ?_
            refine lv_istore (lv' := [(6, .int 0), (5, .int r_36), (0, .ref Mm), (1, .int (nI j_5)), (2, .int (nI j_13)), (3, .int (nI 0)), (4, .int (nI j_29))]) hx hb dX7_most_64 hl (by decide) rfl (fun ls hl => ?_)
            have loop_59 : ∀ (Nloop_59 : Nat) (i_46 : Nat) (i_47 : Int32) (F_48 : Nat → Int32) (F_49 : Nat → Int32) (hF_49 : mOK gs (tb + i_46) (ub + 6 * i_46) F_49) (hbi_46 : i_46 ≤ j_29) (hmloop_59 : j_29 - i_46 < Nloop_59) (H : Heap) (locs : List Loc) (ls : Array Slot), va_P D vwCl [(Mh, .inl (g 0, 9, .inl fmh)), (Mr, .inl (g 0, 3, .inl fmr)), (Ma, .inl (g 0, 3, .inl F_48)), (Mas, .inl (g 0, 1767, .inl fasx_34)), (Mm, .inr (7, [.int 0, .ref Mt, .int (nI tp), .int zma, .int zwr, .ref Mrr, .ref Mrh, .ref Mrc, .int zrh, .int zrc, .ref Mn, .ref Mf, .ref Mr, .ref Mh, .int (nI hp), .int (nI cc), .ref Ma, .ref Mas, .ref Msn, .ref Mac, .ref Mat])), (Mn, .inl (g 0, 1767, .inl F_49))] H → va_D A [(Mh, .inl (g 0, 9, .inl fmh)), (Mr, .inl (g 0, 3, .inl fmr)), (Ma, .inl (g 0, 3, .inl F_48)), (Mas, .inl (g 0, 1767, .inl fasx_34)), (Mm, .inr (7, [.int 0, .ref Mt, .int (nI tp), .int zma, .int zwr, .ref Mrr, .ref Mrh, .ref Mrc, .int zrh, .int zrc, .ref Mn, .ref Mf, .ref Mr, .ref Mh, .int (nI hp), .int (nI cc), .ref Ma, .ref Mas, .ref Msn, .ref Mac, .ref Mat])), (Mn, .inl (g 0, 1767, .inl F_49))] → va_S A s.heap H locs → lv_has ls 7 [(6, .int (nI i_46)), (5, .int i_47), (0, .ref Mm), (1, .int (nI j_5)), (2, .int (nI j_13)), (3, .int (nI 0)), (4, .int (nI j_29))] → W p l e (headSpec wsX7_most ({ frames := 6, cells := 0, slots := 0, locals := 133 })).room s m ([.ref Mm, .int (nI j_5), .int (nI j_13), .int (nI 0), .int (nI j_29)] : List Value).toArray below meth c H locs 0 0 Q (F0 m 66 ls []) := by
              clear hP hD hS hl
              intro Nloop_59
              induction Nloop_59 with
              | zero => intro i_46 i_47 F_48 F_49 hF_49 hbi_46 hm9; exact absurd hm9 (Nat.not_lt_zero _)
              | succ Nloop_59 loop_59_ih =>
                intro i_46 i_47 F_48 F_49 hF_49 hbi_46 hmloop_59 H locs ls hP hD hS hl
                refine lv_iload hx hb dX7_most_66 (lv_at hl 0 rfl) ?_
                refine lv_iload hx hb dX7_most_68 (lv_at hl 6 rfl) ?_
                refine lv_icmp_ge (tgt := 97) hx hb dX7_most_70 (by decide) (fun cb_60 => ?_) (fun cb_60 => ?_)
                · skip
                  have cn_61 : j_29 ≤ i_46 := (nI_leI (show j_29 < 2 ^ 31 by omega) (show i_46 < 2 ^ 31 by omega)).mp cb_60
                  refine lv_aload_n hx hb dX7_most_97 rfl (lv_at hl 2 rfl) ?_
                  refine ky_Vv (As := []) (rest := []) ⟨hx, hb, hml, hown, hts⟩ ⟨hK, hN⟩ hZ hP hD hS hA [4, 5, 3] [0, 1, 2] (wc := [(Mm, .inr (7, [.int 0, .ref Mt, .int (nI tp), .int zma, .int zwr, .ref Mrr, .ref Mrh, .ref Mrc, .int zrh, .int zrc, .ref Mn, .ref Mf, .ref Mr, .ref Mh, .int (nI hp), .int (nI cc), .ref Ma, .ref Mas, .ref Msn, .ref Mac, .ref Mat])), (Mn, .inl (g 0, 1767, .inl F_49)), (Mas, .inl (g 0, 1767, .inl fasx_34))]) (wr := [(Mh, .inl (g 0, 9, .inl fmh)), (Mr, .inl (g 0, 3, .inl fmr)), (Ma, .inl (g 0, 3, .inl F_48))]) rfl rfl rfl rfl (by decide) (k_X7_bringBack l D g H.size Mm 0 Mt tp zma zwr Mrr Mrh Mrc zrh zrc Mn Mf Mr Mh hp cc Ma Mas Msn Mac Mat F_49 fasx_34 tb ub (hf_35)) (cwV 0 hts gX7_most_X7_bringBack rfl rfl rfl (by decide +kernel) ⟨(Nat.le_of_ble_eq_true rfl), (Nat.le_of_ble_eq_true rfl)⟩) 4 7 rfl rfl rfl rfl hl.1 rfl (Nat.le_of_ble_eq_true rfl) dX7_most_98 ⟨(Nat.le_of_ble_eq_true rfl), (Nat.le_of_ble_eq_true rfl)⟩ (fun u H locs hw hP2 hD2 hS2 => ?_)
                  clear hP hD hS
                  obtain ⟨fnox_63, rfl, hf_64⟩ := hw
                  have hPD : PD D A [(Mh, .inl (g 0, 9, .inl fmh)), (Mr, .inl (g 0, 3, .inl fmr)), (Ma, .inl (g 0, 3, .inl F_48)), (Mm, .inr (7, [.int 0, .ref Mt, .int (nI tp), .int zma, .int zwr, .ref Mrr, .ref Mrh, .ref Mrc, .int zrh, .int zrc, .ref Mn, .ref Mf, .ref Mr, .ref Mh, .int (nI hp), .int (nI cc), .ref Ma, .ref Mas, .ref Msn, .ref Mac, .ref Mat])), (Mn, .inl (g 0, 1767, .inl fnox_63)), (Mas, .inl (g 0, 1767, .inl fasx_34))] H := ⟨hP2, hD2⟩
                  have hS := hS2; clear hP2 hD2 hS2; have hP := hPD.1; have hD := hPD.2; clear hPD
                  refine W.widen (k := 0) (n := 0) (Nat.le_of_ble_eq_true rfl) (Nat.le_of_ble_eq_true rfl) ?_
                  refine lv_iload hx hb dX7_most_101 (lv_at hl 1 rfl) ?_
                  have hPD9 : PD D A [(Mm, .inr (7, [.int 0, .ref Mt, .int (nI tp), .int zma, .int zwr, .ref Mrr, .ref Mrh, .ref Mrc, .int zrh, .int zrc, .ref Mn, .ref Mf, .ref Mr, .ref Mh, .int (nI hp), .int (nI cc), .ref Ma, .ref Mas, .ref Msn, .ref Mac, .ref Mat])), (Mn, .inl (g 0, 1767, .inl fnox_63)), (Mh, .inl (g 0, 9, .inl fmh)), (Mr, .inl (g 0, 3, .inl fmr)), (Ma, .inl (g 0, 3, .inl F_48)), (Mas, .inl (g 0, 1767, .inl fasx_34))] H := ⟨hP.sub [3, 4, 0, 1, 2, 5] rfl, hD.sub [3, 4, 0, 1, 2, 5] (by decide) rfl⟩
                  have hP9 := hPD9.1; have hD9 := hPD9.2
                  subst hQ
                  refine W.widen (k := 0) (n := 0) (Nat.le_of_ble_eq_true rfl) (Nat.le_of_ble_eq_true rfl) ?_
                  exact W.iret (v := i_47) hx hb hr (fun tS htS _ => ⟨⟨_, _, rfl, ⟨0, fnox_63, F_48, fasx_34, rfl, (hf_64)⟩, by rw [htS]; exact hP9, hD9⟩, hS.F htS⟩) hS.2.2 dX7_most_103
                · skip
                  have cn_65 : i_46 < j_29 := Nat.lt_of_not_le (fun q9 => cb_60 ((nI_leI (show j_29 < 2 ^ 31 by omega) (show i_46 < 2 ^ 31 by omega)).mpr q9))
                  refine lv_aload_n hx hb dX7_most_73 rfl (lv_at hl 2 rfl) ?_
                  refine ky_Vv (As := []) (rest := []) ⟨hx, hb, hml, hown, hts⟩ ⟨hK, hN⟩ hZ hP hD hS hA [4, 5, 0, 1, 2] [3] (wc := [(Mm, .inr (7, [.int 0, .ref Mt, .int (nI tp), .int zma, .int zwr, .ref Mrr, .ref Mrh, .ref Mrc, .int zrh, .int zrc, .ref Mn, .ref Mf, .ref Mr, .ref Mh, .int (nI hp), .int (nI cc), .ref Ma, .ref Mas, .ref Msn, .ref Mac, .ref Mat])), (Mn, .inl (g 0, 1767, .inl F_49)), (Mh, .inl (g 0, 9, .inl fmh)), (Mr, .inl (g 0, 3, .inl fmr)), (Ma, .inl (g 0, 3, .inl F_48))]) (wr := [(Mas, .inl (g 0, 1767, .inl fasx_34))]) rfl rfl rfl rfl (by decide) (k_X7_ticks l D g H.size Mm 0 Mt tp zma zwr Mrr Mrh Mrc zrh zrc Mn Mf Mr Mh hp cc Ma Mas Msn Mac Mat F_49 fmh fmr F_48 (tb + i_46) (ub + 6 * i_46) (show tb + i_46 < 2 ^ 28 by omega) (show ub + 6 * i_46 < 2 ^ 28 by omega) (hF_49) (show 1 ≤ hp by omega) (show hp ≤ 3 by omega) (show 1 ≤ cc by omega) (show cc ≤ 3 by omega) (h7)) (cwV 0 hts gX7_most_X7_ticks rfl rfl rfl (by decide +kernel) ⟨(Nat.le_of_ble_eq_true rfl), (Nat.le_of_ble_eq_true rfl)⟩) 4 7 rfl rfl rfl rfl hl.1 rfl (Nat.le_of_ble_eq_true rfl) dX7_most_74 ⟨(Nat.le_of_ble_eq_true rfl), (Nat.le_of_ble_eq_true rfl)⟩ (fun u H locs hw hP2 hD2 hS2 => ?_)
                  clear hP hD hS
                  obtain ⟨fnox_67, fmax_68, rfl, hf_69⟩ := hw
                  have hPD : PD D A [(Mas, .inl (g 0, 1767, .inl fasx_34)), (Mm, .inr (7, [.int 0, .ref Mt, .int (nI tp), .int zma, .int zwr, .ref Mrr, .ref Mrh, .ref Mrc, .int zrh, .int zrc, .ref Mn, .ref Mf, .ref Mr, .ref Mh, .int (nI hp), .int (nI cc), .ref Ma, .ref Mas, .ref Msn, .ref Mac, .ref Mat])), (Mn, .inl (g 0, 1767, .inl fnox_67)), (Mh, .inl (g 0, 9, .inl fmh)), (Mr, .inl (g 0, 3, .inl fmr)), (Ma, .inl (g 0, 3, .inl fmax_68))] H := ⟨hP2, hD2⟩
                  have hS := hS2; clear hP2 hD2 hS2; have hP := hPD.1; have hD := hPD.2; clear hPD
                  refine W.widen (k := 0) (n := 0) (Nat.le_of_ble_eq_true rfl) (Nat.le_of_ble_eq_true rfl) ?_
                  refine lv_iload hx hb dX7_most_77 (lv_at hl 1 rfl) ?_
                  refine lv_aload_n hx hb dX7_most_79 rfl (lv_at hl 2 rfl) ?_
                  refine lv_iload_n hx hb dX7_most_80 rfl (lv_at hl 3 rfl) ?_
                  refine lv_iload_n hx hb dX7_most_81 rfl (lv_at hl 4 rfl) ?_
                  refine lv_iload_n hx hb dX7_most_82 rfl (lv_at hl 5 rfl) ?_
                  refine ky_Vi (As := [.int (nI j_5), .int (nI j_13), .int (nI 0)]) (rest := [.int i_47]) ⟨hx, hb, hml, hown, hts⟩ ⟨hK, hN⟩ hZ hP hD hS hA [1, 2] [0, 3, 4, 5] (wc := [(Mm, .inr (7, [.int 0, .ref Mt, .int (nI tp), .int zma, .int zwr, .ref Mrr, .ref Mrh, .ref Mrc, .int zrh, .int zrc, .ref Mn, .ref Mf, .ref Mr, .ref Mh, .int (nI hp), .int (nI cc), .ref Ma, .ref Mas, .ref Msn, .ref Mac, .ref Mat])), (Mn, .inl (g 0, 1767, .inl fnox_67))]) (wr := [(Mas, .inl (g 0, 1767, .inl fasx_34)), (Mh, .inl (g 0, 9, .inl fmh)), (Mr, .inl (g 0, 3, .inl fmr)), (Ma, .inl (g 0, 3, .inl fmax_68))]) rfl rfl rfl rfl (by decide) (k_X7_there_0 l D g H.size Mm j_5 (nI j_13) 0 Mt tp zma zwr Mrr Mrh Mrc zrh zrc Mn Mf Mr Mh hp cc Ma Mas Msn Mac Mat fnox_67 (show 1 ≤ cc by omega) (show cc ≤ 3 by omega) (show j_5 ≤ 3 by omega)) (cwV 3 hts gX7_most_X7_there rfl rfl rfl (by decide +kernel) ⟨(Nat.le_of_ble_eq_true rfl), (Nat.le_of_ble_eq_true rfl)⟩) 1 7 rfl rfl rfl rfl hl.1 rfl (Nat.le_of_ble_eq_true rfl) dX7_most_83 ⟨(Nat.le_of_ble_eq_true rfl), (Nat.le_of_ble_eq_true rfl)⟩ (fun r_70 u H locs hw hP2 hD2 hS2 => ?_)
                  clear hP hD hS
                  obtain rfl := hw
                  have hPD : PD D A [(Mas, .inl (g 0, 1767, .inl fasx_34)), (Mh, .inl (g 0, 9, .inl fmh)), (Mr, .inl (g 0, 3, .inl fmr)), (Ma, .inl (g 0, 3, .inl fmax_68)), (Mm, .inr (7, [.int 0, .ref Mt, .int (nI tp), .int zma, .int zwr, .ref Mrr, .ref Mrh, .ref Mrc, .int zrh, .int zrc, .ref Mn, .ref Mf, .ref Mr, .ref Mh, .int (nI hp), .int (nI cc), .ref Ma, .ref Mas, .ref Msn, .ref Mac, .ref Mat])), (Mn, .inl (g 0, 1767, .inl fnox_67))] H := ⟨hP2, hD2⟩
                  have hS := hS2; clear hP2 hD2 hS2; have hP := hPD.1; have hD := hPD.2; clear hPD
                  refine W.widen (k := 0) (n := 0) (Nat.le_of_ble_eq_true rfl) (Nat.le_of_ble_eq_true rfl) ?_
                  refine va_mmax hx hb (hml.trans hl.1.symm) hown mmmax mtmax mi mcmax (Nat.le_of_ble_eq_true rfl) (Nat.le_of_ble_eq_true rfl) (Nat.le_of_ble_eq_true rfl) (Nat.le_of_ble_eq_true rfl) dX7_most_86 ?_
                  refine lv_topi (fun y_71 _ => ?_)
                  refine lv_istore (lv' := [(5, .int y_71), (6, .int (nI i_46)), (0, .ref Mm), (1, .int (nI j_5)), (2, .int (nI j_13)), (3, .int (nI 0)), (4, .int (nI j_29))]) hx hb dX7_most_89 hl (by decide) rfl (fun ls hl => ?_)
                  refine lv_iinc (v := (nI (i_46 + 1))) (lv' := [(6, .int (nI (i_46 + 1))), (5, .int y_71), (0, .ref Mm), (1, .int (nI j_5)), (2, .int (nI j_13)), (3, .int (nI 0)), (4, .int (nI j_29))]) hx hb dX7_most_91 hl (k := 1) rfl (nI_1 (i_46)) (by decide) rfl (fun ls hl => ?_)
                  refine lv_goto (tgt := 66) hx hb dX7_most_94 (by decide) ?_
                  exact loop_59_ih (i_46 + 1) y_71 fmax_68 fnox_67 (mOK_le hf_69 (show tb + i_46 + 1 = tb + (i_46 + 1) by omega) (show ub + 6 * i_46 + 6 ≤ ub + 6 * (i_46 + 1) by omega)) (show (i_46 + 1) ≤ j_29 by omega) (show j_29 - (i_46 + 1) < Nloop_59 by omega) _ _ _ (hP.sub [1, 2, 3, 0, 4, 5] rfl) (hD.sub [1, 2, 3, 0, 4, 5] (by decide) rfl) hS hl
            exact loop_59 _ 0 r_36 fma fno (mOK_le h2 (show tb = tb + 0 by omega) (show ub ≤ ub + 6 * 0 by omega)) (show 0 ≤ j_29 by omega) (Nat.lt_succ_self _) _ _ _ hP hD hS hl
          · skip
            have hq_72 : ¬ (0 ≤ zk ∧ zk ≤ 200) := b01_0.mp cb_27
            refine lv_iconst (v := (-1)) hx hb dX7_most_48 (by decide) ?_
            have hPD9 : PD D A [(Mm, .inr (7, [.int 0, .ref Mt, .int (nI tp), .int zma, .int zwr, .ref Mrr, .ref Mrh, .ref Mrc, .int zrh, .int zrc, .ref Mn, .ref Mf, .ref Mr, .ref Mh, .int (nI hp), .int (nI cc), .ref Ma, .ref Mas, .ref Msn, .ref Mac, .ref Mat])), (Mn, .inl (g 0, 1767, .inl fno)), (Mh, .inl (g 0, 9, .inl fmh)), (Mr, .inl (g 0, 3, .inl fmr)), (Ma, .inl (g 0, 3, .inl fma)), (Mas, .inl (g 0, 1767, .inl fas))] H := ⟨hP.sub [5, 0, 1, 2, 3, 4] rfl, hD.sub [5, 0, 1, 2, 3, 4] (by decide) rfl⟩
            have hP9 := hPD9.1; have hD9 := hPD9.2
            subst hQ
            refine W.widen (k := 0) (n := 0) (Nat.le_of_ble_eq_true rfl) (Nat.le_of_ble_eq_true rfl) ?_
            exact W.iret (v := (-1)) hx hb hr (fun tS htS _ => ⟨⟨_, _, rfl, ⟨0, fno, fma, fas, rfl, (h2)⟩, by rw [htS]; exact hP9, hD9⟩, hS.F htS⟩) hS.2.2 dX7_most_49
        · skip
          have hP := hPq_25; have hD := hDq_25; have hS := hSq_25; have hl := hlq_25; clear hPq_25 hDq_25 hSq_25 hlq_25
          refine lv_iload_n hx hb dX7_most_30 rfl (lv_at hl 3 rfl) ?_
          refine lv_iconst (v := 1) hx hb dX7_most_31 (by decide) ?_
          refine lv_icmp_le (tgt := 39) hx hb dX7_most_32 (by decide) (fun _ => ?_) (fun cb => absurd (by decide) cb)
          refine lv_iload hx hb dX7_most_39 (lv_at hl 4 rfl) ?_
          refine lv_iconst (v := 0) hx hb dX7_most_41 (by decide) ?_
          refine ky_Si (As := [.int zk, .int 0]) (rest := []) ⟨hx, hb, hml, hown, hts⟩ ⟨hK, hN⟩ hZ hP hD hS hA [] [0, 1, 2, 3, 4, 5] (wc := []) (wr := [(Mn, .inl (g 0, 1767, .inl fno)), (Mh, .inl (g 0, 9, .inl fmh)), (Mr, .inl (g 0, 3, .inl fmr)), (Ma, .inl (g 0, 3, .inl fma)), (Mas, .inl (g 0, 1767, .inl fas)), (Mm, .inr (7, [.int 0, .ref Mt, .int (nI tp), .int zma, .int zwr, .ref Mrr, .ref Mrh, .ref Mrc, .int zrh, .int zrc, .ref Mn, .ref Mf, .ref Mr, .ref Mh, .int (nI hp), .int (nI cc), .ref Ma, .ref Mas, .ref Msn, .ref Mac, .ref Mat]))]) rfl rfl rfl rfl (by decide) (k_X7_isSpan l D g H.size zk 0) (va_cwS 2 hts gX7_most_X7_isSpan rfl rfl rfl (by decide +kernel) ⟨(Nat.le_of_ble_eq_true rfl), (Nat.le_of_ble_eq_true rfl)⟩) rfl hl.1 rfl (Nat.le_of_ble_eq_true rfl) dX7_most_42 ⟨(Nat.le_of_ble_eq_true rfl), (Nat.le_of_ble_eq_true rfl)⟩ (fun r_73 u H locs hw hP2 hD2 hS2 => ?_)
          clear hP hD hS
          obtain ⟨rfl, rfl⟩ := hw
          have hPD : PD D A [(Mn, .inl (g 0, 1767, .inl fno)), (Mh, .inl (g 0, 9, .inl fmh)), (Mr, .inl (g 0, 3, .inl fmr)), (Ma, .inl (g 0, 3, .inl fma)), (Mas, .inl (g 0, 1767, .inl fas)), (Mm, .inr (7, [.int 0, .ref Mt, .int (nI tp), .int zma, .int zwr, .ref Mrr, .ref Mrh, .ref Mrc, .int zrh, .int zrc, .ref Mn, .ref Mf, .ref Mr, .ref Mh, .int (nI hp), .int (nI cc), .ref Ma, .ref Mas, .ref Msn, .ref Mac, .ref Mat]))] H := ⟨hP2, hD2⟩
          have hS := hS2; clear hP2 hD2 hS2; have hP := hPD.1; have hD := hPD.2; clear hPD
          refine W.widen (k := 0) (n := 0) (Nat.le_of_ble_eq_true rfl) (Nat.le_of_ble_eq_true rfl) ?_
          refine lv_if_ne (tgt := 50) hx hb dX7_most_45 (by decide) (fun cb_74 => ?_) (fun cb_74 => ?_)
          · skip
            have hq_75 : 0 ≤ zk ∧ zk ≤ 200 := b01_1.mp cb_74
            have hPq_79 := hP; have hDq_79 := hD; have hSq_79 := hS; have hlq_79 := hl; clear hP hD hS hl
            obtain ⟨j_76, hl_77, hu_78, rfl⟩ := rg (L := 0) (U := 200) rfl rfl (show 0 < 2 ^ 31 by omega) (show 200 < 2 ^ 31 by omega) hq_75
            have hP := hPq_79; have hD := hDq_79; have hS := hSq_79; have hl := hlq_79; clear hPq_79 hDq_79 hSq_79 hlq_79
            refine lv_aload_n hx hb dX7_most_50 rfl (lv_at hl 0 rfl) ?_
            refine ky_Vv (As := []) (rest := []) ⟨hx, hb, hml, hown, hts⟩ ⟨hK, hN⟩ hZ hP hD hS hA [5, 0, 4] [1, 2, 3] (wc := [(Mm, .inr (7, [.int 0, .ref Mt, .int (nI tp), .int zma, .int zwr, .ref Mrr, .ref Mrh, .ref Mrc, .int zrh, .int zrc, .ref Mn, .ref Mf, .ref Mr, .ref Mh, .int (nI hp), .int (nI cc), .ref Ma, .ref Mas, .ref Msn, .ref Mac, .ref Mat])), (Mn, .inl (g 0, 1767, .inl fno)), (Mas, .inl (g 0, 1767, .inl fas))]) (wr := [(Mh, .inl (g 0, 9, .inl fmh)), (Mr, .inl (g 0, 3, .inl fmr)), (Ma, .inl (g 0, 3, .inl fma))]) rfl rfl rfl rfl (by decide) (k_X7_putAside l D g H.size Mm 0 Mt tp zma zwr Mrr Mrh Mrc zrh zrc Mn Mf Mr Mh hp cc Ma Mas Msn Mac Mat fno fas tb ub (h2)) (cwV 0 hts gX7_most_X7_putAside rfl rfl rfl (by decide +kernel) ⟨(Nat.le_of_ble_eq_true rfl), (Nat.le_of_ble_eq_true rfl)⟩) 5 7 rfl rfl rfl rfl hl.1 rfl (Nat.le_of_ble_eq_true rfl) dX7_most_51 ⟨(Nat.le_of_ble_eq_true rfl), (Nat.le_of_ble_eq_true rfl)⟩ (fun u H locs hw hP2 hD2 hS2 => ?_)
            clear hP hD hS
            obtain ⟨fasx_81, rfl, hf_82⟩ := hw
            have hPD : PD D A [(Mh, .inl (g 0, 9, .inl fmh)), (Mr, .inl (g 0, 3, .inl fmr)), (Ma, .inl (g 0, 3, .inl fma)), (Mm, .inr (7, [.int 0, .ref Mt, .int (nI tp), .int zma, .int zwr, .ref Mrr, .ref Mrh, .ref Mrc, .int zrh, .int zrc, .ref Mn, .ref Mf, .ref Mr, .ref Mh, .int (nI hp), .int (nI cc), .ref Ma, .ref Mas, .ref Msn, .ref Mac, .ref Mat])), (Mn, .inl (g 0, 1767, .inl fno)), (Mas, .inl (g 0, 1767, .inl fasx_81))] H := ⟨hP2, hD2⟩
            have hS := hS2; clear hP2 hD2 hS2; have hP := hPD.1; have hD := hPD.2; clear hPD
            refine W.widen (k := 0) (n := 0) (Nat.le_of_ble_eq_true rfl) (Nat.le_of_ble_eq_true rfl) ?_
            refine lv_aload_n hx hb dX7_most_54 rfl (lv_at hl 0 rfl) ?_
            refine lv_iload_n hx hb dX7_most_55 rfl (lv_at hl 1 rfl) ?_
            refine lv_iload_n hx hb dX7_most_56 rfl (lv_at hl 2 rfl) ?_
            refine lv_iload_n hx hb dX7_most_57 rfl (lv_at hl 3 rfl) ?_
            refine ky_Vi (As := [.int (nI j_5), .int (nI j_13), .int (nI 1)]) (rest := []) ⟨hx, hb, hml, hown, hts⟩ ⟨hK, hN⟩ hZ hP hD hS hA [3, 4] [0, 1, 2, 5] (wc := [(Mm, .inr (7, [.int 0, .ref Mt, .int (nI tp), .int zma, .int zwr, .ref Mrr, .ref Mrh, .ref Mrc, .int zrh, .int zrc, .ref Mn, .ref Mf, .ref Mr, .ref Mh, .int (nI hp), .int (nI cc), .ref Ma, .ref Mas, .ref Msn, .ref Mac, .ref Mat])), (Mn, .inl (g 0, 1767, .inl fno))]) (wr := [(Mh, .inl (g 0, 9, .inl fmh)), (Mr, .inl (g 0, 3, .inl fmr)), (Ma, .inl (g 0, 3, .inl fma)), (Mas, .inl (g 0, 1767, .inl fasx_81))]) rfl rfl rfl rfl (by decide) (k_X7_there_1 l D g H.size Mm j_5 (nI j_13) 0 Mt tp zma zwr Mrr Mrh Mrc zrh zrc Mn Mf Mr Mh hp cc Ma Mas Msn Mac Mat fno (show 1 ≤ cc by omega) (show cc ≤ 3 by omega) (show j_5 ≤ 3 by omega)) (cwV 3 hts gX7_most_X7_there rfl rfl rfl (by decide +kernel) ⟨(Nat.le_of_ble_eq_true rfl), (Nat.le_of_ble_eq_true rfl)⟩) 3 7 rfl rfl rfl rfl hl.1 rfl (Nat.le_of_ble_eq_true rfl) dX7_most_58 ⟨(Nat.le_of_ble_eq_true rfl), (Nat.le_of_ble_eq_true rfl)⟩ (fun r_83 u H locs hw hP2 hD2 hS2 => ?_)
            clear hP hD hS
            obtain rfl := hw
            have hPD : PD D A [(Mh, .inl (g 0, 9, .inl fmh)), (Mr, .inl (g 0, 3, .inl fmr)), (Ma, .inl (g 0, 3, .inl fma)), (Mas, .inl (g 0, 1767, .inl fasx_81)), (Mm, .inr (7, [.int 0, .ref Mt, .int (nI tp), .int zma, .int zwr, .ref Mrr, .ref Mrh, .ref Mrc, .int zrh, .int zrc, .ref Mn, .ref Mf, .ref Mr, .ref Mh, .int (nI hp), .int (nI cc), .ref Ma, .ref Mas, .ref Msn, .ref Mac, .ref Mat])), (Mn, .inl (g 0, 1767, .inl fno))] H := ⟨hP2, hD2⟩
            have hS := hS2; clear hP2 hD2 hS2; have hP := hPD.1; have hD := hPD.2; clear hPD
            refine W.widen (k := 0) (n := 0) (Nat.le_of_ble_eq_true rfl) (Nat.le_of_ble_eq_true rfl) ?_
            refine lv_istore (lv' := [(5, .int r_83), (0, .ref Mm), (1, .int (nI j_5)), (2, .int (nI j_13)), (3, .int (nI 1)), (4, .int (nI j_76))]) hx hb dX7_most_61 hl (by decide) rfl (fun ls hl => ?_)
            refine lv_iconst (v := 0) hx hb dX7_most_63 (by decide) ?_
            refine lv_istore (lv' := [(6, .int 0), (5, .int r_83), (0, .ref Mm), (1, .int (nI j_5)), (2, .int (nI j_13)), (3, .int (nI 1)), (4, .int (nI j_76))]) hx hb dX7_most_64 hl (by decide) rfl (fun ls hl => ?_)
            have loop_106 : ∀ (Nloop_106 : Nat) (i_93 : Nat) (i_94 : Int32) (F_95 : Nat → Int32) (F_96 : Nat → Int32) (hF_96 : mOK gs (tb + i_93) (ub + 6 * i_93) F_96) (hbi_93 : i_93 ≤ j_76) (hmloop_106 : j_76 - i_93 < Nloop_106) (H : Heap) (locs : List Loc) (ls : Array Slot), va_P D vwCl [(Mh, .inl (g 0, 9, .inl fmh)), (Mr, .inl (g 0, 3, .inl fmr)), (Ma, .inl (g 0, 3, .inl F_95)), (Mas, .inl (g 0, 1767, .inl fasx_81)), (Mm, .inr (7, [.int 0, .ref Mt, .int (nI tp), .int zma, .int zwr, .ref Mrr, .ref Mrh, .ref Mrc, .int zrh, .int zrc, .ref Mn, .ref Mf, .ref Mr, .ref Mh, .int (nI hp), .int (nI cc), .ref Ma, .ref Mas, .ref Msn, .ref Mac, .ref Mat])), (Mn, .inl (g 0, 1767, .inl F_96))] H → va_D A [(Mh, .inl (g 0, 9, .inl fmh)), (Mr, .inl (g 0, 3, .inl fmr)), (Ma, .inl (g 0, 3, .inl F_95)), (Mas, .inl (g 0, 1767, .inl fasx_81)), (Mm, .inr (7, [.int 0, .ref Mt, .int (nI tp), .int zma, .int zwr, .ref Mrr, .ref Mrh, .ref Mrc, .int zrh, .int zrc, .ref Mn, .ref Mf, .ref Mr, .ref Mh, .int (nI hp), .int (nI cc), .ref Ma, .ref Mas, .ref Msn, .ref Mac, .ref Mat])), (Mn, .inl (g 0, 1767, .inl F_96))] → va_S A s.heap H locs → lv_has ls 7 [(6, .int (nI i_93)), (5, .int i_94), (0, .ref Mm), (1, .int (nI j_5)), (2, .int (nI j_13)), (3, .int (nI 1)), (4, .int (nI j_76))] → W p l e (headSpec wsX7_most ({ frames := 6, cells := 0, slots := 0, locals := 133 })).room s m ([.ref Mm, .int (nI j_5), .int (nI j_13), .int (nI 1), .int (nI j_76)] : List Value).toArray below meth c H locs 0 0 Q (F0 m 66 ls []) := by
              clear hP hD hS hl
              intro Nloop_106
              induction Nloop_106 with
              | zero => intro i_93 i_94 F_95 F_96 hF_96 hbi_93 hm9; exact absurd hm9 (Nat.not_lt_zero _)
              | succ Nloop_106 loop_106_ih =>
                intro i_93 i_94 F_95 F_96 hF_96 hbi_93 hmloop_106 H locs ls hP hD hS hl
                refine lv_iload hx hb dX7_most_66 (lv_at hl 0 rfl) ?_
                refine lv_iload hx hb dX7_most_68 (lv_at hl 6 rfl) ?_
                refine lv_icmp_ge (tgt := 97) hx hb dX7_most_70 (by decide) (fun cb_107 => ?_) (fun cb_107 => ?_)
                · skip
                  have cn_108 : j_76 ≤ i_93 := (nI_leI (show j_76 < 2 ^ 31 by omega) (show i_93 < 2 ^ 31 by omega)).mp cb_107
                  refine lv_aload_n hx hb dX7_most_97 rfl (lv_at hl 2 rfl) ?_
                  refine ky_Vv (As := []) (rest := []) ⟨hx, hb, hml, hown, hts⟩ ⟨hK, hN⟩ hZ hP hD hS hA [4, 5, 3] [0, 1, 2] (wc := [(Mm, .inr (7, [.int 0, .ref Mt, .int (nI tp), .int zma, .int zwr, .ref Mrr, .ref Mrh, .ref Mrc, .int zrh, .int zrc, .ref Mn, .ref Mf, .ref Mr, .ref Mh, .int (nI hp), .int (nI cc), .ref Ma, .ref Mas, .ref Msn, .ref Mac, .ref Mat])), (Mn, .inl (g 0, 1767, .inl F_96)), (Mas, .inl (g 0, 1767, .inl fasx_81))]) (wr := [(Mh, .inl (g 0, 9, .inl fmh)), (Mr, .inl (g 0, 3, .inl fmr)), (Ma, .inl (g 0, 3, .inl F_95))]) rfl rfl rfl rfl (by decide) (k_X7_bringBack l D g H.size Mm 0 Mt tp zma zwr Mrr Mrh Mrc zrh zrc Mn Mf Mr Mh hp cc Ma Mas Msn Mac Mat F_96 fasx_81 tb ub (hf_82)) (cwV 0 hts gX7_most_X7_bringBack rfl rfl rfl (by decide +kernel) ⟨(Nat.le_of_ble_eq_true rfl), (Nat.le_of_ble_eq_true rfl)⟩) 4 7 rfl rfl rfl rfl hl.1 rfl (Nat.le_of_ble_eq_true rfl) dX7_most_98 ⟨(Nat.le_of_ble_eq_true rfl), (Nat.le_of_ble_eq_true rfl)⟩ (fun u H locs hw hP2 hD2 hS2 => ?_)
                  clear hP hD hS
                  obtain ⟨fnox_110, rfl, hf_111⟩ := hw
                  have hPD : PD D A [(Mh, .inl (g 0, 9, .inl fmh)), (Mr, .inl (g 0, 3, .inl fmr)), (Ma, .inl (g 0, 3, .inl F_95)), (Mm, .inr (7, [.int 0, .ref Mt, .int (nI tp), .int zma, .int zwr, .ref Mrr, .ref Mrh, .ref Mrc, .int zrh, .int zrc, .ref Mn, .ref Mf, .ref Mr, .ref Mh, .int (nI hp), .int (nI cc), .ref Ma, .ref Mas, .ref Msn, .ref Mac, .ref Mat])), (Mn, .inl (g 0, 1767, .inl fnox_110)), (Mas, .inl (g 0, 1767, .inl fasx_81))] H := ⟨hP2, hD2⟩
                  have hS := hS2; clear hP2 hD2 hS2; have hP := hPD.1; have hD := hPD.2; clear hPD
                  refine W.widen (k := 0) (n := 0) (Nat.le_of_ble_eq_true rfl) (Nat.le_of_ble_eq_true rfl) ?_
                  refine lv_iload hx hb dX7_most_101 (lv_at hl 1 rfl) ?_
                  have hPD9 : PD D A [(Mm, .inr (7, [.int 0, .ref Mt, .int (nI tp), .int zma, .int zwr, .ref Mrr, .ref Mrh, .ref Mrc, .int zrh, .int zrc, .ref Mn, .ref Mf, .ref Mr, .ref Mh, .int (nI hp), .int (nI cc), .ref Ma, .ref Mas, .ref Msn, .ref Mac, .ref Mat])), (Mn, .inl (g 0, 1767, .inl fnox_110)), (Mh, .inl (g 0, 9, .inl fmh)), (Mr, .inl (g 0, 3, .inl fmr)), (Ma, .inl (g 0, 3, .inl F_95)), (Mas, .inl (g 0, 1767, .inl fasx_81))] H := ⟨hP.sub [3, 4, 0, 1, 2, 5] rfl, hD.sub [3, 4, 0, 1, 2, 5] (by decide) rfl⟩
                  have hP9 := hPD9.1; have hD9 := hPD9.2
                  subst hQ
                  refine W.widen (k := 0) (n := 0) (Nat.le_of_ble_eq_true rfl) (Nat.le_of_ble_eq_true rfl) ?_
                  exact W.iret (v := i_94) hx hb hr (fun tS htS _ => ⟨⟨_, _, rfl, ⟨0, fnox_110, F_95, fasx_81, rfl, (hf_111)⟩, by rw [htS]; exact hP9, hD9⟩, hS.F htS⟩) hS.2.2 dX7_most_103
                · skip
                  have cn_112 : i_93 < j_76 := Nat.lt_of_not_le (fun q9 => cb_107 ((nI_leI (show j_76 < 2 ^ 31 by omega) (show i_93 < 2 ^ 31 by omega)).mpr q9))
                  refine lv_aload_n hx hb dX7_most_73 rfl (lv_at hl 2 rfl) ?_
                  refine ky_Vv (As := []) (rest := []) ⟨hx, hb, hml, hown, hts⟩ ⟨hK, hN⟩ hZ hP hD hS hA [4, 5, 0, 1, 2] [3] (wc := [(Mm, .inr (7, [.int 0, .ref Mt, .int (nI tp), .int zma, .int zwr, .ref Mrr, .ref Mrh, .ref Mrc, .int zrh, .int zrc, .ref Mn, .ref Mf, .ref Mr, .ref Mh, .int (nI hp), .int (nI cc), .ref Ma, .ref Mas, .ref Msn, .ref Mac, .ref Mat])), (Mn, .inl (g 0, 1767, .inl F_96)), (Mh, .inl (g 0, 9, .inl fmh)), (Mr, .inl (g 0, 3, .inl fmr)), (Ma, .inl (g 0, 3, .inl F_95))]) (wr := [(Mas, .inl (g 0, 1767, .inl fasx_81))]) rfl rfl rfl rfl (by decide) (k_X7_ticks l D g H.size Mm 0 Mt tp zma zwr Mrr Mrh Mrc zrh zrc Mn Mf Mr Mh hp cc Ma Mas Msn Mac Mat F_96 fmh fmr F_95 (tb + i_93) (ub + 6 * i_93) (show tb + i_93 < 2 ^ 28 by omega) (show ub + 6 * i_93 < 2 ^ 28 by omega) (hF_96) (show 1 ≤ hp by omega) (show hp ≤ 3 by omega) (show 1 ≤ cc by omega) (show cc ≤ 3 by omega) (h7)) (cwV 0 hts gX7_most_X7_ticks rfl rfl rfl (by decide +kernel) ⟨(Nat.le_of_ble_eq_true rfl), (Nat.le_of_ble_eq_true rfl)⟩) 4 7 rfl rfl rfl rfl hl.1 rfl (Nat.le_of_ble_eq_true rfl) dX7_most_74 ⟨(Nat.le_of_ble_eq_true rfl), (Nat.le_of_ble_eq_true rfl)⟩ (fun u H locs hw hP2 hD2 hS2 => ?_)
                  clear hP hD hS
                  obtain ⟨fnox_114, fmax_115, rfl, hf_116⟩ := hw
                  have hPD : PD D A [(Mas, .inl (g 0, 1767, .inl fasx_81)), (Mm, .inr (7, [.int 0, .ref Mt, .int (nI tp), .int zma, .int zwr, .ref Mrr, .ref Mrh, .ref Mrc, .int zrh, .int zrc, .ref Mn, .ref Mf, .ref Mr, .ref Mh, .int (nI hp), .int (nI cc), .ref Ma, .ref Mas, .ref Msn, .ref Mac, .ref Mat])), (Mn, .inl (g 0, 1767, .inl fnox_114)), (Mh, .inl (g 0, 9, .inl fmh)), (Mr, .inl (g 0, 3, .inl fmr)), (Ma, .inl (g 0, 3, .inl fmax_115))] H := ⟨hP2, hD2⟩
                  have hS := hS2; clear hP2 hD2 hS2; have hP := hPD.1; have hD := hPD.2; clear hPD
                  refine W.widen (k := 0) (n := 0) (Nat.le_of_ble_eq_true rfl) (Nat.le_of_ble_eq_true rfl) ?_
                  refine lv_iload hx hb dX7_most_77 (lv_at hl 1 rfl) ?_
                  refine lv_aload_n hx hb dX7_most_79 rfl (lv_at hl 2 rfl) ?_
                  refine lv_iload_n hx hb dX7_most_80 rfl (lv_at hl 3 rfl) ?_
                  refine lv_iload_n hx hb dX7_most_81 rfl (lv_at hl 4 rfl) ?_
                  refine lv_iload_n hx hb dX7_most_82 rfl (lv_at hl 5 rfl) ?_
                  refine ky_Vi (As := [.int (nI j_5), .int (nI j_13), .int (nI 1)]) (rest := [.int i_94]) ⟨hx, hb, hml, hown, hts⟩ ⟨hK, hN⟩ hZ hP hD hS hA [1, 2] [0, 3, 4, 5] (wc := [(Mm, .inr (7, [.int 0, .ref Mt, .int (nI tp), .int zma, .int zwr, .ref Mrr, .ref Mrh, .ref Mrc, .int zrh, .int zrc, .ref Mn, .ref Mf, .ref Mr, .ref Mh, .int (nI hp), .int (nI cc), .ref Ma, .ref Mas, .ref Msn, .ref Mac, .ref Mat])), (Mn, .inl (g 0, 1767, .inl fnox_114))]) (wr := [(Mas, .inl (g 0, 1767, .inl fasx_81)), (Mh, .inl (g 0, 9, .inl fmh)), (Mr, .inl (g 0, 3, .inl fmr)), (Ma, .inl (g 0, 3, .inl fmax_115))]) rfl rfl rfl rfl (by decide) (k_X7_there_1 l D g H.size Mm j_5 (nI j_13) 0 Mt tp zma zwr Mrr Mrh Mrc zrh zrc Mn Mf Mr Mh hp cc Ma Mas Msn Mac Mat fnox_114 (show 1 ≤ cc by omega) (show cc ≤ 3 by omega) (show j_5 ≤ 3 by omega)) (cwV 3 hts gX7_most_X7_there rfl rfl rfl (by decide +kernel) ⟨(Nat.le_of_ble_eq_true rfl), (Nat.le_of_ble_eq_true rfl)⟩) 1 7 rfl rfl rfl rfl hl.1 rfl (Nat.le_of_ble_eq_true rfl) dX7_most_83 ⟨(Nat.le_of_ble_eq_true rfl), (Nat.le_of_ble_eq_true rfl)⟩ (fun r_117 u H locs hw hP2 hD2 hS2 => ?_)
                  clear hP hD hS
                  obtain rfl := hw
                  have hPD : PD D A [(Mas, .inl (g 0, 1767, .inl fasx_81)), (Mh, .inl (g 0, 9, .inl fmh)), (Mr, .inl (g 0, 3, .inl fmr)), (Ma, .inl (g 0, 3, .inl fmax_115)), (Mm, .inr (7, [.int 0, .ref Mt, .int (nI tp), .int zma, .int zwr, .ref Mrr, .ref Mrh, .ref Mrc, .int zrh, .int zrc, .ref Mn, .ref Mf, .ref Mr, .ref Mh, .int (nI hp), .int (nI cc), .ref Ma, .ref Mas, .ref Msn, .ref Mac, .ref Mat])), (Mn, .inl (g 0, 1767, .inl fnox_114))] H := ⟨hP2, hD2⟩
                  have hS := hS2; clear hP2 hD2 hS2; have hP := hPD.1; have hD := hPD.2; clear hPD
                  refine W.widen (k := 0) (n := 0) (Nat.le_of_ble_eq_true rfl) (Nat.le_of_ble_eq_true rfl) ?_
                  refine va_mmax hx hb (hml.trans hl.1.symm) hown mmmax mtmax mi mcmax (Nat.le_of_ble_eq_true rfl) (Nat.le_of_ble_eq_true rfl) (Nat.le_of_ble_eq_true rfl) (Nat.le_of_ble_eq_true rfl) dX7_most_86 ?_
                  refine lv_topi (fun y_118 _ => ?_)
                  refine lv_istore (lv' := [(5, .int y_118), (6, .int (nI i_93)), (0, .ref Mm), (1, .int (nI j_5)), (2, .int (nI j_13)), (3, .int (nI 1)), (4, .int (nI j_76))]) hx hb dX7_most_89 hl (by decide) rfl (fun ls hl => ?_)
                  refine lv_iinc (v := (nI (i_93 + 1))) (lv' := [(6, .int (nI (i_93 + 1))), (5, .int y_118), (0, .ref Mm), (1, .int (nI j_5)), (2, .int (nI j_13)), (3, .int (nI 1)), (4, .int (nI j_76))]) hx hb dX7_most_91 hl (k := 1) rfl (nI_1 (i_93)) (by decide) rfl (fun ls hl => ?_)
                  refine lv_goto (tgt := 66) hx hb dX7_most_94 (by decide) ?_
                  exact loop_106_ih (i_93 + 1) y_118 fmax_115 fnox_114 (mOK_le hf_116 (show tb + i_93 + 1 = tb + (i_93 + 1) by omega) (show ub + 6 * i_93 + 6 ≤ ub + 6 * (i_93 + 1) by omega)) (show (i_93 + 1) ≤ j_76 by omega) (show j_76 - (i_93 + 1) < Nloop_106 by omega) _ _ _ (hP.sub [1, 2, 3, 0, 4, 5] rfl) (hD.sub [1, 2, 3, 0, 4, 5] (by decide) rfl) hS hl
            exact loop_106 _ 0 r_83 fma fno (mOK_le h2 (show tb = tb + 0 by omega) (show ub ≤ ub + 6 * 0 by omega)) (show 0 ≤ j_76 by omega) (Nat.lt_succ_self _) _ _ _ hP hD hS hl
          · skip
            have hq_119 : ¬ (0 ≤ zk ∧ zk ≤ 200) := b01_0.mp cb_74
            refine lv_iconst (v := (-1)) hx hb dX7_most_48 (by decide) ?_
            have hPD9 : PD D A [(Mm, .inr (7, [.int 0, .ref Mt, .int (nI tp), .int zma, .int zwr, .ref Mrr, .ref Mrh, .ref Mrc, .int zrh, .int zrc, .ref Mn, .ref Mf, .ref Mr, .ref Mh, .int (nI hp), .int (nI cc), .ref Ma, .ref Mas, .ref Msn, .ref Mac, .ref Mat])), (Mn, .inl (g 0, 1767, .inl fno)), (Mh, .inl (g 0, 9, .inl fmh)), (Mr, .inl (g 0, 3, .inl fmr)), (Ma, .inl (g 0, 3, .inl fma)), (Mas, .inl (g 0, 1767, .inl fas))] H := ⟨hP.sub [5, 0, 1, 2, 3, 4] rfl, hD.sub [5, 0, 1, 2, 3, 4] (by decide) rfl⟩
            have hP9 := hPD9.1; have hD9 := hPD9.2
            subst hQ
            refine W.widen (k := 0) (n := 0) (Nat.le_of_ble_eq_true rfl) (Nat.le_of_ble_eq_true rfl) ?_
            exact W.iret (v := (-1)) hx hb hr (fun tS htS _ => ⟨⟨_, _, rfl, ⟨0, fno, fma, fas, rfl, (h2)⟩, by rw [htS]; exact hP9, hD9⟩, hS.F htS⟩) hS.2.2 dX7_most_49
        · skip
          have hP := hPq_25; have hD := hDq_25; have hS := hSq_25; have hl := hlq_25; clear hPq_25 hDq_25 hSq_25 hlq_25
          refine lv_iload_n hx hb dX7_most_30 rfl (lv_at hl 3 rfl) ?_
          refine lv_iconst (v := 1) hx hb dX7_most_31 (by decide) ?_
          refine lv_icmp_le (tgt := 39) hx hb dX7_most_32 (by decide) (fun cb => absurd cb (by decide)) (fun _ => ?_)
          refine lv_iload_n hx hb dX7_most_35 rfl (lv_at hl 1 rfl) ?_
          refine lv_if_eq (tgt := 48) hx hb dX7_most_36 (by decide) (fun cb_120 => ?_) (fun cb_120 => ?_)
          · skip
            have cn_121 : j_5 = 0 := (nI_eq (show j_5 < 2 ^ 31 by omega) (show 0 < 2 ^ 31 by omega)).mp cb_120
            refine lv_iconst (v := (-1)) hx hb dX7_most_48 (by decide) ?_
            have hPD9 : PD D A [(Mm, .inr (7, [.int 0, .ref Mt, .int (nI tp), .int zma, .int zwr, .ref Mrr, .ref Mrh, .ref Mrc, .int zrh, .int zrc, .ref Mn, .ref Mf, .ref Mr, .ref Mh, .int (nI hp), .int (nI cc), .ref Ma, .ref Mas, .ref Msn, .ref Mac, .ref Mat])), (Mn, .inl (g 0, 1767, .inl fno)), (Mh, .inl (g 0, 9, .inl fmh)), (Mr, .inl (g 0, 3, .inl fmr)), (Ma, .inl (g 0, 3, .inl fma)), (Mas, .inl (g 0, 1767, .inl fas))] H := ⟨hP.sub [5, 0, 1, 2, 3, 4] rfl, hD.sub [5, 0, 1, 2, 3, 4] (by decide) rfl⟩
            have hP9 := hPD9.1; have hD9 := hPD9.2
            subst hQ
            refine W.widen (k := 0) (n := 0) (Nat.le_of_ble_eq_true rfl) (Nat.le_of_ble_eq_true rfl) ?_
            exact W.iret (v := (-1)) hx hb hr (fun tS htS _ => ⟨⟨_, _, rfl, ⟨0, fno, fma, fas, rfl, (h2)⟩, by rw [htS]; exact hP9, hD9⟩, hS.F htS⟩) hS.2.2 dX7_most_49
          · skip
            have cn_122 : ¬ j_5 = 0 := fun q9 => cb_120 (congrArg nI q9)
            refine lv_iload hx hb dX7_most_39 (lv_at hl 4 rfl) ?_
            refine lv_iconst (v := 0) hx hb dX7_most_41 (by decide) ?_
            refine ky_Si (As := [.int zk, .int 0]) (rest := []) ⟨hx, hb, hml, hown, hts⟩ ⟨hK, hN⟩ hZ hP hD hS hA [] [0, 1, 2, 3, 4, 5] (wc := []) (wr := [(Mn, .inl (g 0, 1767, .inl fno)), (Mh, .inl (g 0, 9, .inl fmh)), (Mr, .inl (g 0, 3, .inl fmr)), (Ma, .inl (g 0, 3, .inl fma)), (Mas, .inl (g 0, 1767, .inl fas)), (Mm, .inr (7, [.int 0, .ref Mt, .int (nI tp), .int zma, .int zwr, .ref Mrr, .ref Mrh, .ref Mrc, .int zrh, .int zrc, .ref Mn, .ref Mf, .ref Mr, .ref Mh, .int (nI hp), .int (nI cc), .ref Ma, .ref Mas, .ref Msn, .ref Mac, .ref Mat]))]) rfl rfl rfl rfl (by decide) (k_X7_isSpan l D g H.size zk 0) (va_cwS 2 hts gX7_most_X7_isSpan rfl rfl rfl (by decide +kernel) ⟨(Nat.le_of_ble_eq_true rfl), (Nat.le_of_ble_eq_true rfl)⟩) rfl hl.1 rfl (Nat.le_of_ble_eq_true rfl) dX7_most_42 ⟨(Nat.le_of_ble_eq_true rfl), (Nat.le_of_ble_eq_true rfl)⟩ (fun r_123 u H locs hw hP2 hD2 hS2 => ?_)
            clear hP hD hS
            obtain ⟨rfl, rfl⟩ := hw
            have hPD : PD D A [(Mn, .inl (g 0, 1767, .inl fno)), (Mh, .inl (g 0, 9, .inl fmh)), (Mr, .inl (g 0, 3, .inl fmr)), (Ma, .inl (g 0, 3, .inl fma)), (Mas, .inl (g 0, 1767, .inl fas)), (Mm, .inr (7, [.int 0, .ref Mt, .int (nI tp), .int zma, .int zwr, .ref Mrr, .ref Mrh, .ref Mrc, .int zrh, .int zrc, .ref Mn, .ref Mf, .ref Mr, .ref Mh, .int (nI hp), .int (nI cc), .ref Ma, .ref Mas, .ref Msn, .ref Mac, .ref Mat]))] H := ⟨hP2, hD2⟩
            have hS := hS2; clear hP2 hD2 hS2; have hP := hPD.1; have hD := hPD.2; clear hPD
            refine W.widen (k := 0) (n := 0) (Nat.le_of_ble_eq_true rfl) (Nat.le_of_ble_eq_true rfl) ?_
            refine lv_if_ne (tgt := 50) hx hb dX7_most_45 (by decide) (fun cb_124 => ?_) (fun cb_124 => ?_)
            · skip
              have hq_125 : 0 ≤ zk ∧ zk ≤ 200 := b01_1.mp cb_124
              have hPq_129 := hP; have hDq_129 := hD; have hSq_129 := hS; have hlq_129 := hl; clear hP hD hS hl
              obtain ⟨j_126, hl_127, hu_128, rfl⟩ := rg (L := 0) (U := 200) rfl rfl (show 0 < 2 ^ 31 by omega) (show 200 < 2 ^ 31 by omega) hq_125
              have hP := hPq_129; have hD := hDq_129; have hS := hSq_129; have hl := hlq_129; clear hPq_129 hDq_129 hSq_129 hlq_129
              refine lv_aload_n hx hb dX7_most_50 rfl (lv_at hl 0 rfl) ?_
              refine ky_Vv (As := []) (rest := []) ⟨hx, hb, hml, hown, hts⟩ ⟨hK, hN⟩ hZ hP hD hS hA [5, 0, 4] [1, 2, 3] (wc := [(Mm, .inr (7, [.int 0, .ref Mt, .int (nI tp), .int zma, .int zwr, .ref Mrr, .ref Mrh, .ref Mrc, .int zrh, .int zrc, .ref Mn, .ref Mf, .ref Mr, .ref Mh, .int (nI hp), .int (nI cc), .ref Ma, .ref Mas, .ref Msn, .ref Mac, .ref Mat])), (Mn, .inl (g 0, 1767, .inl fno)), (Mas, .inl (g 0, 1767, .inl fas))]) (wr := [(Mh, .inl (g 0, 9, .inl fmh)), (Mr, .inl (g 0, 3, .inl fmr)), (Ma, .inl (g 0, 3, .inl fma))]) rfl rfl rfl rfl (by decide) (k_X7_putAside l D g H.size Mm 0 Mt tp zma zwr Mrr Mrh Mrc zrh zrc Mn Mf Mr Mh hp cc Ma Mas Msn Mac Mat fno fas tb ub (h2)) (cwV 0 hts gX7_most_X7_putAside rfl rfl rfl (by decide +kernel) ⟨(Nat.le_of_ble_eq_true rfl), (Nat.le_of_ble_eq_true rfl)⟩) 5 7 rfl rfl rfl rfl hl.1 rfl (Nat.le_of_ble_eq_true rfl) dX7_most_51 ⟨(Nat.le_of_ble_eq_true rfl), (Nat.le_of_ble_eq_true rfl)⟩ (fun u H locs hw hP2 hD2 hS2 => ?_)
              clear hP hD hS
              obtain ⟨fasx_131, rfl, hf_132⟩ := hw
              have hPD : PD D A [(Mh, .inl (g 0, 9, .inl fmh)), (Mr, .inl (g 0, 3, .inl fmr)), (Ma, .inl (g 0, 3, .inl fma)), (Mm, .inr (7, [.int 0, .ref Mt, .int (nI tp), .int zma, .int zwr, .ref Mrr, .ref Mrh, .ref Mrc, .int zrh, .int zrc, .ref Mn, .ref Mf, .ref Mr, .ref Mh, .int (nI hp), .int (nI cc), .ref Ma, .ref Mas, .ref Msn, .ref Mac, .ref Mat])), (Mn, .inl (g 0, 1767, .inl fno)), (Mas, .inl (g 0, 1767, .inl fasx_131))] H := ⟨hP2, hD2⟩
              have hS := hS2; clear hP2 hD2 hS2; have hP := hPD.1; have hD := hPD.2; clear hPD
              refine W.widen (k := 0) (n := 0) (Nat.le_of_ble_eq_true rfl) (Nat.le_of_ble_eq_true rfl) ?_
              refine lv_aload_n hx hb dX7_most_54 rfl (lv_at hl 0 rfl) ?_
              refine lv_iload_n hx hb dX7_most_55 rfl (lv_at hl 1 rfl) ?_
              refine lv_iload_n hx hb dX7_most_56 rfl (lv_at hl 2 rfl) ?_
              refine lv_iload_n hx hb dX7_most_57 rfl (lv_at hl 3 rfl) ?_
              refine ky_Vi (As := [.int (nI j_5), .int (nI j_13), .int (nI 2)]) (rest := []) ⟨hx, hb, hml, hown, hts⟩ ⟨hK, hN⟩ hZ hP hD hS hA [3, 4] [0, 1, 2, 5] (wc := [(Mm, .inr (7, [.int 0, .ref Mt, .int (nI tp), .int zma, .int zwr, .ref Mrr, .ref Mrh, .ref Mrc, .int zrh, .int zrc, .ref Mn, .ref Mf, .ref Mr, .ref Mh, .int (nI hp), .int (nI cc), .ref Ma, .ref Mas, .ref Msn, .ref Mac, .ref Mat])), (Mn, .inl (g 0, 1767, .inl fno))]) (wr := [(Mh, .inl (g 0, 9, .inl fmh)), (Mr, .inl (g 0, 3, .inl fmr)), (Ma, .inl (g 0, 3, .inl fma)), (Mas, .inl (g 0, 1767, .inl fasx_131))]) rfl rfl rfl rfl (by decide) (k_X7_there_2 l D g H.size Mm j_5 (nI j_13) 0 Mt tp zma zwr Mrr Mrh Mrc zrh zrc Mn Mf Mr Mh hp cc Ma Mas Msn Mac Mat fno (show 1 ≤ cc by omega) (show cc ≤ 3 by omega) (show j_5 ≤ 3 by omega) (show 1 ≤ j_5 by omega)) (cwV 3 hts gX7_most_X7_there rfl rfl rfl (by decide +kernel) ⟨(Nat.le_of_ble_eq_true rfl), (Nat.le_of_ble_eq_true rfl)⟩) 3 7 rfl rfl rfl rfl hl.1 rfl (Nat.le_of_ble_eq_true rfl) dX7_most_58 ⟨(Nat.le_of_ble_eq_true rfl), (Nat.le_of_ble_eq_true rfl)⟩ (fun r_133 u H locs hw hP2 hD2 hS2 => ?_)
              clear hP hD hS
              obtain rfl := hw
              have hPD : PD D A [(Mh, .inl (g 0, 9, .inl fmh)), (Mr, .inl (g 0, 3, .inl fmr)), (Ma, .inl (g 0, 3, .inl fma)), (Mas, .inl (g 0, 1767, .inl fasx_131)), (Mm, .inr (7, [.int 0, .ref Mt, .int (nI tp), .int zma, .int zwr, .ref Mrr, .ref Mrh, .ref Mrc, .int zrh, .int zrc, .ref Mn, .ref Mf, .ref Mr, .ref Mh, .int (nI hp), .int (nI cc), .ref Ma, .ref Mas, .ref Msn, .ref Mac, .ref Mat])), (Mn, .inl (g 0, 1767, .inl fno))] H := ⟨hP2, hD2⟩
              have hS := hS2; clear hP2 hD2 hS2; have hP := hPD.1; have hD := hPD.2; clear hPD
              refine W.widen (k := 0) (n := 0) (Nat.le_of_ble_eq_true rfl) (Nat.le_of_ble_eq_true rfl) ?_
              refine lv_istore (lv' := [(5, .int r_133), (0, .ref Mm), (1, .int (nI j_5)), (2, .int (nI j_13)), (3, .int (nI 2)), (4, .int (nI j_126))]) hx hb dX7_most_61 hl (by decide) rfl (fun ls hl => ?_)
              refine lv_iconst (v := 0) hx hb dX7_most_63 (by decide) ?_
              refine lv_istore (lv' := [(6, .int 0), (5, .int r_133), (0, .ref Mm), (1, .int (nI j_5)), (2, .int (nI j_13)), (3, .int (nI 2)), (4, .int (nI j_126))]) hx hb dX7_most_64 hl (by decide) rfl (fun ls hl => ?_)
              have loop_156 : ∀ (Nloop_156 : Nat) (i_143 : Nat) (i_144 : Int32) (F_145 : Nat → Int32) (F_146 : Nat → Int32) (hF_146 : mOK gs (tb + i_143) (ub + 6 * i_143) F_146) (hbi_143 : i_143 ≤ j_126) (hmloop_156 : j_126 - i_143 < Nloop_156) (H : Heap) (locs : List Loc) (ls : Array Slot), va_P D vwCl [(Mh, .inl (g 0, 9, .inl fmh)), (Mr, .inl (g 0, 3, .inl fmr)), (Ma, .inl (g 0, 3, .inl F_145)), (Mas, .inl (g 0, 1767, .inl fasx_131)), (Mm, .inr (7, [.int 0, .ref Mt, .int (nI tp), .int zma, .int zwr, .ref Mrr, .ref Mrh, .ref Mrc, .int zrh, .int zrc, .ref Mn, .ref Mf, .ref Mr, .ref Mh, .int (nI hp), .int (nI cc), .ref Ma, .ref Mas, .ref Msn, .ref Mac, .ref Mat])), (Mn, .inl (g 0, 1767, .inl F_146))] H → va_D A [(Mh, .inl (g 0, 9, .inl fmh)), (Mr, .inl (g 0, 3, .inl fmr)), (Ma, .inl (g 0, 3, .inl F_145)), (Mas, .inl (g 0, 1767, .inl fasx_131)), (Mm, .inr (7, [.int 0, .ref Mt, .int (nI tp), .int zma, .int zwr, .ref Mrr, .ref Mrh, .ref Mrc, .int zrh, .int zrc, .ref Mn, .ref Mf, .ref Mr, .ref Mh, .int (nI hp), .int (nI cc), .ref Ma, .ref Mas, .ref Msn, .ref Mac, .ref Mat])), (Mn, .inl (g 0, 1767, .inl F_146))] → va_S A s.heap H locs → lv_has ls 7 [(6, .int (nI i_143)), (5, .int i_144), (0, .ref Mm), (1, .int (nI j_5)), (2, .int (nI j_13)), (3, .int (nI 2)), (4, .int (nI j_126))] → W p l e (headSpec wsX7_most ({ frames := 6, cells := 0, slots := 0, locals := 133 })).room s m ([.ref Mm, .int (nI j_5), .int (nI j_13), .int (nI 2), .int (nI j_126)] : List Value).toArray below meth c H locs 0 0 Q (F0 m 66 ls []) := by
                clear hP hD hS hl
                intro Nloop_156
                induction Nloop_156 with
                | zero => intro i_143 i_144 F_145 F_146 hF_146 hbi_143 hm9; exact absurd hm9 (Nat.not_lt_zero _)
                | succ Nloop_156 loop_156_ih =>
                  intro i_143 i_144 F_145 F_146 hF_146 hbi_143 hmloop_156 H locs ls hP hD hS hl
                  refine lv_iload hx hb dX7_most_66 (lv_at hl 0 rfl) ?_
                  refine lv_iload hx hb dX7_most_68 (lv_at hl 6 rfl) ?_
                  refine lv_icmp_ge (tgt := 97) hx hb dX7_most_70 (by decide) (fun cb_157 => ?_) (fun cb_157 => ?_)
                  · skip
                    have cn_158 : j_126 ≤ i_143 := (nI_leI (show j_126 < 2 ^ 31 by omega) (show i_143 < 2 ^ 31 by omega)).mp cb_157
                    refine lv_aload_n hx hb dX7_most_97 rfl (lv_at hl 2 rfl) ?_
                    refine ky_Vv (As := []) (rest := []) ⟨hx, hb, hml, hown, hts⟩ ⟨hK, hN⟩ hZ hP hD hS hA [4, 5, 3] [0, 1, 2] (wc := [(Mm, .inr (7, [.int 0, .ref Mt, .int (nI tp), .int zma, .int zwr, .ref Mrr, .ref Mrh, .ref Mrc, .int zrh, .int zrc, .ref Mn, .ref Mf, .ref Mr, .ref Mh, .int (nI hp), .int (nI cc), .ref Ma, .ref Mas, .ref Msn, .ref Mac, .ref Mat])), (Mn, .inl (g 0, 1767, .inl F_146)), (Mas, .inl (g 0, 1767, .inl fasx_131))]) (wr := [(Mh, .inl (g 0, 9, .inl fmh)), (Mr, .inl (g 0, 3, .inl fmr)), (Ma, .inl (g 0, 3, .inl F_145))]) rfl rfl rfl rfl (by decide) (k_X7_bringBack l D g H.size Mm 0 Mt tp zma zwr Mrr Mrh Mrc zrh zrc Mn Mf Mr Mh hp cc Ma Mas Msn Mac Mat F_146 fasx_131 tb ub (hf_132)) (cwV 0 hts gX7_most_X7_bringBack rfl rfl rfl (by decide +kernel) ⟨(Nat.le_of_ble_eq_true rfl), (Nat.le_of_ble_eq_true rfl)⟩) 4 7 rfl rfl rfl rfl hl.1 rfl (Nat.le_of_ble_eq_true rfl) dX7_most_98 ⟨(Nat.le_of_ble_eq_true rfl), (Nat.le_of_ble_eq_true rfl)⟩ (fun u H locs hw hP2 hD2 hS2 => ?_)
                    clear hP hD hS
                    obtain ⟨fnox_160, rfl, hf_161⟩ := hw
                    have hPD : PD D A [(Mh, .inl (g 0, 9, .inl fmh)), (Mr, .inl (g 0, 3, .inl fmr)), (Ma, .inl (g 0, 3, .inl F_145)), (Mm, .inr (7, [.int 0, .ref Mt, .int (nI tp), .int zma, .int zwr, .ref Mrr, .ref Mrh, .ref Mrc, .int zrh, .int zrc, .ref Mn, .ref Mf, .ref Mr, .ref Mh, .int (nI hp), .int (nI cc), .ref Ma, .ref Mas, .ref Msn, .ref Mac, .ref Mat])), (Mn, .inl (g 0, 1767, .inl fnox_160)), (Mas, .inl (g 0, 1767, .inl fasx_131))] H := ⟨hP2, hD2⟩
                    have hS := hS2; clear hP2 hD2 hS2; have hP := hPD.1; have hD := hPD.2; clear hPD
                    refine W.widen (k := 0) (n := 0) (Nat.le_of_ble_eq_true rfl) (Nat.le_of_ble_eq_true rfl) ?_
                    refine lv_iload hx hb dX7_most_101 (lv_at hl 1 rfl) ?_
                    have hPD9 : PD D A [(Mm, .inr (7, [.int 0, .ref Mt, .int (nI tp), .int zma, .int zwr, .ref Mrr, .ref Mrh, .ref Mrc, .int zrh, .int zrc, .ref Mn, .ref Mf, .ref Mr, .ref Mh, .int (nI hp), .int (nI cc), .ref Ma, .ref Mas, .ref Msn, .ref Mac, .ref Mat])), (Mn, .inl (g 0, 1767, .inl fnox_160)), (Mh, .inl (g 0, 9, .inl fmh)), (Mr, .inl (g 0, 3, .inl fmr)), (Ma, .inl (g 0, 3, .inl F_145)), (Mas, .inl (g 0, 1767, .inl fasx_131))] H := ⟨hP.sub [3, 4, 0, 1, 2, 5] rfl, hD.sub [3, 4, 0, 1, 2, 5] (by decide) rfl⟩
                    have hP9 := hPD9.1; have hD9 := hPD9.2
                    subst hQ
                    refine W.widen (k := 0) (n := 0) (Nat.le_of_ble_eq_true rfl) (Nat.le_of_ble_eq_true rfl) ?_
                    exact W.iret (v := i_144) hx hb hr (fun tS htS _ => ⟨⟨_, _, rfl, ⟨0, fnox_160, F_145, fasx_131, rfl, (hf_161)⟩, by rw [htS]; exact hP9, hD9⟩, hS.F htS⟩) hS.2.2 dX7_most_103
                  · skip
                    have cn_162 : i_143 < j_126 := Nat.lt_of_not_le (fun q9 => cb_157 ((nI_leI (show j_126 < 2 ^ 31 by omega) (show i_143 < 2 ^ 31 by omega)).mpr q9))
                    refine lv_aload_n hx hb dX7_most_73 rfl (lv_at hl 2 rfl) ?_
                    refine ky_Vv (As := []) (rest := []) ⟨hx, hb, hml, hown, hts⟩ ⟨hK, hN⟩ hZ hP hD hS hA [4, 5, 0, 1, 2] [3] (wc := [(Mm, .inr (7, [.int 0, .ref Mt, .int (nI tp), .int zma, .int zwr, .ref Mrr, .ref Mrh, .ref Mrc, .int zrh, .int zrc, .ref Mn, .ref Mf, .ref Mr, .ref Mh, .int (nI hp), .int (nI cc), .ref Ma, .ref Mas, .ref Msn, .ref Mac, .ref Mat])), (Mn, .inl (g 0, 1767, .inl F_146)), (Mh, .inl (g 0, 9, .inl fmh)), (Mr, .inl (g 0, 3, .inl fmr)), (Ma, .inl (g 0, 3, .inl F_145))]) (wr := [(Mas, .inl (g 0, 1767, .inl fasx_131))]) rfl rfl rfl rfl (by decide) (k_X7_ticks l D g H.size Mm 0 Mt tp zma zwr Mrr Mrh Mrc zrh zrc Mn Mf Mr Mh hp cc Ma Mas Msn Mac Mat F_146 fmh fmr F_145 (tb + i_143) (ub + 6 * i_143) (show tb + i_143 < 2 ^ 28 by omega) (show ub + 6 * i_143 < 2 ^ 28 by omega) (hF_146) (show 1 ≤ hp by omega) (show hp ≤ 3 by omega) (show 1 ≤ cc by omega) (show cc ≤ 3 by omega) (h7)) (cwV 0 hts gX7_most_X7_ticks rfl rfl rfl (by decide +kernel) ⟨(Nat.le_of_ble_eq_true rfl), (Nat.le_of_ble_eq_true rfl)⟩) 4 7 rfl rfl rfl rfl hl.1 rfl (Nat.le_of_ble_eq_true rfl) dX7_most_74 ⟨(Nat.le_of_ble_eq_true rfl), (Nat.le_of_ble_eq_true rfl)⟩ (fun u H locs hw hP2 hD2 hS2 => ?_)
                    clear hP hD hS
                    obtain ⟨fnox_164, fmax_165, rfl, hf_166⟩ := hw
                    have hPD : PD D A [(Mas, .inl (g 0, 1767, .inl fasx_131)), (Mm, .inr (7, [.int 0, .ref Mt, .int (nI tp), .int zma, .int zwr, .ref Mrr, .ref Mrh, .ref Mrc, .int zrh, .int zrc, .ref Mn, .ref Mf, .ref Mr, .ref Mh, .int (nI hp), .int (nI cc), .ref Ma, .ref Mas, .ref Msn, .ref Mac, .ref Mat])), (Mn, .inl (g 0, 1767, .inl fnox_164)), (Mh, .inl (g 0, 9, .inl fmh)), (Mr, .inl (g 0, 3, .inl fmr)), (Ma, .inl (g 0, 3, .inl fmax_165))] H := ⟨hP2, hD2⟩
                    have hS := hS2; clear hP2 hD2 hS2; have hP := hPD.1; have hD := hPD.2; clear hPD
                    refine W.widen (k := 0) (n := 0) (Nat.le_of_ble_eq_true rfl) (Nat.le_of_ble_eq_true rfl) ?_
                    refine lv_iload hx hb dX7_most_77 (lv_at hl 1 rfl) ?_
                    refine lv_aload_n hx hb dX7_most_79 rfl (lv_at hl 2 rfl) ?_
                    refine lv_iload_n hx hb dX7_most_80 rfl (lv_at hl 3 rfl) ?_
                    refine lv_iload_n hx hb dX7_most_81 rfl (lv_at hl 4 rfl) ?_
                    refine lv_iload_n hx hb dX7_most_82 rfl (lv_at hl 5 rfl) ?_
                    refine ky_Vi (As := [.int (nI j_5), .int (nI j_13), .int (nI 2)]) (rest := [.int i_144]) ⟨hx, hb, hml, hown, hts⟩ ⟨hK, hN⟩ hZ hP hD hS hA [1, 2] [0, 3, 4, 5] (wc := [(Mm, .inr (7, [.int 0, .ref Mt, .int (nI tp), .int zma, .int zwr, .ref Mrr, .ref Mrh, .ref Mrc, .int zrh, .int zrc, .ref Mn, .ref Mf, .ref Mr, .ref Mh, .int (nI hp), .int (nI cc), .ref Ma, .ref Mas, .ref Msn, .ref Mac, .ref Mat])), (Mn, .inl (g 0, 1767, .inl fnox_164))]) (wr := [(Mas, .inl (g 0, 1767, .inl fasx_131)), (Mh, .inl (g 0, 9, .inl fmh)), (Mr, .inl (g 0, 3, .inl fmr)), (Ma, .inl (g 0, 3, .inl fmax_165))]) rfl rfl rfl rfl (by decide) (k_X7_there_2 l D g H.size Mm j_5 (nI j_13) 0 Mt tp zma zwr Mrr Mrh Mrc zrh zrc Mn Mf Mr Mh hp cc Ma Mas Msn Mac Mat fnox_164 (show 1 ≤ cc by omega) (show cc ≤ 3 by omega) (show j_5 ≤ 3 by omega) (show 1 ≤ j_5 by omega)) (cwV 3 hts gX7_most_X7_there rfl rfl rfl (by decide +kernel) ⟨(Nat.le_of_ble_eq_true rfl), (Nat.le_of_ble_eq_true rfl)⟩) 1 7 rfl rfl rfl rfl hl.1 rfl (Nat.le_of_ble_eq_true rfl) dX7_most_83 ⟨(Nat.le_of_ble_eq_true rfl), (Nat.le_of_ble_eq_true rfl)⟩ (fun r_167 u H locs hw hP2 hD2 hS2 => ?_)
                    clear hP hD hS
                    obtain rfl := hw
                    have hPD : PD D A [(Mas, .inl (g 0, 1767, .inl fasx_131)), (Mh, .inl (g 0, 9, .inl fmh)), (Mr, .inl (g 0, 3, .inl fmr)), (Ma, .inl (g 0, 3, .inl fmax_165)), (Mm, .inr (7, [.int 0, .ref Mt, .int (nI tp), .int zma, .int zwr, .ref Mrr, .ref Mrh, .ref Mrc, .int zrh, .int zrc, .ref Mn, .ref Mf, .ref Mr, .ref Mh, .int (nI hp), .int (nI cc), .ref Ma, .ref Mas, .ref Msn, .ref Mac, .ref Mat])), (Mn, .inl (g 0, 1767, .inl fnox_164))] H := ⟨hP2, hD2⟩
                    have hS := hS2; clear hP2 hD2 hS2; have hP := hPD.1; have hD := hPD.2; clear hPD
                    refine W.widen (k := 0) (n := 0) (Nat.le_of_ble_eq_true rfl) (Nat.le_of_ble_eq_true rfl) ?_
                    refine va_mmax hx hb (hml.trans hl.1.symm) hown mmmax mtmax mi mcmax (Nat.le_of_ble_eq_true rfl) (Nat.le_of_ble_eq_true rfl) (Nat.le_of_ble_eq_true rfl) (Nat.le_of_ble_eq_true rfl) dX7_most_86 ?_
                    refine lv_topi (fun y_168 _ => ?_)
                    refine lv_istore (lv' := [(5, .int y_168), (6, .int (nI i_143)), (0, .ref Mm), (1, .int (nI j_5)), (2, .int (nI j_13)), (3, .int (nI 2)), (4, .int (nI j_126))]) hx hb dX7_most_89 hl (by decide) rfl (fun ls hl => ?_)
                    refine lv_iinc (v := (nI (i_143 + 1))) (lv' := [(6, .int (nI (i_143 + 1))), (5, .int y_168), (0, .ref Mm), (1, .int (nI j_5)), (2, .int (nI j_13)), (3, .int (nI 2)), (4, .int (nI j_126))]) hx hb dX7_most_91 hl (k := 1) rfl (nI_1 (i_143)) (by decide) rfl (fun ls hl => ?_)
                    refine lv_goto (tgt := 66) hx hb dX7_most_94 (by decide) ?_
                    exact loop_156_ih (i_143 + 1) y_168 fmax_165 fnox_164 (mOK_le hf_166 (show tb + i_143 + 1 = tb + (i_143 + 1) by omega) (show ub + 6 * i_143 + 6 ≤ ub + 6 * (i_143 + 1) by omega)) (show (i_143 + 1) ≤ j_126 by omega) (show j_126 - (i_143 + 1) < Nloop_156 by omega) _ _ _ (hP.sub [1, 2, 3, 0, 4, 5] rfl) (hD.sub [1, 2, 3, 0, 4, 5] (by decide) rfl) hS hl
              exact loop_156 _ 0 r_133 fma fno (mOK_le h2 (show tb = tb + 0 by omega) (show ub ≤ ub + 6 * 0 by omega)) (show 0 ≤ j_126 by omega) (Nat.lt_succ_self _) _ _ _ hP hD hS hl
            · skip
              have hq_169 : ¬ (0 ≤ zk ∧ zk ≤ 200) := b01_0.mp cb_124
              refine lv_iconst (v := (-1)) hx hb dX7_most_48 (by decide) ?_
              have hPD9 : PD D A [(Mm, .inr (7, [.int 0, .ref Mt, .int (nI tp), .int zma, .int zwr, .ref Mrr, .ref Mrh, .ref Mrc, .int zrh, .int zrc, .ref Mn, .ref Mf, .ref Mr, .ref Mh, .int (nI hp), .int (nI cc), .ref Ma, .ref Mas, .ref Msn, .ref Mac, .ref Mat])), (Mn, .inl (g 0, 1767, .inl fno)), (Mh, .inl (g 0, 9, .inl fmh)), (Mr, .inl (g 0, 3, .inl fmr)), (Ma, .inl (g 0, 3, .inl fma)), (Mas, .inl (g 0, 1767, .inl fas))] H := ⟨hP.sub [5, 0, 1, 2, 3, 4] rfl, hD.sub [5, 0, 1, 2, 3, 4] (by decide) rfl⟩
              have hP9 := hPD9.1; have hD9 := hPD9.2
              subst hQ
              refine W.widen (k := 0) (n := 0) (Nat.le_of_ble_eq_true rfl) (Nat.le_of_ble_eq_true rfl) ?_
              exact W.iret (v := (-1)) hx hb hr (fun tS htS _ => ⟨⟨_, _, rfl, ⟨0, fno, fma, fas, rfl, (h2)⟩, by rw [htS]; exact hP9, hD9⟩, hS.F htS⟩) hS.2.2 dX7_most_49
        · skip
          have hP := hPq_25; have hD := hDq_25; have hS := hSq_25; have hl := hlq_25; clear hPq_25 hDq_25 hSq_25 hlq_25
          refine lv_iload_n hx hb dX7_most_30 rfl (lv_at hl 3 rfl) ?_
          refine lv_iconst (v := 1) hx hb dX7_most_31 (by decide) ?_
          refine lv_icmp_le (tgt := 39) hx hb dX7_most_32 (by decide) (fun cb => absurd cb (by decide)) (fun _ => ?_)
          refine lv_iload_n hx hb dX7_most_35 rfl (lv_at hl 1 rfl) ?_
          refine lv_if_eq (tgt := 48) hx hb dX7_most_36 (by decide) (fun cb_170 => ?_) (fun cb_170 => ?_)
          · skip
            have cn_171 : j_5 = 0 := (nI_eq (show j_5 < 2 ^ 31 by omega) (show 0 < 2 ^ 31 by omega)).mp cb_170
            refine lv_iconst (v := (-1)) hx hb dX7_most_48 (by decide) ?_
            have hPD9 : PD D A [(Mm, .inr (7, [.int 0, .ref Mt, .int (nI tp), .int zma, .int zwr, .ref Mrr, .ref Mrh, .ref Mrc, .int zrh, .int zrc, .ref Mn, .ref Mf, .ref Mr, .ref Mh, .int (nI hp), .int (nI cc), .ref Ma, .ref Mas, .ref Msn, .ref Mac, .ref Mat])), (Mn, .inl (g 0, 1767, .inl fno)), (Mh, .inl (g 0, 9, .inl fmh)), (Mr, .inl (g 0, 3, .inl fmr)), (Ma, .inl (g 0, 3, .inl fma)), (Mas, .inl (g 0, 1767, .inl fas))] H := ⟨hP.sub [5, 0, 1, 2, 3, 4] rfl, hD.sub [5, 0, 1, 2, 3, 4] (by decide) rfl⟩
            have hP9 := hPD9.1; have hD9 := hPD9.2
            subst hQ
            refine W.widen (k := 0) (n := 0) (Nat.le_of_ble_eq_true rfl) (Nat.le_of_ble_eq_true rfl) ?_
            exact W.iret (v := (-1)) hx hb hr (fun tS htS _ => ⟨⟨_, _, rfl, ⟨0, fno, fma, fas, rfl, (h2)⟩, by rw [htS]; exact hP9, hD9⟩, hS.F htS⟩) hS.2.2 dX7_most_49
          · skip
            have cn_172 : ¬ j_5 = 0 := fun q9 => cb_170 (congrArg nI q9)
            refine lv_iload hx hb dX7_most_39 (lv_at hl 4 rfl) ?_
            refine lv_iconst (v := 0) hx hb dX7_most_41 (by decide) ?_
            refine ky_Si (As := [.int zk, .int 0]) (rest := []) ⟨hx, hb, hml, hown, hts⟩ ⟨hK, hN⟩ hZ hP hD hS hA [] [0, 1, 2, 3, 4, 5] (wc := []) (wr := [(Mn, .inl (g 0, 1767, .inl fno)), (Mh, .inl (g 0, 9, .inl fmh)), (Mr, .inl (g 0, 3, .inl fmr)), (Ma, .inl (g 0, 3, .inl fma)), (Mas, .inl (g 0, 1767, .inl fas)), (Mm, .inr (7, [.int 0, .ref Mt, .int (nI tp), .int zma, .int zwr, .ref Mrr, .ref Mrh, .ref Mrc, .int zrh, .int zrc, .ref Mn, .ref Mf, .ref Mr, .ref Mh, .int (nI hp), .int (nI cc), .ref Ma, .ref Mas, .ref Msn, .ref Mac, .ref Mat]))]) rfl rfl rfl rfl (by decide) (k_X7_isSpan l D g H.size zk 0) (va_cwS 2 hts gX7_most_X7_isSpan rfl rfl rfl (by decide +kernel) ⟨(Nat.le_of_ble_eq_true rfl), (Nat.le_of_ble_eq_true rfl)⟩) rfl hl.1 rfl (Nat.le_of_ble_eq_true rfl) dX7_most_42 ⟨(Nat.le_of_ble_eq_true rfl), (Nat.le_of_ble_eq_true rfl)⟩ (fun r_173 u H locs hw hP2 hD2 hS2 => ?_)
            clear hP hD hS
            obtain ⟨rfl, rfl⟩ := hw
            have hPD : PD D A [(Mn, .inl (g 0, 1767, .inl fno)), (Mh, .inl (g 0, 9, .inl fmh)), (Mr, .inl (g 0, 3, .inl fmr)), (Ma, .inl (g 0, 3, .inl fma)), (Mas, .inl (g 0, 1767, .inl fas)), (Mm, .inr (7, [.int 0, .ref Mt, .int (nI tp), .int zma, .int zwr, .ref Mrr, .ref Mrh, .ref Mrc, .int zrh, .int zrc, .ref Mn, .ref Mf, .ref Mr, .ref Mh, .int (nI hp), .int (nI cc), .ref Ma, .ref Mas, .ref Msn, .ref Mac, .ref Mat]))] H := ⟨hP2, hD2⟩
            have hS := hS2; clear hP2 hD2 hS2; have hP := hPD.1; have hD := hPD.2; clear hPD
            refine W.widen (k := 0) (n := 0) (Nat.le_of_ble_eq_true rfl) (Nat.le_of_ble_eq_true rfl) ?_
            refine lv_if_ne (tgt := 50) hx hb dX7_most_45 (by decide) (fun cb_174 => ?_) (fun cb_174 => ?_)
            · skip
              have hq_175 : 0 ≤ zk ∧ zk ≤ 200 := b01_1.mp cb_174
              have hPq_179 := hP; have hDq_179 := hD; have hSq_179 := hS; have hlq_179 := hl; clear hP hD hS hl
              obtain ⟨j_176, hl_177, hu_178, rfl⟩ := rg (L := 0) (U := 200) rfl rfl (show 0 < 2 ^ 31 by omega) (show 200 < 2 ^ 31 by omega) hq_175
              have hP := hPq_179; have hD := hDq_179; have hS := hSq_179; have hl := hlq_179; clear hPq_179 hDq_179 hSq_179 hlq_179
              refine lv_aload_n hx hb dX7_most_50 rfl (lv_at hl 0 rfl) ?_
              refine ky_Vv (As := []) (rest := []) ⟨hx, hb, hml, hown, hts⟩ ⟨hK, hN⟩ hZ hP hD hS hA [5, 0, 4] [1, 2, 3] (wc := [(Mm, .inr (7, [.int 0, .ref Mt, .int (nI tp), .int zma, .int zwr, .ref Mrr, .ref Mrh, .ref Mrc, .int zrh, .int zrc, .ref Mn, .ref Mf, .ref Mr, .ref Mh, .int (nI hp), .int (nI cc), .ref Ma, .ref Mas, .ref Msn, .ref Mac, .ref Mat])), (Mn, .inl (g 0, 1767, .inl fno)), (Mas, .inl (g 0, 1767, .inl fas))]) (wr := [(Mh, .inl (g 0, 9, .inl fmh)), (Mr, .inl (g 0, 3, .inl fmr)), (Ma, .inl (g 0, 3, .inl fma))]) rfl rfl rfl rfl (by decide) (k_X7_putAside l D g H.size Mm 0 Mt tp zma zwr Mrr Mrh Mrc zrh zrc Mn Mf Mr Mh hp cc Ma Mas Msn Mac Mat fno fas tb ub (h2)) (cwV 0 hts gX7_most_X7_putAside rfl rfl rfl (by decide +kernel) ⟨(Nat.le_of_ble_eq_true rfl), (Nat.le_of_ble_eq_true rfl)⟩) 5 7 rfl rfl rfl rfl hl.1 rfl (Nat.le_of_ble_eq_true rfl) dX7_most_51 ⟨(Nat.le_of_ble_eq_true rfl), (Nat.le_of_ble_eq_true rfl)⟩ (fun u H locs hw hP2 hD2 hS2 => ?_)
              clear hP hD hS
              obtain ⟨fasx_181, rfl, hf_182⟩ := hw
              have hPD : PD D A [(Mh, .inl (g 0, 9, .inl fmh)), (Mr, .inl (g 0, 3, .inl fmr)), (Ma, .inl (g 0, 3, .inl fma)), (Mm, .inr (7, [.int 0, .ref Mt, .int (nI tp), .int zma, .int zwr, .ref Mrr, .ref Mrh, .ref Mrc, .int zrh, .int zrc, .ref Mn, .ref Mf, .ref Mr, .ref Mh, .int (nI hp), .int (nI cc), .ref Ma, .ref Mas, .ref Msn, .ref Mac, .ref Mat])), (Mn, .inl (g 0, 1767, .inl fno)), (Mas, .inl (g 0, 1767, .inl fasx_181))] H := ⟨hP2, hD2⟩
              have hS := hS2; clear hP2 hD2 hS2; have hP := hPD.1; have hD := hPD.2; clear hPD
              refine W.widen (k := 0) (n := 0) (Nat.le_of_ble_eq_true rfl) (Nat.le_of_ble_eq_true rfl) ?_
              refine lv_aload_n hx hb dX7_most_54 rfl (lv_at hl 0 rfl) ?_
              refine lv_iload_n hx hb dX7_most_55 rfl (lv_at hl 1 rfl) ?_
              refine lv_iload_n hx hb dX7_most_56 rfl (lv_at hl 2 rfl) ?_
              refine lv_iload_n hx hb dX7_most_57 rfl (lv_at hl 3 rfl) ?_
              refine ky_Vi (As := [.int (nI j_5), .int (nI j_13), .int (nI 3)]) (rest := []) ⟨hx, hb, hml, hown, hts⟩ ⟨hK, hN⟩ hZ hP hD hS hA [3, 4] [0, 1, 2, 5] (wc := [(Mm, .inr (7, [.int 0, .ref Mt, .int (nI tp), .int zma, .int zwr, .ref Mrr, .ref Mrh, .ref Mrc, .int zrh, .int zrc, .ref Mn, .ref Mf, .ref Mr, .ref Mh, .int (nI hp), .int (nI cc), .ref Ma, .ref Mas, .ref Msn, .ref Mac, .ref Mat])), (Mn, .inl (g 0, 1767, .inl fno))]) (wr := [(Mh, .inl (g 0, 9, .inl fmh)), (Mr, .inl (g 0, 3, .inl fmr)), (Ma, .inl (g 0, 3, .inl fma)), (Mas, .inl (g 0, 1767, .inl fasx_181))]) rfl rfl rfl rfl (by decide) (k_X7_there_3 l D g H.size Mm j_5 (nI j_13) 0 Mt tp zma zwr Mrr Mrh Mrc zrh zrc Mn Mf Mr Mh hp cc Ma Mas Msn Mac Mat fno (show 1 ≤ cc by omega) (show cc ≤ 3 by omega) (show j_5 ≤ 3 by omega) (show 1 ≤ j_5 by omega)) (cwV 3 hts gX7_most_X7_there rfl rfl rfl (by decide +kernel) ⟨(Nat.le_of_ble_eq_true rfl), (Nat.le_of_ble_eq_true rfl)⟩) 3 7 rfl rfl rfl rfl hl.1 rfl (Nat.le_of_ble_eq_true rfl) dX7_most_58 ⟨(Nat.le_of_ble_eq_true rfl), (Nat.le_of_ble_eq_true rfl)⟩ (fun r_183 u H locs hw hP2 hD2 hS2 => ?_)
              clear hP hD hS
              obtain rfl := hw
              have hPD : PD D A [(Mh, .inl (g 0, 9, .inl fmh)), (Mr, .inl (g 0, 3, .inl fmr)), (Ma, .inl (g 0, 3, .inl fma)), (Mas, .inl (g 0, 1767, .inl fasx_181)), (Mm, .inr (7, [.int 0, .ref Mt, .int (nI tp), .int zma, .int zwr, .ref Mrr, .ref Mrh, .ref Mrc, .int zrh, .int zrc, .ref Mn, .ref Mf, .ref Mr, .ref Mh, .int (nI hp), .int (nI cc), .ref Ma, .ref Mas, .ref Msn, .ref Mac, .ref Mat])), (Mn, .inl (g 0, 1767, .inl fno))] H := ⟨hP2, hD2⟩
              have hS := hS2; clear hP2 hD2 hS2; have hP := hPD.1; have hD := hPD.2; clear hPD
              refine W.widen (k := 0) (n := 0) (Nat.le_of_ble_eq_true rfl) (Nat.le_of_ble_eq_true rfl) ?_
              refine lv_istore (lv' := [(5, .int r_183), (0, .ref Mm), (1, .int (nI j_5)), (2, .int (nI j_13)), (3, .int (nI 3)), (4, .int (nI j_176))]) hx hb dX7_most_61 hl (by decide) rfl (fun ls hl => ?_)
              refine lv_iconst (v := 0) hx hb dX7_most_63 (by decide) ?_
              refine lv_istore (lv' := [(6, .int 0), (5, .int r_183), (0, .ref Mm), (1, .int (nI j_5)), (2, .int (nI j_13)), (3, .int (nI 3)), (4, .int (nI j_176))]) hx hb dX7_most_64 hl (by decide) rfl (fun ls hl => ?_)
              have loop_206 : ∀ (Nloop_206 : Nat) (i_193 : Nat) (i_194 : Int32) (F_195 : Nat → Int32) (F_196 : Nat → Int32) (hF_196 : mOK gs (tb + i_193) (ub + 6 * i_193) F_196) (hbi_193 : i_193 ≤ j_176) (hmloop_206 : j_176 - i_193 < Nloop_206) (H : Heap) (locs : List Loc) (ls : Array Slot), va_P D vwCl [(Mh, .inl (g 0, 9, .inl fmh)), (Mr, .inl (g 0, 3, .inl fmr)), (Ma, .inl (g 0, 3, .inl F_195)), (Mas, .inl (g 0, 1767, .inl fasx_181)), (Mm, .inr (7, [.int 0, .ref Mt, .int (nI tp), .int zma, .int zwr, .ref Mrr, .ref Mrh, .ref Mrc, .int zrh, .int zrc, .ref Mn, .ref Mf, .ref Mr, .ref Mh, .int (nI hp), .int (nI cc), .ref Ma, .ref Mas, .ref Msn, .ref Mac, .ref Mat])), (Mn, .inl (g 0, 1767, .inl F_196))] H → va_D A [(Mh, .inl (g 0, 9, .inl fmh)), (Mr, .inl (g 0, 3, .inl fmr)), (Ma, .inl (g 0, 3, .inl F_195)), (Mas, .inl (g 0, 1767, .inl fasx_181)), (Mm, .inr (7, [.int 0, .ref Mt, .int (nI tp), .int zma, .int zwr, .ref Mrr, .ref Mrh, .ref Mrc, .int zrh, .int zrc, .ref Mn, .ref Mf, .ref Mr, .ref Mh, .int (nI hp), .int (nI cc), .ref Ma, .ref Mas, .ref Msn, .ref Mac, .ref Mat])), (Mn, .inl (g 0, 1767, .inl F_196))] → va_S A s.heap H locs → lv_has ls 7 [(6, .int (nI i_193)), (5, .int i_194), (0, .ref Mm), (1, .int (nI j_5)), (2, .int (nI j_13)), (3, .int (nI 3)), (4, .int (nI j_176))] → W p l e (headSpec wsX7_most ({ frames := 6, cells := 0, slots := 0, locals := 133 })).room s m ([.ref Mm, .int (nI j_5), .int (nI j_13), .int (nI 3), .int (nI j_176)] : List Value).toArray below meth c H locs 0 0 Q (F0 m 66 ls []) := by
                clear hP hD hS hl
                intro Nloop_206
                induction Nloop_206 with
                | zero => intro i_193 i_194 F_195 F_196 hF_196 hbi_193 hm9; exact absurd hm9 (Nat.not_lt_zero _)
                | succ Nloop_206 loop_206_ih =>
                  intro i_193 i_194 F_195 F_196 hF_196 hbi_193 hmloop_206 H locs ls hP hD hS hl
                  refine lv_iload hx hb dX7_most_66 (lv_at hl 0 rfl) ?_
                  refine lv_iload hx hb dX7_most_68 (lv_at hl 6 rfl) ?_
                  refine lv_icmp_ge (tgt := 97) hx hb dX7_most_70 (by decide) (fun cb_207 => ?_) (fun cb_207 => ?_)
                  · skip
                    have cn_208 : j_176 ≤ i_193 := (nI_leI (show j_176 < 2 ^ 31 by omega) (show i_193 < 2 ^ 31 by omega)).mp cb_207
                    refine lv_aload_n hx hb dX7_most_97 rfl (lv_at hl 2 rfl) ?_
                    refine ky_Vv (As := []) (rest := []) ⟨hx, hb, hml, hown, hts⟩ ⟨hK, hN⟩ hZ hP hD hS hA [4, 5, 3] [0, 1, 2] (wc := [(Mm, .inr (7, [.int 0, .ref Mt, .int (nI tp), .int zma, .int zwr, .ref Mrr, .ref Mrh, .ref Mrc, .int zrh, .int zrc, .ref Mn, .ref Mf, .ref Mr, .ref Mh, .int (nI hp), .int (nI cc), .ref Ma, .ref Mas, .ref Msn, .ref Mac, .ref Mat])), (Mn, .inl (g 0, 1767, .inl F_196)), (Mas, .inl (g 0, 1767, .inl fasx_181))]) (wr := [(Mh, .inl (g 0, 9, .inl fmh)), (Mr, .inl (g 0, 3, .inl fmr)), (Ma, .inl (g 0, 3, .inl F_195))]) rfl rfl rfl rfl (by decide) (k_X7_bringBack l D g H.size Mm 0 Mt tp zma zwr Mrr Mrh Mrc zrh zrc Mn Mf Mr Mh hp cc Ma Mas Msn Mac Mat F_196 fasx_181 tb ub (hf_182)) (cwV 0 hts gX7_most_X7_bringBack rfl rfl rfl (by decide +kernel) ⟨(Nat.le_of_ble_eq_true rfl), (Nat.le_of_ble_eq_true rfl)⟩) 4 7 rfl rfl rfl rfl hl.1 rfl (Nat.le_of_ble_eq_true rfl) dX7_most_98 ⟨(Nat.le_of_ble_eq_true rfl), (Nat.le_of_ble_eq_true rfl)⟩ (fun u H locs hw hP2 hD2 hS2 => ?_)
                    clear hP hD hS
                    obtain ⟨fnox_210, rfl, hf_211⟩ := hw
                    have hPD : PD D A [(Mh, .inl (g 0, 9, .inl fmh)), (Mr, .inl (g 0, 3, .inl fmr)), (Ma, .inl (g 0, 3, .inl F_195)), (Mm, .inr (7, [.int 0, .ref Mt, .int (nI tp), .int zma, .int zwr, .ref Mrr, .ref Mrh, .ref Mrc, .int zrh, .int zrc, .ref Mn, .ref Mf, .ref Mr, .ref Mh, .int (nI hp), .int (nI cc), .ref Ma, .ref Mas, .ref Msn, .ref Mac, .ref Mat])), (Mn, .inl (g 0, 1767, .inl fnox_210)), (Mas, .inl (g 0, 1767, .inl fasx_181))] H := ⟨hP2, hD2⟩
                    have hS := hS2; clear hP2 hD2 hS2; have hP := hPD.1; have hD := hPD.2; clear hPD
                    refine W.widen (k := 0) (n := 0) (Nat.le_of_ble_eq_true rfl) (Nat.le_of_ble_eq_true rfl) ?_
                    refine lv_iload hx hb dX7_most_101 (lv_at hl 1 rfl) ?_
                    have hPD9 : PD D A [(Mm, .inr (7, [.int 0, .ref Mt, .int (nI tp), .int zma, .int zwr, .ref Mrr, .ref Mrh, .ref Mrc, .int zrh, .int zrc, .ref Mn, .ref Mf, .ref Mr, .ref Mh, .int (nI hp), .int (nI cc), .ref Ma, .ref Mas, .ref Msn, .ref Mac, .ref Mat])), (Mn, .inl (g 0, 1767, .inl fnox_210)), (Mh, .inl (g 0, 9, .inl fmh)), (Mr, .inl (g 0, 3, .inl fmr)), (Ma, .inl (g 0, 3, .inl F_195)), (Mas, .inl (g 0, 1767, .inl fasx_181))] H := ⟨hP.sub [3, 4, 0, 1, 2, 5] rfl, hD.sub [3, 4, 0, 1, 2, 5] (by decide) rfl⟩
                    have hP9 := hPD9.1; have hD9 := hPD9.2
                    subst hQ
                    refine W.widen (k := 0) (n := 0) (Nat.le_of_ble_eq_true rfl) (Nat.le_of_ble_eq_true rfl) ?_
                    exact W.iret (v := i_194) hx hb hr (fun tS htS _ => ⟨⟨_, _, rfl, ⟨0, fnox_210, F_195, fasx_181, rfl, (hf_211)⟩, by rw [htS]; exact hP9, hD9⟩, hS.F htS⟩) hS.2.2 dX7_most_103
                  · skip
                    have cn_212 : i_193 < j_176 := Nat.lt_of_not_le (fun q9 => cb_207 ((nI_leI (show j_176 < 2 ^ 31 by omega) (show i_193 < 2 ^ 31 by omega)).mpr q9))
                    refine lv_aload_n hx hb dX7_most_73 rfl (lv_at hl 2 rfl) ?_
                    refine ky_Vv (As := []) (rest := []) ⟨hx, hb, hml, hown, hts⟩ ⟨hK, hN⟩ hZ hP hD hS hA [4, 5, 0, 1, 2] [3] (wc := [(Mm, .inr (7, [.int 0, .ref Mt, .int (nI tp), .int zma, .int zwr, .ref Mrr, .ref Mrh, .ref Mrc, .int zrh, .int zrc, .ref Mn, .ref Mf, .ref Mr, .ref Mh, .int (nI hp), .int (nI cc), .ref Ma, .ref Mas, .ref Msn, .ref Mac, .ref Mat])), (Mn, .inl (g 0, 1767, .inl F_196)), (Mh, .inl (g 0, 9, .inl fmh)), (Mr, .inl (g 0, 3, .inl fmr)), (Ma, .inl (g 0, 3, .inl F_195))]) (wr := [(Mas, .inl (g 0, 1767, .inl fasx_181))]) rfl rfl rfl rfl (by decide) (k_X7_ticks l D g H.size Mm 0 Mt tp zma zwr Mrr Mrh Mrc zrh zrc Mn Mf Mr Mh hp cc Ma Mas Msn Mac Mat F_196 fmh fmr F_195 (tb + i_193) (ub + 6 * i_193) (show tb + i_193 < 2 ^ 28 by omega) (show ub + 6 * i_193 < 2 ^ 28 by omega) (hF_196) (show 1 ≤ hp by omega) (show hp ≤ 3 by omega) (show 1 ≤ cc by omega) (show cc ≤ 3 by omega) (h7)) (cwV 0 hts gX7_most_X7_ticks rfl rfl rfl (by decide +kernel) ⟨(Nat.le_of_ble_eq_true rfl), (Nat.le_of_ble_eq_true rfl)⟩) 4 7 rfl rfl rfl rfl hl.1 rfl (Nat.le_of_ble_eq_true rfl) dX7_most_74 ⟨(Nat.le_of_ble_eq_true rfl), (Nat.le_of_ble_eq_true rfl)⟩ (fun u H locs hw hP2 hD2 hS2 => ?_)
                    clear hP hD hS
                    obtain ⟨fnox_214, fmax_215, rfl, hf_216⟩ := hw
                    have hPD : PD D A [(Mas, .inl (g 0, 1767, .inl fasx_181)), (Mm, .inr (7, [.int 0, .ref Mt, .int (nI tp), .int zma, .int zwr, .ref Mrr, .ref Mrh, .ref Mrc, .int zrh, .int zrc, .ref Mn, .ref Mf, .ref Mr, .ref Mh, .int (nI hp), .int (nI cc), .ref Ma, .ref Mas, .ref Msn, .ref Mac, .ref Mat])), (Mn, .inl (g 0, 1767, .inl fnox_214)), (Mh, .inl (g 0, 9, .inl fmh)), (Mr, .inl (g 0, 3, .inl fmr)), (Ma, .inl (g 0, 3, .inl fmax_215))] H := ⟨hP2, hD2⟩
                    have hS := hS2; clear hP2 hD2 hS2; have hP := hPD.1; have hD := hPD.2; clear hPD
                    refine W.widen (k := 0) (n := 0) (Nat.le_of_ble_eq_true rfl) (Nat.le_of_ble_eq_true rfl) ?_
                    refine lv_iload hx hb dX7_most_77 (lv_at hl 1 rfl) ?_
                    refine lv_aload_n hx hb dX7_most_79 rfl (lv_at hl 2 rfl) ?_
                    refine lv_iload_n hx hb dX7_most_80 rfl (lv_at hl 3 rfl) ?_
                    refine lv_iload_n hx hb dX7_most_81 rfl (lv_at hl 4 rfl) ?_
                    refine lv_iload_n hx hb dX7_most_82 rfl (lv_at hl 5 rfl) ?_
                    refine ky_Vi (As := [.int (nI j_5), .int (nI j_13), .int (nI 3)]) (rest := [.int i_194]) ⟨hx, hb, hml, hown, hts⟩ ⟨hK, hN⟩ hZ hP hD hS hA [1, 2] [0, 3, 4, 5] (wc := [(Mm, .inr (7, [.int 0, .ref Mt, .int (nI tp), .int zma, .int zwr, .ref Mrr, .ref Mrh, .ref Mrc, .int zrh, .int zrc, .ref Mn, .ref Mf, .ref Mr, .ref Mh, .int (nI hp), .int (nI cc), .ref Ma, .ref Mas, .ref Msn, .ref Mac, .ref Mat])), (Mn, .inl (g 0, 1767, .inl fnox_214))]) (wr := [(Mas, .inl (g 0, 1767, .inl fasx_181)), (Mh, .inl (g 0, 9, .inl fmh)), (Mr, .inl (g 0, 3, .inl fmr)), (Ma, .inl (g 0, 3, .inl fmax_215))]) rfl rfl rfl rfl (by decide) (k_X7_there_3 l D g H.size Mm j_5 (nI j_13) 0 Mt tp zma zwr Mrr Mrh Mrc zrh zrc Mn Mf Mr Mh hp cc Ma Mas Msn Mac Mat fnox_214 (show 1 ≤ cc by omega) (show cc ≤ 3 by omega) (show j_5 ≤ 3 by omega) (show 1 ≤ j_5 by omega)) (cwV 3 hts gX7_most_X7_there rfl rfl rfl (by decide +kernel) ⟨(Nat.le_of_ble_eq_true rfl), (Nat.le_of_ble_eq_true rfl)⟩) 1 7 rfl rfl rfl rfl hl.1 rfl (Nat.le_of_ble_eq_true rfl) dX7_most_83 ⟨(Nat.le_of_ble_eq_true rfl), (Nat.le_of_ble_eq_true rfl)⟩ (fun r_217 u H locs hw hP2 hD2 hS2 => ?_)
                    clear hP hD hS
                    obtain rfl := hw
                    have hPD : PD D A [(Mas, .inl (g 0, 1767, .inl fasx_181)), (Mh, .inl (g 0, 9, .inl fmh)), (Mr, .inl (g 0, 3, .inl fmr)), (Ma, .inl (g 0, 3, .inl fmax_215)), (Mm, .inr (7, [.int 0, .ref Mt, .int (nI tp), .int zma, .int zwr, .ref Mrr, .ref Mrh, .ref Mrc, .int zrh, .int zrc, .ref Mn, .ref Mf, .ref Mr, .ref Mh, .int (nI hp), .int (nI cc), .ref Ma, .ref Mas, .ref Msn, .ref Mac, .ref Mat])), (Mn, .inl (g 0, 1767, .inl fnox_214))] H := ⟨hP2, hD2⟩
                    have hS := hS2; clear hP2 hD2 hS2; have hP := hPD.1; have hD := hPD.2; clear hPD
                    refine W.widen (k := 0) (n := 0) (Nat.le_of_ble_eq_true rfl) (Nat.le_of_ble_eq_true rfl) ?_
                    refine va_mmax hx hb (hml.trans hl.1.symm) hown mmmax mtmax mi mcmax (Nat.le_of_ble_eq_true rfl) (Nat.le_of_ble_eq_true rfl) (Nat.le_of_ble_eq_true rfl) (Nat.le_of_ble_eq_true rfl) dX7_most_86 ?_
                    refine lv_topi (fun y_218 _ => ?_)
                    refine lv_istore (lv' := [(5, .int y_218), (6, .int (nI i_193)), (0, .ref Mm), (1, .int (nI j_5)), (2, .int (nI j_13)), (3, .int (nI 3)), (4, .int (nI j_176))]) hx hb dX7_most_89 hl (by decide) rfl (fun ls hl => ?_)
                    refine lv_iinc (v := (nI (i_193 + 1))) (lv' := [(6, .int (nI (i_193 + 1))), (5, .int y_218), (0, .ref Mm), (1, .int (nI j_5)), (2, .int (nI j_13)), (3, .int (nI 3)), (4, .int (nI j_176))]) hx hb dX7_most_91 hl (k := 1) rfl (nI_1 (i_193)) (by decide) rfl (fun ls hl => ?_)
                    refine lv_goto (tgt := 66) hx hb dX7_most_94 (by decide) ?_
                    exact loop_206_ih (i_193 + 1) y_218 fmax_215 fnox_214 (mOK_le hf_216 (show tb + i_193 + 1 = tb + (i_193 + 1) by omega) (show ub + 6 * i_193 + 6 ≤ ub + 6 * (i_193 + 1) by omega)) (show (i_193 + 1) ≤ j_176 by omega) (show j_176 - (i_193 + 1) < Nloop_206 by omega) _ _ _ (hP.sub [1, 2, 3, 0, 4, 5] rfl) (hD.sub [1, 2, 3, 0, 4, 5] (by decide) rfl) hS hl
              exact loop_206 _ 0 r_183 fma fno (mOK_le h2 (show tb = tb + 0 by omega) (show ub ≤ ub + 6 * 0 by omega)) (show 0 ≤ j_176 by omega) (Nat.lt_succ_self _) _ _ _ hP hD hS hl
            · skip
              have hq_219 : ¬ (0 ≤ zk ∧ zk ≤ 200) := b01_0.mp cb_174
              refine lv_iconst (v := (-1)) hx hb dX7_most_48 (by decide) ?_
              have hPD9 : PD D A [(Mm, .inr (7, [.int 0, .ref Mt, .int (nI tp), .int zma, .int zwr, .ref Mrr, .ref Mrh, .ref Mrc, .int zrh, .int zrc, .ref Mn, .ref Mf, .ref Mr, .ref Mh, .int (nI hp), .int (nI cc), .ref Ma, .ref Mas, .ref Msn, .ref Mac, .ref Mat])), (Mn, .inl (g 0, 1767, .inl fno)), (Mh, .inl (g 0, 9, .inl fmh)), (Mr, .inl (g 0, 3, .inl fmr)), (Ma, .inl (g 0, 3, .inl fma)), (Mas, .inl (g 0, 1767, .inl fas))] H := ⟨hP.sub [5, 0, 1, 2, 3, 4] rfl, hD.sub [5, 0, 1, 2, 3, 4] (by decide) rfl⟩
              have hP9 := hPD9.1; have hD9 := hPD9.2
              subst hQ
              refine W.widen (k := 0) (n := 0) (Nat.le_of_ble_eq_true rfl) (Nat.le_of_ble_eq_true rfl) ?_
              exact W.iret (v := (-1)) hx hb hr (fun tS htS _ => ⟨⟨_, _, rfl, ⟨0, fno, fma, fas, rfl, (h2)⟩, by rw [htS]; exact hP9, hD9⟩, hS.F htS⟩) hS.2.2 dX7_most_49

set_option maxHeartbeats 4000000 in
set_option maxRecDepth 100000 in
theorem k_X7_unknown (l : Launch) (D : va_G) (g : Nat → ClassId) (sz : Nat) (Mm : Nat) (zth : Int32) (Mt : Nat) (tp : Nat) (zma : Int32) (zwr : Int32) (Mrr : Nat) (Mrh : Nat) (Mrc : Nat) (zrh : Int32) (zrc : Int32) (Mn : Nat) (Mf : Nat) (Mr : Nat) (Mh : Nat) (hp : Nat) (cc : Nat) (Ma : Nat) (Mas : Nat) (Msn : Nat) (Mac : Nat) (Mat : Nat) (fno : Nat → Int32) (h0 : 1 ≤ hp) (h1 : hp ≤ 3) (h2 : 1 ≤ cc) (h3 : cc ≤ 3) : Met l yX7_unknown wsX7_unknown ({ frames := 1, cells := 0, slots := 0, locals := 21 }) (va_Pc [.ref Mm] (pre D g sz [(Mm, .inr (7, [.int zth, .ref Mt, .int (nI tp), .int zma, .int zwr, .ref Mrr, .ref Mrh, .ref Mrc, .int zrh, .int zrc, .ref Mn, .ref Mf, .ref Mr, .ref Mh, .int (nI hp), .int (nI cc), .ref Ma, .ref Mas, .ref Msn, .ref Mac, .ref Mat])), (Mn, .inl (g 0, 1767, .inl fno))])) (va_Qi (fun (r : Int32) (u : va_W) => u = [(Mm, .inr (7, [.int zth, .ref Mt, .int (nI tp), .int zma, .int zwr, .ref Mrr, .ref Mrh, .ref Mrc, .int zrh, .int zrc, .ref Mn, .ref Mf, .ref Mr, .ref Mh, .int (nI hp), .int (nI cc), .ref Ma, .ref Mas, .ref Msn, .ref Mac, .ref Mat])), (Mn, .inl (g 0, 1767, .inl fno))]) (wd D (va_A [(Mm, .inr (7, [.int zth, .ref Mt, .int (nI tp), .int zma, .int zwr, .ref Mrr, .ref Mrh, .ref Mrc, .int zrh, .int zrc, .ref Mn, .ref Mf, .ref Mr, .ref Mh, .int (nI hp), .int (nI cc), .ref Ma, .ref Mas, .ref Msn, .ref Mac, .ref Mat])), (Mn, .inl (g 0, 1767, .inl fno))] sz)) (va_A [(Mm, .inr (7, [.int zth, .ref Mt, .int (nI tp), .int zma, .int zwr, .ref Mrr, .ref Mrh, .ref Mrc, .int zrh, .int zrc, .ref Mn, .ref Mf, .ref Mr, .ref Mh, .int (nI hp), .int (nI cc), .ref Ma, .ref Mas, .ref Msn, .ref Mac, .ref Mat])), (Mn, .inl (g 0, 1767, .inl fno))] sz)) 0 0 (va_A [(Mm, .inr (7, [.int zth, .ref Mt, .int (nI tp), .int zma, .int zwr, .ref Mrr, .ref Mrh, .ref Mrc, .int zrh, .int zrc, .ref Mn, .ref Mf, .ref Mr, .ref Mh, .int (nI hp), .int (nI cc), .ref Ma, .ref Mas, .ref Msn, .ref Mac, .ref Mat])), (Mn, .inl (g 0, 1767, .inl fno))] sz) := by
  refine Met.ofW (cc := cX7_unknown) (maxL := 4) (ret := (some .int)) (by decide) rfl ?_
  intro p e s m args below meth c s₁ B hml hv
  obtain ⟨rfl, hsz, hP, ⟨hK, hN⟩, hD0, hZ⟩ := hv
  have hx := B.exec
  have hb := B.bytes
  have hr := B.returns
  have hts := atoms_spec (ws := wsX7_unknown) B.pre
  have hown : s.vm.findClass RX7 = some m.cls := findClass_of_methodNamed B.named
  have hlocks := B.notSynchronized
  clear B
  subst hsz
  have hD := hD0.self (sz := s.heap.size)
  clear hD0
  generalize hAe : va_A [(Mm, .inr (7, [.int zth, .ref Mt, .int (nI tp), .int zma, .int zwr, .ref Mrr, .ref Mrh, .ref Mrc, .int zrh, .int zrc, .ref Mn, .ref Mf, .ref Mr, .ref Mh, .int (nI hp), .int (nI cc), .ref Ma, .ref Mas, .ref Msn, .ref Mac, .ref Mat])), (Mn, .inl (g 0, 1767, .inl fno))] s.heap.size = A at hD hZ ⊢
  have hA : ∀ q : Nat, s.heap.size ≤ q → A q := fun q h => by rw [← hAe]; exact Or.inr h
  have hS : va_S A s.heap s.heap [] := va_S.rf
  have f124 := hts (.fieldLink RX7 124 "HopCreditsModel" "hops" "I") (List.mem_of_getElem? (i := 1) rfl)
  have f127 := hts (.fieldLink RX7 127 "HopCreditsModel" "circuits" "I") (List.mem_of_getElem? (i := 2) rfl)
  have f22 := hts (.fieldLink RX7 22 "HopCreditsModel" "now" "[I") (List.mem_of_getElem? (i := 3) rfl)
  have iX7 : ∀ w ∈ u_ws RX7 TX7 21, w ∈ wsX7_unknown := fun w h => List.mem_cons_of_mem _ (List.mem_append_right _ (h))
  have hl := lv_entry ([.ref Mm]) (n := 4) (Nat.le_of_ble_eq_true rfl)
  rw [lg_entry_eq]
  generalize (lg_sl ([.ref Mm]) ++ List.replicate (4 - (lg_sl ([.ref Mm])).length) Slot.unset).toArray = ls at hl ⊢
  have hl : lv_has ls 4 [(0, .ref Mm)] := hl
  generalize hQ : MQ below _ _ s _ _ _ = Q
  generalize hH : s.heap = H at hP ⊢
  have hS : va_S A s.heap H [] := by rw [← hH]; exact hS
  clear hH
  refine lv_iconst (v := 0) hx hb dX7_unknown_0 (by decide) ?_
  refine lv_istore_n (lv' := [(1, .int 0), (0, .ref Mm)]) hx hb dX7_unknown_1 rfl hl (by decide) rfl (fun ls hl => ?_)
  refine lv_iconst (v := 0) hx hb dX7_unknown_2 (by decide) ?_
  refine lv_istore_n (lv' := [(2, .int 0), (1, .int 0), (0, .ref Mm)]) hx hb dX7_unknown_3 rfl hl (by decide) rfl (fun ls hl => ?_)
  have loop_74 : ∀ (Nloop_74 : Nat) (i_39 : Nat) (i_40 : Int32) (hbi_39 : i_39 ≤ hp) (hmloop_74 : hp - i_39 < Nloop_74) (H : Heap) (locs : List Loc) (ls : Array Slot), va_P D vwCl [(Mm, .inr (7, [.int zth, .ref Mt, .int (nI tp), .int zma, .int zwr, .ref Mrr, .ref Mrh, .ref Mrc, .int zrh, .int zrc, .ref Mn, .ref Mf, .ref Mr, .ref Mh, .int (nI hp), .int (nI cc), .ref Ma, .ref Mas, .ref Msn, .ref Mac, .ref Mat])), (Mn, .inl (g 0, 1767, .inl fno))] H → va_D A [(Mm, .inr (7, [.int zth, .ref Mt, .int (nI tp), .int zma, .int zwr, .ref Mrr, .ref Mrh, .ref Mrc, .int zrh, .int zrc, .ref Mn, .ref Mf, .ref Mr, .ref Mh, .int (nI hp), .int (nI cc), .ref Ma, .ref Mas, .ref Msn, .ref Mac, .ref Mat])), (Mn, .inl (g 0, 1767, .inl fno))] → va_S A s.heap H locs → lv_has ls 4 [(2, .int (nI i_39)), (1, .int i_40), (0, .ref Mm)] → W p l e (headSpec wsX7_unknown ({ frames := 1, cells := 0, slots := 0, locals := 21 })).room s m ([.ref Mm] : List Value).toArray below meth c H locs 0 0 Q (F0 m 4 ls []) := by
    clear hP hD hS hl
    intro Nloop_74
    induction Nloop_74 with
    | zero => intro i_39 i_40 hbi_39 hm9; exact absurd hm9 (Nat.not_lt_zero _)
    | succ Nloop_74 loop_74_ih =>
      intro i_39 i_40 hbi_39 hmloop_74 H locs ls hP hD hS hl
      refine lv_iload_n hx hb dX7_unknown_4 rfl (lv_at hl 0 rfl) ?_
      refine lv_aload_n hx hb dX7_unknown_5 rfl (lv_at hl 2 rfl) ?_
      refine va_get (D := D) (ci := 7) (v := .int (nI hp)) (C := RX7) (T := TX7) (N := 21) hx hb hts iX7 hown hK hP 0 rfl rfl 14 (by decide) f124 (fun _ h9 => h9) rfl dX7_unknown_6 ?_
      refine lv_icmp_ge (tgt := 69) hx hb dX7_unknown_9 (by decide) (fun cb_75 => ?_) (fun cb_75 => ?_)
      · skip
        have cn_76 : hp ≤ i_39 := (nI_leI (show hp < 2 ^ 31 by omega) (show i_39 < 2 ^ 31 by omega)).mp cb_75
        refine lv_iload_n hx hb dX7_unknown_69 rfl (lv_at hl 1 rfl) ?_
        have hP9 := hP; have hD9 := hD
        subst hQ
        refine W.widen (k := 0) (n := 0) (Nat.le_of_ble_eq_true rfl) (Nat.le_of_ble_eq_true rfl) ?_
        exact W.iret (v := i_40) hx hb hr (fun tS htS _ => ⟨⟨_, _, rfl, rfl, by rw [htS]; exact hP9, hD9⟩, hS.F htS⟩) hS.2.2 dX7_unknown_70
      · skip
        have cn_77 : i_39 < hp := Nat.lt_of_not_le (fun q9 => cb_75 ((nI_leI (show hp < 2 ^ 31 by omega) (show i_39 < 2 ^ 31 by omega)).mpr q9))
        refine lv_iconst (v := 0) hx hb dX7_unknown_12 (by decide) ?_
        refine lv_istore_n (lv' := [(3, .int 0), (2, .int (nI i_39)), (1, .int i_40), (0, .ref Mm)]) hx hb dX7_unknown_13 rfl hl (by decide) rfl (fun ls hl => ?_)
        have loop_97 : ∀ (Nloop_97 : Nat) (i_85 : Nat) (i_86 : Int32) (hbi_85 : i_85 ≤ cc) (hmloop_97 : cc - i_85 < Nloop_97) (H : Heap) (locs : List Loc) (ls : Array Slot), va_P D vwCl [(Mm, .inr (7, [.int zth, .ref Mt, .int (nI tp), .int zma, .int zwr, .ref Mrr, .ref Mrh, .ref Mrc, .int zrh, .int zrc, .ref Mn, .ref Mf, .ref Mr, .ref Mh, .int (nI hp), .int (nI cc), .ref Ma, .ref Mas, .ref Msn, .ref Mac, .ref Mat])), (Mn, .inl (g 0, 1767, .inl fno))] H → va_D A [(Mm, .inr (7, [.int zth, .ref Mt, .int (nI tp), .int zma, .int zwr, .ref Mrr, .ref Mrh, .ref Mrc, .int zrh, .int zrc, .ref Mn, .ref Mf, .ref Mr, .ref Mh, .int (nI hp), .int (nI cc), .ref Ma, .ref Mas, .ref Msn, .ref Mac, .ref Mat])), (Mn, .inl (g 0, 1767, .inl fno))] → va_S A s.heap H locs → lv_has ls 4 [(3, .int (nI i_85)), (2, .int (nI i_39)), (1, .int i_86), (0, .ref Mm)] → W p l e (headSpec wsX7_unknown ({ frames := 1, cells := 0, slots := 0, locals := 21 })).room s m ([.ref Mm] : List Value).toArray below meth c H locs 0 0 Q (F0 m 14 ls []) := by
          clear hP hD hS hl
          intro Nloop_97
          induction Nloop_97 with
          | zero => intro i_85 i_86 hbi_85 hm9; exact absurd hm9 (Nat.not_lt_zero _)
          | succ Nloop_97 loop_97_ih =>
            intro i_85 i_86 hbi_85 hmloop_97 H locs ls hP hD hS hl
            refine lv_iload_n hx hb dX7_unknown_14 rfl (lv_at hl 0 rfl) ?_
            refine lv_aload_n hx hb dX7_unknown_15 rfl (lv_at hl 3 rfl) ?_
            refine va_get (D := D) (ci := 7) (v := .int (nI cc)) (C := RX7) (T := TX7) (N := 21) hx hb hts iX7 hown hK hP 0 rfl rfl 15 (by decide) f127 (fun _ h9 => h9) rfl dX7_unknown_16 ?_
            refine lv_icmp_ge (tgt := 63) hx hb dX7_unknown_19 (by decide) (fun cb_98 => ?_) (fun cb_98 => ?_)
            · skip
              have cn_99 : cc ≤ i_85 := (nI_leI (show cc < 2 ^ 31 by omega) (show i_85 < 2 ^ 31 by omega)).mp cb_98
              refine lv_iinc (v := (nI (i_39 + 1))) (lv' := [(2, .int (nI (i_39 + 1))), (3, .int (nI i_85)), (1, .int i_86), (0, .ref Mm)]) hx hb dX7_unknown_63 hl (k := 1) rfl (nI_1 (i_39)) (by decide) rfl (fun ls hl => ?_)
              refine lv_goto (tgt := 4) hx hb dX7_unknown_66 (by decide) ?_
              exact loop_74_ih (i_39 + 1) i_86 (show (i_39 + 1) ≤ hp by omega) (show hp - (i_39 + 1) < Nloop_74 by omega) _ _ _ hP hD hS (lv_sub hl [0, 2, 3] rfl)
            · skip
              have cn_100 : i_85 < cc := Nat.lt_of_not_le (fun q9 => cb_98 ((nI_leI (show cc < 2 ^ 31 by omega) (show i_85 < 2 ^ 31 by omega)).mpr q9))
              refine lv_iload_n hx hb dX7_unknown_22 rfl (lv_at hl 2 rfl) ?_
              refine lv_aload_n hx hb dX7_unknown_23 rfl (lv_at hl 3 rfl) ?_
              refine va_get (D := D) (ci := 7) (v := .ref Mn) (C := RX7) (T := TX7) (N := 21) hx hb hts iX7 hown hK hP 0 rfl rfl 10 (by decide) f22 (fun _ h9 => h9) rfl dX7_unknown_24 ?_
              refine lv_iload_n hx hb dX7_unknown_27 rfl (lv_at hl 1 rfl) ?_
              refine lv_iload_n hx hb dX7_unknown_28 rfl (lv_at hl 0 rfl) ?_
              refine ky_Si (As := [.int (nI i_39), .int (nI i_85)]) (rest := [.ref Mn, .int i_86]) ⟨hx, hb, hml, hown, hts⟩ ⟨hK, hN⟩ hZ hP hD hS hA [] [0, 1] (wc := []) (wr := [(Mm, .inr (7, [.int zth, .ref Mt, .int (nI tp), .int zma, .int zwr, .ref Mrr, .ref Mrh, .ref Mrc, .int zrh, .int zrc, .ref Mn, .ref Mf, .ref Mr, .ref Mh, .int (nI hp), .int (nI cc), .ref Ma, .ref Mas, .ref Msn, .ref Mac, .ref Mat])), (Mn, .inl (g 0, 1767, .inl fno))]) rfl rfl rfl rfl (by decide) (k_X7_lane l D g H.size i_39 i_85 (show i_39 < 3 by omega) (show i_85 < 3 by omega)) (va_cwS 2 hts gX7_unknown_X7_lane rfl rfl rfl (by decide +kernel) ⟨(Nat.le_of_ble_eq_true rfl), (Nat.le_of_ble_eq_true rfl)⟩) rfl hl.1 rfl (Nat.le_of_ble_eq_true rfl) dX7_unknown_29 ⟨(Nat.le_of_ble_eq_true rfl), (Nat.le_of_ble_eq_true rfl)⟩ (fun r_101 u H locs hw hP2 hD2 hS2 => ?_)
              clear hP hD hS
              obtain ⟨rfl, rfl⟩ := hw
              have hPD : PD D A [(Mm, .inr (7, [.int zth, .ref Mt, .int (nI tp), .int zma, .int zwr, .ref Mrr, .ref Mrh, .ref Mrc, .int zrh, .int zrc, .ref Mn, .ref Mf, .ref Mr, .ref Mh, .int (nI hp), .int (nI cc), .ref Ma, .ref Mas, .ref Msn, .ref Mac, .ref Mat])), (Mn, .inl (g 0, 1767, .inl fno))] H := ⟨hP2, hD2⟩
              have hS := hS2; clear hP2 hD2 hS2; have hP := hPD.1; have hD := hPD.2; clear hPD
              refine W.widen (k := 0) (n := 0) (Nat.le_of_ble_eq_true rfl) (Nat.le_of_ble_eq_true rfl) ?_
              refine lv_iconst (v := 2) hx hb dX7_unknown_32 (by decide) ?_
              refine lv_iadd hx hb dX7_unknown_33 ?_
              refine lv_eqi (y := (nI (7 * (3 * i_39 + i_85) + 2))) (nI_add (7 * (3 * i_39 + i_85)) (2)) ?_
              refine va_iald hx hb hK hP 1 0 rfl rfl (vp_in_nI (show 7 * (3 * i_39 + i_85) + 2 < 1767 by omega) (by decide)) dX7_unknown_34 ?_
              refine lv_eqi (y := (fno (7 * (3 * i_39 + i_85) + 2))) (congrArg fno (nI_clamp (show 7 * (3 * i_39 + i_85) + 2 < 2 ^ 31 by omega))) ?_
              refine lv_topi (fun y_102 _ => ?_)
              refine lv_aload_n hx hb dX7_unknown_35 rfl (lv_at hl 3 rfl) ?_
              refine va_get (D := D) (ci := 7) (v := .ref Mn) (C := RX7) (T := TX7) (N := 21) hx hb hts iX7 hown hK hP 0 rfl rfl 10 (by decide) f22 (fun _ h9 => h9) rfl dX7_unknown_36 ?_
              refine lv_iload_n hx hb dX7_unknown_39 rfl (lv_at hl 1 rfl) ?_
              refine lv_iload_n hx hb dX7_unknown_40 rfl (lv_at hl 0 rfl) ?_
              refine ky_Si (As := [.int (nI i_39), .int (nI i_85)]) (rest := [.ref Mn, .int y_102, .int i_86]) ⟨hx, hb, hml, hown, hts⟩ ⟨hK, hN⟩ hZ hP hD hS hA [] [0, 1] (wc := []) (wr := [(Mm, .inr (7, [.int zth, .ref Mt, .int (nI tp), .int zma, .int zwr, .ref Mrr, .ref Mrh, .ref Mrc, .int zrh, .int zrc, .ref Mn, .ref Mf, .ref Mr, .ref Mh, .int (nI hp), .int (nI cc), .ref Ma, .ref Mas, .ref Msn, .ref Mac, .ref Mat])), (Mn, .inl (g 0, 1767, .inl fno))]) rfl rfl rfl rfl (by decide) (k_X7_lane l D g H.size i_39 i_85 (show i_39 < 3 by omega) (show i_85 < 3 by omega)) (va_cwS 2 hts gX7_unknown_X7_lane rfl rfl rfl (by decide +kernel) ⟨(Nat.le_of_ble_eq_true rfl), (Nat.le_of_ble_eq_true rfl)⟩) rfl hl.1 rfl (Nat.le_of_ble_eq_true rfl) dX7_unknown_41 ⟨(Nat.le_of_ble_eq_true rfl), (Nat.le_of_ble_eq_true rfl)⟩ (fun r_103 u H locs hw hP2 hD2 hS2 => ?_)
              clear hP hD hS
              obtain ⟨rfl, rfl⟩ := hw
              have hPD : PD D A [(Mm, .inr (7, [.int zth, .ref Mt, .int (nI tp), .int zma, .int zwr, .ref Mrr, .ref Mrh, .ref Mrc, .int zrh, .int zrc, .ref Mn, .ref Mf, .ref Mr, .ref Mh, .int (nI hp), .int (nI cc), .ref Ma, .ref Mas, .ref Msn, .ref Mac, .ref Mat])), (Mn, .inl (g 0, 1767, .inl fno))] H := ⟨hP2, hD2⟩
              have hS := hS2; clear hP2 hD2 hS2; have hP := hPD.1; have hD := hPD.2; clear hPD
              refine W.widen (k := 0) (n := 0) (Nat.le_of_ble_eq_true rfl) (Nat.le_of_ble_eq_true rfl) ?_
              refine lv_iconst (v := 1) hx hb dX7_unknown_44 (by decide) ?_
              refine lv_iadd hx hb dX7_unknown_45 ?_
              refine lv_eqi (y := (nI (7 * (3 * i_39 + i_85) + 1))) (nI_add (7 * (3 * i_39 + i_85)) (1)) ?_
              refine va_iald hx hb hK hP 1 0 rfl rfl (vp_in_nI (show 7 * (3 * i_39 + i_85) + 1 < 1767 by omega) (by decide)) dX7_unknown_46 ?_
              refine lv_eqi (y := (fno (7 * (3 * i_39 + i_85) + 1))) (congrArg fno (nI_clamp (show 7 * (3 * i_39 + i_85) + 1 < 2 ^ 31 by omega))) ?_
              refine lv_topi (fun y_104 _ => ?_)
              refine lv_icmp_eq (tgt := 54) hx hb dX7_unknown_47 (by decide) (fun cb_105 => ?_) (fun cb_105 => ?_)
              · skip
                refine lv_iconst (v := 0) hx hb dX7_unknown_54 (by decide) ?_
                refine lv_iadd hx hb dX7_unknown_55 ?_
                refine lv_topi (fun y_106 _ => ?_)
                refine lv_istore_n (lv' := [(1, .int y_106), (3, .int (nI i_85)), (2, .int (nI i_39)), (0, .ref Mm)]) hx hb dX7_unknown_56 rfl hl (by decide) rfl (fun ls hl => ?_)
                refine lv_iinc (v := (nI (i_85 + 1))) (lv' := [(3, .int (nI (i_85 + 1))), (1, .int y_106), (2, .int (nI i_39)), (0, .ref Mm)]) hx hb dX7_unknown_57 hl (k := 1) rfl (nI_1 (i_85)) (by decide) rfl (fun ls hl => ?_)
                refine lv_goto (tgt := 14) hx hb dX7_unknown_60 (by decide) ?_
                exact loop_97_ih (i_85 + 1) y_106 (show (i_85 + 1) ≤ cc by omega) (show cc - (i_85 + 1) < Nloop_97 by omega) _ _ _ hP hD hS (lv_sub hl [0, 2, 1, 3] rfl)
              · skip
                refine lv_iconst (v := 1) hx hb dX7_unknown_50 (by decide) ?_
                refine lv_goto (tgt := 55) hx hb dX7_unknown_51 (by decide) ?_
                refine lv_iadd hx hb dX7_unknown_55 ?_
                refine lv_topi (fun y_107 _ => ?_)
                refine lv_istore_n (lv' := [(1, .int y_107), (3, .int (nI i_85)), (2, .int (nI i_39)), (0, .ref Mm)]) hx hb dX7_unknown_56 rfl hl (by decide) rfl (fun ls hl => ?_)
                refine lv_iinc (v := (nI (i_85 + 1))) (lv' := [(3, .int (nI (i_85 + 1))), (1, .int y_107), (2, .int (nI i_39)), (0, .ref Mm)]) hx hb dX7_unknown_57 hl (k := 1) rfl (nI_1 (i_85)) (by decide) rfl (fun ls hl => ?_)
                refine lv_goto (tgt := 14) hx hb dX7_unknown_60 (by decide) ?_
                exact loop_97_ih (i_85 + 1) y_107 (show (i_85 + 1) ≤ cc by omega) (show cc - (i_85 + 1) < Nloop_97 by omega) _ _ _ hP hD hS (lv_sub hl [0, 2, 1, 3] rfl)
        exact loop_97 _ 0 i_40 (show 0 ≤ cc by omega) (Nat.lt_succ_self _) _ _ _ hP hD hS hl
  exact loop_74 _ 0 0 (show 0 ≤ hp by omega) (Nat.lt_succ_self _) _ _ _ hP hD hS hl

set_option maxHeartbeats 4000000 in
set_option maxRecDepth 100000 in
theorem k_X7_healed (l : Launch) (D : va_G) (g : Nat → ClassId) (sz : Nat) {gs : Nat → Int32} (Mm : Nat) (zth : Int32) (Mt : Nat) (tp : Nat) (zma : Int32) (zwr : Int32) (Mrr : Nat) (Mrh : Nat) (Mrc : Nat) (zrh : Int32) (zrc : Int32) (Mn : Nat) (Mf : Nat) (Mr : Nat) (Mh : Nat) (hp : Nat) (cc : Nat) (Ma : Nat) (Mas : Nat) (Msn : Nat) (Mac : Nat) (Mat : Nat) (fno : Nat → Int32) (fmh : Nat → Int32) (fmr : Nat → Int32) (fma : Nat → Int32) (fas : Nat → Int32) (tb : Nat) (ub : Nat) (h0 : tb < 2 ^ 27) (h1 : ub < 2 ^ 27) (h2 : mOK gs tb ub fno) (h3 : 1 ≤ hp) (h4 : hp ≤ 3) (h5 : 1 ≤ cc) (h6 : cc ≤ 3) (h7 : n3 fmh) : Met l yX7_healed wsX7_healed ({ frames := 6, cells := 0, slots := 0, locals := 131 }) (va_Pc [.ref Mm] (pre D g sz [(Mm, .inr (7, [.int zth, .ref Mt, .int (nI tp), .int zma, .int zwr, .ref Mrr, .ref Mrh, .ref Mrc, .int zrh, .int zrc, .ref Mn, .ref Mf, .ref Mr, .ref Mh, .int (nI hp), .int (nI cc), .ref Ma, .ref Mas, .ref Msn, .ref Mac, .ref Mat])), (Mn, .inl (g 0, 1767, .inl fno)), (Mh, .inl (g 0, 9, .inl fmh)), (Mr, .inl (g 0, 3, .inl fmr)), (Ma, .inl (g 0, 3, .inl fma)), (Mas, .inl (g 0, 1767, .inl fas))])) (va_Qi (fun (r : Int32) (u : va_W) => ∃ (zthx : Int32) (fnox : Nat → Int32) (fmax : Nat → Int32) (fasx : Nat → Int32), u = [(Mm, .inr (7, [.int zthx, .ref Mt, .int (nI tp), .int zma, .int zwr, .ref Mrr, .ref Mrh, .ref Mrc, .int zrh, .int zrc, .ref Mn, .ref Mf, .ref Mr, .ref Mh, .int (nI hp), .int (nI cc), .ref Ma, .ref Mas, .ref Msn, .ref Mac, .ref Mat])), (Mn, .inl (g 0, 1767, .inl fnox)), (Mh, .inl (g 0, 9, .inl fmh)), (Mr, .inl (g 0, 3, .inl fmr)), (Ma, .inl (g 0, 3, .inl fmax)), (Mas, .inl (g 0, 1767, .inl fasx))] ∧ (mOK gs tb ub fnox)) (wd D (va_A [(Mm, .inr (7, [.int zth, .ref Mt, .int (nI tp), .int zma, .int zwr, .ref Mrr, .ref Mrh, .ref Mrc, .int zrh, .int zrc, .ref Mn, .ref Mf, .ref Mr, .ref Mh, .int (nI hp), .int (nI cc), .ref Ma, .ref Mas, .ref Msn, .ref Mac, .ref Mat])), (Mn, .inl (g 0, 1767, .inl fno)), (Mh, .inl (g 0, 9, .inl fmh)), (Mr, .inl (g 0, 3, .inl fmr)), (Ma, .inl (g 0, 3, .inl fma)), (Mas, .inl (g 0, 1767, .inl fas))] sz)) (va_A [(Mm, .inr (7, [.int zth, .ref Mt, .int (nI tp), .int zma, .int zwr, .ref Mrr, .ref Mrh, .ref Mrc, .int zrh, .int zrc, .ref Mn, .ref Mf, .ref Mr, .ref Mh, .int (nI hp), .int (nI cc), .ref Ma, .ref Mas, .ref Msn, .ref Mac, .ref Mat])), (Mn, .inl (g 0, 1767, .inl fno)), (Mh, .inl (g 0, 9, .inl fmh)), (Mr, .inl (g 0, 3, .inl fmr)), (Ma, .inl (g 0, 3, .inl fma)), (Mas, .inl (g 0, 1767, .inl fas))] sz)) 0 0 (va_A [(Mm, .inr (7, [.int zth, .ref Mt, .int (nI tp), .int zma, .int zwr, .ref Mrr, .ref Mrh, .ref Mrc, .int zrh, .int zrc, .ref Mn, .ref Mf, .ref Mr, .ref Mh, .int (nI hp), .int (nI cc), .ref Ma, .ref Mas, .ref Msn, .ref Mac, .ref Mat])), (Mn, .inl (g 0, 1767, .inl fno)), (Mh, .inl (g 0, 9, .inl fmh)), (Mr, .inl (g 0, 3, .inl fmr)), (Ma, .inl (g 0, 3, .inl fma)), (Mas, .inl (g 0, 1767, .inl fas))] sz) := by
  refine Met.ofW (cc := cX7_healed) (maxL := 2) (ret := (some .int)) (by decide) rfl ?_
  intro p e s m args below meth c s₁ B hml hv
  obtain ⟨rfl, hsz, hP, ⟨hK, hN⟩, hD0, hZ⟩ := hv
  have hx := B.exec
  have hb := B.bytes
  have hr := B.returns
  have hts := atoms_spec (ws := wsX7_healed) B.pre
  have hown : s.vm.findClass RX7 = some m.cls := findClass_of_methodNamed B.named
  have hlocks := B.notSynchronized
  clear B
  subst hsz
  have hD := hD0.self (sz := s.heap.size)
  clear hD0
  generalize hAe : va_A [(Mm, .inr (7, [.int zth, .ref Mt, .int (nI tp), .int zma, .int zwr, .ref Mrr, .ref Mrh, .ref Mrc, .int zrh, .int zrc, .ref Mn, .ref Mf, .ref Mr, .ref Mh, .int (nI hp), .int (nI cc), .ref Ma, .ref Mas, .ref Msn, .ref Mac, .ref Mat])), (Mn, .inl (g 0, 1767, .inl fno)), (Mh, .inl (g 0, 9, .inl fmh)), (Mr, .inl (g 0, 3, .inl fmr)), (Ma, .inl (g 0, 3, .inl fma)), (Mas, .inl (g 0, 1767, .inl fas))] s.heap.size = A at hD hZ ⊢
  have hA : ∀ q : Nat, s.heap.size ≤ q → A q := fun q h => by rw [← hAe]; exact Or.inr h
  have hS : va_S A s.heap s.heap [] := va_S.rf
  have f49 := hts (.fieldLink RX7 49 "HopCreditsModel" "thrown" "I") (List.mem_of_getElem? (i := 1) rfl)
  have iX7 : ∀ w ∈ u_ws RX7 TX7 21, w ∈ wsX7_healed := fun w h => List.mem_cons_of_mem _ (List.mem_append_right _ (h))
  have hl := lv_entry ([.ref Mm]) (n := 2) (Nat.le_of_ble_eq_true rfl)
  rw [lg_entry_eq]
  generalize (lg_sl ([.ref Mm]) ++ List.replicate (2 - (lg_sl ([.ref Mm])).length) Slot.unset).toArray = ls at hl ⊢
  have hl : lv_has ls 2 [(0, .ref Mm)] := hl
  generalize hQ : MQ below _ _ s _ _ _ = Q
  generalize hH : s.heap = H at hP ⊢
  have hS : va_S A s.heap H [] := by rw [← hH]; exact hS
  clear hH
  refine lv_aload_n hx hb dX7_healed_0 rfl (lv_at hl 0 rfl) ?_
  refine lv_iconst (v := 0) hx hb dX7_healed_1 (by decide) ?_
  refine va_put (D := D) (ci := 7) (v := .int 0) (ty := .int) (C := RX7) (T := TX7) (N := 21) hx hb hts iX7 tyX7 tyX7_ok nmX7 hown hK hP hD hS 0 rfl rfl 0 (by decide) f49 (fun _ h9 => h9) rfl (by decide +kernel) (rfl) (rfl) (Nat.le_of_ble_eq_true rfl) dX7_healed_2 (fun H locs hP2 hD2 hS2 => ?_)
  clear hP hD hS
  have hPD : PD D A [(Mm, .inr (7, [.int 0, .ref Mt, .int (nI tp), .int zma, .int zwr, .ref Mrr, .ref Mrh, .ref Mrc, .int zrh, .int zrc, .ref Mn, .ref Mf, .ref Mr, .ref Mh, .int (nI hp), .int (nI cc), .ref Ma, .ref Mas, .ref Msn, .ref Mac, .ref Mat])), (Mn, .inl (g 0, 1767, .inl fno)), (Mh, .inl (g 0, 9, .inl fmh)), (Mr, .inl (g 0, 3, .inl fmr)), (Ma, .inl (g 0, 3, .inl fma)), (Mas, .inl (g 0, 1767, .inl fas))] H := ⟨hP2, hD2⟩
  have hS := hS2; clear hP2 hD2 hS2; have hP := hPD.1; have hD := hPD.2; clear hPD
  refine lv_aload_n hx hb dX7_healed_5 rfl (lv_at hl 0 rfl) ?_
  refine ky_Vi (As := []) (rest := []) ⟨hx, hb, hml, hown, hts⟩ ⟨hK, hN⟩ hZ hP hD hS hA [0] [1, 2, 3, 4, 5] (wc := [(Mm, .inr (7, [.int 0, .ref Mt, .int (nI tp), .int zma, .int zwr, .ref Mrr, .ref Mrh, .ref Mrc, .int zrh, .int zrc, .ref Mn, .ref Mf, .ref Mr, .ref Mh, .int (nI hp), .int (nI cc), .ref Ma, .ref Mas, .ref Msn, .ref Mac, .ref Mat]))]) (wr := [(Mn, .inl (g 0, 1767, .inl fno)), (Mh, .inl (g 0, 9, .inl fmh)), (Mr, .inl (g 0, 3, .inl fmr)), (Ma, .inl (g 0, 3, .inl fma)), (Mas, .inl (g 0, 1767, .inl fas))]) rfl rfl rfl rfl (by decide) (k_X7_isNet l D g H.size Mm 0 Mt tp zma zwr Mrr Mrh Mrc zrh zrc Mn Mf Mr Mh hp cc Ma Mas Msn Mac Mat (show 1 ≤ hp by omega) (show hp ≤ 3 by omega)) (cwV 0 hts gX7_healed_X7_isNet rfl rfl rfl (by decide +kernel) ⟨(Nat.le_of_ble_eq_true rfl), (Nat.le_of_ble_eq_true rfl)⟩) 0 7 rfl rfl rfl rfl hl.1 rfl (Nat.le_of_ble_eq_true rfl) dX7_healed_6 ⟨(Nat.le_of_ble_eq_true rfl), (Nat.le_of_ble_eq_true rfl)⟩ (fun r_1 u H locs hw hP2 hD2 hS2 => ?_)
  clear hP hD hS
  obtain ⟨rfl, rfl⟩ := hw
  have hPD : PD D A [(Mn, .inl (g 0, 1767, .inl fno)), (Mh, .inl (g 0, 9, .inl fmh)), (Mr, .inl (g 0, 3, .inl fmr)), (Ma, .inl (g 0, 3, .inl fma)), (Mas, .inl (g 0, 1767, .inl fas)), (Mm, .inr (7, [.int 0, .ref Mt, .int (nI tp), .int zma, .int zwr, .ref Mrr, .ref Mrh, .ref Mrc, .int zrh, .int zrc, .ref Mn, .ref Mf, .ref Mr, .ref Mh, .int (nI hp), .int (nI cc), .ref Ma, .ref Mas, .ref Msn, .ref Mac, .ref Mat]))] H := ⟨hP2, hD2⟩
  have hS := hS2; clear hP2 hD2 hS2; have hP := hPD.1; have hD := hPD.2; clear hPD
  refine W.widen (k := 0) (n := 0) (Nat.le_of_ble_eq_true rfl) (Nat.le_of_ble_eq_true rfl) ?_
  refine lv_if_ne (tgt := 14) hx hb dX7_healed_9 (by decide) (fun _ => ?_) (fun cb => absurd cb (by decide))
  refine lv_aload_n hx hb dX7_healed_14 rfl (lv_at hl 0 rfl) ?_
  refine ky_Vv (As := []) (rest := []) ⟨hx, hb, hml, hown, hts⟩ ⟨hK, hN⟩ hZ hP hD hS hA [5, 0, 4] [1, 2, 3] (wc := [(Mm, .inr (7, [.int 0, .ref Mt, .int (nI tp), .int zma, .int zwr, .ref Mrr, .ref Mrh, .ref Mrc, .int zrh, .int zrc, .ref Mn, .ref Mf, .ref Mr, .ref Mh, .int (nI hp), .int (nI cc), .ref Ma, .ref Mas, .ref Msn, .ref Mac, .ref Mat])), (Mn, .inl (g 0, 1767, .inl fno)), (Mas, .inl (g 0, 1767, .inl fas))]) (wr := [(Mh, .inl (g 0, 9, .inl fmh)), (Mr, .inl (g 0, 3, .inl fmr)), (Ma, .inl (g 0, 3, .inl fma))]) rfl rfl rfl rfl (by decide) (k_X7_putAside l D g H.size Mm 0 Mt tp zma zwr Mrr Mrh Mrc zrh zrc Mn Mf Mr Mh hp cc Ma Mas Msn Mac Mat fno fas tb ub (h2)) (cwV 0 hts gX7_healed_X7_putAside rfl rfl rfl (by decide +kernel) ⟨(Nat.le_of_ble_eq_true rfl), (Nat.le_of_ble_eq_true rfl)⟩) 5 7 rfl rfl rfl rfl hl.1 rfl (Nat.le_of_ble_eq_true rfl) dX7_healed_15 ⟨(Nat.le_of_ble_eq_true rfl), (Nat.le_of_ble_eq_true rfl)⟩ (fun u H locs hw hP2 hD2 hS2 => ?_)
  clear hP hD hS
  obtain ⟨fasx_3, rfl, hf_4⟩ := hw
  have hPD : PD D A [(Mh, .inl (g 0, 9, .inl fmh)), (Mr, .inl (g 0, 3, .inl fmr)), (Ma, .inl (g 0, 3, .inl fma)), (Mm, .inr (7, [.int 0, .ref Mt, .int (nI tp), .int zma, .int zwr, .ref Mrr, .ref Mrh, .ref Mrc, .int zrh, .int zrc, .ref Mn, .ref Mf, .ref Mr, .ref Mh, .int (nI hp), .int (nI cc), .ref Ma, .ref Mas, .ref Msn, .ref Mac, .ref Mat])), (Mn, .inl (g 0, 1767, .inl fno)), (Mas, .inl (g 0, 1767, .inl fasx_3))] H := ⟨hP2, hD2⟩
  have hS := hS2; clear hP2 hD2 hS2; have hP := hPD.1; have hD := hPD.2; clear hPD
  refine W.widen (k := 0) (n := 0) (Nat.le_of_ble_eq_true rfl) (Nat.le_of_ble_eq_true rfl) ?_
  refine lv_iconst (v := 0) hx hb dX7_healed_18 (by decide) ?_
  refine lv_istore_n (lv' := [(1, .int 0), (0, .ref Mm)]) hx hb dX7_healed_19 rfl hl (by decide) rfl (fun ls hl => ?_)
  have loop_20 : ∀ (Nloop_20 : Nat) (i_10 : Nat) (F_11 : Nat → Int32) (hF_11 : mOK gs (tb + i_10) ub F_11) (hbi_10 : i_10 ≤ 200 + 1) (hmloop_20 : (200 + 1) - i_10 < Nloop_20) (H : Heap) (locs : List Loc) (ls : Array Slot), va_P D vwCl [(Mh, .inl (g 0, 9, .inl fmh)), (Mr, .inl (g 0, 3, .inl fmr)), (Ma, .inl (g 0, 3, .inl fma)), (Mm, .inr (7, [.int 0, .ref Mt, .int (nI tp), .int zma, .int zwr, .ref Mrr, .ref Mrh, .ref Mrc, .int zrh, .int zrc, .ref Mn, .ref Mf, .ref Mr, .ref Mh, .int (nI hp), .int (nI cc), .ref Ma, .ref Mas, .ref Msn, .ref Mac, .ref Mat])), (Mn, .inl (g 0, 1767, .inl F_11)), (Mas, .inl (g 0, 1767, .inl fasx_3))] H → va_D A [(Mh, .inl (g 0, 9, .inl fmh)), (Mr, .inl (g 0, 3, .inl fmr)), (Ma, .inl (g 0, 3, .inl fma)), (Mm, .inr (7, [.int 0, .ref Mt, .int (nI tp), .int zma, .int zwr, .ref Mrr, .ref Mrh, .ref Mrc, .int zrh, .int zrc, .ref Mn, .ref Mf, .ref Mr, .ref Mh, .int (nI hp), .int (nI cc), .ref Ma, .ref Mas, .ref Msn, .ref Mac, .ref Mat])), (Mn, .inl (g 0, 1767, .inl F_11)), (Mas, .inl (g 0, 1767, .inl fasx_3))] → va_S A s.heap H locs → lv_has ls 2 [(1, .int (nI i_10)), (0, .ref Mm)] → W p l e (headSpec wsX7_healed ({ frames := 6, cells := 0, slots := 0, locals := 131 })).room s m ([.ref Mm] : List Value).toArray below meth c H locs 0 0 Q (F0 m 20 ls []) := by
    clear hP hD hS hl
    intro Nloop_20
    induction Nloop_20 with
    | zero => intro i_10 F_11 hF_11 hbi_10 hm9; exact absurd hm9 (Nat.not_lt_zero _)
    | succ Nloop_20 loop_20_ih =>
      intro i_10 F_11 hF_11 hbi_10 hmloop_20 H locs ls hP hD hS hl
      refine lv_iload_n hx hb dX7_healed_20 rfl (lv_at hl 0 rfl) ?_
      refine lv_sipush (v := 200) hx hb dX7_healed_21 (by decide) ?_
      refine lv_icmp_gt (tgt := 44) hx hb dX7_healed_24 (by decide) (fun cb_21 => ?_) (fun cb_21 => ?_)
      · skip
        have cn_22 : 200 < i_10 := (nI_ltI (show 200 < 2 ^ 31 by omega) (show i_10 < 2 ^ 31 by omega)).mp cb_21
        refine lv_aload_n hx hb dX7_healed_44 rfl (lv_at hl 1 rfl) ?_
        refine ky_Vv (As := []) (rest := []) ⟨hx, hb, hml, hown, hts⟩ ⟨hK, hN⟩ hZ hP hD hS hA [3, 4, 5] [0, 1, 2] (wc := [(Mm, .inr (7, [.int 0, .ref Mt, .int (nI tp), .int zma, .int zwr, .ref Mrr, .ref Mrh, .ref Mrc, .int zrh, .int zrc, .ref Mn, .ref Mf, .ref Mr, .ref Mh, .int (nI hp), .int (nI cc), .ref Ma, .ref Mas, .ref Msn, .ref Mac, .ref Mat])), (Mn, .inl (g 0, 1767, .inl F_11)), (Mas, .inl (g 0, 1767, .inl fasx_3))]) (wr := [(Mh, .inl (g 0, 9, .inl fmh)), (Mr, .inl (g 0, 3, .inl fmr)), (Ma, .inl (g 0, 3, .inl fma))]) rfl rfl rfl rfl (by decide) (k_X7_bringBack l D g H.size Mm 0 Mt tp zma zwr Mrr Mrh Mrc zrh zrc Mn Mf Mr Mh hp cc Ma Mas Msn Mac Mat F_11 fasx_3 tb ub (hf_4)) (cwV 0 hts gX7_healed_X7_bringBack rfl rfl rfl (by decide +kernel) ⟨(Nat.le_of_ble_eq_true rfl), (Nat.le_of_ble_eq_true rfl)⟩) 3 7 rfl rfl rfl rfl hl.1 rfl (Nat.le_of_ble_eq_true rfl) dX7_healed_45 ⟨(Nat.le_of_ble_eq_true rfl), (Nat.le_of_ble_eq_true rfl)⟩ (fun u H locs hw hP2 hD2 hS2 => ?_)
        clear hP hD hS
        obtain ⟨fnox_24, rfl, hf_25⟩ := hw
        have hPD : PD D A [(Mh, .inl (g 0, 9, .inl fmh)), (Mr, .inl (g 0, 3, .inl fmr)), (Ma, .inl (g 0, 3, .inl fma)), (Mm, .inr (7, [.int 0, .ref Mt, .int (nI tp), .int zma, .int zwr, .ref Mrr, .ref Mrh, .ref Mrc, .int zrh, .int zrc, .ref Mn, .ref Mf, .ref Mr, .ref Mh, .int (nI hp), .int (nI cc), .ref Ma, .ref Mas, .ref Msn, .ref Mac, .ref Mat])), (Mn, .inl (g 0, 1767, .inl fnox_24)), (Mas, .inl (g 0, 1767, .inl fasx_3))] H := ⟨hP2, hD2⟩
        have hS := hS2; clear hP2 hD2 hS2; have hP := hPD.1; have hD := hPD.2; clear hPD
        refine W.widen (k := 0) (n := 0) (Nat.le_of_ble_eq_true rfl) (Nat.le_of_ble_eq_true rfl) ?_
        refine lv_iload_n hx hb dX7_healed_48 rfl (lv_at hl 0 rfl) ?_
        refine lv_sipush (v := 200) hx hb dX7_healed_49 (by decide) ?_
        refine lv_icmp_gt (tgt := 59) hx hb dX7_healed_52 (by decide) (fun _ => ?_) (fun cb => absurd (nI_lt (show 200 < i_10 by omega) (show i_10 < 2 ^ 31 by omega)) cb)
        refine lv_iconst (v := (-1)) hx hb dX7_healed_59 (by decide) ?_
        have hPD9 : PD D A [(Mm, .inr (7, [.int 0, .ref Mt, .int (nI tp), .int zma, .int zwr, .ref Mrr, .ref Mrh, .ref Mrc, .int zrh, .int zrc, .ref Mn, .ref Mf, .ref Mr, .ref Mh, .int (nI hp), .int (nI cc), .ref Ma, .ref Mas, .ref Msn, .ref Mac, .ref Mat])), (Mn, .inl (g 0, 1767, .inl fnox_24)), (Mh, .inl (g 0, 9, .inl fmh)), (Mr, .inl (g 0, 3, .inl fmr)), (Ma, .inl (g 0, 3, .inl fma)), (Mas, .inl (g 0, 1767, .inl fasx_3))] H := ⟨hP.sub [3, 4, 0, 1, 2, 5] rfl, hD.sub [3, 4, 0, 1, 2, 5] (by decide) rfl⟩
        have hP9 := hPD9.1; have hD9 := hPD9.2
        subst hQ
        refine W.widen (k := 0) (n := 0) (Nat.le_of_ble_eq_true rfl) (Nat.le_of_ble_eq_true rfl) ?_
        exact W.iret (v := (-1)) hx hb hr (fun tS htS _ => ⟨⟨_, _, rfl, ⟨0, fnox_24, fma, fasx_3, rfl, (hf_25)⟩, by rw [htS]; exact hP9, hD9⟩, hS.F htS⟩) hS.2.2 dX7_healed_60
      · skip
        have cn_26 : i_10 ≤ 200 := Nat.le_of_not_lt (fun q9 => cb_21 ((nI_ltI (show 200 < 2 ^ 31 by omega) (show i_10 < 2 ^ 31 by omega)).mpr q9))
        refine lv_aload_n hx hb dX7_healed_27 rfl (lv_at hl 1 rfl) ?_
        refine ky_Vi (As := []) (rest := []) ⟨hx, hb, hml, hown, hts⟩ ⟨hK, hN⟩ hZ hP hD hS hA [3, 4] [0, 1, 2, 5] (wc := [(Mm, .inr (7, [.int 0, .ref Mt, .int (nI tp), .int zma, .int zwr, .ref Mrr, .ref Mrh, .ref Mrc, .int zrh, .int zrc, .ref Mn, .ref Mf, .ref Mr, .ref Mh, .int (nI hp), .int (nI cc), .ref Ma, .ref Mas, .ref Msn, .ref Mac, .ref Mat])), (Mn, .inl (g 0, 1767, .inl F_11))]) (wr := [(Mh, .inl (g 0, 9, .inl fmh)), (Mr, .inl (g 0, 3, .inl fmr)), (Ma, .inl (g 0, 3, .inl fma)), (Mas, .inl (g 0, 1767, .inl fasx_3))]) rfl rfl rfl rfl (by decide) (k_X7_unknown l D g H.size Mm 0 Mt tp zma zwr Mrr Mrh Mrc zrh zrc Mn Mf Mr Mh hp cc Ma Mas Msn Mac Mat F_11 (show 1 ≤ hp by omega) (show hp ≤ 3 by omega) (show 1 ≤ cc by omega) (show cc ≤ 3 by omega)) (cwV 0 hts gX7_healed_X7_unknown rfl rfl rfl (by decide +kernel) ⟨(Nat.le_of_ble_eq_true rfl), (Nat.le_of_ble_eq_true rfl)⟩) 3 7 rfl rfl rfl rfl hl.1 rfl (Nat.le_of_ble_eq_true rfl) dX7_healed_28 ⟨(Nat.le_of_ble_eq_true rfl), (Nat.le_of_ble_eq_true rfl)⟩ (fun r_27 u H locs hw hP2 hD2 hS2 => ?_)
        clear hP hD hS
        obtain rfl := hw
        have hPD : PD D A [(Mh, .inl (g 0, 9, .inl fmh)), (Mr, .inl (g 0, 3, .inl fmr)), (Ma, .inl (g 0, 3, .inl fma)), (Mas, .inl (g 0, 1767, .inl fasx_3)), (Mm, .inr (7, [.int 0, .ref Mt, .int (nI tp), .int zma, .int zwr, .ref Mrr, .ref Mrh, .ref Mrc, .int zrh, .int zrc, .ref Mn, .ref Mf, .ref Mr, .ref Mh, .int (nI hp), .int (nI cc), .ref Ma, .ref Mas, .ref Msn, .ref Mac, .ref Mat])), (Mn, .inl (g 0, 1767, .inl F_11))] H := ⟨hP2, hD2⟩
        have hS := hS2; clear hP2 hD2 hS2; have hP := hPD.1; have hD := hPD.2; clear hPD
        refine W.widen (k := 0) (n := 0) (Nat.le_of_ble_eq_true rfl) (Nat.le_of_ble_eq_true rfl) ?_
        refine lv_if_le (tgt := 44) hx hb dX7_healed_31 (by decide) (fun cb_28 => ?_) (fun cb_28 => ?_)
        · skip
          refine lv_aload_n hx hb dX7_healed_44 rfl (lv_at hl 1 rfl) ?_
          refine ky_Vv (As := []) (rest := []) ⟨hx, hb, hml, hown, hts⟩ ⟨hK, hN⟩ hZ hP hD hS hA [4, 5, 3] [0, 1, 2] (wc := [(Mm, .inr (7, [.int 0, .ref Mt, .int (nI tp), .int zma, .int zwr, .ref Mrr, .ref Mrh, .ref Mrc, .int zrh, .int zrc, .ref Mn, .ref Mf, .ref Mr, .ref Mh, .int (nI hp), .int (nI cc), .ref Ma, .ref Mas, .ref Msn, .ref Mac, .ref Mat])), (Mn, .inl (g 0, 1767, .inl F_11)), (Mas, .inl (g 0, 1767, .inl fasx_3))]) (wr := [(Mh, .inl (g 0, 9, .inl fmh)), (Mr, .inl (g 0, 3, .inl fmr)), (Ma, .inl (g 0, 3, .inl fma))]) rfl rfl rfl rfl (by decide) (k_X7_bringBack l D g H.size Mm 0 Mt tp zma zwr Mrr Mrh Mrc zrh zrc Mn Mf Mr Mh hp cc Ma Mas Msn Mac Mat F_11 fasx_3 tb ub (hf_4)) (cwV 0 hts gX7_healed_X7_bringBack rfl rfl rfl (by decide +kernel) ⟨(Nat.le_of_ble_eq_true rfl), (Nat.le_of_ble_eq_true rfl)⟩) 4 7 rfl rfl rfl rfl hl.1 rfl (Nat.le_of_ble_eq_true rfl) dX7_healed_45 ⟨(Nat.le_of_ble_eq_true rfl), (Nat.le_of_ble_eq_true rfl)⟩ (fun u H locs hw hP2 hD2 hS2 => ?_)
          clear hP hD hS
          obtain ⟨fnox_30, rfl, hf_31⟩ := hw
          have hPD : PD D A [(Mh, .inl (g 0, 9, .inl fmh)), (Mr, .inl (g 0, 3, .inl fmr)), (Ma, .inl (g 0, 3, .inl fma)), (Mm, .inr (7, [.int 0, .ref Mt, .int (nI tp), .int zma, .int zwr, .ref Mrr, .ref Mrh, .ref Mrc, .int zrh, .int zrc, .ref Mn, .ref Mf, .ref Mr, .ref Mh, .int (nI hp), .int (nI cc), .ref Ma, .ref Mas, .ref Msn, .ref Mac, .ref Mat])), (Mn, .inl (g 0, 1767, .inl fnox_30)), (Mas, .inl (g 0, 1767, .inl fasx_3))] H := ⟨hP2, hD2⟩
          have hS := hS2; clear hP2 hD2 hS2; have hP := hPD.1; have hD := hPD.2; clear hPD
          refine W.widen (k := 0) (n := 0) (Nat.le_of_ble_eq_true rfl) (Nat.le_of_ble_eq_true rfl) ?_
          refine lv_iload_n hx hb dX7_healed_48 rfl (lv_at hl 0 rfl) ?_
          refine lv_sipush (v := 200) hx hb dX7_healed_49 (by decide) ?_
          refine lv_icmp_gt (tgt := 59) hx hb dX7_healed_52 (by decide) (fun cb => absurd cb (nI_nlt (show i_10 ≤ 200 by omega) (show 200 < 2 ^ 31 by omega))) (fun _ => ?_)
          refine lv_iload_n hx hb dX7_healed_55 rfl (lv_at hl 0 rfl) ?_
          refine lv_goto (tgt := 60) hx hb dX7_healed_56 (by decide) ?_
          have hPD9 : PD D A [(Mm, .inr (7, [.int 0, .ref Mt, .int (nI tp), .int zma, .int zwr, .ref Mrr, .ref Mrh, .ref Mrc, .int zrh, .int zrc, .ref Mn, .ref Mf, .ref Mr, .ref Mh, .int (nI hp), .int (nI cc), .ref Ma, .ref Mas, .ref Msn, .ref Mac, .ref Mat])), (Mn, .inl (g 0, 1767, .inl fnox_30)), (Mh, .inl (g 0, 9, .inl fmh)), (Mr, .inl (g 0, 3, .inl fmr)), (Ma, .inl (g 0, 3, .inl fma)), (Mas, .inl (g 0, 1767, .inl fasx_3))] H := ⟨hP.sub [3, 4, 0, 1, 2, 5] rfl, hD.sub [3, 4, 0, 1, 2, 5] (by decide) rfl⟩
          have hP9 := hPD9.1; have hD9 := hPD9.2
          subst hQ
          refine W.widen (k := 0) (n := 0) (Nat.le_of_ble_eq_true rfl) (Nat.le_of_ble_eq_true rfl) ?_
          exact W.iret (v := (nI i_10)) hx hb hr (fun tS htS _ => ⟨⟨_, _, rfl, ⟨0, fnox_30, fma, fasx_3, rfl, (hf_31)⟩, by rw [htS]; exact hP9, hD9⟩, hS.F htS⟩) hS.2.2 dX7_healed_60
        · skip
          refine lv_aload_n hx hb dX7_healed_34 rfl (lv_at hl 1 rfl) ?_
          refine ky_Vv (As := []) (rest := []) ⟨hx, hb, hml, hown, hts⟩ ⟨hK, hN⟩ hZ hP hD hS hA [4, 5, 0, 1] [2, 3] (wc := [(Mm, .inr (7, [.int 0, .ref Mt, .int (nI tp), .int zma, .int zwr, .ref Mrr, .ref Mrh, .ref Mrc, .int zrh, .int zrc, .ref Mn, .ref Mf, .ref Mr, .ref Mh, .int (nI hp), .int (nI cc), .ref Ma, .ref Mas, .ref Msn, .ref Mac, .ref Mat])), (Mn, .inl (g 0, 1767, .inl F_11)), (Mh, .inl (g 0, 9, .inl fmh)), (Mr, .inl (g 0, 3, .inl fmr))]) (wr := [(Ma, .inl (g 0, 3, .inl fma)), (Mas, .inl (g 0, 1767, .inl fasx_3))]) rfl rfl rfl rfl (by decide) (k_X7_ticksStill l D g H.size Mm 0 Mt tp zma zwr Mrr Mrh Mrc zrh zrc Mn Mf Mr Mh hp cc Ma Mas Msn Mac Mat F_11 fmh fmr (tb + i_10) ub (show tb + i_10 < 2 ^ 28 by omega) (show ub < 2 ^ 28 by omega) (hF_11) (show 1 ≤ hp by omega) (show hp ≤ 3 by omega) (show 1 ≤ cc by omega) (show cc ≤ 3 by omega) (h7)) (cwV 0 hts gX7_healed_X7_ticksStill rfl rfl rfl (by decide +kernel) ⟨(Nat.le_of_ble_eq_true rfl), (Nat.le_of_ble_eq_true rfl)⟩) 4 7 rfl rfl rfl rfl hl.1 rfl (Nat.le_of_ble_eq_true rfl) dX7_healed_35 ⟨(Nat.le_of_ble_eq_true rfl), (Nat.le_of_ble_eq_true rfl)⟩ (fun u H locs hw hP2 hD2 hS2 => ?_)
          clear hP hD hS
          obtain ⟨fnox_33, rfl, hf_34⟩ := hw
          have hPD : PD D A [(Ma, .inl (g 0, 3, .inl fma)), (Mas, .inl (g 0, 1767, .inl fasx_3)), (Mm, .inr (7, [.int 0, .ref Mt, .int (nI tp), .int zma, .int zwr, .ref Mrr, .ref Mrh, .ref Mrc, .int zrh, .int zrc, .ref Mn, .ref Mf, .ref Mr, .ref Mh, .int (nI hp), .int (nI cc), .ref Ma, .ref Mas, .ref Msn, .ref Mac, .ref Mat])), (Mn, .inl (g 0, 1767, .inl fnox_33)), (Mh, .inl (g 0, 9, .inl fmh)), (Mr, .inl (g 0, 3, .inl fmr))] H := ⟨hP2, hD2⟩
          have hS := hS2; clear hP2 hD2 hS2; have hP := hPD.1; have hD := hPD.2; clear hPD
          refine W.widen (k := 0) (n := 0) (Nat.le_of_ble_eq_true rfl) (Nat.le_of_ble_eq_true rfl) ?_
          refine lv_iinc (v := (nI (i_10 + 1))) (lv' := [(1, .int (nI (i_10 + 1))), (0, .ref Mm)]) hx hb dX7_healed_38 hl (k := 0) rfl (nI_1 (i_10)) (by decide) rfl (fun ls hl => ?_)
          refine lv_goto (tgt := 20) hx hb dX7_healed_41 (by decide) ?_
          exact loop_20_ih (i_10 + 1) fnox_33 (mOK_le hf_34 (show tb + i_10 + 1 = tb + (i_10 + 1) by omega) (show ub ≤ ub by omega)) (show (i_10 + 1) ≤ 200 + 1 by omega) (show (200 + 1) - (i_10 + 1) < Nloop_20 by omega) _ _ _ (hP.sub [4, 5, 0, 2, 3, 1] rfl) (hD.sub [4, 5, 0, 2, 3, 1] (by decide) rfl) hS hl
  exact loop_20 _ 0 fno (mOK_le h2 (show tb = tb + 0 by omega) (show ub ≤ ub by omega)) (show 0 ≤ 200 + 1 by omega) (Nat.lt_succ_self _) _ _ _ hP hD hS hl
