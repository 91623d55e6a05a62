set_option maxHeartbeats 4000000 in
set_option maxRecDepth 100000 in
theorem k_X7_deliveredJammed (l : Launch) (D : va_G) (g : Nat → ClassId) (sz : Nat) {gs : Nat → Int32} (Mm : Nat) (zu : Int32) (nx : Nat) (zth : Int32) (Mt : Nat) (tp : Nat) (zma : Int32) (zwr : Int32) (Mrr : Nat) (Mrh : Nat) (Mrc : Nat) (zrh : Int32) (zrc : Int32) (Mn : Nat) (Mf : Nat) (Mr : Nat) (Mh : Nat) (hp : Nat) (cc : Nat) (Ma : Nat) (Mas : Nat) (Msn : Nat) (Mac : Nat) (Mat : Nat) (fno : Nat → Int32) (fmh : Nat → Int32) (fmr : Nat → Int32) (fma : Nat → Int32) (fas : Nat → Int32) (tb : Nat) (ub : Nat) (h0 : tb < 2 ^ 27) (h1 : ub < 2 ^ 27) (h2 : mOK gs tb ub fno) (h3 : 1 ≤ hp) (h4 : hp ≤ 3) (h5 : 1 ≤ cc) (h6 : cc ≤ 3) (h7 : n3 fmh) (h8 : nx ≤ 200) : Met l yX7_deliveredJammed wsX7_deliveredJammed ({ frames := 8, cells := 0, slots := 0, locals := 179 }) (va_Pc [.ref Mm, .int zu, .int (nI nx)] (pre D g sz [(Mm, .inr (7, [.int zth, .ref Mt, .int (nI tp), .int zma, .int zwr, .ref Mrr, .ref Mrh, .ref Mrc, .int zrh, .int zrc, .ref Mn, .ref Mf, .ref Mr, .ref Mh, .int (nI hp), .int (nI cc), .ref Ma, .ref Mas, .ref Msn, .ref Mac, .ref Mat])), (Mn, .inl (g 0, 1767, .inl fno)), (Mh, .inl (g 0, 9, .inl fmh)), (Mr, .inl (g 0, 3, .inl fmr)), (Ma, .inl (g 0, 3, .inl fma)), (Mas, .inl (g 0, 1767, .inl fas))])) (va_Qi (fun (r : Int32) (u : va_W) => ∃ (fnox : Nat → Int32) (fmax : Nat → Int32) (fasx : Nat → Int32), u = [(Mm, .inr (7, [.int zth, .ref Mt, .int (nI tp), .int zma, .int zwr, .ref Mrr, .ref Mrh, .ref Mrc, .int zrh, .int zrc, .ref Mn, .ref Mf, .ref Mr, .ref Mh, .int (nI hp), .int (nI cc), .ref Ma, .ref Mas, .ref Msn, .ref Mac, .ref Mat])), (Mn, .inl (g 0, 1767, .inl fnox)), (Mh, .inl (g 0, 9, .inl fmh)), (Mr, .inl (g 0, 3, .inl fmr)), (Ma, .inl (g 0, 3, .inl fmax)), (Mas, .inl (g 0, 1767, .inl fasx))] ∧ (mOK gs tb ub fnox)) (wd D (va_A [(Mm, .inr (7, [.int zth, .ref Mt, .int (nI tp), .int zma, .int zwr, .ref Mrr, .ref Mrh, .ref Mrc, .int zrh, .int zrc, .ref Mn, .ref Mf, .ref Mr, .ref Mh, .int (nI hp), .int (nI cc), .ref Ma, .ref Mas, .ref Msn, .ref Mac, .ref Mat])), (Mn, .inl (g 0, 1767, .inl fno)), (Mh, .inl (g 0, 9, .inl fmh)), (Mr, .inl (g 0, 3, .inl fmr)), (Ma, .inl (g 0, 3, .inl fma)), (Mas, .inl (g 0, 1767, .inl fas))] sz)) (va_A [(Mm, .inr (7, [.int zth, .ref Mt, .int (nI tp), .int zma, .int zwr, .ref Mrr, .ref Mrh, .ref Mrc, .int zrh, .int zrc, .ref Mn, .ref Mf, .ref Mr, .ref Mh, .int (nI hp), .int (nI cc), .ref Ma, .ref Mas, .ref Msn, .ref Mac, .ref Mat])), (Mn, .inl (g 0, 1767, .inl fno)), (Mh, .inl (g 0, 9, .inl fmh)), (Mr, .inl (g 0, 3, .inl fmr)), (Ma, .inl (g 0, 3, .inl fma)), (Mas, .inl (g 0, 1767, .inl fas))] sz)) 0 0 (va_A [(Mm, .inr (7, [.int zth, .ref Mt, .int (nI tp), .int zma, .int zwr, .ref Mrr, .ref Mrh, .ref Mrc, .int zrh, .int zrc, .ref Mn, .ref Mf, .ref Mr, .ref Mh, .int (nI hp), .int (nI cc), .ref Ma, .ref Mas, .ref Msn, .ref Mac, .ref Mat])), (Mn, .inl (g 0, 1767, .inl fno)), (Mh, .inl (g 0, 9, .inl fmh)), (Mr, .inl (g 0, 3, .inl fmr)), (Ma, .inl (g 0, 3, .inl fma)), (Mas, .inl (g 0, 1767, .inl fas))] sz) := by
  refine Met.ofW (cc := cX7_deliveredJammed) (maxL := 4) (ret := (some .int)) (by decide) rfl ?_
  intro p e s m args below meth c s₁ B hml hv
  obtain ⟨rfl, hsz, hP, ⟨hK, hN⟩, hD0, hZ⟩ := hv
  have hx := B.exec
  have hb := B.bytes
  have hr := B.returns
  have hts := atoms_spec (ws := wsX7_deliveredJammed) B.pre
  have hown : s.vm.findClass RX7 = some m.cls := findClass_of_methodNamed B.named
  have hlocks := B.notSynchronized
  clear B
  subst hsz
  have hD := hD0.self (sz := s.heap.size)
  clear hD0
  generalize hAe : va_A [(Mm, .inr (7, [.int zth, .ref Mt, .int (nI tp), .int zma, .int zwr, .ref Mrr, .ref Mrh, .ref Mrc, .int zrh, .int zrc, .ref Mn, .ref Mf, .ref Mr, .ref Mh, .int (nI hp), .int (nI cc), .ref Ma, .ref Mas, .ref Msn, .ref Mac, .ref Mat])), (Mn, .inl (g 0, 1767, .inl fno)), (Mh, .inl (g 0, 9, .inl fmh)), (Mr, .inl (g 0, 3, .inl fmr)), (Ma, .inl (g 0, 3, .inl fma)), (Mas, .inl (g 0, 1767, .inl fas))] s.heap.size = A at hD hZ ⊢
  have hA : ∀ q : Nat, s.heap.size ≤ q → A q := fun q h => by rw [← hAe]; exact Or.inr h
  have hS : va_S A s.heap s.heap [] := va_S.rf
  have f124 := hts (.fieldLink RX7 124 "HopCreditsModel" "hops" "I") (List.mem_of_getElem? (i := 1) rfl)
  have f22 := hts (.fieldLink RX7 22 "HopCreditsModel" "now" "[I") (List.mem_of_getElem? (i := 2) rfl)
  have iX7 : ∀ w ∈ u_ws RX7 TX7 21, w ∈ wsX7_deliveredJammed := fun w h => List.mem_cons_of_mem _ (List.mem_append_right _ (h))
  have hl := lv_entry ([.ref Mm, .int zu, .int (nI nx)]) (n := 4) (Nat.le_of_ble_eq_true rfl)
  rw [lg_entry_eq]
  generalize (lg_sl ([.ref Mm, .int zu, .int (nI nx)]) ++ List.replicate (4 - (lg_sl ([.ref Mm, .int zu, .int (nI nx)])).length) Slot.unset).toArray = ls at hl ⊢
  have hl : lv_has ls 4 [(0, .ref Mm), (1, .int zu), (2, .int (nI nx))] := hl
  generalize hQ : MQ below _ _ s _ _ _ = Q
  generalize hH : s.heap = H at hP ⊢
  have hS : va_S A s.heap H [] := by rw [← hH]; exact hS
  clear hH
  refine lv_aload_n hx hb dX7_deliveredJammed_0 rfl (lv_at hl 0 rfl) ?_
  refine ky_Vv (As := []) (rest := []) ⟨hx, hb, hml, hown, hts⟩ ⟨hK, hN⟩ hZ hP hD hS hA [0, 1, 5] [2, 3, 4] (wc := [(Mm, .inr (7, [.int zth, .ref Mt, .int (nI tp), .int zma, .int zwr, .ref Mrr, .ref Mrh, .ref Mrc, .int zrh, .int zrc, .ref Mn, .ref Mf, .ref Mr, .ref Mh, .int (nI hp), .int (nI cc), .ref Ma, .ref Mas, .ref Msn, .ref Mac, .ref Mat])), (Mn, .inl (g 0, 1767, .inl fno)), (Mas, .inl (g 0, 1767, .inl fas))]) (wr := [(Mh, .inl (g 0, 9, .inl fmh)), (Mr, .inl (g 0, 3, .inl fmr)), (Ma, .inl (g 0, 3, .inl fma))]) rfl rfl rfl rfl (by decide) (k_X7_putAside l D g H.size Mm zth Mt tp zma zwr Mrr Mrh Mrc zrh zrc Mn Mf Mr Mh hp cc Ma Mas Msn Mac Mat fno fas tb ub (h2)) (cwV 0 hts gX7_deliveredJammed_X7_putAside rfl rfl rfl (by decide +kernel) ⟨(Nat.le_of_ble_eq_true rfl), (Nat.le_of_ble_eq_true rfl)⟩) 0 7 rfl rfl rfl rfl hl.1 rfl (Nat.le_of_ble_eq_true rfl) dX7_deliveredJammed_1 ⟨(Nat.le_of_ble_eq_true rfl), (Nat.le_of_ble_eq_true rfl)⟩ (fun u H locs hw hP2 hD2 hS2 => ?_)
  clear hP hD hS
  obtain ⟨fasx_2, rfl, hf_3⟩ := hw
  have hPD : PD D A [(Mh, .inl (g 0, 9, .inl fmh)), (Mr, .inl (g 0, 3, .inl fmr)), (Ma, .inl (g 0, 3, .inl fma)), (Mm, .inr (7, [.int zth, .ref Mt, .int (nI tp), .int zma, .int zwr, .ref Mrr, .ref Mrh, .ref Mrc, .int zrh, .int zrc, .ref Mn, .ref Mf, .ref Mr, .ref Mh, .int (nI hp), .int (nI cc), .ref Ma, .ref Mas, .ref Msn, .ref Mac, .ref Mat])), (Mn, .inl (g 0, 1767, .inl fno)), (Mas, .inl (g 0, 1767, .inl fasx_2))] H := ⟨hP2, hD2⟩
  have hS := hS2; clear hP2 hD2 hS2; have hP := hPD.1; have hD := hPD.2; clear hPD
  refine W.widen (k := 0) (n := 0) (Nat.le_of_ble_eq_true rfl) (Nat.le_of_ble_eq_true rfl) ?_
  refine lv_iconst (v := 0) hx hb dX7_deliveredJammed_4 (by decide) ?_
  refine lv_istore_n (lv' := [(3, .int 0), (0, .ref Mm), (1, .int zu), (2, .int (nI nx))]) hx hb dX7_deliveredJammed_5 rfl hl (by decide) rfl (fun ls hl => ?_)
  have loop_11 : ∀ (Nloop_11 : Nat) (i_5 : Nat) (F_6 : Nat → Int32) (hF_6 : mOK gs tb ub F_6) (hbi_5 : i_5 ≤ hp) (hmloop_11 : hp - i_5 < Nloop_11) (H : Heap) (locs : List Loc) (ls : Array Slot), va_P D vwCl [(Mh, .inl (g 0, 9, .inl fmh)), (Mr, .inl (g 0, 3, .inl fmr)), (Ma, .inl (g 0, 3, .inl fma)), (Mm, .inr (7, [.int zth, .ref Mt, .int (nI tp), .int zma, .int zwr, .ref Mrr, .ref Mrh, .ref Mrc, .int zrh, .int zrc, .ref Mn, .ref Mf, .ref Mr, .ref Mh, .int (nI hp), .int (nI cc), .ref Ma, .ref Mas, .ref Msn, .ref Mac, .ref Mat])), (Mn, .inl (g 0, 1767, .inl F_6)), (Mas, .inl (g 0, 1767, .inl fasx_2))] H → va_D A [(Mh, .inl (g 0, 9, .inl fmh)), (Mr, .inl (g 0, 3, .inl fmr)), (Ma, .inl (g 0, 3, .inl fma)), (Mm, .inr (7, [.int zth, .ref Mt, .int (nI tp), .int zma, .int zwr, .ref Mrr, .ref Mrh, .ref Mrc, .int zrh, .int zrc, .ref Mn, .ref Mf, .ref Mr, .ref Mh, .int (nI hp), .int (nI cc), .ref Ma, .ref Mas, .ref Msn, .ref Mac, .ref Mat])), (Mn, .inl (g 0, 1767, .inl F_6)), (Mas, .inl (g 0, 1767, .inl fasx_2))] → va_S A s.heap H locs → lv_has ls 4 [(3, .int (nI i_5)), (0, .ref Mm), (1, .int zu), (2, .int (nI nx))] → W p l e (headSpec wsX7_deliveredJammed ({ frames := 8, cells := 0, slots := 0, locals := 179 })).room s m ([.ref Mm, .int zu, .int (nI nx)] : List Value).toArray below meth c H locs 0 0 Q (F0 m 6 ls []) := by
    clear hP hD hS hl
    intro Nloop_11
    induction Nloop_11 with
    | zero => intro i_5 F_6 hF_6 hbi_5 hm9; exact absurd hm9 (Nat.not_lt_zero _)
    | succ Nloop_11 loop_11_ih =>
      intro i_5 F_6 hF_6 hbi_5 hmloop_11 H locs ls hP hD hS hl
      refine lv_iload_n hx hb dX7_deliveredJammed_6 rfl (lv_at hl 0 rfl) ?_
      refine lv_aload_n hx hb dX7_deliveredJammed_7 rfl (lv_at hl 1 rfl) ?_
      refine va_get (D := D) (ci := 7) (v := .int (nI hp)) (C := RX7) (T := TX7) (N := 21) hx hb hts iX7 hown hK hP 3 rfl rfl 14 (by decide) f124 (fun _ h9 => h9) rfl dX7_deliveredJammed_8 ?_
      refine lv_icmp_ge (tgt := 30) hx hb dX7_deliveredJammed_11 (by decide) (fun cb_12 => ?_) (fun cb_12 => ?_)
      · skip
        have cn_13 : hp ≤ i_5 := (nI_leI (show hp < 2 ^ 31 by omega) (show i_5 < 2 ^ 31 by omega)).mp cb_12
        refine lv_aload_n hx hb dX7_deliveredJammed_30 rfl (lv_at hl 1 rfl) ?_
        refine lv_iconst (v := (-1)) hx hb dX7_deliveredJammed_31 (by decide) ?_
        refine lv_iload_n hx hb dX7_deliveredJammed_32 rfl (lv_at hl 3 rfl) ?_
        refine ky_Vi (As := [.int (-1), .int (nI nx)]) (rest := []) ⟨hx, hb, hml, hown, hts⟩ ⟨hK, hN⟩ hZ hP hD hS hA [3, 4, 0, 1, 2, 5] [] (wc := [(Mm, .inr (7, [.int zth, .ref Mt, .int (nI tp), .int zma, .int zwr, .ref Mrr, .ref Mrh, .ref Mrc, .int zrh, .int zrc, .ref Mn, .ref Mf, .ref Mr, .ref Mh, .int (nI hp), .int (nI cc), .ref Ma, .ref Mas, .ref Msn, .ref Mac, .ref Mat])), (Mn, .inl (g 0, 1767, .inl F_6)), (Mh, .inl (g 0, 9, .inl fmh)), (Mr, .inl (g 0, 3, .inl fmr)), (Ma, .inl (g 0, 3, .inl fma)), (Mas, .inl (g 0, 1767, .inl fasx_2))]) (wr := []) rfl rfl rfl rfl (by decide) (k_X7_deliveredIn l D g H.size Mm (-1) nx zth Mt tp zma zwr Mrr Mrh Mrc zrh zrc Mn Mf Mr Mh hp cc Ma Mas Msn Mac Mat F_6 fmh fmr fma fasx_2 tb ub (show tb < 2 ^ 27 by omega) (show ub < 2 ^ 27 by omega) (hF_6) (show 1 ≤ hp by omega) (show hp ≤ 3 by omega) (show 1 ≤ cc by omega) (show cc ≤ 3 by omega) (h7) (hf_3) (show nx ≤ 200 by omega)) (cwV 2 hts gX7_deliveredJammed_X7_deliveredIn rfl rfl rfl (by decide +kernel) ⟨(Nat.le_of_ble_eq_true rfl), (Nat.le_of_ble_eq_true rfl)⟩) 3 7 rfl rfl rfl rfl hl.1 rfl (Nat.le_of_ble_eq_true rfl) dX7_deliveredJammed_33 ⟨(Nat.le_of_ble_eq_true rfl), (Nat.le_of_ble_eq_true rfl)⟩ (fun r_14 u H locs hw hP2 hD2 hS2 => ?_)
        clear hP hD hS
        obtain ⟨fnox_15, fmax_16, rfl, hf_17⟩ := hw
        have hPD : PD D A [(Mm, .inr (7, [.int zth, .ref Mt, .int (nI tp), .int zma, .int zwr, .ref Mrr, .ref Mrh, .ref Mrc, .int zrh, .int zrc, .ref Mn, .ref Mf, .ref Mr, .ref Mh, .int (nI hp), .int (nI cc), .ref Ma, .ref Mas, .ref Msn, .ref Mac, .ref Mat])), (Mn, .inl (g 0, 1767, .inl fnox_15)), (Mh, .inl (g 0, 9, .inl fmh)), (Mr, .inl (g 0, 3, .inl fmr)), (Ma, .inl (g 0, 3, .inl fmax_16)), (Mas, .inl (g 0, 1767, .inl fasx_2))] H := ⟨hP2, hD2⟩
        have hS := hS2; clear hP2 hD2 hS2; have hP := hPD.1; have hD := hPD.2; clear hPD
        refine W.widen (k := 0) (n := 0) (Nat.le_of_ble_eq_true rfl) (Nat.le_of_ble_eq_true rfl) ?_
        have hP9 := hP; have hD9 := hD
        subst hQ
        refine W.widen (k := 0) (n := 0) (Nat.le_of_ble_eq_true rfl) (Nat.le_of_ble_eq_true rfl) ?_
        exact W.iret (v := r_14) hx hb hr (fun tS htS _ => ⟨⟨_, _, rfl, ⟨fnox_15, fmax_16, fasx_2, rfl, (hf_17)⟩, by rw [htS]; exact hP9, hD9⟩, hS.F htS⟩) hS.2.2 dX7_deliveredJammed_36
      · skip
        have cn_18 : i_5 < hp := Nat.lt_of_not_le (fun q9 => cb_12 ((nI_leI (show hp < 2 ^ 31 by omega) (show i_5 < 2 ^ 31 by omega)).mpr q9))
        refine lv_aload_n hx hb dX7_deliveredJammed_14 rfl (lv_at hl 1 rfl) ?_
        refine va_get (D := D) (ci := 7) (v := .ref Mn) (C := RX7) (T := TX7) (N := 21) hx hb hts iX7 hown hK hP 3 rfl rfl 10 (by decide) f22 (fun _ h9 => h9) rfl dX7_deliveredJammed_15 ?_
        refine lv_bipush (v := 63) hx hb dX7_deliveredJammed_18 (by decide) ?_
        refine lv_iload_n hx hb dX7_deliveredJammed_20 rfl (lv_at hl 0 rfl) ?_
        refine lv_iadd hx hb dX7_deliveredJammed_21 ?_
        refine lv_eqi (y := (nI (63 + i_5))) (nI_add (63) (i_5)) ?_
        refine lv_iload_n hx hb dX7_deliveredJammed_22 rfl (lv_at hl 2 rfl) ?_
        refine va_iast hx hb hK hP hD hS 4 0 rfl rfl (vp_in_nI (show 63 + i_5 < 1767 by omega) (by decide)) dX7_deliveredJammed_23 (fun H locs hP2 hD2 hS2 => ?_)
        clear hP hD hS
        have hPD : PD D A [(Mh, .inl (g 0, 9, .inl fmh)), (Mr, .inl (g 0, 3, .inl fmr)), (Ma, .inl (g 0, 3, .inl fma)), (Mm, .inr (7, [.int zth, .ref Mt, .int (nI tp), .int zma, .int zwr, .ref Mrr, .ref Mrh, .ref Mrc, .int zrh, .int zrc, .ref Mn, .ref Mf, .ref Mr, .ref Mh, .int (nI hp), .int (nI cc), .ref Ma, .ref Mas, .ref Msn, .ref Mac, .ref Mat])), (Mn, .inl (g 0, 1767, .inl (upd F_6 (nI (63 + i_5)).toNatClampNeg zu))), (Mas, .inl (g 0, 1767, .inl fasx_2))] H := ⟨hP2, hD2⟩
        have hS := hS2; clear hP2 hD2 hS2; have hP := hPD.1; have hD := hPD.2; clear hPD
        rw [nI_clamp (show 63 + i_5 < 2 ^ 31 by omega)] at hP hD
        have hPD : PD D A [(Mh, .inl (g 0, 9, .inl fmh)), (Mr, .inl (g 0, 3, .inl fmr)), (Ma, .inl (g 0, 3, .inl fma)), (Mm, .inr (7, [.int zth, .ref Mt, .int (nI tp), .int zma, .int zwr, .ref Mrr, .ref Mrh, .ref Mrc, .int zrh, .int zrc, .ref Mn, .ref Mf, .ref Mr, .ref Mh, .int (nI hp), .int (nI cc), .ref Ma, .ref Mas, .ref Msn, .ref Mac, .ref Mat])), (Mn, .inl (g 0, 1767, .inl (upd F_6 (63 + i_5) zu))), (Mas, .inl (g 0, 1767, .inl fasx_2))] H := ⟨hP, hD⟩
        clear hP hD; have hP := hPD.1; have hD := hPD.2; clear hPD
        have hF_19 : mOK gs tb ub (upd F_6 (63 + i_5) zu) := mOK_free hF_6 (show mfree (63 + i_5) by unfold mfree; omega)
        generalize upd F_6 (63 + i_5) zu = F_19 at hP hD hF_19
        refine lv_iinc (v := (nI (i_5 + 1))) (lv' := [(3, .int (nI (i_5 + 1))), (0, .ref Mm), (1, .int zu), (2, .int (nI nx))]) hx hb dX7_deliveredJammed_24 hl (k := 0) rfl (nI_1 (i_5)) (by decide) rfl (fun ls hl => ?_)
        refine lv_goto (tgt := 6) hx hb dX7_deliveredJammed_27 (by decide) ?_
        exact loop_11_ih (i_5 + 1) F_19 (hF_19) (show (i_5 + 1) ≤ hp by omega) (show hp - (i_5 + 1) < Nloop_11 by omega) _ _ _ hP hD hS hl
  exact loop_11 _ 0 fno (h2) (show 0 ≤ hp by omega) (Nat.lt_succ_self _) _ _ _ hP hD hS hl

set_option maxHeartbeats 4000000 in
set_option maxRecDepth 100000 in
theorem k_X7_lossOf (l : Launch) (D : va_G) (g : Nat → ClassId) (sz : Nat) {gs : Nat → Int32} (Mm : Nat) (zu : Int32) (nx : Nat) (zth : Int32) (Mt : Nat) (tp : Nat) (zma : Int32) (zwr : Int32) (Mrr : Nat) (Mrh : Nat) (Mrc : Nat) (zrh : Int32) (zrc : Int32) (Mn : Nat) (Mf : Nat) (Mr : Nat) (Mh : Nat) (hp : Nat) (cc : Nat) (Ma : Nat) (Mas : Nat) (Msn : Nat) (Mac : Nat) (Mat : Nat) (fno : Nat → Int32) (fmh : Nat → Int32) (fmr : Nat → Int32) (fma : Nat → Int32) (fas : Nat → Int32) (tb : Nat) (ub : Nat) (h0 : tb < 2 ^ 27) (h1 : ub < 2 ^ 27) (h2 : mOK gs tb ub fno) (h3 : 1 ≤ hp) (h4 : hp ≤ 3) (h5 : 1 ≤ cc) (h6 : cc ≤ 3) (h7 : n3 fmh) (h8 : nx ≤ 200) : Met l yX7_lossOf wsX7_lossOf ({ frames := 9, cells := 0, slots := 0, locals := 202 }) (va_Pc [.ref Mm, .int zu, .int (nI nx)] (pre D g sz [(Mm, .inr (7, [.int zth, .ref Mt, .int (nI tp), .int zma, .int zwr, .ref Mrr, .ref Mrh, .ref Mrc, .int zrh, .int zrc, .ref Mn, .ref Mf, .ref Mr, .ref Mh, .int (nI hp), .int (nI cc), .ref Ma, .ref Mas, .ref Msn, .ref Mac, .ref Mat])), (Mn, .inl (g 0, 1767, .inl fno)), (Mh, .inl (g 0, 9, .inl fmh)), (Mr, .inl (g 0, 3, .inl fmr)), (Ma, .inl (g 0, 3, .inl fma)), (Mas, .inl (g 0, 1767, .inl fas))])) (va_Qi (fun (r : Int32) (u : va_W) => ∃ (fnox : Nat → Int32) (fmax : Nat → Int32) (fasx : Nat → Int32), u = [(Mm, .inr (7, [.int zth, .ref Mt, .int (nI tp), .int zma, .int zwr, .ref Mrr, .ref Mrh, .ref Mrc, .int zrh, .int zrc, .ref Mn, .ref Mf, .ref Mr, .ref Mh, .int (nI hp), .int (nI cc), .ref Ma, .ref Mas, .ref Msn, .ref Mac, .ref Mat])), (Mn, .inl (g 0, 1767, .inl fnox)), (Mh, .inl (g 0, 9, .inl fmh)), (Mr, .inl (g 0, 3, .inl fmr)), (Ma, .inl (g 0, 3, .inl fmax)), (Mas, .inl (g 0, 1767, .inl fasx))] ∧ (mOK gs tb ub fnox)) (wd D (va_A [(Mm, .inr (7, [.int zth, .ref Mt, .int (nI tp), .int zma, .int zwr, .ref Mrr, .ref Mrh, .ref Mrc, .int zrh, .int zrc, .ref Mn, .ref Mf, .ref Mr, .ref Mh, .int (nI hp), .int (nI cc), .ref Ma, .ref Mas, .ref Msn, .ref Mac, .ref Mat])), (Mn, .inl (g 0, 1767, .inl fno)), (Mh, .inl (g 0, 9, .inl fmh)), (Mr, .inl (g 0, 3, .inl fmr)), (Ma, .inl (g 0, 3, .inl fma)), (Mas, .inl (g 0, 1767, .inl fas))] sz)) (va_A [(Mm, .inr (7, [.int zth, .ref Mt, .int (nI tp), .int zma, .int zwr, .ref Mrr, .ref Mrh, .ref Mrc, .int zrh, .int zrc, .ref Mn, .ref Mf, .ref Mr, .ref Mh, .int (nI hp), .int (nI cc), .ref Ma, .ref Mas, .ref Msn, .ref Mac, .ref Mat])), (Mn, .inl (g 0, 1767, .inl fno)), (Mh, .inl (g 0, 9, .inl fmh)), (Mr, .inl (g 0, 3, .inl fmr)), (Ma, .inl (g 0, 3, .inl fma)), (Mas, .inl (g 0, 1767, .inl fas))] sz)) 0 0 (va_A [(Mm, .inr (7, [.int zth, .ref Mt, .int (nI tp), .int zma, .int zwr, .ref Mrr, .ref Mrh, .ref Mrc, .int zrh, .int zrc, .ref Mn, .ref Mf, .ref Mr, .ref Mh, .int (nI hp), .int (nI cc), .ref Ma, .ref Mas, .ref Msn, .ref Mac, .ref Mat])), (Mn, .inl (g 0, 1767, .inl fno)), (Mh, .inl (g 0, 9, .inl fmh)), (Mr, .inl (g 0, 3, .inl fmr)), (Ma, .inl (g 0, 3, .inl fma)), (Mas, .inl (g 0, 1767, .inl fas))] sz) := by
  refine Met.ofW (cc := cX7_lossOf) (maxL := 4) (ret := (some .int)) (by decide) rfl ?_
  intro p e s m args below meth c s₁ B hml hv
  obtain ⟨rfl, hsz, hP, ⟨hK, hN⟩, hD0, hZ⟩ := hv
  have hx := B.exec
  have hb := B.bytes
  have hr := B.returns
  have hts := atoms_spec (ws := wsX7_lossOf) B.pre
  have hown : s.vm.findClass RX7 = some m.cls := findClass_of_methodNamed B.named
  have hlocks := B.notSynchronized
  clear B
  subst hsz
  have hD := hD0.self (sz := s.heap.size)
  clear hD0
  generalize hAe : va_A [(Mm, .inr (7, [.int zth, .ref Mt, .int (nI tp), .int zma, .int zwr, .ref Mrr, .ref Mrh, .ref Mrc, .int zrh, .int zrc, .ref Mn, .ref Mf, .ref Mr, .ref Mh, .int (nI hp), .int (nI cc), .ref Ma, .ref Mas, .ref Msn, .ref Mac, .ref Mat])), (Mn, .inl (g 0, 1767, .inl fno)), (Mh, .inl (g 0, 9, .inl fmh)), (Mr, .inl (g 0, 3, .inl fmr)), (Ma, .inl (g 0, 3, .inl fma)), (Mas, .inl (g 0, 1767, .inl fas))] s.heap.size = A at hD hZ ⊢
  have hA : ∀ q : Nat, s.heap.size ≤ q → A q := fun q h => by rw [← hAe]; exact Or.inr h
  have hS : va_S A s.heap s.heap [] := va_S.rf
  have hl := lv_entry ([.ref Mm, .int zu, .int (nI nx)]) (n := 4) (Nat.le_of_ble_eq_true rfl)
  rw [lg_entry_eq]
  generalize (lg_sl ([.ref Mm, .int zu, .int (nI nx)]) ++ List.replicate (4 - (lg_sl ([.ref Mm, .int zu, .int (nI nx)])).length) Slot.unset).toArray = ls at hl ⊢
  have hl : lv_has ls 4 [(0, .ref Mm), (1, .int zu), (2, .int (nI nx))] := hl
  generalize hQ : MQ below _ _ s _ _ _ = Q
  generalize hH : s.heap = H at hP ⊢
  have hS : va_S A s.heap H [] := by rw [← hH]; exact hS
  clear hH
  refine lv_aload_n hx hb dX7_lossOf_0 rfl (lv_at hl 0 rfl) ?_
  refine ky_Vv (As := []) (rest := []) ⟨hx, hb, hml, hown, hts⟩ ⟨hK, hN⟩ hZ hP hD hS hA [0, 1, 5] [2, 3, 4] (wc := [(Mm, .inr (7, [.int zth, .ref Mt, .int (nI tp), .int zma, .int zwr, .ref Mrr, .ref Mrh, .ref Mrc, .int zrh, .int zrc, .ref Mn, .ref Mf, .ref Mr, .ref Mh, .int (nI hp), .int (nI cc), .ref Ma, .ref Mas, .ref Msn, .ref Mac, .ref Mat])), (Mn, .inl (g 0, 1767, .inl fno)), (Mas, .inl (g 0, 1767, .inl fas))]) (wr := [(Mh, .inl (g 0, 9, .inl fmh)), (Mr, .inl (g 0, 3, .inl fmr)), (Ma, .inl (g 0, 3, .inl fma))]) rfl rfl rfl rfl (by decide) (k_X7_putAside l D g H.size Mm zth Mt tp zma zwr Mrr Mrh Mrc zrh zrc Mn Mf Mr Mh hp cc Ma Mas Msn Mac Mat fno fas tb ub (h2)) (cwV 0 hts gX7_lossOf_X7_putAside rfl rfl rfl (by decide +kernel) ⟨(Nat.le_of_ble_eq_true rfl), (Nat.le_of_ble_eq_true rfl)⟩) 0 7 rfl rfl rfl rfl hl.1 rfl (Nat.le_of_ble_eq_true rfl) dX7_lossOf_1 ⟨(Nat.le_of_ble_eq_true rfl), (Nat.le_of_ble_eq_true rfl)⟩ (fun u H locs hw hP2 hD2 hS2 => ?_)
  clear hP hD hS
  obtain ⟨fasx_2, rfl, hf_3⟩ := hw
  have hPD : PD D A [(Mh, .inl (g 0, 9, .inl fmh)), (Mr, .inl (g 0, 3, .inl fmr)), (Ma, .inl (g 0, 3, .inl fma)), (Mm, .inr (7, [.int zth, .ref Mt, .int (nI tp), .int zma, .int zwr, .ref Mrr, .ref Mrh, .ref Mrc, .int zrh, .int zrc, .ref Mn, .ref Mf, .ref Mr, .ref Mh, .int (nI hp), .int (nI cc), .ref Ma, .ref Mas, .ref Msn, .ref Mac, .ref Mat])), (Mn, .inl (g 0, 1767, .inl fno)), (Mas, .inl (g 0, 1767, .inl fasx_2))] H := ⟨hP2, hD2⟩
  have hS := hS2; clear hP2 hD2 hS2; have hP := hPD.1; have hD := hPD.2; clear hPD
  refine W.widen (k := 0) (n := 0) (Nat.le_of_ble_eq_true rfl) (Nat.le_of_ble_eq_true rfl) ?_
  refine lv_aload_n hx hb dX7_lossOf_4 rfl (lv_at hl 0 rfl) ?_
  refine lv_iconst (v := (-1)) hx hb dX7_lossOf_5 (by decide) ?_
  refine lv_iload_n hx hb dX7_lossOf_6 rfl (lv_at hl 2 rfl) ?_
  refine ky_Vi (As := [.int (-1), .int (nI nx)]) (rest := []) ⟨hx, hb, hml, hown, hts⟩ ⟨hK, hN⟩ hZ hP hD hS hA [3, 4, 0, 1, 2, 5] [] (wc := [(Mm, .inr (7, [.int zth, .ref Mt, .int (nI tp), .int zma, .int zwr, .ref Mrr, .ref Mrh, .ref Mrc, .int zrh, .int zrc, .ref Mn, .ref Mf, .ref Mr, .ref Mh, .int (nI hp), .int (nI cc), .ref Ma, .ref Mas, .ref Msn, .ref Mac, .ref Mat])), (Mn, .inl (g 0, 1767, .inl fno)), (Mh, .inl (g 0, 9, .inl fmh)), (Mr, .inl (g 0, 3, .inl fmr)), (Ma, .inl (g 0, 3, .inl fma)), (Mas, .inl (g 0, 1767, .inl fasx_2))]) (wr := []) rfl rfl rfl rfl (by decide) (k_X7_deliveredIn l D g H.size Mm (-1) nx zth Mt tp zma zwr Mrr Mrh Mrc zrh zrc Mn Mf Mr Mh hp cc Ma Mas Msn Mac Mat fno fmh fmr fma fasx_2 tb ub (show tb < 2 ^ 27 by omega) (show ub < 2 ^ 27 by omega) (h2) (show 1 ≤ hp by omega) (show hp ≤ 3 by omega) (show 1 ≤ cc by omega) (show cc ≤ 3 by omega) (h7) (hf_3) (show nx ≤ 200 by omega)) (cwV 2 hts gX7_lossOf_X7_deliveredIn rfl rfl rfl (by decide +kernel) ⟨(Nat.le_of_ble_eq_true rfl), (Nat.le_of_ble_eq_true rfl)⟩) 3 7 rfl rfl rfl rfl hl.1 rfl (Nat.le_of_ble_eq_true rfl) dX7_lossOf_7 ⟨(Nat.le_of_ble_eq_true rfl), (Nat.le_of_ble_eq_true rfl)⟩ (fun r_4 u H locs hw hP2 hD2 hS2 => ?_)
  clear hP hD hS
  obtain ⟨fnox_5, fmax_6, rfl, hf_7⟩ := hw
  have hPD : PD D A [(Mm, .inr (7, [.int zth, .ref Mt, .int (nI tp), .int zma, .int zwr, .ref Mrr, .ref Mrh, .ref Mrc, .int zrh, .int zrc, .ref Mn, .ref Mf, .ref Mr, .ref Mh, .int (nI hp), .int (nI cc), .ref Ma, .ref Mas, .ref Msn, .ref Mac, .ref Mat])), (Mn, .inl (g 0, 1767, .inl fnox_5)), (Mh, .inl (g 0, 9, .inl fmh)), (Mr, .inl (g 0, 3, .inl fmr)), (Ma, .inl (g 0, 3, .inl fmax_6)), (Mas, .inl (g 0, 1767, .inl fasx_2))] H := ⟨hP2, hD2⟩
  have hS := hS2; clear hP2 hD2 hS2; have hP := hPD.1; have hD := hPD.2; clear hPD
  refine W.widen (k := 0) (n := 0) (Nat.le_of_ble_eq_true rfl) (Nat.le_of_ble_eq_true rfl) ?_
  refine lv_istore_n (lv' := [(3, .int r_4), (0, .ref Mm), (1, .int zu), (2, .int (nI nx))]) hx hb dX7_lossOf_10 rfl hl (by decide) rfl (fun ls hl => ?_)
  refine lv_iload_n hx hb dX7_lossOf_11 rfl (lv_at hl 0 rfl) ?_
  refine lv_aload_n hx hb dX7_lossOf_12 rfl (lv_at hl 1 rfl) ?_
  refine lv_iload_n hx hb dX7_lossOf_13 rfl (lv_at hl 2 rfl) ?_
  refine lv_iload_n hx hb dX7_lossOf_14 rfl (lv_at hl 3 rfl) ?_
  refine ky_Vi (As := [.int zu, .int (nI nx)]) (rest := [.int r_4]) ⟨hx, hb, hml, hown, hts⟩ ⟨hK, hN⟩ hZ hP hD hS hA [0, 1, 2, 3, 4, 5] [] (wc := [(Mm, .inr (7, [.int zth, .ref Mt, .int (nI tp), .int zma, .int zwr, .ref Mrr, .ref Mrh, .ref Mrc, .int zrh, .int zrc, .ref Mn, .ref Mf, .ref Mr, .ref Mh, .int (nI hp), .int (nI cc), .ref Ma, .ref Mas, .ref Msn, .ref Mac, .ref Mat])), (Mn, .inl (g 0, 1767, .inl fnox_5)), (Mh, .inl (g 0, 9, .inl fmh)), (Mr, .inl (g 0, 3, .inl fmr)), (Ma, .inl (g 0, 3, .inl fmax_6)), (Mas, .inl (g 0, 1767, .inl fasx_2))]) (wr := []) rfl rfl rfl rfl (by decide) (k_X7_deliveredJammed l D g H.size Mm zu nx zth Mt tp zma zwr Mrr Mrh Mrc zrh zrc Mn Mf Mr Mh hp cc Ma Mas Msn Mac Mat fnox_5 fmh fmr fmax_6 fasx_2 tb ub (show tb < 2 ^ 27 by omega) (show ub < 2 ^ 27 by omega) (hf_7) (show 1 ≤ hp by omega) (show hp ≤ 3 by omega) (show 1 ≤ cc by omega) (show cc ≤ 3 by omega) (h7) (show nx ≤ 200 by omega)) (cwV 2 hts gX7_lossOf_X7_deliveredJammed rfl rfl rfl (by decide +kernel) ⟨(Nat.le_of_ble_eq_true rfl), (Nat.le_of_ble_eq_true rfl)⟩) 0 7 rfl rfl rfl rfl hl.1 rfl (Nat.le_of_ble_eq_true rfl) dX7_lossOf_15 ⟨(Nat.le_of_ble_eq_true rfl), (Nat.le_of_ble_eq_true rfl)⟩ (fun r_8 u H locs hw hP2 hD2 hS2 => ?_)
  clear hP hD hS
  obtain ⟨fnox_9, fmax_10, fasx_11, rfl, hf_12⟩ := hw
  have hPD : PD D A [(Mm, .inr (7, [.int zth, .ref Mt, .int (nI tp), .int zma, .int zwr, .ref Mrr, .ref Mrh, .ref Mrc, .int zrh, .int zrc, .ref Mn, .ref Mf, .ref Mr, .ref Mh, .int (nI hp), .int (nI cc), .ref Ma, .ref Mas, .ref Msn, .ref Mac, .ref Mat])), (Mn, .inl (g 0, 1767, .inl fnox_9)), (Mh, .inl (g 0, 9, .inl fmh)), (Mr, .inl (g 0, 3, .inl fmr)), (Ma, .inl (g 0, 3, .inl fmax_10)), (Mas, .inl (g 0, 1767, .inl fasx_11))] H := ⟨hP2, hD2⟩
  have hS := hS2; clear hP2 hD2 hS2; have hP := hPD.1; have hD := hPD.2; clear hPD
  refine W.widen (k := 0) (n := 0) (Nat.le_of_ble_eq_true rfl) (Nat.le_of_ble_eq_true rfl) ?_
  refine lv_isub hx hb dX7_lossOf_18 ?_
  refine lv_topi (fun y_13 _ => ?_)
  have hP9 := hP; have hD9 := hD
  subst hQ
  refine W.widen (k := 0) (n := 0) (Nat.le_of_ble_eq_true rfl) (Nat.le_of_ble_eq_true rfl) ?_
  exact W.iret (v := y_13) hx hb hr (fun tS htS _ => ⟨⟨_, _, rfl, ⟨fnox_9, fmax_10, fasx_11, rfl, (hf_12)⟩, by rw [htS]; exact hP9, hD9⟩, hS.F htS⟩) hS.2.2 dX7_lossOf_19

set_option maxHeartbeats 4000000 in
set_option maxRecDepth 100000 in
theorem k_X7_loss (l : Launch) (D : va_G) (g : Nat → ClassId) (sz : Nat) {gs : Nat → Int32} (Mm : Nat) (zu : Int32) (zk : Int32) (zth : Int32) (Mt : Nat) (tp : Nat) (zma : Int32) (zwr : Int32) (Mrr : Nat) (Mrh : Nat) (Mrc : Nat) (zrh : Int32) (zrc : Int32) (Mn : Nat) (Mf : Nat) (Mr : Nat) (Mh : Nat) (hp : Nat) (cc : Nat) (Ma : Nat) (Mas : Nat) (Msn : Nat) (Mac : Nat) (Mat : Nat) (fno : Nat → Int32) (fmh : Nat → Int32) (fmr : Nat → Int32) (fma : Nat → Int32) (fas : Nat → Int32) (tb : Nat) (ub : Nat) (h0 : tb < 2 ^ 27) (h1 : ub < 2 ^ 27) (h2 : mOK gs tb ub fno) (h3 : 1 ≤ hp) (h4 : hp ≤ 3) (h5 : 1 ≤ cc) (h6 : cc ≤ 3) (h7 : n3 fmh) : Met l yX7_loss wsX7_loss ({ frames := 10, cells := 0, slots := 0, locals := 225 }) (va_Pc [.ref Mm, .int zu, .int zk] (pre D g sz [(Mm, .inr (7, [.int zth, .ref Mt, .int (nI tp), .int zma, .int zwr, .ref Mrr, .ref Mrh, .ref Mrc, .int zrh, .int zrc, .ref Mn, .ref Mf, .ref Mr, .ref Mh, .int (nI hp), .int (nI cc), .ref Ma, .ref Mas, .ref Msn, .ref Mac, .ref Mat])), (Mn, .inl (g 0, 1767, .inl fno)), (Mh, .inl (g 0, 9, .inl fmh)), (Mr, .inl (g 0, 3, .inl fmr)), (Ma, .inl (g 0, 3, .inl fma)), (Mas, .inl (g 0, 1767, .inl fas))])) (va_Qi (fun (r : Int32) (u : va_W) => ∃ (zthx : Int32) (fnox : Nat → Int32) (fmax : Nat → Int32) (fasx : Nat → Int32), u = [(Mm, .inr (7, [.int zthx, .ref Mt, .int (nI tp), .int zma, .int zwr, .ref Mrr, .ref Mrh, .ref Mrc, .int zrh, .int zrc, .ref Mn, .ref Mf, .ref Mr, .ref Mh, .int (nI hp), .int (nI cc), .ref Ma, .ref Mas, .ref Msn, .ref Mac, .ref Mat])), (Mn, .inl (g 0, 1767, .inl fnox)), (Mh, .inl (g 0, 9, .inl fmh)), (Mr, .inl (g 0, 3, .inl fmr)), (Ma, .inl (g 0, 3, .inl fmax)), (Mas, .inl (g 0, 1767, .inl fasx))] ∧ (mOK gs tb ub fnox)) (wd D (va_A [(Mm, .inr (7, [.int zth, .ref Mt, .int (nI tp), .int zma, .int zwr, .ref Mrr, .ref Mrh, .ref Mrc, .int zrh, .int zrc, .ref Mn, .ref Mf, .ref Mr, .ref Mh, .int (nI hp), .int (nI cc), .ref Ma, .ref Mas, .ref Msn, .ref Mac, .ref Mat])), (Mn, .inl (g 0, 1767, .inl fno)), (Mh, .inl (g 0, 9, .inl fmh)), (Mr, .inl (g 0, 3, .inl fmr)), (Ma, .inl (g 0, 3, .inl fma)), (Mas, .inl (g 0, 1767, .inl fas))] sz)) (va_A [(Mm, .inr (7, [.int zth, .ref Mt, .int (nI tp), .int zma, .int zwr, .ref Mrr, .ref Mrh, .ref Mrc, .int zrh, .int zrc, .ref Mn, .ref Mf, .ref Mr, .ref Mh, .int (nI hp), .int (nI cc), .ref Ma, .ref Mas, .ref Msn, .ref Mac, .ref Mat])), (Mn, .inl (g 0, 1767, .inl fno)), (Mh, .inl (g 0, 9, .inl fmh)), (Mr, .inl (g 0, 3, .inl fmr)), (Ma, .inl (g 0, 3, .inl fma)), (Mas, .inl (g 0, 1767, .inl fas))] sz)) 0 0 (va_A [(Mm, .inr (7, [.int zth, .ref Mt, .int (nI tp), .int zma, .int zwr, .ref Mrr, .ref Mrh, .ref Mrc, .int zrh, .int zrc, .ref Mn, .ref Mf, .ref Mr, .ref Mh, .int (nI hp), .int (nI cc), .ref Ma, .ref Mas, .ref Msn, .ref Mac, .ref Mat])), (Mn, .inl (g 0, 1767, .inl fno)), (Mh, .inl (g 0, 9, .inl fmh)), (Mr, .inl (g 0, 3, .inl fmr)), (Ma, .inl (g 0, 3, .inl fma)), (Mas, .inl (g 0, 1767, .inl fas))] sz) := by
  refine Met.ofW (cc := cX7_loss) (maxL := 3) (ret := (some .int)) (by decide) rfl ?_
  intro p e s m args below meth c s₁ B hml hv
  obtain ⟨rfl, hsz, hP, ⟨hK, hN⟩, hD0, hZ⟩ := hv
  have hx := B.exec
  have hb := B.bytes
  have hr := B.returns
  have hts := atoms_spec (ws := wsX7_loss) B.pre
  have hown : s.vm.findClass RX7 = some m.cls := findClass_of_methodNamed B.named
  have hlocks := B.notSynchronized
  clear B
  subst hsz
  have hD := hD0.self (sz := s.heap.size)
  clear hD0
  generalize hAe : va_A [(Mm, .inr (7, [.int zth, .ref Mt, .int (nI tp), .int zma, .int zwr, .ref Mrr, .ref Mrh, .ref Mrc, .int zrh, .int zrc, .ref Mn, .ref Mf, .ref Mr, .ref Mh, .int (nI hp), .int (nI cc), .ref Ma, .ref Mas, .ref Msn, .ref Mac, .ref Mat])), (Mn, .inl (g 0, 1767, .inl fno)), (Mh, .inl (g 0, 9, .inl fmh)), (Mr, .inl (g 0, 3, .inl fmr)), (Ma, .inl (g 0, 3, .inl fma)), (Mas, .inl (g 0, 1767, .inl fas))] s.heap.size = A at hD hZ ⊢
  have hA : ∀ q : Nat, s.heap.size ≤ q → A q := fun q h => by rw [← hAe]; exact Or.inr h
  have hS : va_S A s.heap s.heap [] := va_S.rf
  have f49 := hts (.fieldLink RX7 49 "HopCreditsModel" "thrown" "I") (List.mem_of_getElem? (i := 1) rfl)
  have k236 := hts (.constant RX7 236 (-1000000)) (List.mem_of_getElem? (i := 2) rfl)
  have iX7 : ∀ w ∈ u_ws RX7 TX7 21, w ∈ wsX7_loss := fun w h => List.mem_cons_of_mem _ (List.mem_append_right _ (h))
  have hl := lv_entry ([.ref Mm, .int zu, .int zk]) (n := 3) (Nat.le_of_ble_eq_true rfl)
  rw [lg_entry_eq]
  generalize (lg_sl ([.ref Mm, .int zu, .int zk]) ++ List.replicate (3 - (lg_sl ([.ref Mm, .int zu, .int zk])).length) Slot.unset).toArray = ls at hl ⊢
  have hl : lv_has ls 3 [(0, .ref Mm), (1, .int zu), (2, .int zk)] := hl
  generalize hQ : MQ below _ _ s _ _ _ = Q
  generalize hH : s.heap = H at hP ⊢
  have hS : va_S A s.heap H [] := by rw [← hH]; exact hS
  clear hH
  refine lv_aload_n hx hb dX7_loss_0 rfl (lv_at hl 0 rfl) ?_
  refine lv_iconst (v := 0) hx hb dX7_loss_1 (by decide) ?_
  refine va_put (D := D) (ci := 7) (v := .int 0) (ty := .int) (C := RX7) (T := TX7) (N := 21) hx hb hts iX7 tyX7 tyX7_ok nmX7 hown hK hP hD hS 0 rfl rfl 0 (by decide) f49 (fun _ h9 => h9) rfl (by decide +kernel) (rfl) (rfl) (Nat.le_of_ble_eq_true rfl) dX7_loss_2 (fun H locs hP2 hD2 hS2 => ?_)
  clear hP hD hS
  have hPD : PD D A [(Mm, .inr (7, [.int 0, .ref Mt, .int (nI tp), .int zma, .int zwr, .ref Mrr, .ref Mrh, .ref Mrc, .int zrh, .int zrc, .ref Mn, .ref Mf, .ref Mr, .ref Mh, .int (nI hp), .int (nI cc), .ref Ma, .ref Mas, .ref Msn, .ref Mac, .ref Mat])), (Mn, .inl (g 0, 1767, .inl fno)), (Mh, .inl (g 0, 9, .inl fmh)), (Mr, .inl (g 0, 3, .inl fmr)), (Ma, .inl (g 0, 3, .inl fma)), (Mas, .inl (g 0, 1767, .inl fas))] H := ⟨hP2, hD2⟩
  have hS := hS2; clear hP2 hD2 hS2; have hP := hPD.1; have hD := hPD.2; clear hPD
  refine lv_aload_n hx hb dX7_loss_5 rfl (lv_at hl 0 rfl) ?_
  refine ky_Vi (As := []) (rest := []) ⟨hx, hb, hml, hown, hts⟩ ⟨hK, hN⟩ hZ hP hD hS hA [0] [1, 2, 3, 4, 5] (wc := [(Mm, .inr (7, [.int 0, .ref Mt, .int (nI tp), .int zma, .int zwr, .ref Mrr, .ref Mrh, .ref Mrc, .int zrh, .int zrc, .ref Mn, .ref Mf, .ref Mr, .ref Mh, .int (nI hp), .int (nI cc), .ref Ma, .ref Mas, .ref Msn, .ref Mac, .ref Mat]))]) (wr := [(Mn, .inl (g 0, 1767, .inl fno)), (Mh, .inl (g 0, 9, .inl fmh)), (Mr, .inl (g 0, 3, .inl fmr)), (Ma, .inl (g 0, 3, .inl fma)), (Mas, .inl (g 0, 1767, .inl fas))]) rfl rfl rfl rfl (by decide) (k_X7_isNet l D g H.size Mm 0 Mt tp zma zwr Mrr Mrh Mrc zrh zrc Mn Mf Mr Mh hp cc Ma Mas Msn Mac Mat (show 1 ≤ hp by omega) (show hp ≤ 3 by omega)) (cwV 0 hts gX7_loss_X7_isNet rfl rfl rfl (by decide +kernel) ⟨(Nat.le_of_ble_eq_true rfl), (Nat.le_of_ble_eq_true rfl)⟩) 0 7 rfl rfl rfl rfl hl.1 rfl (Nat.le_of_ble_eq_true rfl) dX7_loss_6 ⟨(Nat.le_of_ble_eq_true rfl), (Nat.le_of_ble_eq_true rfl)⟩ (fun r_1 u H locs hw hP2 hD2 hS2 => ?_)
  clear hP hD hS
  obtain ⟨rfl, rfl⟩ := hw
  have hPD : PD D A [(Mn, .inl (g 0, 1767, .inl fno)), (Mh, .inl (g 0, 9, .inl fmh)), (Mr, .inl (g 0, 3, .inl fmr)), (Ma, .inl (g 0, 3, .inl fma)), (Mas, .inl (g 0, 1767, .inl fas)), (Mm, .inr (7, [.int 0, .ref Mt, .int (nI tp), .int zma, .int zwr, .ref Mrr, .ref Mrh, .ref Mrc, .int zrh, .int zrc, .ref Mn, .ref Mf, .ref Mr, .ref Mh, .int (nI hp), .int (nI cc), .ref Ma, .ref Mas, .ref Msn, .ref Mac, .ref Mat]))] H := ⟨hP2, hD2⟩
  have hS := hS2; clear hP2 hD2 hS2; have hP := hPD.1; have hD := hPD.2; clear hPD
  refine W.widen (k := 0) (n := 0) (Nat.le_of_ble_eq_true rfl) (Nat.le_of_ble_eq_true rfl) ?_
  refine lv_if_eq (tgt := 39) hx hb dX7_loss_9 (by decide) (fun cb => absurd cb (by decide)) (fun _ => ?_)
  refine lv_iload_n hx hb dX7_loss_12 rfl (lv_at hl 1 rfl) ?_
  refine lv_iconst (v := 1) hx hb dX7_loss_13 (by decide) ?_
  refine lv_bipush (v := 9) hx hb dX7_loss_14 (by decide) ?_
  refine ky_Si (As := [.int zu, .int 1, .int 9]) (rest := []) ⟨hx, hb, hml, hown, hts⟩ ⟨hK, hN⟩ hZ hP hD hS hA [] [0, 1, 2, 3, 4, 5] (wc := []) (wr := [(Mn, .inl (g 0, 1767, .inl fno)), (Mh, .inl (g 0, 9, .inl fmh)), (Mr, .inl (g 0, 3, .inl fmr)), (Ma, .inl (g 0, 3, .inl fma)), (Mas, .inl (g 0, 1767, .inl fas)), (Mm, .inr (7, [.int 0, .ref Mt, .int (nI tp), .int zma, .int zwr, .ref Mrr, .ref Mrh, .ref Mrc, .int zrh, .int zrc, .ref Mn, .ref Mf, .ref Mr, .ref Mh, .int (nI hp), .int (nI cc), .ref Ma, .ref Mas, .ref Msn, .ref Mac, .ref Mat]))]) rfl rfl rfl rfl (by decide) (k_X7_in l D g H.size zu 1 9) (va_cwS 3 hts gX7_loss_X7_in rfl rfl rfl (by decide +kernel) ⟨(Nat.le_of_ble_eq_true rfl), (Nat.le_of_ble_eq_true rfl)⟩) rfl hl.1 rfl (Nat.le_of_ble_eq_true rfl) dX7_loss_16 ⟨(Nat.le_of_ble_eq_true rfl), (Nat.le_of_ble_eq_true rfl)⟩ (fun r_2 u H locs hw hP2 hD2 hS2 => ?_)
  clear hP hD hS
  obtain ⟨rfl, rfl⟩ := hw
  have hPD : PD D A [(Mn, .inl (g 0, 1767, .inl fno)), (Mh, .inl (g 0, 9, .inl fmh)), (Mr, .inl (g 0, 3, .inl fmr)), (Ma, .inl (g 0, 3, .inl fma)), (Mas, .inl (g 0, 1767, .inl fas)), (Mm, .inr (7, [.int 0, .ref Mt, .int (nI tp), .int zma, .int zwr, .ref Mrr, .ref Mrh, .ref Mrc, .int zrh, .int zrc, .ref Mn, .ref Mf, .ref Mr, .ref Mh, .int (nI hp), .int (nI cc), .ref Ma, .ref Mas, .ref Msn, .ref Mac, .ref Mat]))] H := ⟨hP2, hD2⟩
  have hS := hS2; clear hP2 hD2 hS2; have hP := hPD.1; have hD := hPD.2; clear hPD
  refine W.widen (k := 0) (n := 0) (Nat.le_of_ble_eq_true rfl) (Nat.le_of_ble_eq_true rfl) ?_
  refine lv_if_eq (tgt := 39) hx hb dX7_loss_19 (by decide) (fun cb_3 => ?_) (fun cb_3 => ?_)
  · skip
    have hq_4 : ¬ (1 ≤ zu ∧ zu ≤ 9) := b01_0.mp cb_3
    refine lv_ldc (v := (-1000000)) hx hb hown k236 dX7_loss_39 ?_
    have hPD9 : PD D A [(Mm, .inr (7, [.int 0, .ref Mt, .int (nI tp), .int zma, .int zwr, .ref Mrr, .ref Mrh, .ref Mrc, .int zrh, .int zrc, .ref Mn, .ref Mf, .ref Mr, .ref Mh, .int (nI hp), .int (nI cc), .ref Ma, .ref Mas, .ref Msn, .ref Mac, .ref Mat])), (Mn, .inl (g 0, 1767, .inl fno)), (Mh, .inl (g 0, 9, .inl fmh)), (Mr, .inl (g 0, 3, .inl fmr)), (Ma, .inl (g 0, 3, .inl fma)), (Mas, .inl (g 0, 1767, .inl fas))] H := ⟨hP.sub [5, 0, 1, 2, 3, 4] rfl, hD.sub [5, 0, 1, 2, 3, 4] (by decide) rfl⟩
    have hP9 := hPD9.1; have hD9 := hPD9.2
    subst hQ
    refine W.widen (k := 0) (n := 0) (Nat.le_of_ble_eq_true rfl) (Nat.le_of_ble_eq_true rfl) ?_
    exact W.iret (v := (-1000000)) hx hb hr (fun tS htS _ => ⟨⟨_, _, rfl, ⟨0, fno, fma, fas, rfl, (h2)⟩, by rw [htS]; exact hP9, hD9⟩, hS.F htS⟩) hS.2.2 dX7_loss_41
  · skip
    have hq_5 : 1 ≤ zu ∧ zu ≤ 9 := b01_1.mp cb_3
    have hPq_9 := hP; have hDq_9 := hD; have hSq_9 := hS; have hlq_9 := hl; clear hP hD hS hl
    obtain ⟨j_6, hl_7, hu_8, rfl⟩ := rg (L := 1) (U := 9) rfl rfl (show 1 < 2 ^ 31 by omega) (show 9 < 2 ^ 31 by omega) hq_5
    have hP := hPq_9; have hD := hDq_9; have hS := hSq_9; have hl := hlq_9; clear hPq_9 hDq_9 hSq_9 hlq_9
    refine lv_iload_n hx hb dX7_loss_22 rfl (lv_at hl 2 rfl) ?_
    refine lv_iconst (v := 1) hx hb dX7_loss_23 (by decide) ?_
    refine ky_Si (As := [.int zk, .int 1]) (rest := []) ⟨hx, hb, hml, hown, hts⟩ ⟨hK, hN⟩ hZ hP hD hS hA [] [0, 1, 2, 3, 4, 5] (wc := []) (wr := [(Mn, .inl (g 0, 1767, .inl fno)), (Mh, .inl (g 0, 9, .inl fmh)), (Mr, .inl (g 0, 3, .inl fmr)), (Ma, .inl (g 0, 3, .inl fma)), (Mas, .inl (g 0, 1767, .inl fas)), (Mm, .inr (7, [.int 0, .ref Mt, .int (nI tp), .int zma, .int zwr, .ref Mrr, .ref Mrh, .ref Mrc, .int zrh, .int zrc, .ref Mn, .ref Mf, .ref Mr, .ref Mh, .int (nI hp), .int (nI cc), .ref Ma, .ref Mas, .ref Msn, .ref Mac, .ref Mat]))]) rfl rfl rfl rfl (by decide) (k_X7_isSpan l D g H.size zk 1) (va_cwS 2 hts gX7_loss_X7_isSpan rfl rfl rfl (by decide +kernel) ⟨(Nat.le_of_ble_eq_true rfl), (Nat.le_of_ble_eq_true rfl)⟩) rfl hl.1 rfl (Nat.le_of_ble_eq_true rfl) dX7_loss_24 ⟨(Nat.le_of_ble_eq_true rfl), (Nat.le_of_ble_eq_true rfl)⟩ (fun r_10 u H locs hw hP2 hD2 hS2 => ?_)
    clear hP hD hS
    obtain ⟨rfl, rfl⟩ := hw
    have hPD : PD D A [(Mn, .inl (g 0, 1767, .inl fno)), (Mh, .inl (g 0, 9, .inl fmh)), (Mr, .inl (g 0, 3, .inl fmr)), (Ma, .inl (g 0, 3, .inl fma)), (Mas, .inl (g 0, 1767, .inl fas)), (Mm, .inr (7, [.int 0, .ref Mt, .int (nI tp), .int zma, .int zwr, .ref Mrr, .ref Mrh, .ref Mrc, .int zrh, .int zrc, .ref Mn, .ref Mf, .ref Mr, .ref Mh, .int (nI hp), .int (nI cc), .ref Ma, .ref Mas, .ref Msn, .ref Mac, .ref Mat]))] H := ⟨hP2, hD2⟩
    have hS := hS2; clear hP2 hD2 hS2; have hP := hPD.1; have hD := hPD.2; clear hPD
    refine W.widen (k := 0) (n := 0) (Nat.le_of_ble_eq_true rfl) (Nat.le_of_ble_eq_true rfl) ?_
    refine lv_if_eq (tgt := 39) hx hb dX7_loss_27 (by decide) (fun cb_11 => ?_) (fun cb_11 => ?_)
    · skip
      have hq_12 : ¬ (1 ≤ zk ∧ zk ≤ 200) := b01_0.mp cb_11
      refine lv_ldc (v := (-1000000)) hx hb hown k236 dX7_loss_39 ?_
      have hPD9 : PD D A [(Mm, .inr (7, [.int 0, .ref Mt, .int (nI tp), .int zma, .int zwr, .ref Mrr, .ref Mrh, .ref Mrc, .int zrh, .int zrc, .ref Mn, .ref Mf, .ref Mr, .ref Mh, .int (nI hp), .int (nI cc), .ref Ma, .ref Mas, .ref Msn, .ref Mac, .ref Mat])), (Mn, .inl (g 0, 1767, .inl fno)), (Mh, .inl (g 0, 9, .inl fmh)), (Mr, .inl (g 0, 3, .inl fmr)), (Ma, .inl (g 0, 3, .inl fma)), (Mas, .inl (g 0, 1767, .inl fas))] H := ⟨hP.sub [5, 0, 1, 2, 3, 4] rfl, hD.sub [5, 0, 1, 2, 3, 4] (by decide) rfl⟩
      have hP9 := hPD9.1; have hD9 := hPD9.2
      subst hQ
      refine W.widen (k := 0) (n := 0) (Nat.le_of_ble_eq_true rfl) (Nat.le_of_ble_eq_true rfl) ?_
      exact W.iret (v := (-1000000)) hx hb hr (fun tS htS _ => ⟨⟨_, _, rfl, ⟨0, fno, fma, fas, rfl, (h2)⟩, by rw [htS]; exact hP9, hD9⟩, hS.F htS⟩) hS.2.2 dX7_loss_41
    · skip
      have hq_13 : 1 ≤ zk ∧ zk ≤ 200 := b01_1.mp cb_11
      have hPq_17 := hP; have hDq_17 := hD; have hSq_17 := hS; have hlq_17 := hl; clear hP hD hS hl
      obtain ⟨j_14, hl_15, hu_16, rfl⟩ := rg (L := 1) (U := 200) rfl rfl (show 1 < 2 ^ 31 by omega) (show 200 < 2 ^ 31 by omega) hq_13
      have hP := hPq_17; have hD := hDq_17; have hS := hSq_17; have hl := hlq_17; clear hPq_17 hDq_17 hSq_17 hlq_17
      refine lv_aload_n hx hb dX7_loss_30 rfl (lv_at hl 0 rfl) ?_
      refine lv_iload_n hx hb dX7_loss_31 rfl (lv_at hl 1 rfl) ?_
      refine lv_iload_n hx hb dX7_loss_32 rfl (lv_at hl 2 rfl) ?_
      refine ky_Vi (As := [.int (nI j_6), .int (nI j_14)]) (rest := []) ⟨hx, hb, hml, hown, hts⟩ ⟨hK, hN⟩ hZ hP hD hS hA [5, 0, 1, 2, 3, 4] [] (wc := [(Mm, .inr (7, [.int 0, .ref Mt, .int (nI tp), .int zma, .int zwr, .ref Mrr, .ref Mrh, .ref Mrc, .int zrh, .int zrc, .ref Mn, .ref Mf, .ref Mr, .ref Mh, .int (nI hp), .int (nI cc), .ref Ma, .ref Mas, .ref Msn, .ref Mac, .ref Mat])), (Mn, .inl (g 0, 1767, .inl fno)), (Mh, .inl (g 0, 9, .inl fmh)), (Mr, .inl (g 0, 3, .inl fmr)), (Ma, .inl (g 0, 3, .inl fma)), (Mas, .inl (g 0, 1767, .inl fas))]) (wr := []) rfl rfl rfl rfl (by decide) (k_X7_lossOf l D g H.size Mm (nI j_6) j_14 0 Mt tp zma zwr Mrr Mrh Mrc zrh zrc Mn Mf Mr Mh hp cc Ma Mas Msn Mac Mat fno fmh fmr fma fas tb ub (show tb < 2 ^ 27 by omega) (show ub < 2 ^ 27 by omega) (h2) (show 1 ≤ hp by omega) (show hp ≤ 3 by omega) (show 1 ≤ cc by omega) (show cc ≤ 3 by omega) (h7) (show j_14 ≤ 200 by omega)) (cwV 2 hts gX7_loss_X7_lossOf rfl rfl rfl (by decide +kernel) ⟨(Nat.le_of_ble_eq_true rfl), (Nat.le_of_ble_eq_true rfl)⟩) 5 7 rfl rfl rfl rfl hl.1 rfl (Nat.le_of_ble_eq_true rfl) dX7_loss_33 ⟨(Nat.le_of_ble_eq_true rfl), (Nat.le_of_ble_eq_true rfl)⟩ (fun r_18 u H locs hw hP2 hD2 hS2 => ?_)
      clear hP hD hS
      obtain ⟨fnox_19, fmax_20, fasx_21, rfl, hf_22⟩ := hw
      have hPD : PD D A [(Mm, .inr (7, [.int 0, .ref Mt, .int (nI tp), .int zma, .int zwr, .ref Mrr, .ref Mrh, .ref Mrc, .int zrh, .int zrc, .ref Mn, .ref Mf, .ref Mr, .ref Mh, .int (nI hp), .int (nI cc), .ref Ma, .ref Mas, .ref Msn, .ref Mac, .ref Mat])), (Mn, .inl (g 0, 1767, .inl fnox_19)), (Mh, .inl (g 0, 9, .inl fmh)), (Mr, .inl (g 0, 3, .inl fmr)), (Ma, .inl (g 0, 3, .inl fmax_20)), (Mas, .inl (g 0, 1767, .inl fasx_21))] H := ⟨hP2, hD2⟩
      have hS := hS2; clear hP2 hD2 hS2; have hP := hPD.1; have hD := hPD.2; clear hPD
      refine W.widen (k := 0) (n := 0) (Nat.le_of_ble_eq_true rfl) (Nat.le_of_ble_eq_true rfl) ?_
      refine lv_goto (tgt := 41) hx hb dX7_loss_36 (by decide) ?_
      have hP9 := hP; have hD9 := hD
      subst hQ
      refine W.widen (k := 0) (n := 0) (Nat.le_of_ble_eq_true rfl) (Nat.le_of_ble_eq_true rfl) ?_
      exact W.iret (v := r_18) hx hb hr (fun tS htS _ => ⟨⟨_, _, rfl, ⟨0, fnox_19, fmax_20, fasx_21, rfl, (hf_22)⟩, by rw [htS]; exact hP9, hD9⟩, hS.F htS⟩) hS.2.2 dX7_loss_41

set_option maxHeartbeats 4000000 in
set_option maxRecDepth 100000 in
theorem k_X7_bears (l : Launch) (D : va_G) (g : Nat → ClassId) (sz : Nat) {gs : Nat → Int32} (Mm : Nat) (zk : Int32) (zth : Int32) (Mt : Nat) (tp : Nat) (zma : Int32) (zwr : Int32) (Mrr : Nat) (Mrh : Nat) (Mrc : Nat) (zrh : Int32) (zrc : Int32) (Mn : Nat) (Mf : Nat) (Mr : Nat) (Mh : Nat) (hp : Nat) (cc : Nat) (Ma : Nat) (Mas : Nat) (Msn : Nat) (Mac : Nat) (Mat : Nat) (fno : Nat → Int32) (fmh : Nat → Int32) (fmr : Nat → Int32) (fma : Nat → Int32) (fas : Nat → Int32) (tb : Nat) (ub : Nat) (h0 : tb < 2 ^ 27) (h1 : ub < 2 ^ 27) (h2 : mOK gs tb ub fno) (h3 : 1 ≤ hp) (h4 : hp ≤ 3) (h5 : 1 ≤ cc) (h6 : cc ≤ 3) (h7 : n3 fmh) : Met l yX7_bears wsX7_bears ({ frames := 10, cells := 0, slots := 0, locals := 225 }) (va_Pc [.ref Mm, .int zk] (pre D g sz [(Mm, .inr (7, [.int zth, .ref Mt, .int (nI tp), .int zma, .int zwr, .ref Mrr, .ref Mrh, .ref Mrc, .int zrh, .int zrc, .ref Mn, .ref Mf, .ref Mr, .ref Mh, .int (nI hp), .int (nI cc), .ref Ma, .ref Mas, .ref Msn, .ref Mac, .ref Mat])), (Mn, .inl (g 0, 1767, .inl fno)), (Mh, .inl (g 0, 9, .inl fmh)), (Mr, .inl (g 0, 3, .inl fmr)), (Ma, .inl (g 0, 3, .inl fma)), (Mas, .inl (g 0, 1767, .inl fas))])) (va_Qi (fun (r : Int32) (u : va_W) => ∃ (zthx : Int32) (fnox : Nat → Int32) (fmax : Nat → Int32) (fasx : Nat → Int32), u = [(Mm, .inr (7, [.int zthx, .ref Mt, .int (nI tp), .int zma, .int zwr, .ref Mrr, .ref Mrh, .ref Mrc, .int zrh, .int zrc, .ref Mn, .ref Mf, .ref Mr, .ref Mh, .int (nI hp), .int (nI cc), .ref Ma, .ref Mas, .ref Msn, .ref Mac, .ref Mat])), (Mn, .inl (g 0, 1767, .inl fnox)), (Mh, .inl (g 0, 9, .inl fmh)), (Mr, .inl (g 0, 3, .inl fmr)), (Ma, .inl (g 0, 3, .inl fmax)), (Mas, .inl (g 0, 1767, .inl fasx))] ∧ (mOK gs tb ub fnox)) (wd D (va_A [(Mm, .inr (7, [.int zth, .ref Mt, .int (nI tp), .int zma, .int zwr, .ref Mrr, .ref Mrh, .ref Mrc, .int zrh, .int zrc, .ref Mn, .ref Mf, .ref Mr, .ref Mh, .int (nI hp), .int (nI cc), .ref Ma, .ref Mas, .ref Msn, .ref Mac, .ref Mat])), (Mn, .inl (g 0, 1767, .inl fno)), (Mh, .inl (g 0, 9, .inl fmh)), (Mr, .inl (g 0, 3, .inl fmr)), (Ma, .inl (g 0, 3, .inl fma)), (Mas, .inl (g 0, 1767, .inl fas))] sz)) (va_A [(Mm, .inr (7, [.int zth, .ref Mt, .int (nI tp), .int zma, .int zwr, .ref Mrr, .ref Mrh, .ref Mrc, .int zrh, .int zrc, .ref Mn, .ref Mf, .ref Mr, .ref Mh, .int (nI hp), .int (nI cc), .ref Ma, .ref Mas, .ref Msn, .ref Mac, .ref Mat])), (Mn, .inl (g 0, 1767, .inl fno)), (Mh, .inl (g 0, 9, .inl fmh)), (Mr, .inl (g 0, 3, .inl fmr)), (Ma, .inl (g 0, 3, .inl fma)), (Mas, .inl (g 0, 1767, .inl fas))] sz)) 0 0 (va_A [(Mm, .inr (7, [.int zth, .ref Mt, .int (nI tp), .int zma, .int zwr, .ref Mrr, .ref Mrh, .ref Mrc, .int zrh, .int zrc, .ref Mn, .ref Mf, .ref Mr, .ref Mh, .int (nI hp), .int (nI cc), .ref Ma, .ref Mas, .ref Msn, .ref Mac, .ref Mat])), (Mn, .inl (g 0, 1767, .inl fno)), (Mh, .inl (g 0, 9, .inl fmh)), (Mr, .inl (g 0, 3, .inl fmr)), (Ma, .inl (g 0, 3, .inl fma)), (Mas, .inl (g 0, 1767, .inl fas))] sz) := by
  refine Met.ofW (cc := cX7_bears) (maxL := 3) (ret := (some .int)) (by decide) rfl ?_
  intro p e s m args below meth c s₁ B hml hv
  obtain ⟨rfl, hsz, hP, ⟨hK, hN⟩, hD0, hZ⟩ := hv
  have hx := B.exec
  have hb := B.bytes
  have hr := B.returns
  have hts := atoms_spec (ws := wsX7_bears) B.pre
  have hown : s.vm.findClass RX7 = some m.cls := findClass_of_methodNamed B.named
  have hlocks := B.notSynchronized
  clear B
  subst hsz
  have hD := hD0.self (sz := s.heap.size)
  clear hD0
  generalize hAe : va_A [(Mm, .inr (7, [.int zth, .ref Mt, .int (nI tp), .int zma, .int zwr, .ref Mrr, .ref Mrh, .ref Mrc, .int zrh, .int zrc, .ref Mn, .ref Mf, .ref Mr, .ref Mh, .int (nI hp), .int (nI cc), .ref Ma, .ref Mas, .ref Msn, .ref Mac, .ref Mat])), (Mn, .inl (g 0, 1767, .inl fno)), (Mh, .inl (g 0, 9, .inl fmh)), (Mr, .inl (g 0, 3, .inl fmr)), (Ma, .inl (g 0, 3, .inl fma)), (Mas, .inl (g 0, 1767, .inl fas))] s.heap.size = A at hD hZ ⊢
  have hA : ∀ q : Nat, s.heap.size ≤ q → A q := fun q h => by rw [← hAe]; exact Or.inr h
  have hS : va_S A s.heap s.heap [] := va_S.rf
  have f49 := hts (.fieldLink RX7 49 "HopCreditsModel" "thrown" "I") (List.mem_of_getElem? (i := 1) rfl)
  have iX7 : ∀ w ∈ u_ws RX7 TX7 21, w ∈ wsX7_bears := fun w h => List.mem_cons_of_mem _ (List.mem_append_right _ (h))
  have hl := lv_entry ([.ref Mm, .int zk]) (n := 3) (Nat.le_of_ble_eq_true rfl)
  rw [lg_entry_eq]
  generalize (lg_sl ([.ref Mm, .int zk]) ++ List.replicate (3 - (lg_sl ([.ref Mm, .int zk])).length) Slot.unset).toArray = ls at hl ⊢
  have hl : lv_has ls 3 [(0, .ref Mm), (1, .int zk)] := hl
  generalize hQ : MQ below _ _ s _ _ _ = Q
  generalize hH : s.heap = H at hP ⊢
  have hS : va_S A s.heap H [] := by rw [← hH]; exact hS
  clear hH
  refine lv_aload_n hx hb dX7_bears_0 rfl (lv_at hl 0 rfl) ?_
  refine lv_iconst (v := 0) hx hb dX7_bears_1 (by decide) ?_
  refine va_put (D := D) (ci := 7) (v := .int 0) (ty := .int) (C := RX7) (T := TX7) (N := 21) hx hb hts iX7 tyX7 tyX7_ok nmX7 hown hK hP hD hS 0 rfl rfl 0 (by decide) f49 (fun _ h9 => h9) rfl (by decide +kernel) (rfl) (rfl) (Nat.le_of_ble_eq_true rfl) dX7_bears_2 (fun H locs hP2 hD2 hS2 => ?_)
  clear hP hD hS
  have hPD : PD D A [(Mm, .inr (7, [.int 0, .ref Mt, .int (nI tp), .int zma, .int zwr, .ref Mrr, .ref Mrh, .ref Mrc, .int zrh, .int zrc, .ref Mn, .ref Mf, .ref Mr, .ref Mh, .int (nI hp), .int (nI cc), .ref Ma, .ref Mas, .ref Msn, .ref Mac, .ref Mat])), (Mn, .inl (g 0, 1767, .inl fno)), (Mh, .inl (g 0, 9, .inl fmh)), (Mr, .inl (g 0, 3, .inl fmr)), (Ma, .inl (g 0, 3, .inl fma)), (Mas, .inl (g 0, 1767, .inl fas))] H := ⟨hP2, hD2⟩
  have hS := hS2; clear hP2 hD2 hS2; have hP := hPD.1; have hD := hPD.2; clear hPD
  refine lv_aload_n hx hb dX7_bears_5 rfl (lv_at hl 0 rfl) ?_
  refine ky_Vi (As := []) (rest := []) ⟨hx, hb, hml, hown, hts⟩ ⟨hK, hN⟩ hZ hP hD hS hA [0] [1, 2, 3, 4, 5] (wc := [(Mm, .inr (7, [.int 0, .ref Mt, .int (nI tp), .int zma, .int zwr, .ref Mrr, .ref Mrh, .ref Mrc, .int zrh, .int zrc, .ref Mn, .ref Mf, .ref Mr, .ref Mh, .int (nI hp), .int (nI cc), .ref Ma, .ref Mas, .ref Msn, .ref Mac, .ref Mat]))]) (wr := [(Mn, .inl (g 0, 1767, .inl fno)), (Mh, .inl (g 0, 9, .inl fmh)), (Mr, .inl (g 0, 3, .inl fmr)), (Ma, .inl (g 0, 3, .inl fma)), (Mas, .inl (g 0, 1767, .inl fas))]) rfl rfl rfl rfl (by decide) (k_X7_isNet l D g H.size Mm 0 Mt tp zma zwr Mrr Mrh Mrc zrh zrc Mn Mf Mr Mh hp cc Ma Mas Msn Mac Mat (show 1 ≤ hp by omega) (show hp ≤ 3 by omega)) (cwV 0 hts gX7_bears_X7_isNet rfl rfl rfl (by decide +kernel) ⟨(Nat.le_of_ble_eq_true rfl), (Nat.le_of_ble_eq_true rfl)⟩) 0 7 rfl rfl rfl rfl hl.1 rfl (Nat.le_of_ble_eq_true rfl) dX7_bears_6 ⟨(Nat.le_of_ble_eq_true rfl), (Nat.le_of_ble_eq_true rfl)⟩ (fun r_1 u H locs hw hP2 hD2 hS2 => ?_)
  clear hP hD hS
  obtain ⟨rfl, rfl⟩ := hw
  have hPD : PD D A [(Mn, .inl (g 0, 1767, .inl fno)), (Mh, .inl (g 0, 9, .inl fmh)), (Mr, .inl (g 0, 3, .inl fmr)), (Ma, .inl (g 0, 3, .inl fma)), (Mas, .inl (g 0, 1767, .inl fas)), (Mm, .inr (7, [.int 0, .ref Mt, .int (nI tp), .int zma, .int zwr, .ref Mrr, .ref Mrh, .ref Mrc, .int zrh, .int zrc, .ref Mn, .ref Mf, .ref Mr, .ref Mh, .int (nI hp), .int (nI cc), .ref Ma, .ref Mas, .ref Msn, .ref Mac, .ref Mat]))] H := ⟨hP2, hD2⟩
  have hS := hS2; clear hP2 hD2 hS2; have hP := hPD.1; have hD := hPD.2; clear hPD
  refine W.widen (k := 0) (n := 0) (Nat.le_of_ble_eq_true rfl) (Nat.le_of_ble_eq_true rfl) ?_
  refine lv_if_eq (tgt := 20) hx hb dX7_bears_9 (by decide) (fun cb => absurd cb (by decide)) (fun _ => ?_)
  refine lv_iload_n hx hb dX7_bears_12 rfl (lv_at hl 1 rfl) ?_
  refine lv_iconst (v := 1) hx hb dX7_bears_13 (by decide) ?_
  refine ky_Si (As := [.int zk, .int 1]) (rest := []) ⟨hx, hb, hml, hown, hts⟩ ⟨hK, hN⟩ hZ hP hD hS hA [] [0, 1, 2, 3, 4, 5] (wc := []) (wr := [(Mn, .inl (g 0, 1767, .inl fno)), (Mh, .inl (g 0, 9, .inl fmh)), (Mr, .inl (g 0, 3, .inl fmr)), (Ma, .inl (g 0, 3, .inl fma)), (Mas, .inl (g 0, 1767, .inl fas)), (Mm, .inr (7, [.int 0, .ref Mt, .int (nI tp), .int zma, .int zwr, .ref Mrr, .ref Mrh, .ref Mrc, .int zrh, .int zrc, .ref Mn, .ref Mf, .ref Mr, .ref Mh, .int (nI hp), .int (nI cc), .ref Ma, .ref Mas, .ref Msn, .ref Mac, .ref Mat]))]) rfl rfl rfl rfl (by decide) (k_X7_isSpan l D g H.size zk 1) (va_cwS 2 hts gX7_bears_X7_isSpan rfl rfl rfl (by decide +kernel) ⟨(Nat.le_of_ble_eq_true rfl), (Nat.le_of_ble_eq_true rfl)⟩) rfl hl.1 rfl (Nat.le_of_ble_eq_true rfl) dX7_bears_14 ⟨(Nat.le_of_ble_eq_true rfl), (Nat.le_of_ble_eq_true rfl)⟩ (fun r_2 u H locs hw hP2 hD2 hS2 => ?_)
  clear hP hD hS
  obtain ⟨rfl, rfl⟩ := hw
  have hPD : PD D A [(Mn, .inl (g 0, 1767, .inl fno)), (Mh, .inl (g 0, 9, .inl fmh)), (Mr, .inl (g 0, 3, .inl fmr)), (Ma, .inl (g 0, 3, .inl fma)), (Mas, .inl (g 0, 1767, .inl fas)), (Mm, .inr (7, [.int 0, .ref Mt, .int (nI tp), .int zma, .int zwr, .ref Mrr, .ref Mrh, .ref Mrc, .int zrh, .int zrc, .ref Mn, .ref Mf, .ref Mr, .ref Mh, .int (nI hp), .int (nI cc), .ref Ma, .ref Mas, .ref Msn, .ref Mac, .ref Mat]))] H := ⟨hP2, hD2⟩
  have hS := hS2; clear hP2 hD2 hS2; have hP := hPD.1; have hD := hPD.2; clear hPD
  refine W.widen (k := 0) (n := 0) (Nat.le_of_ble_eq_true rfl) (Nat.le_of_ble_eq_true rfl) ?_
  refine lv_if_ne (tgt := 22) hx hb dX7_bears_17 (by decide) (fun cb_3 => ?_) (fun cb_3 => ?_)
  · skip
    have hq_4 : 1 ≤ zk ∧ zk ≤ 200 := b01_1.mp cb_3
    have hPq_8 := hP; have hDq_8 := hD; have hSq_8 := hS; have hlq_8 := hl; clear hP hD hS hl
    obtain ⟨j_5, hl_6, hu_7, rfl⟩ := rg (L := 1) (U := 200) rfl rfl (show 1 < 2 ^ 31 by omega) (show 200 < 2 ^ 31 by omega) hq_4
    have hP := hPq_8; have hD := hDq_8; have hS := hSq_8; have hl := hlq_8; clear hPq_8 hDq_8 hSq_8 hlq_8
    refine lv_bipush (v := 9) hx hb dX7_bears_22 (by decide) ?_
    refine lv_istore_n (lv' := [(2, .int 9), (0, .ref Mm), (1, .int (nI j_5))]) hx hb dX7_bears_24 rfl hl (by decide) rfl (fun ls hl => ?_)
    refine lv_iload_n hx hb dX7_bears_25 rfl (lv_at hl 0 rfl) ?_
    refine lv_if_le (tgt := 44) hx hb dX7_bears_26 (by decide) (fun cb => absurd cb (by decide)) (fun _ => ?_)
    refine lv_aload_n hx hb dX7_bears_29 rfl (lv_at hl 1 rfl) ?_
    refine lv_iload_n hx hb dX7_bears_30 rfl (lv_at hl 0 rfl) ?_
    refine lv_iload_n hx hb dX7_bears_31 rfl (lv_at hl 2 rfl) ?_
    refine ky_Vi (As := [.int 9, .int (nI j_5)]) (rest := []) ⟨hx, hb, hml, hown, hts⟩ ⟨hK, hN⟩ hZ hP hD hS hA [5, 0, 1, 2, 3, 4] [] (wc := [(Mm, .inr (7, [.int 0, .ref Mt, .int (nI tp), .int zma, .int zwr, .ref Mrr, .ref Mrh, .ref Mrc, .int zrh, .int zrc, .ref Mn, .ref Mf, .ref Mr, .ref Mh, .int (nI hp), .int (nI cc), .ref Ma, .ref Mas, .ref Msn, .ref Mac, .ref Mat])), (Mn, .inl (g 0, 1767, .inl fno)), (Mh, .inl (g 0, 9, .inl fmh)), (Mr, .inl (g 0, 3, .inl fmr)), (Ma, .inl (g 0, 3, .inl fma)), (Mas, .inl (g 0, 1767, .inl fas))]) (wr := []) rfl rfl rfl rfl (by decide) (k_X7_lossOf l D g H.size Mm 9 j_5 0 Mt tp zma zwr Mrr Mrh Mrc zrh zrc Mn Mf Mr Mh hp cc Ma Mas Msn Mac Mat fno fmh fmr fma fas tb ub (show tb < 2 ^ 27 by omega) (show ub < 2 ^ 27 by omega) (h2) (show 1 ≤ hp by omega) (show hp ≤ 3 by omega) (show 1 ≤ cc by omega) (show cc ≤ 3 by omega) (h7) (show j_5 ≤ 200 by omega)) (cwV 2 hts gX7_bears_X7_lossOf rfl rfl rfl (by decide +kernel) ⟨(Nat.le_of_ble_eq_true rfl), (Nat.le_of_ble_eq_true rfl)⟩) 5 7 rfl rfl rfl rfl hl.1 rfl (Nat.le_of_ble_eq_true rfl) dX7_bears_32 ⟨(Nat.le_of_ble_eq_true rfl), (Nat.le_of_ble_eq_true rfl)⟩ (fun r_9 u H locs hw hP2 hD2 hS2 => ?_)
    clear hP hD hS
    obtain ⟨fnox_10, fmax_11, fasx_12, rfl, hf_13⟩ := hw
    have hPD : PD D A [(Mm, .inr (7, [.int 0, .ref Mt, .int (nI tp), .int zma, .int zwr, .ref Mrr, .ref Mrh, .ref Mrc, .int zrh, .int zrc, .ref Mn, .ref Mf, .ref Mr, .ref Mh, .int (nI hp), .int (nI cc), .ref Ma, .ref Mas, .ref Msn, .ref Mac, .ref Mat])), (Mn, .inl (g 0, 1767, .inl fnox_10)), (Mh, .inl (g 0, 9, .inl fmh)), (Mr, .inl (g 0, 3, .inl fmr)), (Ma, .inl (g 0, 3, .inl fmax_11)), (Mas, .inl (g 0, 1767, .inl fasx_12))] H := ⟨hP2, hD2⟩
    have hS := hS2; clear hP2 hD2 hS2; have hP := hPD.1; have hD := hPD.2; clear hPD
    refine W.widen (k := 0) (n := 0) (Nat.le_of_ble_eq_true rfl) (Nat.le_of_ble_eq_true rfl) ?_
    refine lv_if_le (tgt := 44) hx hb dX7_bears_35 (by decide) (fun cb_14 => ?_) (fun cb_14 => ?_)
    · skip
      refine lv_iload_n hx hb dX7_bears_44 rfl (lv_at hl 0 rfl) ?_
      have hP9 := hP; have hD9 := hD
      subst hQ
      refine W.widen (k := 0) (n := 0) (Nat.le_of_ble_eq_true rfl) (Nat.le_of_ble_eq_true rfl) ?_
      exact W.iret (v := 9) hx hb hr (fun tS htS _ => ⟨⟨_, _, rfl, ⟨0, fnox_10, fmax_11, fasx_12, rfl, (hf_13)⟩, by rw [htS]; exact hP9, hD9⟩, hS.F htS⟩) hS.2.2 dX7_bears_45
    · skip
      refine lv_iinc (v := 8) (lv' := [(2, .int 8), (0, .ref Mm), (1, .int (nI j_5))]) hx hb dX7_bears_38 hl (k := 0) rfl (by decide) (by decide) rfl (fun ls hl => ?_)
      refine lv_goto (tgt := 25) hx hb dX7_bears_41 (by decide) ?_
      refine lv_iload_n hx hb dX7_bears_25 rfl (lv_at hl 0 rfl) ?_
      refine lv_if_le (tgt := 44) hx hb dX7_bears_26 (by decide) (fun cb => absurd cb (by decide)) (fun _ => ?_)
      refine lv_aload_n hx hb dX7_bears_29 rfl (lv_at hl 1 rfl) ?_
      refine lv_iload_n hx hb dX7_bears_30 rfl (lv_at hl 0 rfl) ?_
      refine lv_iload_n hx hb dX7_bears_31 rfl (lv_at hl 2 rfl) ?_
      refine ky_Vi (As := [.int 8, .int (nI j_5)]) (rest := []) ⟨hx, hb, hml, hown, hts⟩ ⟨hK, hN⟩ hZ hP hD hS hA [0, 1, 2, 3, 4, 5] [] (wc := [(Mm, .inr (7, [.int 0, .ref Mt, .int (nI tp), .int zma, .int zwr, .ref Mrr, .ref Mrh, .ref Mrc, .int zrh, .int zrc, .ref Mn, .ref Mf, .ref Mr, .ref Mh, .int (nI hp), .int (nI cc), .ref Ma, .ref Mas, .ref Msn, .ref Mac, .ref Mat])), (Mn, .inl (g 0, 1767, .inl fnox_10)), (Mh, .inl (g 0, 9, .inl fmh)), (Mr, .inl (g 0, 3, .inl fmr)), (Ma, .inl (g 0, 3, .inl fmax_11)), (Mas, .inl (g 0, 1767, .inl fasx_12))]) (wr := []) rfl rfl rfl rfl (by decide) (k_X7_lossOf l D g H.size Mm 8 j_5 0 Mt tp zma zwr Mrr Mrh Mrc zrh zrc Mn Mf Mr Mh hp cc Ma Mas Msn Mac Mat fnox_10 fmh fmr fmax_11 fasx_12 tb ub (show tb < 2 ^ 27 by omega) (show ub < 2 ^ 27 by omega) (hf_13) (show 1 ≤ hp by omega) (show hp ≤ 3 by omega) (show 1 ≤ cc by omega) (show cc ≤ 3 by omega) (h7) (show j_5 ≤ 200 by omega)) (cwV 2 hts gX7_bears_X7_lossOf rfl rfl rfl (by decide +kernel) ⟨(Nat.le_of_ble_eq_true rfl), (Nat.le_of_ble_eq_true rfl)⟩) 0 7 rfl rfl rfl rfl hl.1 rfl (Nat.le_of_ble_eq_true rfl) dX7_bears_32 ⟨(Nat.le_of_ble_eq_true rfl), (Nat.le_of_ble_eq_true rfl)⟩ (fun r_15 u H locs hw hP2 hD2 hS2 => ?_)
      clear hP hD hS
      obtain ⟨fnox_16, fmax_17, fasx_18, rfl, hf_19⟩ := hw
      have hPD : PD D A [(Mm, .inr (7, [.int 0, .ref Mt, .int (nI tp), .int zma, .int zwr, .ref Mrr, .ref Mrh, .ref Mrc, .int zrh, .int zrc, .ref Mn, .ref Mf, .ref Mr, .ref Mh, .int (nI hp), .int (nI cc), .ref Ma, .ref Mas, .ref Msn, .ref Mac, .ref Mat])), (Mn, .inl (g 0, 1767, .inl fnox_16)), (Mh, .inl (g 0, 9, .inl fmh)), (Mr, .inl (g 0, 3, .inl fmr)), (Ma, .inl (g 0, 3, .inl fmax_17)), (Mas, .inl (g 0, 1767, .inl fasx_18))] H := ⟨hP2, hD2⟩
      have hS := hS2; clear hP2 hD2 hS2; have hP := hPD.1; have hD := hPD.2; clear hPD
      refine W.widen (k := 0) (n := 0) (Nat.le_of_ble_eq_true rfl) (Nat.le_of_ble_eq_true rfl) ?_
      refine lv_if_le (tgt := 44) hx hb dX7_bears_35 (by decide) (fun cb_20 => ?_) (fun cb_20 => ?_)
      · skip
        refine lv_iload_n hx hb dX7_bears_44 rfl (lv_at hl 0 rfl) ?_
        have hP9 := hP; have hD9 := hD
        subst hQ
        refine W.widen (k := 0) (n := 0) (Nat.le_of_ble_eq_true rfl) (Nat.le_of_ble_eq_true rfl) ?_
        exact W.iret (v := 8) hx hb hr (fun tS htS _ => ⟨⟨_, _, rfl, ⟨0, fnox_16, fmax_17, fasx_18, rfl, (hf_19)⟩, by rw [htS]; exact hP9, hD9⟩, hS.F htS⟩) hS.2.2 dX7_bears_45
      · skip
        refine lv_iinc (v := 7) (lv' := [(2, .int 7), (0, .ref Mm), (1, .int (nI j_5))]) hx hb dX7_bears_38 hl (k := 0) rfl (by decide) (by decide) rfl (fun ls hl => ?_)
        refine lv_goto (tgt := 25) hx hb dX7_bears_41 (by decide) ?_
        refine lv_iload_n hx hb dX7_bears_25 rfl (lv_at hl 0 rfl) ?_
        refine lv_if_le (tgt := 44) hx hb dX7_bears_26 (by decide) (fun cb => absurd cb (by decide)) (fun _ => ?_)
        refine lv_aload_n hx hb dX7_bears_29 rfl (lv_at hl 1 rfl) ?_
        refine lv_iload_n hx hb dX7_bears_30 rfl (lv_at hl 0 rfl) ?_
        refine lv_iload_n hx hb dX7_bears_31 rfl (lv_at hl 2 rfl) ?_
        refine ky_Vi (As := [.int 7, .int (nI j_5)]) (rest := []) ⟨hx, hb, hml, hown, hts⟩ ⟨hK, hN⟩ hZ hP hD hS hA [0, 1, 2, 3, 4, 5] [] (wc := [(Mm, .inr (7, [.int 0, .ref Mt, .int (nI tp), .int zma, .int zwr, .ref Mrr, .ref Mrh, .ref Mrc, .int zrh, .int zrc, .ref Mn, .ref Mf, .ref Mr, .ref Mh, .int (nI hp), .int (nI cc), .ref Ma, .ref Mas, .ref Msn, .ref Mac, .ref Mat])), (Mn, .inl (g 0, 1767, .inl fnox_16)), (Mh, .inl (g 0, 9, .inl fmh)), (Mr, .inl (g 0, 3, .inl fmr)), (Ma, .inl (g 0, 3, .inl fmax_17)), (Mas, .inl (g 0, 1767, .inl fasx_18))]) (wr := []) rfl rfl rfl rfl (by decide) (k_X7_lossOf l D g H.size Mm 7 j_5 0 Mt tp zma zwr Mrr Mrh Mrc zrh zrc Mn Mf Mr Mh hp cc Ma Mas Msn Mac Mat fnox_16 fmh fmr fmax_17 fasx_18 tb ub (show tb < 2 ^ 27 by omega) (show ub < 2 ^ 27 by omega) (hf_19) (show 1 ≤ hp by omega) (show hp ≤ 3 by omega) (show 1 ≤ cc by omega) (show cc ≤ 3 by omega) (h7) (show j_5 ≤ 200 by omega)) (cwV 2 hts gX7_bears_X7_lossOf rfl rfl rfl (by decide +kernel) ⟨(Nat.le_of_ble_eq_true rfl), (Nat.le_of_ble_eq_true rfl)⟩) 0 7 rfl rfl rfl rfl hl.1 rfl (Nat.le_of_ble_eq_true rfl) dX7_bears_32 ⟨(Nat.le_of_ble_eq_true rfl), (Nat.le_of_ble_eq_true rfl)⟩ (fun r_21 u H locs hw hP2 hD2 hS2 => ?_)
        clear hP hD hS
        obtain ⟨fnox_22, fmax_23, fasx_24, rfl, hf_25⟩ := hw
        have hPD : PD D A [(Mm, .inr (7, [.int 0, .ref Mt, .int (nI tp), .int zma, .int zwr, .ref Mrr, .ref Mrh, .ref Mrc, .int zrh, .int zrc, .ref Mn, .ref Mf, .ref Mr, .ref Mh, .int (nI hp), .int (nI cc), .ref Ma, .ref Mas, .ref Msn, .ref Mac, .ref Mat])), (Mn, .inl (g 0, 1767, .inl fnox_22)), (Mh, .inl (g 0, 9, .inl fmh)), (Mr, .inl (g 0, 3, .inl fmr)), (Ma, .inl (g 0, 3, .inl fmax_23)), (Mas, .inl (g 0, 1767, .inl fasx_24))] H := ⟨hP2, hD2⟩
        have hS := hS2; clear hP2 hD2 hS2; have hP := hPD.1; have hD := hPD.2; clear hPD
        refine W.widen (k := 0) (n := 0) (Nat.le_of_ble_eq_true rfl) (Nat.le_of_ble_eq_true rfl) ?_
        refine lv_if_le (tgt := 44) hx hb dX7_bears_35 (by decide) (fun cb_26 => ?_) (fun cb_26 => ?_)
        · skip
          refine lv_iload_n hx hb dX7_bears_44 rfl (lv_at hl 0 rfl) ?_
          have hP9 := hP; have hD9 := hD
          subst hQ
          refine W.widen (k := 0) (n := 0) (Nat.le_of_ble_eq_true rfl) (Nat.le_of_ble_eq_true rfl) ?_
          exact W.iret (v := 7) hx hb hr (fun tS htS _ => ⟨⟨_, _, rfl, ⟨0, fnox_22, fmax_23, fasx_24, rfl, (hf_25)⟩, by rw [htS]; exact hP9, hD9⟩, hS.F htS⟩) hS.2.2 dX7_bears_45
        · skip
          refine lv_iinc (v := 6) (lv' := [(2, .int 6), (0, .ref Mm), (1, .int (nI j_5))]) hx hb dX7_bears_38 hl (k := 0) rfl (by decide) (by decide) rfl (fun ls hl => ?_)
          refine lv_goto (tgt := 25) hx hb dX7_bears_41 (by decide) ?_
          refine lv_iload_n hx hb dX7_bears_25 rfl (lv_at hl 0 rfl) ?_
          refine lv_if_le (tgt := 44) hx hb dX7_bears_26 (by decide) (fun cb => absurd cb (by decide)) (fun _ => ?_)
          refine lv_aload_n hx hb dX7_bears_29 rfl (lv_at hl 1 rfl) ?_
          refine lv_iload_n hx hb dX7_bears_30 rfl (lv_at hl 0 rfl) ?_
          refine lv_iload_n hx hb dX7_bears_31 rfl (lv_at hl 2 rfl) ?_
          refine ky_Vi (As := [.int 6, .int (nI j_5)]) (rest := []) ⟨hx, hb, hml, hown, hts⟩ ⟨hK, hN⟩ hZ hP hD hS hA [0, 1, 2, 3, 4, 5] [] (wc := [(Mm, .inr (7, [.int 0, .ref Mt, .int (nI tp), .int zma, .int zwr, .ref Mrr, .ref Mrh, .ref Mrc, .int zrh, .int zrc, .ref Mn, .ref Mf, .ref Mr, .ref Mh, .int (nI hp), .int (nI cc), .ref Ma, .ref Mas, .ref Msn, .ref Mac, .ref Mat])), (Mn, .inl (g 0, 1767, .inl fnox_22)), (Mh, .inl (g 0, 9, .inl fmh)), (Mr, .inl (g 0, 3, .inl fmr)), (Ma, .inl (g 0, 3, .inl fmax_23)), (Mas, .inl (g 0, 1767, .inl fasx_24))]) (wr := []) rfl rfl rfl rfl (by decide) (k_X7_lossOf l D g H.size Mm 6 j_5 0 Mt tp zma zwr Mrr Mrh Mrc zrh zrc Mn Mf Mr Mh hp cc Ma Mas Msn Mac Mat fnox_22 fmh fmr fmax_23 fasx_24 tb ub (show tb < 2 ^ 27 by omega) (show ub < 2 ^ 27 by omega) (hf_25) (show 1 ≤ hp by omega) (show hp ≤ 3 by omega) (show 1 ≤ cc by omega) (show cc ≤ 3 by omega) (h7) (show j_5 ≤ 200 by omega)) (cwV 2 hts gX7_bears_X7_lossOf rfl rfl rfl (by decide +kernel) ⟨(Nat.le_of_ble_eq_true rfl), (Nat.le_of_ble_eq_true rfl)⟩) 0 7 rfl rfl rfl rfl hl.1 rfl (Nat.le_of_ble_eq_true rfl) dX7_bears_32 ⟨(Nat.le_of_ble_eq_true rfl), (Nat.le_of_ble_eq_true rfl)⟩ (fun r_27 u H locs hw hP2 hD2 hS2 => ?_)
          clear hP hD hS
          obtain ⟨fnox_28, fmax_29, fasx_30, rfl, hf_31⟩ := hw
          have hPD : PD D A [(Mm, .inr (7, [.int 0, .ref Mt, .int (nI tp), .int zma, .int zwr, .ref Mrr, .ref Mrh, .ref Mrc, .int zrh, .int zrc, .ref Mn, .ref Mf, .ref Mr, .ref Mh, .int (nI hp), .int (nI cc), .ref Ma, .ref Mas, .ref Msn, .ref Mac, .ref Mat])), (Mn, .inl (g 0, 1767, .inl fnox_28)), (Mh, .inl (g 0, 9, .inl fmh)), (Mr, .inl (g 0, 3, .inl fmr)), (Ma, .inl (g 0, 3, .inl fmax_29)), (Mas, .inl (g 0, 1767, .inl fasx_30))] H := ⟨hP2, hD2⟩
          have hS := hS2; clear hP2 hD2 hS2; have hP := hPD.1; have hD := hPD.2; clear hPD
          refine W.widen (k := 0) (n := 0) (Nat.le_of_ble_eq_true rfl) (Nat.le_of_ble_eq_true rfl) ?_
          refine lv_if_le (tgt := 44) hx hb dX7_bears_35 (by decide) (fun cb_32 => ?_) (fun cb_32 => ?_)
          · skip
            refine lv_iload_n hx hb dX7_bears_44 rfl (lv_at hl 0 rfl) ?_
            have hP9 := hP; have hD9 := hD
            subst hQ
            refine W.widen (k := 0) (n := 0) (Nat.le_of_ble_eq_true rfl) (Nat.le_of_ble_eq_true rfl) ?_
            exact W.iret (v := 6) hx hb hr (fun tS htS _ => ⟨⟨_, _, rfl, ⟨0, fnox_28, fmax_29, fasx_30, rfl, (hf_31)⟩, by rw [htS]; exact hP9, hD9⟩, hS.F htS⟩) hS.2.2 dX7_bears_45
          · skip
            refine lv_iinc (v := 5) (lv' := [(2, .int 5), (0, .ref Mm), (1, .int (nI j_5))]) hx hb dX7_bears_38 hl (k := 0) rfl (by decide) (by decide) rfl (fun ls hl => ?_)
            refine lv_goto (tgt := 25) hx hb dX7_bears_41 (by decide) ?_
            refine lv_iload_n hx hb dX7_bears_25 rfl (lv_at hl 0 rfl) ?_
            refine lv_if_le (tgt := 44) hx hb dX7_bears_26 (by decide) (fun cb => absurd cb (by decide)) (fun _ => ?_)
            refine lv_aload_n hx hb dX7_bears_29 rfl (lv_at hl 1 rfl) ?_
            refine lv_iload_n hx hb dX7_bears_30 rfl (lv_at hl 0 rfl) ?_
            refine lv_iload_n hx hb dX7_bears_31 rfl (lv_at hl 2 rfl) ?_
            refine ky_Vi (As := [.int 5, .int (nI j_5)]) (rest := []) ⟨hx, hb, hml, hown, hts⟩ ⟨hK, hN⟩ hZ hP hD hS hA [0, 1, 2, 3, 4, 5] [] (wc := [(Mm, .inr (7, [.int 0, .ref Mt, .int (nI tp), .int zma, .int zwr, .ref Mrr, .ref Mrh, .ref Mrc, .int zrh, .int zrc, .ref Mn, .ref Mf, .ref Mr, .ref Mh, .int (nI hp), .int (nI cc), .ref Ma, .ref Mas, .ref Msn, .ref Mac, .ref Mat])), (Mn, .inl (g 0, 1767, .inl fnox_28)), (Mh, .inl (g 0, 9, .inl fmh)), (Mr, .inl (g 0, 3, .inl fmr)), (Ma, .inl (g 0, 3, .inl fmax_29)), (Mas, .inl (g 0, 1767, .inl fasx_30))]) (wr := []) rfl rfl rfl rfl (by decide) (k_X7_lossOf l D g H.size Mm 5 j_5 0 Mt tp zma zwr Mrr Mrh Mrc zrh zrc Mn Mf Mr Mh hp cc Ma Mas Msn Mac Mat fnox_28 fmh fmr fmax_29 fasx_30 tb ub (show tb < 2 ^ 27 by omega) (show ub < 2 ^ 27 by omega) (hf_31) (show 1 ≤ hp by omega) (show hp ≤ 3 by omega) (show 1 ≤ cc by omega) (show cc ≤ 3 by omega) (h7) (show j_5 ≤ 200 by omega)) (cwV 2 hts gX7_bears_X7_lossOf rfl rfl rfl (by decide +kernel) ⟨(Nat.le_of_ble_eq_true rfl), (Nat.le_of_ble_eq_true rfl)⟩) 0 7 rfl rfl rfl rfl hl.1 rfl (Nat.le_of_ble_eq_true rfl) dX7_bears_32 ⟨(Nat.le_of_ble_eq_true rfl), (Nat.le_of_ble_eq_true rfl)⟩ (fun r_33 u H locs hw hP2 hD2 hS2 => ?_)
            clear hP hD hS
            obtain ⟨fnox_34, fmax_35, fasx_36, rfl, hf_37⟩ := hw
            have hPD : PD D A [(Mm, .inr (7, [.int 0, .ref Mt, .int (nI tp), .int zma, .int zwr, .ref Mrr, .ref Mrh, .ref Mrc, .int zrh, .int zrc, .ref Mn, .ref Mf, .ref Mr, .ref Mh, .int (nI hp), .int (nI cc), .ref Ma, .ref Mas, .ref Msn, .ref Mac, .ref Mat])), (Mn, .inl (g 0, 1767, .inl fnox_34)), (Mh, .inl (g 0, 9, .inl fmh)), (Mr, .inl (g 0, 3, .inl fmr)), (Ma, .inl (g 0, 3, .inl fmax_35)), (Mas, .inl (g 0, 1767, .inl fasx_36))] H := ⟨hP2, hD2⟩
            have hS := hS2; clear hP2 hD2 hS2; have hP := hPD.1; have hD := hPD.2; clear hPD
            refine W.widen (k := 0) (n := 0) (Nat.le_of_ble_eq_true rfl) (Nat.le_of_ble_eq_true rfl) ?_
            refine lv_if_le (tgt := 44) hx hb dX7_bears_35 (by decide) (fun cb_38 => ?_) (fun cb_38 => ?_)
            · skip
              refine lv_iload_n hx hb dX7_bears_44 rfl (lv_at hl 0 rfl) ?_
              have hP9 := hP; have hD9 := hD
              subst hQ
              refine W.widen (k := 0) (n := 0) (Nat.le_of_ble_eq_true rfl) (Nat.le_of_ble_eq_true rfl) ?_
              exact W.iret (v := 5) hx hb hr (fun tS htS _ => ⟨⟨_, _, rfl, ⟨0, fnox_34, fmax_35, fasx_36, rfl, (hf_37)⟩, by rw [htS]; exact hP9, hD9⟩, hS.F htS⟩) hS.2.2 dX7_bears_45
            · skip
              refine lv_iinc (v := 4) (lv' := [(2, .int 4), (0, .ref Mm), (1, .int (nI j_5))]) hx hb dX7_bears_38 hl (k := 0) rfl (by decide) (by decide) rfl (fun ls hl => ?_)
              refine lv_goto (tgt := 25) hx hb dX7_bears_41 (by decide) ?_
              refine lv_iload_n hx hb dX7_bears_25 rfl (lv_at hl 0 rfl) ?_
              refine lv_if_le (tgt := 44) hx hb dX7_bears_26 (by decide) (fun cb => absurd cb (by decide)) (fun _ => ?_)
              refine lv_aload_n hx hb dX7_bears_29 rfl (lv_at hl 1 rfl) ?_
              refine lv_iload_n hx hb dX7_bears_30 rfl (lv_at hl 0 rfl) ?_
              refine lv_iload_n hx hb dX7_bears_31 rfl (lv_at hl 2 rfl) ?_
              refine ky_Vi (As := [.int 4, .int (nI j_5)]) (rest := []) ⟨hx, hb, hml, hown, hts⟩ ⟨hK, hN⟩ hZ hP hD hS hA [0, 1, 2, 3, 4, 5] [] (wc := [(Mm, .inr (7, [.int 0, .ref Mt, .int (nI tp), .int zma, .int zwr, .ref Mrr, .ref Mrh, .ref Mrc, .int zrh, .int zrc, .ref Mn, .ref Mf, .ref Mr, .ref Mh, .int (nI hp), .int (nI cc), .ref Ma, .ref Mas, .ref Msn, .ref Mac, .ref Mat])), (Mn, .inl (g 0, 1767, .inl fnox_34)), (Mh, .inl (g 0, 9, .inl fmh)), (Mr, .inl (g 0, 3, .inl fmr)), (Ma, .inl (g 0, 3, .inl fmax_35)), (Mas, .inl (g 0, 1767, .inl fasx_36))]) (wr := []) rfl rfl rfl rfl (by decide) (k_X7_lossOf l D g H.size Mm 4 j_5 0 Mt tp zma zwr Mrr Mrh Mrc zrh zrc Mn Mf Mr Mh hp cc Ma Mas Msn Mac Mat fnox_34 fmh fmr fmax_35 fasx_36 tb ub (show tb < 2 ^ 27 by omega) (show ub < 2 ^ 27 by omega) (hf_37) (show 1 ≤ hp by omega) (show hp ≤ 3 by omega) (show 1 ≤ cc by omega) (show cc ≤ 3 by omega) (h7) (show j_5 ≤ 200 by omega)) (cwV 2 hts gX7_bears_X7_lossOf rfl rfl rfl (by decide +kernel) ⟨(Nat.le_of_ble_eq_true rfl), (Nat.le_of_ble_eq_true rfl)⟩) 0 7 rfl rfl rfl rfl hl.1 rfl (Nat.le_of_ble_eq_true rfl) dX7_bears_32 ⟨(Nat.le_of_ble_eq_true rfl), (Nat.le_of_ble_eq_true rfl)⟩ (fun r_39 u H locs hw hP2 hD2 hS2 => ?_)
              clear hP hD hS
              obtain ⟨fnox_40, fmax_41, fasx_42, rfl, hf_43⟩ := hw
              have hPD : PD D A [(Mm, .inr (7, [.int 0, .ref Mt, .int (nI tp), .int zma, .int zwr, .ref Mrr, .ref Mrh, .ref Mrc, .int zrh, .int zrc, .ref Mn, .ref Mf, .ref Mr, .ref Mh, .int (nI hp), .int (nI cc), .ref Ma, .ref Mas, .ref Msn, .ref Mac, .ref Mat])), (Mn, .inl (g 0, 1767, .inl fnox_40)), (Mh, .inl (g 0, 9, .inl fmh)), (Mr, .inl (g 0, 3, .inl fmr)), (Ma, .inl (g 0, 3, .inl fmax_41)), (Mas, .inl (g 0, 1767, .inl fasx_42))] H := ⟨hP2, hD2⟩
              have hS := hS2; clear hP2 hD2 hS2; have hP := hPD.1; have hD := hPD.2; clear hPD
              refine W.widen (k := 0) (n := 0) (Nat.le_of_ble_eq_true rfl) (Nat.le_of_ble_eq_true rfl) ?_
              refine lv_if_le (tgt := 44) hx hb dX7_bears_35 (by decide) (fun cb_44 => ?_) (fun cb_44 => ?_)
              · skip
                refine lv_iload_n hx hb dX7_bears_44 rfl (lv_at hl 0 rfl) ?_
                have hP9 := hP; have hD9 := hD
                subst hQ
                refine W.widen (k := 0) (n := 0) (Nat.le_of_ble_eq_true rfl) (Nat.le_of_ble_eq_true rfl) ?_
                exact W.iret (v := 4) hx hb hr (fun tS htS _ => ⟨⟨_, _, rfl, ⟨0, fnox_40, fmax_41, fasx_42, rfl, (hf_43)⟩, by rw [htS]; exact hP9, hD9⟩, hS.F htS⟩) hS.2.2 dX7_bears_45
              · skip
                refine lv_iinc (v := 3) (lv' := [(2, .int 3), (0, .ref Mm), (1, .int (nI j_5))]) hx hb dX7_bears_38 hl (k := 0) rfl (by decide) (by decide) rfl (fun ls hl => ?_)
                refine lv_goto (tgt := 25) hx hb dX7_bears_41 (by decide) ?_
                refine lv_iload_n hx hb dX7_bears_25 rfl (lv_at hl 0 rfl) ?_
                refine lv_if_le (tgt := 44) hx hb dX7_bears_26 (by decide) (fun cb => absurd cb (by decide)) (fun _ => ?_)
                refine lv_aload_n hx hb dX7_bears_29 rfl (lv_at hl 1 rfl) ?_
                refine lv_iload_n hx hb dX7_bears_30 rfl (lv_at hl 0 rfl) ?_
                refine lv_iload_n hx hb dX7_bears_31 rfl (lv_at hl 2 rfl) ?_
                refine ky_Vi (As := [.int 3, .int (nI j_5)]) (rest := []) ⟨hx, hb, hml, hown, hts⟩ ⟨hK, hN⟩ hZ hP hD hS hA [0, 1, 2, 3, 4, 5] [] (wc := [(Mm, .inr (7, [.int 0, .ref Mt, .int (nI tp), .int zma, .int zwr, .ref Mrr, .ref Mrh, .ref Mrc, .int zrh, .int zrc, .ref Mn, .ref Mf, .ref Mr, .ref Mh, .int (nI hp), .int (nI cc), .ref Ma, .ref Mas, .ref Msn, .ref Mac, .ref Mat])), (Mn, .inl (g 0, 1767, .inl fnox_40)), (Mh, .inl (g 0, 9, .inl fmh)), (Mr, .inl (g 0, 3, .inl fmr)), (Ma, .inl (g 0, 3, .inl fmax_41)), (Mas, .inl (g 0, 1767, .inl fasx_42))]) (wr := []) rfl rfl rfl rfl (by decide) (k_X7_lossOf l D g H.size Mm 3 j_5 0 Mt tp zma zwr Mrr Mrh Mrc zrh zrc Mn Mf Mr Mh hp cc Ma Mas Msn Mac Mat fnox_40 fmh fmr fmax_41 fasx_42 tb ub (show tb < 2 ^ 27 by omega) (show ub < 2 ^ 27 by omega) (hf_43) (show 1 ≤ hp by omega) (show hp ≤ 3 by omega) (show 1 ≤ cc by omega) (show cc ≤ 3 by omega) (h7) (show j_5 ≤ 200 by omega)) (cwV 2 hts gX7_bears_X7_lossOf rfl rfl rfl (by decide +kernel) ⟨(Nat.le_of_ble_eq_true rfl), (Nat.le_of_ble_eq_true rfl)⟩) 0 7 rfl rfl rfl rfl hl.1 rfl (Nat.le_of_ble_eq_true rfl) dX7_bears_32 ⟨(Nat.le_of_ble_eq_true rfl), (Nat.le_of_ble_eq_true rfl)⟩ (fun r_45 u H locs hw hP2 hD2 hS2 => ?_)
                clear hP hD hS
                obtain ⟨fnox_46, fmax_47, fasx_48, rfl, hf_49⟩ := hw
                have hPD : PD D A [(Mm, .inr (7, [.int 0, .ref Mt, .int (nI tp), .int zma, .int zwr, .ref Mrr, .ref Mrh, .ref Mrc, .int zrh, .int zrc, .ref Mn, .ref Mf, .ref Mr, .ref Mh, .int (nI hp), .int (nI cc), .ref Ma, .ref Mas, .ref Msn, .ref Mac, .ref Mat])), (Mn, .inl (g 0, 1767, .inl fnox_46)), (Mh, .inl (g 0, 9, .inl fmh)), (Mr, .inl (g 0, 3, .inl fmr)), (Ma, .inl (g 0, 3, .inl fmax_47)), (Mas, .inl (g 0, 1767, .inl fasx_48))] H := ⟨hP2, hD2⟩
                have hS := hS2; clear hP2 hD2 hS2; have hP := hPD.1; have hD := hPD.2; clear hPD
                refine W.widen (k := 0) (n := 0) (Nat.le_of_ble_eq_true rfl) (Nat.le_of_ble_eq_true rfl) ?_
                refine lv_if_le (tgt := 44) hx hb dX7_bears_35 (by decide) (fun cb_50 => ?_) (fun cb_50 => ?_)
                · skip
                  refine lv_iload_n hx hb dX7_bears_44 rfl (lv_at hl 0 rfl) ?_
                  have hP9 := hP; have hD9 := hD
                  subst hQ
                  refine W.widen (k := 0) (n := 0) (Nat.le_of_ble_eq_true rfl) (Nat.le_of_ble_eq_true rfl) ?_
                  exact W.iret (v := 3) hx hb hr (fun tS htS _ => ⟨⟨_, _, rfl, ⟨0, fnox_46, fmax_47, fasx_48, rfl, (hf_49)⟩, by rw [htS]; exact hP9, hD9⟩, hS.F htS⟩) hS.2.2 dX7_bears_45
                · skip
                  refine lv_iinc (v := 2) (lv' := [(2, .int 2), (0, .ref Mm), (1, .int (nI j_5))]) hx hb dX7_bears_38 hl (k := 0) rfl (by decide) (by decide) rfl (fun ls hl => ?_)
                  refine lv_goto (tgt := 25) hx hb dX7_bears_41 (by decide) ?_
                  refine lv_iload_n hx hb dX7_bears_25 rfl (lv_at hl 0 rfl) ?_
                  refine lv_if_le (tgt := 44) hx hb dX7_bears_26 (by decide) (fun cb => absurd cb (by decide)) (fun _ => ?_)
                  refine lv_aload_n hx hb dX7_bears_29 rfl (lv_at hl 1 rfl) ?_
                  refine lv_iload_n hx hb dX7_bears_30 rfl (lv_at hl 0 rfl) ?_
                  refine lv_iload_n hx hb dX7_bears_31 rfl (lv_at hl 2 rfl) ?_
                  refine ky_Vi (As := [.int 2, .int (nI j_5)]) (rest := []) ⟨hx, hb, hml, hown, hts⟩ ⟨hK, hN⟩ hZ hP hD hS hA [0, 1, 2, 3, 4, 5] [] (wc := [(Mm, .inr (7, [.int 0, .ref Mt, .int (nI tp), .int zma, .int zwr, .ref Mrr, .ref Mrh, .ref Mrc, .int zrh, .int zrc, .ref Mn, .ref Mf, .ref Mr, .ref Mh, .int (nI hp), .int (nI cc), .ref Ma, .ref Mas, .ref Msn, .ref Mac, .ref Mat])), (Mn, .inl (g 0, 1767, .inl fnox_46)), (Mh, .inl (g 0, 9, .inl fmh)), (Mr, .inl (g 0, 3, .inl fmr)), (Ma, .inl (g 0, 3, .inl fmax_47)), (Mas, .inl (g 0, 1767, .inl fasx_48))]) (wr := []) rfl rfl rfl rfl (by decide) (k_X7_lossOf l D g H.size Mm 2 j_5 0 Mt tp zma zwr Mrr Mrh Mrc zrh zrc Mn Mf Mr Mh hp cc Ma Mas Msn Mac Mat fnox_46 fmh fmr fmax_47 fasx_48 tb ub (show tb < 2 ^ 27 by omega) (show ub < 2 ^ 27 by omega) (hf_49) (show 1 ≤ hp by omega) (show hp ≤ 3 by omega) (show 1 ≤ cc by omega) (show cc ≤ 3 by omega) (h7) (show j_5 ≤ 200 by omega)) (cwV 2 hts gX7_bears_X7_lossOf rfl rfl rfl (by decide +kernel) ⟨(Nat.le_of_ble_eq_true rfl), (Nat.le_of_ble_eq_true rfl)⟩) 0 7 rfl rfl rfl rfl hl.1 rfl (Nat.le_of_ble_eq_true rfl) dX7_bears_32 ⟨(Nat.le_of_ble_eq_true rfl), (Nat.le_of_ble_eq_true rfl)⟩ (fun r_51 u H locs hw hP2 hD2 hS2 => ?_)
                  clear hP hD hS
                  obtain ⟨fnox_52, fmax_53, fasx_54, rfl, hf_55⟩ := hw
                  have hPD : PD D A [(Mm, .inr (7, [.int 0, .ref Mt, .int (nI tp), .int zma, .int zwr, .ref Mrr, .ref Mrh, .ref Mrc, .int zrh, .int zrc, .ref Mn, .ref Mf, .ref Mr, .ref Mh, .int (nI hp), .int (nI cc), .ref Ma, .ref Mas, .ref Msn, .ref Mac, .ref Mat])), (Mn, .inl (g 0, 1767, .inl fnox_52)), (Mh, .inl (g 0, 9, .inl fmh)), (Mr, .inl (g 0, 3, .inl fmr)), (Ma, .inl (g 0, 3, .inl fmax_53)), (Mas, .inl (g 0, 1767, .inl fasx_54))] H := ⟨hP2, hD2⟩
                  have hS := hS2; clear hP2 hD2 hS2; have hP := hPD.1; have hD := hPD.2; clear hPD
                  refine W.widen (k := 0) (n := 0) (Nat.le_of_ble_eq_true rfl) (Nat.le_of_ble_eq_true rfl) ?_
                  refine lv_if_le (tgt := 44) hx hb dX7_bears_35 (by decide) (fun cb_56 => ?_) (fun cb_56 => ?_)
                  · skip
                    refine lv_iload_n hx hb dX7_bears_44 rfl (lv_at hl 0 rfl) ?_
                    have hP9 := hP; have hD9 := hD
                    subst hQ
                    refine W.widen (k := 0) (n := 0) (Nat.le_of_ble_eq_true rfl) (Nat.le_of_ble_eq_true rfl) ?_
                    exact W.iret (v := 2) hx hb hr (fun tS htS _ => ⟨⟨_, _, rfl, ⟨0, fnox_52, fmax_53, fasx_54, rfl, (hf_55)⟩, by rw [htS]; exact hP9, hD9⟩, hS.F htS⟩) hS.2.2 dX7_bears_45
                  · skip
                    refine lv_iinc (v := 1) (lv' := [(2, .int 1), (0, .ref Mm), (1, .int (nI j_5))]) hx hb dX7_bears_38 hl (k := 0) rfl (by decide) (by decide) rfl (fun ls hl => ?_)
                    refine lv_goto (tgt := 25) hx hb dX7_bears_41 (by decide) ?_
                    refine lv_iload_n hx hb dX7_bears_25 rfl (lv_at hl 0 rfl) ?_
                    refine lv_if_le (tgt := 44) hx hb dX7_bears_26 (by decide) (fun cb => absurd cb (by decide)) (fun _ => ?_)
                    refine lv_aload_n hx hb dX7_bears_29 rfl (lv_at hl 1 rfl) ?_
                    refine lv_iload_n hx hb dX7_bears_30 rfl (lv_at hl 0 rfl) ?_
                    refine lv_iload_n hx hb dX7_bears_31 rfl (lv_at hl 2 rfl) ?_
                    refine ky_Vi (As := [.int 1, .int (nI j_5)]) (rest := []) ⟨hx, hb, hml, hown, hts⟩ ⟨hK, hN⟩ hZ hP hD hS hA [0, 1, 2, 3, 4, 5] [] (wc := [(Mm, .inr (7, [.int 0, .ref Mt, .int (nI tp), .int zma, .int zwr, .ref Mrr, .ref Mrh, .ref Mrc, .int zrh, .int zrc, .ref Mn, .ref Mf, .ref Mr, .ref Mh, .int (nI hp), .int (nI cc), .ref Ma, .ref Mas, .ref Msn, .ref Mac, .ref Mat])), (Mn, .inl (g 0, 1767, .inl fnox_52)), (Mh, .inl (g 0, 9, .inl fmh)), (Mr, .inl (g 0, 3, .inl fmr)), (Ma, .inl (g 0, 3, .inl fmax_53)), (Mas, .inl (g 0, 1767, .inl fasx_54))]) (wr := []) rfl rfl rfl rfl (by decide) (k_X7_lossOf l D g H.size Mm 1 j_5 0 Mt tp zma zwr Mrr Mrh Mrc zrh zrc Mn Mf Mr Mh hp cc Ma Mas Msn Mac Mat fnox_52 fmh fmr fmax_53 fasx_54 tb ub (show tb < 2 ^ 27 by omega) (show ub < 2 ^ 27 by omega) (hf_55) (show 1 ≤ hp by omega) (show hp ≤ 3 by omega) (show 1 ≤ cc by omega) (show cc ≤ 3 by omega) (h7) (show j_5 ≤ 200 by omega)) (cwV 2 hts gX7_bears_X7_lossOf rfl rfl rfl (by decide +kernel) ⟨(Nat.le_of_ble_eq_true rfl), (Nat.le_of_ble_eq_true rfl)⟩) 0 7 rfl rfl rfl rfl hl.1 rfl (Nat.le_of_ble_eq_true rfl) dX7_bears_32 ⟨(Nat.le_of_ble_eq_true rfl), (Nat.le_of_ble_eq_true rfl)⟩ (fun r_57 u H locs hw hP2 hD2 hS2 => ?_)
                    clear hP hD hS
                    obtain ⟨fnox_58, fmax_59, fasx_60, rfl, hf_61⟩ := hw
                    have hPD : PD D A [(Mm, .inr (7, [.int 0, .ref Mt, .int (nI tp), .int zma, .int zwr, .ref Mrr, .ref Mrh, .ref Mrc, .int zrh, .int zrc, .ref Mn, .ref Mf, .ref Mr, .ref Mh, .int (nI hp), .int (nI cc), .ref Ma, .ref Mas, .ref Msn, .ref Mac, .ref Mat])), (Mn, .inl (g 0, 1767, .inl fnox_58)), (Mh, .inl (g 0, 9, .inl fmh)), (Mr, .inl (g 0, 3, .inl fmr)), (Ma, .inl (g 0, 3, .inl fmax_59)), (Mas, .inl (g 0, 1767, .inl fasx_60))] H := ⟨hP2, hD2⟩
                    have hS := hS2; clear hP2 hD2 hS2; have hP := hPD.1; have hD := hPD.2; clear hPD
                    refine W.widen (k := 0) (n := 0) (Nat.le_of_ble_eq_true rfl) (Nat.le_of_ble_eq_true rfl) ?_
                    refine lv_if_le (tgt := 44) hx hb dX7_bears_35 (by decide) (fun cb_62 => ?_) (fun cb_62 => ?_)
                    · skip
                      refine lv_iload_n hx hb dX7_bears_44 rfl (lv_at hl 0 rfl) ?_
                      have hP9 := hP; have hD9 := hD
                      subst hQ
                      refine W.widen (k := 0) (n := 0) (Nat.le_of_ble_eq_true rfl) (Nat.le_of_ble_eq_true rfl) ?_
                      exact W.iret (v := 1) hx hb hr (fun tS htS _ => ⟨⟨_, _, rfl, ⟨0, fnox_58, fmax_59, fasx_60, rfl, (hf_61)⟩, by rw [htS]; exact hP9, hD9⟩, hS.F htS⟩) hS.2.2 dX7_bears_45
                    · skip
                      refine lv_iinc (v := 0) (lv' := [(2, .int 0), (0, .ref Mm), (1, .int (nI j_5))]) hx hb dX7_bears_38 hl (k := 0) rfl (by decide) (by decide) rfl (fun ls hl => ?_)
                      refine lv_goto (tgt := 25) hx hb dX7_bears_41 (by decide) ?_
                      refine lv_iload_n hx hb dX7_bears_25 rfl (lv_at hl 0 rfl) ?_
                      refine lv_if_le (tgt := 44) hx hb dX7_bears_26 (by decide) (fun _ => ?_) (fun cb => absurd (by decide) cb)
                      refine lv_iload_n hx hb dX7_bears_44 rfl (lv_at hl 0 rfl) ?_
                      have hP9 := hP; have hD9 := hD
                      subst hQ
                      refine W.widen (k := 0) (n := 0) (Nat.le_of_ble_eq_true rfl) (Nat.le_of_ble_eq_true rfl) ?_
                      exact W.iret (v := 0) hx hb hr (fun tS htS _ => ⟨⟨_, _, rfl, ⟨0, fnox_58, fmax_59, fasx_60, rfl, (hf_61)⟩, by rw [htS]; exact hP9, hD9⟩, hS.F htS⟩) hS.2.2 dX7_bears_45
  · skip
    have hq_63 : ¬ (1 ≤ zk ∧ zk ≤ 200) := b01_0.mp cb_3
    refine lv_iconst (v := (-1)) hx hb dX7_bears_20 (by decide) ?_
    have hPD9 : PD D A [(Mm, .inr (7, [.int 0, .ref Mt, .int (nI tp), .int zma, .int zwr, .ref Mrr, .ref Mrh, .ref Mrc, .int zrh, .int zrc, .ref Mn, .ref Mf, .ref Mr, .ref Mh, .int (nI hp), .int (nI cc), .ref Ma, .ref Mas, .ref Msn, .ref Mac, .ref Mat])), (Mn, .inl (g 0, 1767, .inl fno)), (Mh, .inl (g 0, 9, .inl fmh)), (Mr, .inl (g 0, 3, .inl fmr)), (Ma, .inl (g 0, 3, .inl fma)), (Mas, .inl (g 0, 1767, .inl fas))] H := ⟨hP.sub [5, 0, 1, 2, 3, 4] rfl, hD.sub [5, 0, 1, 2, 3, 4] (by decide) rfl⟩
    have hP9 := hPD9.1; have hD9 := hPD9.2
    subst hQ
    refine W.widen (k := 0) (n := 0) (Nat.le_of_ble_eq_true rfl) (Nat.le_of_ble_eq_true rfl) ?_
    exact W.iret (v := (-1)) hx hb hr (fun tS htS _ => ⟨⟨_, _, rfl, ⟨0, fno, fma, fas, rfl, (h2)⟩, by rw [htS]; exact hP9, hD9⟩, hS.F htS⟩) hS.2.2 dX7_bears_21

set_option maxHeartbeats 4000000 in
set_option maxRecDepth 100000 in
theorem k_X7_fair (l : Launch) (D : va_G) (g : Nat → ClassId) (sz : Nat) {gs : Nat → Int32} (Mm : Nat) (zk : Int32) (zth : Int32) (Mt : Nat) (tp : Nat) (zma : Int32) (zwr : Int32) (Mrr : Nat) (Mrh : Nat) (Mrc : Nat) (zrh : Int32) (zrc : Int32) (Mn : Nat) (Mf : Nat) (Mr : Nat) (Mh : Nat) (hp : Nat) (cc : Nat) (Ma : Nat) (Mas : Nat) (Msn : Nat) (Mac : Nat) (Mat : Nat) (fno : Nat → Int32) (fmh : Nat → Int32) (fmr : Nat → Int32) (fma : Nat → Int32) (fas : Nat → Int32) (tb : Nat) (ub : Nat) (h0 : tb < 2 ^ 27) (h1 : ub < 2 ^ 27) (h2 : mOK gs tb ub fno) (h3 : 1 ≤ hp) (h4 : hp ≤ 3) (h5 : 1 ≤ cc) (h6 : cc ≤ 3) (h7 : n3 fmh) : Met l yX7_fair wsX7_fair ({ frames := 8, cells := 0, slots := 0, locals := 179 }) (va_Pc [.ref Mm, .int zk] (pre D g sz [(Mm, .inr (7, [.int zth, .ref Mt, .int (nI tp), .int zma, .int zwr, .ref Mrr, .ref Mrh, .ref Mrc, .int zrh, .int zrc, .ref Mn, .ref Mf, .ref Mr, .ref Mh, .int (nI hp), .int (nI cc), .ref Ma, .ref Mas, .ref Msn, .ref Mac, .ref Mat])), (Mn, .inl (g 0, 1767, .inl fno)), (Mh, .inl (g 0, 9, .inl fmh)), (Mr, .inl (g 0, 3, .inl fmr)), (Ma, .inl (g 0, 3, .inl fma)), (Mas, .inl (g 0, 1767, .inl fas))])) (va_Qi (fun (r : Int32) (u : va_W) => ∃ (zthx : Int32) (fnox : Nat → Int32) (fmax : Nat → Int32) (fasx : Nat → Int32), u = [(Mm, .inr (7, [.int zthx, .ref Mt, .int (nI tp), .int zma, .int zwr, .ref Mrr, .ref Mrh, .ref Mrc, .int zrh, .int zrc, .ref Mn, .ref Mf, .ref Mr, .ref Mh, .int (nI hp), .int (nI cc), .ref Ma, .ref Mas, .ref Msn, .ref Mac, .ref Mat])), (Mn, .inl (g 0, 1767, .inl fnox)), (Mh, .inl (g 0, 9, .inl fmh)), (Mr, .inl (g 0, 3, .inl fmr)), (Ma, .inl (g 0, 3, .inl fmax)), (Mas, .inl (g 0, 1767, .inl fasx))] ∧ (mOK gs tb ub fnox)) (wd D (va_A [(Mm, .inr (7, [.int zth, .ref Mt, .int (nI tp), .int zma, .int zwr, .ref Mrr, .ref Mrh, .ref Mrc, .int zrh, .int zrc, .ref Mn, .ref Mf, .ref Mr, .ref Mh, .int (nI hp), .int (nI cc), .ref Ma, .ref Mas, .ref Msn, .ref Mac, .ref Mat])), (Mn, .inl (g 0, 1767, .inl fno)), (Mh, .inl (g 0, 9, .inl fmh)), (Mr, .inl (g 0, 3, .inl fmr)), (Ma, .inl (g 0, 3, .inl fma)), (Mas, .inl (g 0, 1767, .inl fas))] sz)) (va_A [(Mm, .inr (7, [.int zth, .ref Mt, .int (nI tp), .int zma, .int zwr, .ref Mrr, .ref Mrh, .ref Mrc, .int zrh, .int zrc, .ref Mn, .ref Mf, .ref Mr, .ref Mh, .int (nI hp), .int (nI cc), .ref Ma, .ref Mas, .ref Msn, .ref Mac, .ref Mat])), (Mn, .inl (g 0, 1767, .inl fno)), (Mh, .inl (g 0, 9, .inl fmh)), (Mr, .inl (g 0, 3, .inl fmr)), (Ma, .inl (g 0, 3, .inl fma)), (Mas, .inl (g 0, 1767, .inl fas))] sz)) 0 0 (va_A [(Mm, .inr (7, [.int zth, .ref Mt, .int (nI tp), .int zma, .int zwr, .ref Mrr, .ref Mrh, .ref Mrc, .int zrh, .int zrc, .ref Mn, .ref Mf, .ref Mr, .ref Mh, .int (nI hp), .int (nI cc), .ref Ma, .ref Mas, .ref Msn, .ref Mac, .ref Mat])), (Mn, .inl (g 0, 1767, .inl fno)), (Mh, .inl (g 0, 9, .inl fmh)), (Mr, .inl (g 0, 3, .inl fmr)), (Ma, .inl (g 0, 3, .inl fma)), (Mas, .inl (g 0, 1767, .inl fas))] sz) := by
  refine Met.ofW (cc := cX7_fair) (maxL := 6) (ret := (some .int)) (by decide) rfl ?_
  intro p e s m args below meth c s₁ B hml hv
  obtain ⟨rfl, hsz, hP, ⟨hK, hN⟩, hD0, hZ⟩ := hv
  have hx := B.exec
  have hb := B.bytes
  have hr := B.returns
  have hts := atoms_spec (ws := wsX7_fair) B.pre
  have hown : s.vm.findClass RX7 = some m.cls := findClass_of_methodNamed B.named
  have hlocks := B.notSynchronized
  clear B
  subst hsz
  have hD := hD0.self (sz := s.heap.size)
  clear hD0
  generalize hAe : va_A [(Mm, .inr (7, [.int zth, .ref Mt, .int (nI tp), .int zma, .int zwr, .ref Mrr, .ref Mrh, .ref Mrc, .int zrh, .int zrc, .ref Mn, .ref Mf, .ref Mr, .ref Mh, .int (nI hp), .int (nI cc), .ref Ma, .ref Mas, .ref Msn, .ref Mac, .ref Mat])), (Mn, .inl (g 0, 1767, .inl fno)), (Mh, .inl (g 0, 9, .inl fmh)), (Mr, .inl (g 0, 3, .inl fmr)), (Ma, .inl (g 0, 3, .inl fma)), (Mas, .inl (g 0, 1767, .inl fas))] s.heap.size = A at hD hZ ⊢
  have hA : ∀ q : Nat, s.heap.size ≤ q → A q := fun q h => by rw [← hAe]; exact Or.inr h
  have hS : va_S A s.heap s.heap [] := va_S.rf
  have f127 := hts (.fieldLink RX7 127 "HopCreditsModel" "circuits" "I") (List.mem_of_getElem? (i := 2) rfl)
  have f49 := hts (.fieldLink RX7 49 "HopCreditsModel" "thrown" "I") (List.mem_of_getElem? (i := 1) rfl)
  have mcmax := hts (.code Lib.Math.max.name Lib.Math.max.code 2 (some .int)) (List.mem_of_getElem? (i := 6) rfl)
  have mcmin := hts (.code Lib.Math.min.name Lib.Math.min.code 2 (some .int)) (List.mem_of_getElem? (i := 9) rfl)
  have mi := hts (.initialized "java/lang/Math") (List.mem_of_getElem? (i := 5) rfl)
  have mmmax := hts (.methodLink RX7 154 Lib.Math.max.name) (List.mem_of_getElem? (i := 3) rfl)
  have mmmin := hts (.methodLink RX7 175 Lib.Math.min.name) (List.mem_of_getElem? (i := 7) rfl)
  have mtmax := hts (.static Lib.Math.max.name) (List.mem_of_getElem? (i := 4) rfl)
  have mtmin := hts (.static Lib.Math.min.name) (List.mem_of_getElem? (i := 8) rfl)
  have iX7 : ∀ w ∈ u_ws RX7 TX7 21, w ∈ wsX7_fair := fun w h => List.mem_cons_of_mem _ (List.mem_append_right _ (h))
  have hl := lv_entry ([.ref Mm, .int zk]) (n := 6) (Nat.le_of_ble_eq_true rfl)
  rw [lg_entry_eq]
  generalize (lg_sl ([.ref Mm, .int zk]) ++ List.replicate (6 - (lg_sl ([.ref Mm, .int zk])).length) Slot.unset).toArray = ls at hl ⊢
  have hl : lv_has ls 6 [(0, .ref Mm), (1, .int zk)] := hl
  generalize hQ : MQ below _ _ s _ _ _ = Q
  generalize hH : s.heap = H at hP ⊢
  have hS : va_S A s.heap H [] := by rw [← hH]; exact hS
  clear hH
  refine lv_aload_n hx hb dX7_fair_0 rfl (lv_at hl 0 rfl) ?_
  refine lv_iconst (v := 0) hx hb dX7_fair_1 (by decide) ?_
  refine va_put (D := D) (ci := 7) (v := .int 0) (ty := .int) (C := RX7) (T := TX7) (N := 21) hx hb hts iX7 tyX7 tyX7_ok nmX7 hown hK hP hD hS 0 rfl rfl 0 (by decide) f49 (fun _ h9 => h9) rfl (by decide +kernel) (rfl) (rfl) (Nat.le_of_ble_eq_true rfl) dX7_fair_2 (fun H locs hP2 hD2 hS2 => ?_)
  clear hP hD hS
  have hPD : PD D A [(Mm, .inr (7, [.int 0, .ref Mt, .int (nI tp), .int zma, .int zwr, .ref Mrr, .ref Mrh, .ref Mrc, .int zrh, .int zrc, .ref Mn, .ref Mf, .ref Mr, .ref Mh, .int (nI hp), .int (nI cc), .ref Ma, .ref Mas, .ref Msn, .ref Mac, .ref Mat])), (Mn, .inl (g 0, 1767, .inl fno)), (Mh, .inl (g 0, 9, .inl fmh)), (Mr, .inl (g 0, 3, .inl fmr)), (Ma, .inl (g 0, 3, .inl fma)), (Mas, .inl (g 0, 1767, .inl fas))] H := ⟨hP2, hD2⟩
  have hS := hS2; clear hP2 hD2 hS2; have hP := hPD.1; have hD := hPD.2; clear hPD
  refine lv_aload_n hx hb dX7_fair_5 rfl (lv_at hl 0 rfl) ?_
  refine ky_Vi (As := []) (rest := []) ⟨hx, hb, hml, hown, hts⟩ ⟨hK, hN⟩ hZ hP hD hS hA [0] [1, 2, 3, 4, 5] (wc := [(Mm, .inr (7, [.int 0, .ref Mt, .int (nI tp), .int zma, .int zwr, .ref Mrr, .ref Mrh, .ref Mrc, .int zrh, .int zrc, .ref Mn, .ref Mf, .ref Mr, .ref Mh, .int (nI hp), .int (nI cc), .ref Ma, .ref Mas, .ref Msn, .ref Mac, .ref Mat]))]) (wr := [(Mn, .inl (g 0, 1767, .inl fno)), (Mh, .inl (g 0, 9, .inl fmh)), (Mr, .inl (g 0, 3, .inl fmr)), (Ma, .inl (g 0, 3, .inl fma)), (Mas, .inl (g 0, 1767, .inl fas))]) rfl rfl rfl rfl (by decide) (k_X7_isNet l D g H.size Mm 0 Mt tp zma zwr Mrr Mrh Mrc zrh zrc Mn Mf Mr Mh hp cc Ma Mas Msn Mac Mat (show 1 ≤ hp by omega) (show hp ≤ 3 by omega)) (cwV 0 hts gX7_fair_X7_isNet rfl rfl rfl (by decide +kernel) ⟨(Nat.le_of_ble_eq_true rfl), (Nat.le_of_ble_eq_true rfl)⟩) 0 7 rfl rfl rfl rfl hl.1 rfl (Nat.le_of_ble_eq_true rfl) dX7_fair_6 ⟨(Nat.le_of_ble_eq_true rfl), (Nat.le_of_ble_eq_true rfl)⟩ (fun r_1 u H locs hw hP2 hD2 hS2 => ?_)
  clear hP hD hS
  obtain ⟨rfl, rfl⟩ := hw
  have hPD : PD D A [(Mn, .inl (g 0, 1767, .inl fno)), (Mh, .inl (g 0, 9, .inl fmh)), (Mr, .inl (g 0, 3, .inl fmr)), (Ma, .inl (g 0, 3, .inl fma)), (Mas, .inl (g 0, 1767, .inl fas)), (Mm, .inr (7, [.int 0, .ref Mt, .int (nI tp), .int zma, .int zwr, .ref Mrr, .ref Mrh, .ref Mrc, .int zrh, .int zrc, .ref Mn, .ref Mf, .ref Mr, .ref Mh, .int (nI hp), .int (nI cc), .ref Ma, .ref Mas, .ref Msn, .ref Mac, .ref Mat]))] H := ⟨hP2, hD2⟩
  have hS := hS2; clear hP2 hD2 hS2; have hP := hPD.1; have hD := hPD.2; clear hPD
  refine W.widen (k := 0) (n := 0) (Nat.le_of_ble_eq_true rfl) (Nat.le_of_ble_eq_true rfl) ?_
  refine lv_if_eq (tgt := 20) hx hb dX7_fair_9 (by decide) (fun cb => absurd cb (by decide)) (fun _ => ?_)
  refine lv_iload_n hx hb dX7_fair_12 rfl (lv_at hl 1 rfl) ?_
  refine lv_iconst (v := 1) hx hb dX7_fair_13 (by decide) ?_
  refine ky_Si (As := [.int zk, .int 1]) (rest := []) ⟨hx, hb, hml, hown, hts⟩ ⟨hK, hN⟩ hZ hP hD hS hA [] [0, 1, 2, 3, 4, 5] (wc := []) (wr := [(Mn, .inl (g 0, 1767, .inl fno)), (Mh, .inl (g 0, 9, .inl fmh)), (Mr, .inl (g 0, 3, .inl fmr)), (Ma, .inl (g 0, 3, .inl fma)), (Mas, .inl (g 0, 1767, .inl fas)), (Mm, .inr (7, [.int 0, .ref Mt, .int (nI tp), .int zma, .int zwr, .ref Mrr, .ref Mrh, .ref Mrc, .int zrh, .int zrc, .ref Mn, .ref Mf, .ref Mr, .ref Mh, .int (nI hp), .int (nI cc), .ref Ma, .ref Mas, .ref Msn, .ref Mac, .ref Mat]))]) rfl rfl rfl rfl (by decide) (k_X7_isSpan l D g H.size zk 1) (va_cwS 2 hts gX7_fair_X7_isSpan rfl rfl rfl (by decide +kernel) ⟨(Nat.le_of_ble_eq_true rfl), (Nat.le_of_ble_eq_true rfl)⟩) rfl hl.1 rfl (Nat.le_of_ble_eq_true rfl) dX7_fair_14 ⟨(Nat.le_of_ble_eq_true rfl), (Nat.le_of_ble_eq_true rfl)⟩ (fun r_2 u H locs hw hP2 hD2 hS2 => ?_)
  clear hP hD hS
  obtain ⟨rfl, rfl⟩ := hw
  have hPD : PD D A [(Mn, .inl (g 0, 1767, .inl fno)), (Mh, .inl (g 0, 9, .inl fmh)), (Mr, .inl (g 0, 3, .inl fmr)), (Ma, .inl (g 0, 3, .inl fma)), (Mas, .inl (g 0, 1767, .inl fas)), (Mm, .inr (7, [.int 0, .ref Mt, .int (nI tp), .int zma, .int zwr, .ref Mrr, .ref Mrh, .ref Mrc, .int zrh, .int zrc, .ref Mn, .ref Mf, .ref Mr, .ref Mh, .int (nI hp), .int (nI cc), .ref Ma, .ref Mas, .ref Msn, .ref Mac, .ref Mat]))] H := ⟨hP2, hD2⟩
  have hS := hS2; clear hP2 hD2 hS2; have hP := hPD.1; have hD := hPD.2; clear hPD
  refine W.widen (k := 0) (n := 0) (Nat.le_of_ble_eq_true rfl) (Nat.le_of_ble_eq_true rfl) ?_
  refine lv_if_ne (tgt := 22) hx hb dX7_fair_17 (by decide) (fun cb_3 => ?_) (fun cb_3 => ?_)
  · skip
    have hq_4 : 1 ≤ zk ∧ zk ≤ 200 := b01_1.mp cb_3
    have hPq_8 := hP; have hDq_8 := hD; have hSq_8 := hS; have hlq_8 := hl; clear hP hD hS hl
    obtain ⟨j_5, hl_6, hu_7, rfl⟩ := rg (L := 1) (U := 200) rfl rfl (show 1 < 2 ^ 31 by omega) (show 200 < 2 ^ 31 by omega) hq_4
    have hP := hPq_8; have hD := hDq_8; have hS := hSq_8; have hl := hlq_8; clear hPq_8 hDq_8 hSq_8 hlq_8
    refine lv_iconst (v := (-1)) hx hb dX7_fair_22 (by decide) ?_
    refine lv_istore_n (lv' := [(2, .int (-1)), (0, .ref Mm), (1, .int (nI j_5))]) hx hb dX7_fair_23 rfl hl (by decide) rfl (fun ls hl => ?_)
    refine lv_iconst (v := (-1)) hx hb dX7_fair_24 (by decide) ?_
    refine lv_istore_n (lv' := [(3, .int (-1)), (2, .int (-1)), (0, .ref Mm), (1, .int (nI j_5))]) hx hb dX7_fair_25 rfl hl (by decide) rfl (fun ls hl => ?_)
    refine lv_iconst (v := 0) hx hb dX7_fair_26 (by decide) ?_
    refine lv_istore (lv' := [(4, .int 0), (3, .int (-1)), (2, .int (-1)), (0, .ref Mm), (1, .int (nI j_5))]) hx hb dX7_fair_27 hl (by decide) rfl (fun ls hl => ?_)
    have loop_37 : ∀ (Nloop_37 : Nat) (i_17 : Nat) (i_18 : Int32) (i_19 : Int32) (F_20 : Nat → Int32) (F_21 : Nat → Int32) (F_22 : Nat → Int32) (hF_20 : mOK gs tb ub F_20) (hbi_17 : i_17 ≤ cc) (hmloop_37 : cc - i_17 < Nloop_37) (H : Heap) (locs : List Loc) (ls : Array Slot), va_P D vwCl [(Mn, .inl (g 0, 1767, .inl F_20)), (Mh, .inl (g 0, 9, .inl fmh)), (Mr, .inl (g 0, 3, .inl fmr)), (Ma, .inl (g 0, 3, .inl F_21)), (Mas, .inl (g 0, 1767, .inl F_22)), (Mm, .inr (7, [.int 0, .ref Mt, .int (nI tp), .int zma, .int zwr, .ref Mrr, .ref Mrh, .ref Mrc, .int zrh, .int zrc, .ref Mn, .ref Mf, .ref Mr, .ref Mh, .int (nI hp), .int (nI cc), .ref Ma, .ref Mas, .ref Msn, .ref Mac, .ref Mat]))] H → va_D A [(Mn, .inl (g 0, 1767, .inl F_20)), (Mh, .inl (g 0, 9, .inl fmh)), (Mr, .inl (g 0, 3, .inl fmr)), (Ma, .inl (g 0, 3, .inl F_21)), (Mas, .inl (g 0, 1767, .inl F_22)), (Mm, .inr (7, [.int 0, .ref Mt, .int (nI tp), .int zma, .int zwr, .ref Mrr, .ref Mrh, .ref Mrc, .int zrh, .int zrc, .ref Mn, .ref Mf, .ref Mr, .ref Mh, .int (nI hp), .int (nI cc), .ref Ma, .ref Mas, .ref Msn, .ref Mac, .ref Mat]))] → va_S A s.heap H locs → lv_has ls 6 [(4, .int (nI i_17)), (3, .int i_18), (2, .int i_19), (0, .ref Mm), (1, .int (nI j_5))] → W p l e (headSpec wsX7_fair ({ frames := 8, cells := 0, slots := 0, locals := 179 })).room s m ([.ref Mm, .int (nI j_5)] : List Value).toArray below meth c H locs 0 0 Q (F0 m 29 ls []) := by
      clear hP hD hS hl
      intro Nloop_37
      induction Nloop_37 with
      | zero => intro i_17 i_18 i_19 F_20 F_21 F_22 hF_20 hbi_17 hm9; exact absurd hm9 (Nat.not_lt_zero _)
      | succ Nloop_37 loop_37_ih =>
        intro i_17 i_18 i_19 F_20 F_21 F_22 hF_20 hbi_17 hmloop_37 H locs ls hP hD hS hl
        refine lv_iload hx hb dX7_fair_29 (lv_at hl 0 rfl) ?_
        refine lv_aload_n hx hb dX7_fair_31 rfl (lv_at hl 3 rfl) ?_
        refine va_get (D := D) (ci := 7) (v := .int (nI cc)) (C := RX7) (T := TX7) (N := 21) hx hb hts iX7 hown hK hP 5 rfl rfl 15 (by decide) f127 (fun _ h9 => h9) rfl dX7_fair_32 ?_
        refine lv_icmp_ge (tgt := 81) hx hb dX7_fair_35 (by decide) (fun cb_38 => ?_) (fun cb_38 => ?_)
        · skip
          have cn_39 : cc ≤ i_17 := (nI_leI (show cc < 2 ^ 31 by omega) (show i_17 < 2 ^ 31 by omega)).mp cb_38
          refine lv_iload_n hx hb dX7_fair_81 rfl (lv_at hl 2 rfl) ?_
          refine lv_iload_n hx hb dX7_fair_82 rfl (lv_at hl 1 rfl) ?_
          refine lv_isub hx hb dX7_fair_83 ?_
          refine lv_topi (fun y_40 _ => ?_)
          have hPD9 : PD D A [(Mm, .inr (7, [.int 0, .ref Mt, .int (nI tp), .int zma, .int zwr, .ref Mrr, .ref Mrh, .ref Mrc, .int zrh, .int zrc, .ref Mn, .ref Mf, .ref Mr, .ref Mh, .int (nI hp), .int (nI cc), .ref Ma, .ref Mas, .ref Msn, .ref Mac, .ref Mat])), (Mn, .inl (g 0, 1767, .inl F_20)), (Mh, .inl (g 0, 9, .inl fmh)), (Mr, .inl (g 0, 3, .inl fmr)), (Ma, .inl (g 0, 3, .inl F_21)), (Mas, .inl (g 0, 1767, .inl F_22))] H := ⟨hP.sub [5, 0, 1, 2, 3, 4] rfl, hD.sub [5, 0, 1, 2, 3, 4] (by decide) rfl⟩
          have hP9 := hPD9.1; have hD9 := hPD9.2
          subst hQ
          refine W.widen (k := 0) (n := 0) (Nat.le_of_ble_eq_true rfl) (Nat.le_of_ble_eq_true rfl) ?_
          exact W.iret (v := y_40) hx hb hr (fun tS htS _ => ⟨⟨_, _, rfl, ⟨0, F_20, F_21, F_22, rfl, (hF_20)⟩, by rw [htS]; exact hP9, hD9⟩, hS.F htS⟩) hS.2.2 dX7_fair_84
        · skip
          have cn_41 : i_17 < cc := Nat.lt_of_not_le (fun q9 => cb_38 ((nI_leI (show cc < 2 ^ 31 by omega) (show i_17 < 2 ^ 31 by omega)).mpr q9))
          refine lv_aload_n hx hb dX7_fair_38 rfl (lv_at hl 3 rfl) ?_
          refine ky_Vv (As := []) (rest := []) ⟨hx, hb, hml, hown, hts⟩ ⟨hK, hN⟩ hZ hP hD hS hA [5, 0, 4] [1, 2, 3] (wc := [(Mm, .inr (7, [.int 0, .ref Mt, .int (nI tp), .int zma, .int zwr, .ref Mrr, .ref Mrh, .ref Mrc, .int zrh, .int zrc, .ref Mn, .ref Mf, .ref Mr, .ref Mh, .int (nI hp), .int (nI cc), .ref Ma, .ref Mas, .ref Msn, .ref Mac, .ref Mat])), (Mn, .inl (g 0, 1767, .inl F_20)), (Mas, .inl (g 0, 1767, .inl F_22))]) (wr := [(Mh, .inl (g 0, 9, .inl fmh)), (Mr, .inl (g 0, 3, .inl fmr)), (Ma, .inl (g 0, 3, .inl F_21))]) rfl rfl rfl rfl (by decide) (k_X7_putAside l D g H.size Mm 0 Mt tp zma zwr Mrr Mrh Mrc zrh zrc Mn Mf Mr Mh hp cc Ma Mas Msn Mac Mat F_20 F_22 tb ub (hF_20)) (cwV 0 hts gX7_fair_X7_putAside rfl rfl rfl (by decide +kernel) ⟨(Nat.le_of_ble_eq_true rfl), (Nat.le_of_ble_eq_true rfl)⟩) 5 7 rfl rfl rfl rfl hl.1 rfl (Nat.le_of_ble_eq_true rfl) dX7_fair_39 ⟨(Nat.le_of_ble_eq_true rfl), (Nat.le_of_ble_eq_true rfl)⟩ (fun u H locs hw hP2 hD2 hS2 => ?_)
          clear hP hD hS
          obtain ⟨fasx_43, rfl, hf_44⟩ := hw
          have hPD : PD D A [(Mh, .inl (g 0, 9, .inl fmh)), (Mr, .inl (g 0, 3, .inl fmr)), (Ma, .inl (g 0, 3, .inl F_21)), (Mm, .inr (7, [.int 0, .ref Mt, .int (nI tp), .int zma, .int zwr, .ref Mrr, .ref Mrh, .ref Mrc, .int zrh, .int zrc, .ref Mn, .ref Mf, .ref Mr, .ref Mh, .int (nI hp), .int (nI cc), .ref Ma, .ref Mas, .ref Msn, .ref Mac, .ref Mat])), (Mn, .inl (g 0, 1767, .inl F_20)), (Mas, .inl (g 0, 1767, .inl fasx_43))] H := ⟨hP2, hD2⟩
          have hS := hS2; clear hP2 hD2 hS2; have hP := hPD.1; have hD := hPD.2; clear hPD
          refine W.widen (k := 0) (n := 0) (Nat.le_of_ble_eq_true rfl) (Nat.le_of_ble_eq_true rfl) ?_
          refine lv_aload_n hx hb dX7_fair_42 rfl (lv_at hl 3 rfl) ?_
          refine lv_iload hx hb dX7_fair_43 (lv_at hl 0 rfl) ?_
          refine lv_iload_n hx hb dX7_fair_45 rfl (lv_at hl 4 rfl) ?_
          refine ky_Vi (As := [.int (nI i_17), .int (nI j_5)]) (rest := []) ⟨hx, hb, hml, hown, hts⟩ ⟨hK, hN⟩ hZ hP hD hS hA [3, 4, 0, 1, 2, 5] [] (wc := [(Mm, .inr (7, [.int 0, .ref Mt, .int (nI tp), .int zma, .int zwr, .ref Mrr, .ref Mrh, .ref Mrc, .int zrh, .int zrc, .ref Mn, .ref Mf, .ref Mr, .ref Mh, .int (nI hp), .int (nI cc), .ref Ma, .ref Mas, .ref Msn, .ref Mac, .ref Mat])), (Mn, .inl (g 0, 1767, .inl F_20)), (Mh, .inl (g 0, 9, .inl fmh)), (Mr, .inl (g 0, 3, .inl fmr)), (Ma, .inl (g 0, 3, .inl F_21)), (Mas, .inl (g 0, 1767, .inl fasx_43))]) (wr := []) rfl rfl rfl rfl (by decide) (k_X7_deliveredIn l D g H.size Mm (nI i_17) j_5 0 Mt tp zma zwr Mrr Mrh Mrc zrh zrc Mn Mf Mr Mh hp cc Ma Mas Msn Mac Mat F_20 fmh fmr F_21 fasx_43 tb ub (show tb < 2 ^ 27 by omega) (show ub < 2 ^ 27 by omega) (hF_20) (show 1 ≤ hp by omega) (show hp ≤ 3 by omega) (show 1 ≤ cc by omega) (show cc ≤ 3 by omega) (h7) (hf_44) (show j_5 ≤ 200 by omega)) (cwV 2 hts gX7_fair_X7_deliveredIn rfl rfl rfl (by decide +kernel) ⟨(Nat.le_of_ble_eq_true rfl), (Nat.le_of_ble_eq_true rfl)⟩) 3 7 rfl rfl rfl rfl hl.1 rfl (Nat.le_of_ble_eq_true rfl) dX7_fair_46 ⟨(Nat.le_of_ble_eq_true rfl), (Nat.le_of_ble_eq_true rfl)⟩ (fun r_45 u H locs hw hP2 hD2 hS2 => ?_)
          clear hP hD hS
          obtain ⟨fnox_46, fmax_47, rfl, hf_48⟩ := hw
          have hPD : PD D A [(Mm, .inr (7, [.int 0, .ref Mt, .int (nI tp), .int zma, .int zwr, .ref Mrr, .ref Mrh, .ref Mrc, .int zrh, .int zrc, .ref Mn, .ref Mf, .ref Mr, .ref Mh, .int (nI hp), .int (nI cc), .ref Ma, .ref Mas, .ref Msn, .ref Mac, .ref Mat])), (Mn, .inl (g 0, 1767, .inl fnox_46)), (Mh, .inl (g 0, 9, .inl fmh)), (Mr, .inl (g 0, 3, .inl fmr)), (Ma, .inl (g 0, 3, .inl fmax_47)), (Mas, .inl (g 0, 1767, .inl fasx_43))] H := ⟨hP2, hD2⟩
          have hS := hS2; clear hP2 hD2 hS2; have hP := hPD.1; have hD := hPD.2; clear hPD
          refine W.widen (k := 0) (n := 0) (Nat.le_of_ble_eq_true rfl) (Nat.le_of_ble_eq_true rfl) ?_
          refine lv_istore (lv' := [(5, .int r_45), (4, .int (nI i_17)), (3, .int i_18), (2, .int i_19), (0, .ref Mm), (1, .int (nI j_5))]) hx hb dX7_fair_49 hl (by decide) rfl (fun ls hl => ?_)
          refine lv_iload_n hx hb dX7_fair_51 rfl (lv_at hl 3 rfl) ?_
          refine lv_iload hx hb dX7_fair_52 (lv_at hl 0 rfl) ?_
          refine va_mmax hx hb (hml.trans hl.1.symm) hown mmmax mtmax mi mcmax (Nat.le_of_ble_eq_true rfl) (Nat.le_of_ble_eq_true rfl) (Nat.le_of_ble_eq_true rfl) (Nat.le_of_ble_eq_true rfl) dX7_fair_54 ?_
          refine lv_topi (fun y_49 _ => ?_)
          refine lv_istore_n (lv' := [(2, .int y_49), (5, .int r_45), (4, .int (nI i_17)), (3, .int i_18), (0, .ref Mm), (1, .int (nI j_5))]) hx hb dX7_fair_57 rfl hl (by decide) rfl (fun ls hl => ?_)
          refine lv_iload_n hx hb dX7_fair_58 rfl (lv_at hl 3 rfl) ?_
          refine lv_iconst (v := (-1)) hx hb dX7_fair_59 (by decide) ?_
          refine lv_icmp_ne (tgt := 68) hx hb dX7_fair_60 (by decide) (fun cb_50 => ?_) (fun cb_50 => ?_)
          · skip
            refine lv_iload_n hx hb dX7_fair_68 rfl (lv_at hl 3 rfl) ?_
            refine lv_iload hx hb dX7_fair_69 (lv_at hl 1 rfl) ?_
            refine va_mmin hx hb (hml.trans hl.1.symm) hown mmmin mtmin mi mcmin (Nat.le_of_ble_eq_true rfl) (Nat.le_of_ble_eq_true rfl) (Nat.le_of_ble_eq_true rfl) (Nat.le_of_ble_eq_true rfl) dX7_fair_71 ?_
            refine lv_topi (fun y_51 _ => ?_)
            refine lv_istore_n (lv' := [(3, .int y_51), (2, .int y_49), (5, .int r_45), (4, .int (nI i_17)), (0, .ref Mm), (1, .int (nI j_5))]) hx hb dX7_fair_74 rfl hl (by decide) rfl (fun ls hl => ?_)
            refine lv_iinc (v := (nI (i_17 + 1))) (lv' := [(4, .int (nI (i_17 + 1))), (3, .int y_51), (2, .int y_49), (5, .int r_45), (0, .ref Mm), (1, .int (nI j_5))]) hx hb dX7_fair_75 hl (k := 3) rfl (nI_1 (i_17)) (by decide) rfl (fun ls hl => ?_)
            refine lv_goto (tgt := 29) hx hb dX7_fair_78 (by decide) ?_
            exact loop_37_ih (i_17 + 1) y_51 y_49 fnox_46 fmax_47 fasx_43 (hf_48) (show (i_17 + 1) ≤ cc by omega) (show cc - (i_17 + 1) < Nloop_37 by omega) _ _ _ (hP.sub [1, 2, 3, 4, 5, 0] rfl) (hD.sub [1, 2, 3, 4, 5, 0] (by decide) rfl) hS (lv_sub hl [0, 1, 2, 4, 5] rfl)
          · skip
            have hPq_52 := hP; have hDq_52 := hD; have hSq_52 := hS; have hlq_52 := hl; clear hP hD hS hl
            subst cb_50
            have hP := hPq_52; have hD := hDq_52; have hS := hSq_52; have hl := hlq_52; clear hPq_52 hDq_52 hSq_52 hlq_52
            refine lv_iload hx hb dX7_fair_63 (lv_at hl 1 rfl) ?_
            refine lv_goto (tgt := 74) hx hb dX7_fair_65 (by decide) ?_
            refine lv_istore_n (lv' := [(3, .int r_45), (2, .int y_49), (5, .int r_45), (4, .int (nI i_17)), (0, .ref Mm), (1, .int (nI j_5))]) hx hb dX7_fair_74 rfl hl (by decide) rfl (fun ls hl => ?_)
            refine lv_iinc (v := (nI (i_17 + 1))) (lv' := [(4, .int (nI (i_17 + 1))), (3, .int r_45), (2, .int y_49), (5, .int r_45), (0, .ref Mm), (1, .int (nI j_5))]) hx hb dX7_fair_75 hl (k := 3) rfl (nI_1 (i_17)) (by decide) rfl (fun ls hl => ?_)
            refine lv_goto (tgt := 29) hx hb dX7_fair_78 (by decide) ?_
            exact loop_37_ih (i_17 + 1) r_45 y_49 fnox_46 fmax_47 fasx_43 (hf_48) (show (i_17 + 1) ≤ cc by omega) (show cc - (i_17 + 1) < Nloop_37 by omega) _ _ _ (hP.sub [1, 2, 3, 4, 5, 0] rfl) (hD.sub [1, 2, 3, 4, 5, 0] (by decide) rfl) hS (lv_sub hl [0, 1, 2, 4, 5] rfl)
    exact loop_37 _ 0 (-1) (-1) fno fma fas (h2) (show 0 ≤ cc by omega) (Nat.lt_succ_self _) _ _ _ hP hD hS hl
  · skip
    have hq_53 : ¬ (1 ≤ zk ∧ zk ≤ 200) := b01_0.mp cb_3
    refine lv_iconst (v := (-1)) hx hb dX7_fair_20 (by decide) ?_
    have hPD9 : PD D A [(Mm, .inr (7, [.int 0, .ref Mt, .int (nI tp), .int zma, .int zwr, .ref Mrr, .ref Mrh, .ref Mrc, .int zrh, .int zrc, .ref Mn, .ref Mf, .ref Mr, .ref Mh, .int (nI hp), .int (nI cc), .ref Ma, .ref Mas, .ref Msn, .ref Mac, .ref Mat])), (Mn, .inl (g 0, 1767, .inl fno)), (Mh, .inl (g 0, 9, .inl fmh)), (Mr, .inl (g 0, 3, .inl fmr)), (Ma, .inl (g 0, 3, .inl fma)), (Mas, .inl (g 0, 1767, .inl fas))] H := ⟨hP.sub [5, 0, 1, 2, 3, 4] rfl, hD.sub [5, 0, 1, 2, 3, 4] (by decide) rfl⟩
    have hP9 := hPD9.1; have hD9 := hPD9.2
    subst hQ
    refine W.widen (k := 0) (n := 0) (Nat.le_of_ble_eq_true rfl) (Nat.le_of_ble_eq_true rfl) ?_
    exact W.iret (v := (-1)) hx hb hr (fun tS htS _ => ⟨⟨_, _, rfl, ⟨0, fno, fma, fas, rfl, (h2)⟩, by rw [htS]; exact hP9, hD9⟩, hS.F htS⟩) hS.2.2 dX7_fair_21

set_option maxHeartbeats 4000000 in
set_option maxRecDepth 100000 in
theorem k_X7_learns (l : Launch) (D : va_G) (g : Nat → ClassId) (sz : Nat) {gs : Nat → Int32} (Mm : Nat) (zh : Int32) (zc : Int32) (zth : Int32) (Mt : Nat) (tp : Nat) (zma : Int32) (zwr : Int32) (Mrr : Nat) (Mrh : Nat) (Mrc : Nat) (zrh : Int32) (zrc : Int32) (Mn : Nat) (Mf : Nat) (Mr : Nat) (Mh : Nat) (hp : Nat) (cc : Nat) (Ma : Nat) (Mas : Nat) (Msn : Nat) (Mac : Nat) (Mat : Nat) (fno : Nat → Int32) (fmh : Nat → Int32) (fmr : Nat → Int32) (fma : Nat → Int32) (fas : Nat → Int32) (tb : Nat) (ub : Nat) (h0 : tb < 2 ^ 27) (h1 : ub < 2 ^ 27) (h2 : mOK gs tb ub fno) (h3 : 1 ≤ hp) (h4 : hp ≤ 3) (h5 : 1 ≤ cc) (h6 : cc ≤ 3) (h7 : n3 fmh) : Met l yX7_learns wsX7_learns ({ frames := 6, cells := 0, slots := 0, locals := 133 }) (va_Pc [.ref Mm, .int zh, .int zc] (pre D g sz [(Mm, .inr (7, [.int zth, .ref Mt, .int (nI tp), .int zma, .int zwr, .ref Mrr, .ref Mrh, .ref Mrc, .int zrh, .int zrc, .ref Mn, .ref Mf, .ref Mr, .ref Mh, .int (nI hp), .int (nI cc), .ref Ma, .ref Mas, .ref Msn, .ref Mac, .ref Mat])), (Mn, .inl (g 0, 1767, .inl fno)), (Mh, .inl (g 0, 9, .inl fmh)), (Mr, .inl (g 0, 3, .inl fmr)), (Ma, .inl (g 0, 3, .inl fma)), (Mas, .inl (g 0, 1767, .inl fas))])) (va_Qi (fun (r : Int32) (u : va_W) => ∃ (zthx : Int32) (fnox : Nat → Int32) (fmax : Nat → Int32) (fasx : Nat → Int32), u = [(Mm, .inr (7, [.int zthx, .ref Mt, .int (nI tp), .int zma, .int zwr, .ref Mrr, .ref Mrh, .ref Mrc, .int zrh, .int zrc, .ref Mn, .ref Mf, .ref Mr, .ref Mh, .int (nI hp), .int (nI cc), .ref Ma, .ref Mas, .ref Msn, .ref Mac, .ref Mat])), (Mn, .inl (g 0, 1767, .inl fnox)), (Mh, .inl (g 0, 9, .inl fmh)), (Mr, .inl (g 0, 3, .inl fmr)), (Ma, .inl (g 0, 3, .inl fmax)), (Mas, .inl (g 0, 1767, .inl fasx))] ∧ (mOK gs tb ub fnox)) (wd D (va_A [(Mm, .inr (7, [.int zth, .ref Mt, .int (nI tp), .int zma, .int zwr, .ref Mrr, .ref Mrh, .ref Mrc, .int zrh, .int zrc, .ref Mn, .ref Mf, .ref Mr, .ref Mh, .int (nI hp), .int (nI cc), .ref Ma, .ref Mas, .ref Msn, .ref Mac, .ref Mat])), (Mn, .inl (g 0, 1767, .inl fno)), (Mh, .inl (g 0, 9, .inl fmh)), (Mr, .inl (g 0, 3, .inl fmr)), (Ma, .inl (g 0, 3, .inl fma)), (Mas, .inl (g 0, 1767, .inl fas))] sz)) (va_A [(Mm, .inr (7, [.int zth, .ref Mt, .int (nI tp), .int zma, .int zwr, .ref Mrr, .ref Mrh, .ref Mrc, .int zrh, .int zrc, .ref Mn, .ref Mf, .ref Mr, .ref Mh, .int (nI hp), .int (nI cc), .ref Ma, .ref Mas, .ref Msn, .ref Mac, .ref Mat])), (Mn, .inl (g 0, 1767, .inl fno)), (Mh, .inl (g 0, 9, .inl fmh)), (Mr, .inl (g 0, 3, .inl fmr)), (Ma, .inl (g 0, 3, .inl fma)), (Mas, .inl (g 0, 1767, .inl fas))] sz)) 0 0 (va_A [(Mm, .inr (7, [.int zth, .ref Mt, .int (nI tp), .int zma, .int zwr, .ref Mrr, .ref Mrh, .ref Mrc, .int zrh, .int zrc, .ref Mn, .ref Mf, .ref Mr, .ref Mh, .int (nI hp), .int (nI cc), .ref Ma, .ref Mas, .ref Msn, .ref Mac, .ref Mat])), (Mn, .inl (g 0, 1767, .inl fno)), (Mh, .inl (g 0, 9, .inl fmh)), (Mr, .inl (g 0, 3, .inl fmr)), (Ma, .inl (g 0, 3, .inl fma)), (Mas, .inl (g 0, 1767, .inl fas))] sz) := by
  refine Met.ofW (cc := cX7_learns) (maxL := 5) (ret := (some .int)) (by decide) rfl ?_
  intro p e s m args below meth c s₁ B hml hv
  obtain ⟨rfl, hsz, hP, ⟨hK, hN⟩, hD0, hZ⟩ := hv
  have hx := B.exec
  have hb := B.bytes
  have hr := B.returns
  have hts := atoms_spec (ws := wsX7_learns) B.pre
  have hown : s.vm.findClass RX7 = some m.cls := findClass_of_methodNamed B.named
  have hlocks := B.notSynchronized
  clear B
  subst hsz
  have hD := hD0.self (sz := s.heap.size)
  clear hD0
  generalize hAe : va_A [(Mm, .inr (7, [.int zth, .ref Mt, .int (nI tp), .int zma, .int zwr, .ref Mrr, .ref Mrh, .ref Mrc, .int zrh, .int zrc, .ref Mn, .ref Mf, .ref Mr, .ref Mh, .int (nI hp), .int (nI cc), .ref Ma, .ref Mas, .ref Msn, .ref Mac, .ref Mat])), (Mn, .inl (g 0, 1767, .inl fno)), (Mh, .inl (g 0, 9, .inl fmh)), (Mr, .inl (g 0, 3, .inl fmr)), (Ma, .inl (g 0, 3, .inl fma)), (Mas, .inl (g 0, 1767, .inl fas))] s.heap.size = A at hD hZ ⊢
  have hA : ∀ q : Nat, s.heap.size ≤ q → A q := fun q h => by rw [← hAe]; exact Or.inr h
  have hS : va_S A s.heap s.heap [] := va_S.rf
  have f22 := hts (.fieldLink RX7 22 "HopCreditsModel" "now" "[I") (List.mem_of_getElem? (i := 2) rfl)
  have f49 := hts (.fieldLink RX7 49 "HopCreditsModel" "thrown" "I") (List.mem_of_getElem? (i := 1) rfl)
  have iX7 : ∀ w ∈ u_ws RX7 TX7 21, w ∈ wsX7_learns := fun w h => List.mem_cons_of_mem _ (List.mem_append_right _ (h))
  have hl := lv_entry ([.ref Mm, .int zh, .int zc]) (n := 5) (Nat.le_of_ble_eq_true rfl)
  rw [lg_entry_eq]
  generalize (lg_sl ([.ref Mm, .int zh, .int zc]) ++ List.replicate (5 - (lg_sl ([.ref Mm, .int zh, .int zc])).length) Slot.unset).toArray = ls at hl ⊢
  have hl : lv_has ls 5 [(0, .ref Mm), (1, .int zh), (2, .int zc)] := hl
  generalize hQ : MQ below _ _ s _ _ _ = Q
  generalize hH : s.heap = H at hP ⊢
  have hS : va_S A s.heap H [] := by rw [← hH]; exact hS
  clear hH
  refine lv_aload_n hx hb dX7_learns_0 rfl (lv_at hl 0 rfl) ?_
  refine lv_iconst (v := 0) hx hb dX7_learns_1 (by decide) ?_
  refine va_put (D := D) (ci := 7) (v := .int 0) (ty := .int) (C := RX7) (T := TX7) (N := 21) hx hb hts iX7 tyX7 tyX7_ok nmX7 hown hK hP hD hS 0 rfl rfl 0 (by decide) f49 (fun _ h9 => h9) rfl (by decide +kernel) (rfl) (rfl) (Nat.le_of_ble_eq_true rfl) dX7_learns_2 (fun H locs hP2 hD2 hS2 => ?_)
  clear hP hD hS
  have hPD : PD D A [(Mm, .inr (7, [.int 0, .ref Mt, .int (nI tp), .int zma, .int zwr, .ref Mrr, .ref Mrh, .ref Mrc, .int zrh, .int zrc, .ref Mn, .ref Mf, .ref Mr, .ref Mh, .int (nI hp), .int (nI cc), .ref Ma, .ref Mas, .ref Msn, .ref Mac, .ref Mat])), (Mn, .inl (g 0, 1767, .inl fno)), (Mh, .inl (g 0, 9, .inl fmh)), (Mr, .inl (g 0, 3, .inl fmr)), (Ma, .inl (g 0, 3, .inl fma)), (Mas, .inl (g 0, 1767, .inl fas))] H := ⟨hP2, hD2⟩
  have hS := hS2; clear hP2 hD2 hS2; have hP := hPD.1; have hD := hPD.2; clear hPD
  refine lv_aload_n hx hb dX7_learns_5 rfl (lv_at hl 0 rfl) ?_
  refine lv_iload_n hx hb dX7_learns_6 rfl (lv_at hl 1 rfl) ?_
  refine lv_iload_n hx hb dX7_learns_7 rfl (lv_at hl 2 rfl) ?_
  refine ky_Vi (As := [.int zh, .int zc]) (rest := []) ⟨hx, hb, hml, hown, hts⟩ ⟨hK, hN⟩ hZ hP hD hS hA [0] [1, 2, 3, 4, 5] (wc := [(Mm, .inr (7, [.int 0, .ref Mt, .int (nI tp), .int zma, .int zwr, .ref Mrr, .ref Mrh, .ref Mrc, .int zrh, .int zrc, .ref Mn, .ref Mf, .ref Mr, .ref Mh, .int (nI hp), .int (nI cc), .ref Ma, .ref Mas, .ref Msn, .ref Mac, .ref Mat]))]) (wr := [(Mn, .inl (g 0, 1767, .inl fno)), (Mh, .inl (g 0, 9, .inl fmh)), (Mr, .inl (g 0, 3, .inl fmr)), (Ma, .inl (g 0, 3, .inl fma)), (Mas, .inl (g 0, 1767, .inl fas))]) rfl rfl rfl rfl (by decide) (k_X7_isLane l D g H.size Mm zh zc 0 Mt tp zma zwr Mrr Mrh Mrc zrh zrc Mn Mf Mr Mh hp cc Ma Mas Msn Mac Mat (show 1 ≤ hp by omega) (show hp ≤ 3 by omega) (show 1 ≤ cc by omega) (show cc ≤ 3 by omega)) (cwV 2 hts gX7_learns_X7_isLane rfl rfl rfl (by decide +kernel) ⟨(Nat.le_of_ble_eq_true rfl), (Nat.le_of_ble_eq_true rfl)⟩) 0 7 rfl rfl rfl rfl hl.1 rfl (Nat.le_of_ble_eq_true rfl) dX7_learns_8 ⟨(Nat.le_of_ble_eq_true rfl), (Nat.le_of_ble_eq_true rfl)⟩ (fun r_1 u H locs hw hP2 hD2 hS2 => ?_)
  clear hP hD hS
  obtain ⟨rfl, rfl⟩ := hw
  have hPD : PD D A [(Mn, .inl (g 0, 1767, .inl fno)), (Mh, .inl (g 0, 9, .inl fmh)), (Mr, .inl (g 0, 3, .inl fmr)), (Ma, .inl (g 0, 3, .inl fma)), (Mas, .inl (g 0, 1767, .inl fas)), (Mm, .inr (7, [.int 0, .ref Mt, .int (nI tp), .int zma, .int zwr, .ref Mrr, .ref Mrh, .ref Mrc, .int zrh, .int zrc, .ref Mn, .ref Mf, .ref Mr, .ref Mh, .int (nI hp), .int (nI cc), .ref Ma, .ref Mas, .ref Msn, .ref Mac, .ref Mat]))] H := ⟨hP2, hD2⟩
  have hS := hS2; clear hP2 hD2 hS2; have hP := hPD.1; have hD := hPD.2; clear hPD
  refine W.widen (k := 0) (n := 0) (Nat.le_of_ble_eq_true rfl) (Nat.le_of_ble_eq_true rfl) ?_
  refine lv_if_ne (tgt := 16) hx hb dX7_learns_11 (by decide) (fun cb_2 => ?_) (fun cb_2 => ?_)
  · skip
    have hq_3 : (0 ≤ zh ∧ zh ≤ (nI (hp - 1))) ∧ (0 ≤ zc ∧ zc ≤ (nI (cc - 1))) := b01_1.mp cb_2
    have hq_4 := hq_3.1; have hq_5 := hq_3.2
    have hPq_9 := hP; have hDq_9 := hD; have hSq_9 := hS; have hlq_9 := hl; clear hP hD hS hl
    obtain ⟨j_6, hl_7, hu_8, rfl⟩ := rg (L := 0) (U := hp - 1) rfl rfl (show 0 < 2 ^ 31 by omega) (show hp - 1 < 2 ^ 31 by omega) hq_4
    have hP := hPq_9; have hD := hDq_9; have hS := hSq_9; have hl := hlq_9; clear hPq_9 hDq_9 hSq_9 hlq_9
    have hPq_13 := hP; have hDq_13 := hD; have hSq_13 := hS; have hlq_13 := hl; clear hP hD hS hl
    obtain ⟨j_10, hl_11, hu_12, rfl⟩ := rg (L := 0) (U := cc - 1) rfl rfl (show 0 < 2 ^ 31 by omega) (show cc - 1 < 2 ^ 31 by omega) hq_5
    have hP := hPq_13; have hD := hDq_13; have hS := hSq_13; have hl := hlq_13; clear hPq_13 hDq_13 hSq_13 hlq_13
    refine lv_aload_n hx hb dX7_learns_16 rfl (lv_at hl 0 rfl) ?_
    refine ky_Vv (As := []) (rest := []) ⟨hx, hb, hml, hown, hts⟩ ⟨hK, hN⟩ hZ hP hD hS hA [5, 0, 4] [1, 2, 3] (wc := [(Mm, .inr (7, [.int 0, .ref Mt, .int (nI tp), .int zma, .int zwr, .ref Mrr, .ref Mrh, .ref Mrc, .int zrh, .int zrc, .ref Mn, .ref Mf, .ref Mr, .ref Mh, .int (nI hp), .int (nI cc), .ref Ma, .ref Mas, .ref Msn, .ref Mac, .ref Mat])), (Mn, .inl (g 0, 1767, .inl fno)), (Mas, .inl (g 0, 1767, .inl fas))]) (wr := [(Mh, .inl (g 0, 9, .inl fmh)), (Mr, .inl (g 0, 3, .inl fmr)), (Ma, .inl (g 0, 3, .inl fma))]) rfl rfl rfl rfl (by decide) (k_X7_putAside l D g H.size Mm 0 Mt tp zma zwr Mrr Mrh Mrc zrh zrc Mn Mf Mr Mh hp cc Ma Mas Msn Mac Mat fno fas tb ub (h2)) (cwV 0 hts gX7_learns_X7_putAside rfl rfl rfl (by decide +kernel) ⟨(Nat.le_of_ble_eq_true rfl), (Nat.le_of_ble_eq_true rfl)⟩) 5 7 rfl rfl rfl rfl hl.1 rfl (Nat.le_of_ble_eq_true rfl) dX7_learns_17 ⟨(Nat.le_of_ble_eq_true rfl), (Nat.le_of_ble_eq_true rfl)⟩ (fun u H locs hw hP2 hD2 hS2 => ?_)
    clear hP hD hS
    obtain ⟨fasx_15, rfl, hf_16⟩ := hw
    have hPD : PD D A [(Mh, .inl (g 0, 9, .inl fmh)), (Mr, .inl (g 0, 3, .inl fmr)), (Ma, .inl (g 0, 3, .inl fma)), (Mm, .inr (7, [.int 0, .ref Mt, .int (nI tp), .int zma, .int zwr, .ref Mrr, .ref Mrh, .ref Mrc, .int zrh, .int zrc, .ref Mn, .ref Mf, .ref Mr, .ref Mh, .int (nI hp), .int (nI cc), .ref Ma, .ref Mas, .ref Msn, .ref Mac, .ref Mat])), (Mn, .inl (g 0, 1767, .inl fno)), (Mas, .inl (g 0, 1767, .inl fasx_15))] H := ⟨hP2, hD2⟩
    have hS := hS2; clear hP2 hD2 hS2; have hP := hPD.1; have hD := hPD.2; clear hPD
    refine W.widen (k := 0) (n := 0) (Nat.le_of_ble_eq_true rfl) (Nat.le_of_ble_eq_true rfl) ?_
    refine lv_aload_n hx hb dX7_learns_20 rfl (lv_at hl 0 rfl) ?_
    refine va_get (D := D) (ci := 7) (v := .ref Mn) (C := RX7) (T := TX7) (N := 21) hx hb hts iX7 hown hK hP 3 rfl rfl 10 (by decide) f22 (fun _ h9 => h9) rfl dX7_learns_21 ?_
    refine lv_iload_n hx hb dX7_learns_24 rfl (lv_at hl 1 rfl) ?_
    refine lv_iload_n hx hb dX7_learns_25 rfl (lv_at hl 2 rfl) ?_
    refine ky_Si (As := [.int (nI j_6), .int (nI j_10)]) (rest := [.ref Mn]) ⟨hx, hb, hml, hown, hts⟩ ⟨hK, hN⟩ hZ hP hD hS hA [] [0, 1, 2, 3, 4, 5] (wc := []) (wr := [(Mh, .inl (g 0, 9, .inl fmh)), (Mr, .inl (g 0, 3, .inl fmr)), (Ma, .inl (g 0, 3, .inl fma)), (Mm, .inr (7, [.int 0, .ref Mt, .int (nI tp), .int zma, .int zwr, .ref Mrr, .ref Mrh, .ref Mrc, .int zrh, .int zrc, .ref Mn, .ref Mf, .ref Mr, .ref Mh, .int (nI hp), .int (nI cc), .ref Ma, .ref Mas, .ref Msn, .ref Mac, .ref Mat])), (Mn, .inl (g 0, 1767, .inl fno)), (Mas, .inl (g 0, 1767, .inl fasx_15))]) rfl rfl rfl rfl (by decide) (k_X7_lane l D g H.size j_6 j_10 (show j_6 < 3 by omega) (show j_10 < 3 by omega)) (va_cwS 2 hts gX7_learns_X7_lane rfl rfl rfl (by decide +kernel) ⟨(Nat.le_of_ble_eq_true rfl), (Nat.le_of_ble_eq_true rfl)⟩) rfl hl.1 rfl (Nat.le_of_ble_eq_true rfl) dX7_learns_26 ⟨(Nat.le_of_ble_eq_true rfl), (Nat.le_of_ble_eq_true rfl)⟩ (fun r_17 u H locs hw hP2 hD2 hS2 => ?_)
    clear hP hD hS
    obtain ⟨rfl, rfl⟩ := hw
    have hPD : PD D A [(Mh, .inl (g 0, 9, .inl fmh)), (Mr, .inl (g 0, 3, .inl fmr)), (Ma, .inl (g 0, 3, .inl fma)), (Mm, .inr (7, [.int 0, .ref Mt, .int (nI tp), .int zma, .int zwr, .ref Mrr, .ref Mrh, .ref Mrc, .int zrh, .int zrc, .ref Mn, .ref Mf, .ref Mr, .ref Mh, .int (nI hp), .int (nI cc), .ref Ma, .ref Mas, .ref Msn, .ref Mac, .ref Mat])), (Mn, .inl (g 0, 1767, .inl fno)), (Mas, .inl (g 0, 1767, .inl fasx_15))] H := ⟨hP2, hD2⟩
    have hS := hS2; clear hP2 hD2 hS2; have hP := hPD.1; have hD := hPD.2; clear hPD
    refine W.widen (k := 0) (n := 0) (Nat.le_of_ble_eq_true rfl) (Nat.le_of_ble_eq_true rfl) ?_
    refine lv_iconst (v := 1) hx hb dX7_learns_29 (by decide) ?_
    refine lv_iadd hx hb dX7_learns_30 ?_
    refine lv_eqi (y := (nI (7 * (3 * j_6 + j_10) + 1))) (nI_add (7 * (3 * j_6 + j_10)) (1)) ?_
    refine va_iald hx hb hK hP 4 0 rfl rfl (vp_in_nI (show 7 * (3 * j_6 + j_10) + 1 < 1767 by omega) (by decide)) dX7_learns_31 ?_
    refine lv_eqi (y := (fno (7 * (3 * j_6 + j_10) + 1))) (congrArg fno (nI_clamp (show 7 * (3 * j_6 + j_10) + 1 < 2 ^ 31 by omega))) ?_
    refine lv_topi (fun y_18 _ => ?_)
    refine lv_istore_n (lv' := [(3, .int y_18), (0, .ref Mm), (1, .int (nI j_6)), (2, .int (nI j_10))]) hx hb dX7_learns_32 rfl hl (by decide) rfl (fun ls hl => ?_)
    refine lv_iconst (v := 0) hx hb dX7_learns_33 (by decide) ?_
    refine lv_istore (lv' := [(4, .int 0), (3, .int y_18), (0, .ref Mm), (1, .int (nI j_6)), (2, .int (nI j_10))]) hx hb dX7_learns_34 hl (by decide) rfl (fun ls hl => ?_)
    have loop_41 : ∀ (Nloop_41 : Nat) (i_27 : Nat) (F_28 : Nat → Int32) (F_29 : Nat → Int32) (hF_28 : mOK gs (tb + i_27) (ub + 6 * i_27) F_28) (hbi_27 : i_27 ≤ 200 + 1) (hmloop_41 : (200 + 1) - i_27 < Nloop_41) (H : Heap) (locs : List Loc) (ls : Array Slot), va_P D vwCl [(Mh, .inl (g 0, 9, .inl fmh)), (Mr, .inl (g 0, 3, .inl fmr)), (Ma, .inl (g 0, 3, .inl F_29)), (Mm, .inr (7, [.int 0, .ref Mt, .int (nI tp), .int zma, .int zwr, .ref Mrr, .ref Mrh, .ref Mrc, .int zrh, .int zrc, .ref Mn, .ref Mf, .ref Mr, .ref Mh, .int (nI hp), .int (nI cc), .ref Ma, .ref Mas, .ref Msn, .ref Mac, .ref Mat])), (Mn, .inl (g 0, 1767, .inl F_28)), (Mas, .inl (g 0, 1767, .inl fasx_15))] H → va_D A [(Mh, .inl (g 0, 9, .inl fmh)), (Mr, .inl (g 0, 3, .inl fmr)), (Ma, .inl (g 0, 3, .inl F_29)), (Mm, .inr (7, [.int 0, .ref Mt, .int (nI tp), .int zma, .int zwr, .ref Mrr, .ref Mrh, .ref Mrc, .int zrh, .int zrc, .ref Mn, .ref Mf, .ref Mr, .ref Mh, .int (nI hp), .int (nI cc), .ref Ma, .ref Mas, .ref Msn, .ref Mac, .ref Mat])), (Mn, .inl (g 0, 1767, .inl F_28)), (Mas, .inl (g 0, 1767, .inl fasx_15))] → va_S A s.heap H locs → lv_has ls 5 [(4, .int (nI i_27)), (3, .int y_18), (0, .ref Mm), (1, .int (nI j_6)), (2, .int (nI j_10))] → W p l e (headSpec wsX7_learns ({ frames := 6, cells := 0, slots := 0, locals := 133 })).room s m ([.ref Mm, .int (nI j_6), .int (nI j_10)] : List Value).toArray below meth c H locs 0 0 Q (F0 m 36 ls []) := by
      clear hP hD hS hl
      intro Nloop_41
      induction Nloop_41 with
      | zero => intro i_27 F_28 F_29 hF_28 hbi_27 hm9; exact absurd hm9 (Nat.not_lt_zero _)
      | succ Nloop_41 loop_41_ih =>
        intro i_27 F_28 F_29 hF_28 hbi_27 hmloop_41 H locs ls hP hD hS hl
        refine lv_iload hx hb dX7_learns_36 (lv_at hl 0 rfl) ?_
        refine lv_sipush (v := 200) hx hb dX7_learns_38 (by decide) ?_
        refine lv_icmp_gt (tgt := 75) hx hb dX7_learns_41 (by decide) (fun cb_42 => ?_) (fun cb_42 => ?_)
        · skip
          have cn_43 : 200 < i_27 := (nI_ltI (show 200 < 2 ^ 31 by omega) (show i_27 < 2 ^ 31 by omega)).mp cb_42
          refine lv_aload_n hx hb dX7_learns_75 rfl (lv_at hl 2 rfl) ?_
          refine ky_Vv (As := []) (rest := []) ⟨hx, hb, hml, hown, hts⟩ ⟨hK, hN⟩ hZ hP hD hS hA [3, 4, 5] [0, 1, 2] (wc := [(Mm, .inr (7, [.int 0, .ref Mt, .int (nI tp), .int zma, .int zwr, .ref Mrr, .ref Mrh, .ref Mrc, .int zrh, .int zrc, .ref Mn, .ref Mf, .ref Mr, .ref Mh, .int (nI hp), .int (nI cc), .ref Ma, .ref Mas, .ref Msn, .ref Mac, .ref Mat])), (Mn, .inl (g 0, 1767, .inl F_28)), (Mas, .inl (g 0, 1767, .inl fasx_15))]) (wr := [(Mh, .inl (g 0, 9, .inl fmh)), (Mr, .inl (g 0, 3, .inl fmr)), (Ma, .inl (g 0, 3, .inl F_29))]) rfl rfl rfl rfl (by decide) (k_X7_bringBack l D g H.size Mm 0 Mt tp zma zwr Mrr Mrh Mrc zrh zrc Mn Mf Mr Mh hp cc Ma Mas Msn Mac Mat F_28 fasx_15 tb ub (hf_16)) (cwV 0 hts gX7_learns_X7_bringBack rfl rfl rfl (by decide +kernel) ⟨(Nat.le_of_ble_eq_true rfl), (Nat.le_of_ble_eq_true rfl)⟩) 3 7 rfl rfl rfl rfl hl.1 rfl (Nat.le_of_ble_eq_true rfl) dX7_learns_76 ⟨(Nat.le_of_ble_eq_true rfl), (Nat.le_of_ble_eq_true rfl)⟩ (fun u H locs hw hP2 hD2 hS2 => ?_)
          clear hP hD hS
          obtain ⟨fnox_45, rfl, hf_46⟩ := hw
          have hPD : PD D A [(Mh, .inl (g 0, 9, .inl fmh)), (Mr, .inl (g 0, 3, .inl fmr)), (Ma, .inl (g 0, 3, .inl F_29)), (Mm, .inr (7, [.int 0, .ref Mt, .int (nI tp), .int zma, .int zwr, .ref Mrr, .ref Mrh, .ref Mrc, .int zrh, .int zrc, .ref Mn, .ref Mf, .ref Mr, .ref Mh, .int (nI hp), .int (nI cc), .ref Ma, .ref Mas, .ref Msn, .ref Mac, .ref Mat])), (Mn, .inl (g 0, 1767, .inl fnox_45)), (Mas, .inl (g 0, 1767, .inl fasx_15))] H := ⟨hP2, hD2⟩
          have hS := hS2; clear hP2 hD2 hS2; have hP := hPD.1; have hD := hPD.2; clear hPD
          refine W.widen (k := 0) (n := 0) (Nat.le_of_ble_eq_true rfl) (Nat.le_of_ble_eq_true rfl) ?_
          refine lv_iload hx hb dX7_learns_79 (lv_at hl 0 rfl) ?_
          refine lv_sipush (v := 200) hx hb dX7_learns_81 (by decide) ?_
          refine lv_icmp_gt (tgt := 92) hx hb dX7_learns_84 (by decide) (fun _ => ?_) (fun cb => absurd (nI_lt (show 200 < i_27 by omega) (show i_27 < 2 ^ 31 by omega)) cb)
          refine lv_iconst (v := (-1)) hx hb dX7_learns_92 (by decide) ?_
          have hPD9 : PD D A [(Mm, .inr (7, [.int 0, .ref Mt, .int (nI tp), .int zma, .int zwr, .ref Mrr, .ref Mrh, .ref Mrc, .int zrh, .int zrc, .ref Mn, .ref Mf, .ref Mr, .ref Mh, .int (nI hp), .int (nI cc), .ref Ma, .ref Mas, .ref Msn, .ref Mac, .ref Mat])), (Mn, .inl (g 0, 1767, .inl fnox_45)), (Mh, .inl (g 0, 9, .inl fmh)), (Mr, .inl (g 0, 3, .inl fmr)), (Ma, .inl (g 0, 3, .inl F_29)), (Mas, .inl (g 0, 1767, .inl fasx_15))] H := ⟨hP.sub [3, 4, 0, 1, 2, 5] rfl, hD.sub [3, 4, 0, 1, 2, 5] (by decide) rfl⟩
          have hP9 := hPD9.1; have hD9 := hPD9.2
          subst hQ
          refine W.widen (k := 0) (n := 0) (Nat.le_of_ble_eq_true rfl) (Nat.le_of_ble_eq_true rfl) ?_
          exact W.iret (v := (-1)) hx hb hr (fun tS htS _ => ⟨⟨_, _, rfl, ⟨0, fnox_45, F_29, fasx_15, rfl, (hf_46)⟩, by rw [htS]; exact hP9, hD9⟩, hS.F htS⟩) hS.2.2 dX7_learns_93
        · skip
          have cn_47 : i_27 ≤ 200 := Nat.le_of_not_lt (fun q9 => cb_42 ((nI_ltI (show 200 < 2 ^ 31 by omega) (show i_27 < 2 ^ 31 by omega)).mpr q9))
          refine lv_aload_n hx hb dX7_learns_44 rfl (lv_at hl 2 rfl) ?_
          refine va_get (D := D) (ci := 7) (v := .ref Mn) (C := RX7) (T := TX7) (N := 21) hx hb hts iX7 hown hK hP 3 rfl rfl 10 (by decide) f22 (fun _ h9 => h9) rfl dX7_learns_45 ?_
          refine lv_iload_n hx hb dX7_learns_48 rfl (lv_at hl 3 rfl) ?_
          refine lv_iload_n hx hb dX7_learns_49 rfl (lv_at hl 4 rfl) ?_
          refine ky_Si (As := [.int (nI j_6), .int (nI j_10)]) (rest := [.ref Mn]) ⟨hx, hb, hml, hown, hts⟩ ⟨hK, hN⟩ hZ hP hD hS hA [] [0, 1, 2, 3, 4, 5] (wc := []) (wr := [(Mh, .inl (g 0, 9, .inl fmh)), (Mr, .inl (g 0, 3, .inl fmr)), (Ma, .inl (g 0, 3, .inl F_29)), (Mm, .inr (7, [.int 0, .ref Mt, .int (nI tp), .int zma, .int zwr, .ref Mrr, .ref Mrh, .ref Mrc, .int zrh, .int zrc, .ref Mn, .ref Mf, .ref Mr, .ref Mh, .int (nI hp), .int (nI cc), .ref Ma, .ref Mas, .ref Msn, .ref Mac, .ref Mat])), (Mn, .inl (g 0, 1767, .inl F_28)), (Mas, .inl (g 0, 1767, .inl fasx_15))]) rfl rfl rfl rfl (by decide) (k_X7_lane l D g H.size j_6 j_10 (show j_6 < 3 by omega) (show j_10 < 3 by omega)) (va_cwS 2 hts gX7_learns_X7_lane rfl rfl rfl (by decide +kernel) ⟨(Nat.le_of_ble_eq_true rfl), (Nat.le_of_ble_eq_true rfl)⟩) rfl hl.1 rfl (Nat.le_of_ble_eq_true rfl) dX7_learns_50 ⟨(Nat.le_of_ble_eq_true rfl), (Nat.le_of_ble_eq_true rfl)⟩ (fun r_48 u H locs hw hP2 hD2 hS2 => ?_)
          clear hP hD hS
          obtain ⟨rfl, rfl⟩ := hw
          have hPD : PD D A [(Mh, .inl (g 0, 9, .inl fmh)), (Mr, .inl (g 0, 3, .inl fmr)), (Ma, .inl (g 0, 3, .inl F_29)), (Mm, .inr (7, [.int 0, .ref Mt, .int (nI tp), .int zma, .int zwr, .ref Mrr, .ref Mrh, .ref Mrc, .int zrh, .int zrc, .ref Mn, .ref Mf, .ref Mr, .ref Mh, .int (nI hp), .int (nI cc), .ref Ma, .ref Mas, .ref Msn, .ref Mac, .ref Mat])), (Mn, .inl (g 0, 1767, .inl F_28)), (Mas, .inl (g 0, 1767, .inl fasx_15))] H := ⟨hP2, hD2⟩
          have hS := hS2; clear hP2 hD2 hS2; have hP := hPD.1; have hD := hPD.2; clear hPD
          refine W.widen (k := 0) (n := 0) (Nat.le_of_ble_eq_true rfl) (Nat.le_of_ble_eq_true rfl) ?_
          refine lv_iconst (v := 2) hx hb dX7_learns_53 (by decide) ?_
          refine lv_iadd hx hb dX7_learns_54 ?_
          refine lv_eqi (y := (nI (7 * (3 * j_6 + j_10) + 2))) (nI_add (7 * (3 * j_6 + j_10)) (2)) ?_
          refine va_iald hx hb hK hP 4 0 rfl rfl (vp_in_nI (show 7 * (3 * j_6 + j_10) + 2 < 1767 by omega) (by decide)) dX7_learns_55 ?_
          refine lv_eqi (y := (F_28 (7 * (3 * j_6 + j_10) + 2))) (congrArg F_28 (nI_clamp (show 7 * (3 * j_6 + j_10) + 2 < 2 ^ 31 by omega))) ?_
          refine lv_topi (fun y_49 _ => ?_)
          refine lv_iload_n hx hb dX7_learns_56 rfl (lv_at hl 1 rfl) ?_
          refine ky_Si (As := [.int y_49, .int y_18]) (rest := []) ⟨hx, hb, hml, hown, hts⟩ ⟨hK, hN⟩ hZ hP hD hS hA [] [0, 1, 2, 3, 4, 5] (wc := []) (wr := [(Mh, .inl (g 0, 9, .inl fmh)), (Mr, .inl (g 0, 3, .inl fmr)), (Ma, .inl (g 0, 3, .inl F_29)), (Mm, .inr (7, [.int 0, .ref Mt, .int (nI tp), .int zma, .int zwr, .ref Mrr, .ref Mrh, .ref Mrc, .int zrh, .int zrc, .ref Mn, .ref Mf, .ref Mr, .ref Mh, .int (nI hp), .int (nI cc), .ref Ma, .ref Mas, .ref Msn, .ref Mac, .ref Mat])), (Mn, .inl (g 0, 1767, .inl F_28)), (Mas, .inl (g 0, 1767, .inl fasx_15))]) rfl rfl rfl rfl (by decide) (k_X7_less l D g H.size y_49 y_18) (va_cwS 2 hts gX7_learns_X7_less rfl rfl rfl (by decide +kernel) ⟨(Nat.le_of_ble_eq_true rfl), (Nat.le_of_ble_eq_true rfl)⟩) rfl hl.1 rfl (Nat.le_of_ble_eq_true rfl) dX7_learns_57 ⟨(Nat.le_of_ble_eq_true rfl), (Nat.le_of_ble_eq_true rfl)⟩ (fun r_50 u H locs hw hP2 hD2 hS2 => ?_)
          clear hP hD hS
          obtain rfl := hw
          have hPD : PD D A [(Mh, .inl (g 0, 9, .inl fmh)), (Mr, .inl (g 0, 3, .inl fmr)), (Ma, .inl (g 0, 3, .inl F_29)), (Mm, .inr (7, [.int 0, .ref Mt, .int (nI tp), .int zma, .int zwr, .ref Mrr, .ref Mrh, .ref Mrc, .int zrh, .int zrc, .ref Mn, .ref Mf, .ref Mr, .ref Mh, .int (nI hp), .int (nI cc), .ref Ma, .ref Mas, .ref Msn, .ref Mac, .ref Mat])), (Mn, .inl (g 0, 1767, .inl F_28)), (Mas, .inl (g 0, 1767, .inl fasx_15))] H := ⟨hP2, hD2⟩
          have hS := hS2; clear hP2 hD2 hS2; have hP := hPD.1; have hD := hPD.2; clear hPD
          refine W.widen (k := 0) (n := 0) (Nat.le_of_ble_eq_true rfl) (Nat.le_of_ble_eq_true rfl) ?_
          refine lv_bipush (v := 32) hx hb dX7_learns_60 (by decide) ?_
          refine lv_icmp_lt (tgt := 75) hx hb dX7_learns_62 (by decide) (fun cb_51 => ?_) (fun cb_51 => ?_)
          · skip
            refine lv_aload_n hx hb dX7_learns_75 rfl (lv_at hl 2 rfl) ?_
            refine ky_Vv (As := []) (rest := []) ⟨hx, hb, hml, hown, hts⟩ ⟨hK, hN⟩ hZ hP hD hS hA [3, 4, 5] [0, 1, 2] (wc := [(Mm, .inr (7, [.int 0, .ref Mt, .int (nI tp), .int zma, .int zwr, .ref Mrr, .ref Mrh, .ref Mrc, .int zrh, .int zrc, .ref Mn, .ref Mf, .ref Mr, .ref Mh, .int (nI hp), .int (nI cc), .ref Ma, .ref Mas, .ref Msn, .ref Mac, .ref Mat])), (Mn, .inl (g 0, 1767, .inl F_28)), (Mas, .inl (g 0, 1767, .inl fasx_15))]) (wr := [(Mh, .inl (g 0, 9, .inl fmh)), (Mr, .inl (g 0, 3, .inl fmr)), (Ma, .inl (g 0, 3, .inl F_29))]) rfl rfl rfl rfl (by decide) (k_X7_bringBack l D g H.size Mm 0 Mt tp zma zwr Mrr Mrh Mrc zrh zrc Mn Mf Mr Mh hp cc Ma Mas Msn Mac Mat F_28 fasx_15 tb ub (hf_16)) (cwV 0 hts gX7_learns_X7_bringBack rfl rfl rfl (by decide +kernel) ⟨(Nat.le_of_ble_eq_true rfl), (Nat.le_of_ble_eq_true rfl)⟩) 3 7 rfl rfl rfl rfl hl.1 rfl (Nat.le_of_ble_eq_true rfl) dX7_learns_76 ⟨(Nat.le_of_ble_eq_true rfl), (Nat.le_of_ble_eq_true rfl)⟩ (fun u H locs hw hP2 hD2 hS2 => ?_)
            clear hP hD hS
            obtain ⟨fnox_53, rfl, hf_54⟩ := hw
            have hPD : PD D A [(Mh, .inl (g 0, 9, .inl fmh)), (Mr, .inl (g 0, 3, .inl fmr)), (Ma, .inl (g 0, 3, .inl F_29)), (Mm, .inr (7, [.int 0, .ref Mt, .int (nI tp), .int zma, .int zwr, .ref Mrr, .ref Mrh, .ref Mrc, .int zrh, .int zrc, .ref Mn, .ref Mf, .ref Mr, .ref Mh, .int (nI hp), .int (nI cc), .ref Ma, .ref Mas, .ref Msn, .ref Mac, .ref Mat])), (Mn, .inl (g 0, 1767, .inl fnox_53)), (Mas, .inl (g 0, 1767, .inl fasx_15))] H := ⟨hP2, hD2⟩
            have hS := hS2; clear hP2 hD2 hS2; have hP := hPD.1; have hD := hPD.2; clear hPD
            refine W.widen (k := 0) (n := 0) (Nat.le_of_ble_eq_true rfl) (Nat.le_of_ble_eq_true rfl) ?_
            refine lv_iload hx hb dX7_learns_79 (lv_at hl 0 rfl) ?_
            refine lv_sipush (v := 200) hx hb dX7_learns_81 (by decide) ?_
            refine lv_icmp_gt (tgt := 92) hx hb dX7_learns_84 (by decide) (fun cb => absurd cb (nI_nlt (show i_27 ≤ 200 by omega) (show 200 < 2 ^ 31 by omega))) (fun _ => ?_)
            refine lv_iload hx hb dX7_learns_87 (lv_at hl 0 rfl) ?_
            refine lv_goto (tgt := 93) hx hb dX7_learns_89 (by decide) ?_
            have hPD9 : PD D A [(Mm, .inr (7, [.int 0, .ref Mt, .int (nI tp), .int zma, .int zwr, .ref Mrr, .ref Mrh, .ref Mrc, .int zrh, .int zrc, .ref Mn, .ref Mf, .ref Mr, .ref Mh, .int (nI hp), .int (nI cc), .ref Ma, .ref Mas, .ref Msn, .ref Mac, .ref Mat])), (Mn, .inl (g 0, 1767, .inl fnox_53)), (Mh, .inl (g 0, 9, .inl fmh)), (Mr, .inl (g 0, 3, .inl fmr)), (Ma, .inl (g 0, 3, .inl F_29)), (Mas, .inl (g 0, 1767, .inl fasx_15))] H := ⟨hP.sub [3, 4, 0, 1, 2, 5] rfl, hD.sub [3, 4, 0, 1, 2, 5] (by decide) rfl⟩
            have hP9 := hPD9.1; have hD9 := hPD9.2
            subst hQ
            refine W.widen (k := 0) (n := 0) (Nat.le_of_ble_eq_true rfl) (Nat.le_of_ble_eq_true rfl) ?_
            exact W.iret (v := (nI i_27)) hx hb hr (fun tS htS _ => ⟨⟨_, _, rfl, ⟨0, fnox_53, F_29, fasx_15, rfl, (hf_54)⟩, by rw [htS]; exact hP9, hD9⟩, hS.F htS⟩) hS.2.2 dX7_learns_93
          · skip
            refine lv_aload_n hx hb dX7_learns_65 rfl (lv_at hl 2 rfl) ?_
            refine ky_Vv (As := []) (rest := []) ⟨hx, hb, hml, hown, hts⟩ ⟨hK, hN⟩ hZ hP hD hS hA [3, 4, 0, 1, 2] [5] (wc := [(Mm, .inr (7, [.int 0, .ref Mt, .int (nI tp), .int zma, .int zwr, .ref Mrr, .ref Mrh, .ref Mrc, .int zrh, .int zrc, .ref Mn, .ref Mf, .ref Mr, .ref Mh, .int (nI hp), .int (nI cc), .ref Ma, .ref Mas, .ref Msn, .ref Mac, .ref Mat])), (Mn, .inl (g 0, 1767, .inl F_28)), (Mh, .inl (g 0, 9, .inl fmh)), (Mr, .inl (g 0, 3, .inl fmr)), (Ma, .inl (g 0, 3, .inl F_29))]) (wr := [(Mas, .inl (g 0, 1767, .inl fasx_15))]) rfl rfl rfl rfl (by decide) (k_X7_ticks l D g H.size Mm 0 Mt tp zma zwr Mrr Mrh Mrc zrh zrc Mn Mf Mr Mh hp cc Ma Mas Msn Mac Mat F_28 fmh fmr F_29 (tb + i_27) (ub + 6 * i_27) (show tb + i_27 < 2 ^ 28 by omega) (show ub + 6 * i_27 < 2 ^ 28 by omega) (hF_28) (show 1 ≤ hp by omega) (show hp ≤ 3 by omega) (show 1 ≤ cc by omega) (show cc ≤ 3 by omega) (h7)) (cwV 0 hts gX7_learns_X7_ticks rfl rfl rfl (by decide +kernel) ⟨(Nat.le_of_ble_eq_true rfl), (Nat.le_of_ble_eq_true rfl)⟩) 3 7 rfl rfl rfl rfl hl.1 rfl (Nat.le_of_ble_eq_true rfl) dX7_learns_66 ⟨(Nat.le_of_ble_eq_true rfl), (Nat.le_of_ble_eq_true rfl)⟩ (fun u H locs hw hP2 hD2 hS2 => ?_)
            clear hP hD hS
            obtain ⟨fnox_56, fmax_57, rfl, hf_58⟩ := hw
            have hPD : PD D A [(Mas, .inl (g 0, 1767, .inl fasx_15)), (Mm, .inr (7, [.int 0, .ref Mt, .int (nI tp), .int zma, .int zwr, .ref Mrr, .ref Mrh, .ref Mrc, .int zrh, .int zrc, .ref Mn, .ref Mf, .ref Mr, .ref Mh, .int (nI hp), .int (nI cc), .ref Ma, .ref Mas, .ref Msn, .ref Mac, .ref Mat])), (Mn, .inl (g 0, 1767, .inl fnox_56)), (Mh, .inl (g 0, 9, .inl fmh)), (Mr, .inl (g 0, 3, .inl fmr)), (Ma, .inl (g 0, 3, .inl fmax_57))] H := ⟨hP2, hD2⟩
            have hS := hS2; clear hP2 hD2 hS2; have hP := hPD.1; have hD := hPD.2; clear hPD
            refine W.widen (k := 0) (n := 0) (Nat.le_of_ble_eq_true rfl) (Nat.le_of_ble_eq_true rfl) ?_
            refine lv_iinc (v := (nI (i_27 + 1))) (lv' := [(4, .int (nI (i_27 + 1))), (3, .int y_18), (0, .ref Mm), (1, .int (nI j_6)), (2, .int (nI j_10))]) hx hb dX7_learns_69 hl (k := 0) rfl (nI_1 (i_27)) (by decide) rfl (fun ls hl => ?_)
            refine lv_goto (tgt := 36) hx hb dX7_learns_72 (by decide) ?_
            exact loop_41_ih (i_27 + 1) fnox_56 fmax_57 (mOK_le hf_58 (show tb + i_27 + 1 = tb + (i_27 + 1) by omega) (show ub + 6 * i_27 + 6 ≤ ub + 6 * (i_27 + 1) by omega)) (show (i_27 + 1) ≤ 200 + 1 by omega) (show (200 + 1) - (i_27 + 1) < Nloop_41 by omega) _ _ _ (hP.sub [3, 4, 5, 1, 2, 0] rfl) (hD.sub [3, 4, 5, 1, 2, 0] (by decide) rfl) hS hl
    exact loop_41 _ 0 fno fma (mOK_le h2 (show tb = tb + 0 by omega) (show ub ≤ ub + 6 * 0 by omega)) (show 0 ≤ 200 + 1 by omega) (Nat.lt_succ_self _) _ _ _ hP hD hS hl
  · skip
    have hq_59 : ¬ ((0 ≤ zh ∧ zh ≤ (nI (hp - 1))) ∧ (0 ≤ zc ∧ zc ≤ (nI (cc - 1)))) := b01_0.mp cb_2
    refine lv_iconst (v := (-1)) hx hb dX7_learns_14 (by decide) ?_
    have hPD9 : PD D A [(Mm, .inr (7, [.int 0, .ref Mt, .int (nI tp), .int zma, .int zwr, .ref Mrr, .ref Mrh, .ref Mrc, .int zrh, .int zrc, .ref Mn, .ref Mf, .ref Mr, .ref Mh, .int (nI hp), .int (nI cc), .ref Ma, .ref Mas, .ref Msn, .ref Mac, .ref Mat])), (Mn, .inl (g 0, 1767, .inl fno)), (Mh, .inl (g 0, 9, .inl fmh)), (Mr, .inl (g 0, 3, .inl fmr)), (Ma, .inl (g 0, 3, .inl fma)), (Mas, .inl (g 0, 1767, .inl fas))] H := ⟨hP.sub [5, 0, 1, 2, 3, 4] rfl, hD.sub [5, 0, 1, 2, 3, 4] (by decide) rfl⟩
    have hP9 := hPD9.1; have hD9 := hPD9.2
    subst hQ
    refine W.widen (k := 0) (n := 0) (Nat.le_of_ble_eq_true rfl) (Nat.le_of_ble_eq_true rfl) ?_
    exact W.iret (v := (-1)) hx hb hr (fun tS htS _ => ⟨⟨_, _, rfl, ⟨0, fno, fma, fas, rfl, (h2)⟩, by rw [htS]; exact hP9, hD9⟩, hS.F htS⟩) hS.2.2 dX7_learns_15

set_option maxHeartbeats 4000000 in
set_option maxRecDepth 100000 in
theorem k_X7_cellsAnywhere (l : Launch) (D : va_G) (g : Nat → ClassId) (sz : Nat) (Mm : Nat) (zth : Int32) (Mt : Nat) (tp : Nat) (zma : Int32) (zwr : Int32) (Mrr : Nat) (Mrh : Nat) (Mrc : Nat) (zrh : Int32) (zrc : Int32) (Mn : Nat) (Mf : Nat) (Mr : Nat) (Mh : Nat) (hp : Nat) (cc : Nat) (Ma : Nat) (Mas : Nat) (Msn : Nat) (Mac : Nat) (Mat : Nat) (fno : Nat → Int32) (h0 : 1 ≤ cc) (h1 : cc ≤ 3) : Met l yX7_cellsAnywhere wsX7_cellsAnywhere ({ frames := 2, cells := 0, slots := 0, locals := 41 }) (va_Pc [.ref Mm] (pre D g sz [(Mm, .inr (7, [.int zth, .ref Mt, .int (nI tp), .int zma, .int zwr, .ref Mrr, .ref Mrh, .ref Mrc, .int zrh, .int zrc, .ref Mn, .ref Mf, .ref Mr, .ref Mh, .int (nI hp), .int (nI cc), .ref Ma, .ref Mas, .ref Msn, .ref Mac, .ref Mat])), (Mn, .inl (g 0, 1767, .inl fno))])) (va_Qi (fun (r : Int32) (u : va_W) => u = [(Mm, .inr (7, [.int zth, .ref Mt, .int (nI tp), .int zma, .int zwr, .ref Mrr, .ref Mrh, .ref Mrc, .int zrh, .int zrc, .ref Mn, .ref Mf, .ref Mr, .ref Mh, .int (nI hp), .int (nI cc), .ref Ma, .ref Mas, .ref Msn, .ref Mac, .ref Mat])), (Mn, .inl (g 0, 1767, .inl fno))]) (wd D (va_A [(Mm, .inr (7, [.int zth, .ref Mt, .int (nI tp), .int zma, .int zwr, .ref Mrr, .ref Mrh, .ref Mrc, .int zrh, .int zrc, .ref Mn, .ref Mf, .ref Mr, .ref Mh, .int (nI hp), .int (nI cc), .ref Ma, .ref Mas, .ref Msn, .ref Mac, .ref Mat])), (Mn, .inl (g 0, 1767, .inl fno))] sz)) (va_A [(Mm, .inr (7, [.int zth, .ref Mt, .int (nI tp), .int zma, .int zwr, .ref Mrr, .ref Mrh, .ref Mrc, .int zrh, .int zrc, .ref Mn, .ref Mf, .ref Mr, .ref Mh, .int (nI hp), .int (nI cc), .ref Ma, .ref Mas, .ref Msn, .ref Mac, .ref Mat])), (Mn, .inl (g 0, 1767, .inl fno))] sz)) 0 0 (va_A [(Mm, .inr (7, [.int zth, .ref Mt, .int (nI tp), .int zma, .int zwr, .ref Mrr, .ref Mrh, .ref Mrc, .int zrh, .int zrc, .ref Mn, .ref Mf, .ref Mr, .ref Mh, .int (nI hp), .int (nI cc), .ref Ma, .ref Mas, .ref Msn, .ref Mac, .ref Mat])), (Mn, .inl (g 0, 1767, .inl fno))] sz) := by
  refine Met.ofW (cc := cX7_cellsAnywhere) (maxL := 3) (ret := (some .int)) (by decide) rfl ?_
  intro p e s m args below meth c s₁ B hml hv
  obtain ⟨rfl, hsz, hP, ⟨hK, hN⟩, hD0, hZ⟩ := hv
  have hx := B.exec
  have hb := B.bytes
  have hr := B.returns
  have hts := atoms_spec (ws := wsX7_cellsAnywhere) B.pre
  have hown : s.vm.findClass RX7 = some m.cls := findClass_of_methodNamed B.named
  have hlocks := B.notSynchronized
  clear B
  subst hsz
  have hD := hD0.self (sz := s.heap.size)
  clear hD0
  generalize hAe : va_A [(Mm, .inr (7, [.int zth, .ref Mt, .int (nI tp), .int zma, .int zwr, .ref Mrr, .ref Mrh, .ref Mrc, .int zrh, .int zrc, .ref Mn, .ref Mf, .ref Mr, .ref Mh, .int (nI hp), .int (nI cc), .ref Ma, .ref Mas, .ref Msn, .ref Mac, .ref Mat])), (Mn, .inl (g 0, 1767, .inl fno))] s.heap.size = A at hD hZ ⊢
  have hA : ∀ q : Nat, s.heap.size ≤ q → A q := fun q h => by rw [← hAe]; exact Or.inr h
  have hS : va_S A s.heap s.heap [] := va_S.rf
  have f127 := hts (.fieldLink RX7 127 "HopCreditsModel" "circuits" "I") (List.mem_of_getElem? (i := 1) rfl)
  have iX7 : ∀ w ∈ u_ws RX7 TX7 21, w ∈ wsX7_cellsAnywhere := fun w h => List.mem_cons_of_mem _ (List.mem_append_right _ (h))
  have hl := lv_entry ([.ref Mm]) (n := 3) (Nat.le_of_ble_eq_true rfl)
  rw [lg_entry_eq]
  generalize (lg_sl ([.ref Mm]) ++ List.replicate (3 - (lg_sl ([.ref Mm])).length) Slot.unset).toArray = ls at hl ⊢
  have hl : lv_has ls 3 [(0, .ref Mm)] := hl
  generalize hQ : MQ below _ _ s _ _ _ = Q
  generalize hH : s.heap = H at hP ⊢
  have hS : va_S A s.heap H [] := by rw [← hH]; exact hS
  clear hH
  refine lv_iconst (v := 0) hx hb dX7_cellsAnywhere_0 (by decide) ?_
  refine lv_istore_n (lv' := [(1, .int 0), (0, .ref Mm)]) hx hb dX7_cellsAnywhere_1 rfl hl (by decide) rfl (fun ls hl => ?_)
  refine lv_iconst (v := 0) hx hb dX7_cellsAnywhere_2 (by decide) ?_
  refine lv_istore_n (lv' := [(2, .int 0), (1, .int 0), (0, .ref Mm)]) hx hb dX7_cellsAnywhere_3 rfl hl (by decide) rfl (fun ls hl => ?_)
  have loop_10 : ∀ (Nloop_10 : Nat) (i_3 : Nat) (i_4 : Int32) (hbi_3 : i_3 ≤ cc) (hmloop_10 : cc - i_3 < Nloop_10) (H : Heap) (locs : List Loc) (ls : Array Slot), va_P D vwCl [(Mm, .inr (7, [.int zth, .ref Mt, .int (nI tp), .int zma, .int zwr, .ref Mrr, .ref Mrh, .ref Mrc, .int zrh, .int zrc, .ref Mn, .ref Mf, .ref Mr, .ref Mh, .int (nI hp), .int (nI cc), .ref Ma, .ref Mas, .ref Msn, .ref Mac, .ref Mat])), (Mn, .inl (g 0, 1767, .inl fno))] H → va_D A [(Mm, .inr (7, [.int zth, .ref Mt, .int (nI tp), .int zma, .int zwr, .ref Mrr, .ref Mrh, .ref Mrc, .int zrh, .int zrc, .ref Mn, .ref Mf, .ref Mr, .ref Mh, .int (nI hp), .int (nI cc), .ref Ma, .ref Mas, .ref Msn, .ref Mac, .ref Mat])), (Mn, .inl (g 0, 1767, .inl fno))] → va_S A s.heap H locs → lv_has ls 3 [(2, .int (nI i_3)), (1, .int i_4), (0, .ref Mm)] → W p l e (headSpec wsX7_cellsAnywhere ({ frames := 2, cells := 0, slots := 0, locals := 41 })).room s m ([.ref Mm] : List Value).toArray below meth c H locs 0 0 Q (F0 m 4 ls []) := by
    clear hP hD hS hl
    intro Nloop_10
    induction Nloop_10 with
    | zero => intro i_3 i_4 hbi_3 hm9; exact absurd hm9 (Nat.not_lt_zero _)
    | succ Nloop_10 loop_10_ih =>
      intro i_3 i_4 hbi_3 hmloop_10 H locs ls hP hD hS hl
      refine lv_iload_n hx hb dX7_cellsAnywhere_4 rfl (lv_at hl 0 rfl) ?_
      refine lv_aload_n hx hb dX7_cellsAnywhere_5 rfl (lv_at hl 2 rfl) ?_
      refine va_get (D := D) (ci := 7) (v := .int (nI cc)) (C := RX7) (T := TX7) (N := 21) hx hb hts iX7 hown hK hP 0 rfl rfl 15 (by decide) f127 (fun _ h9 => h9) rfl dX7_cellsAnywhere_6 ?_
      refine lv_icmp_ge (tgt := 26) hx hb dX7_cellsAnywhere_9 (by decide) (fun cb_11 => ?_) (fun cb_11 => ?_)
      · skip
        have cn_12 : cc ≤ i_3 := (nI_leI (show cc < 2 ^ 31 by omega) (show i_3 < 2 ^ 31 by omega)).mp cb_11
        refine lv_iload_n hx hb dX7_cellsAnywhere_26 rfl (lv_at hl 1 rfl) ?_
        have hP9 := hP; have hD9 := hD
        subst hQ
        refine W.widen (k := 0) (n := 0) (Nat.le_of_ble_eq_true rfl) (Nat.le_of_ble_eq_true rfl) ?_
        exact W.iret (v := i_4) hx hb hr (fun tS htS _ => ⟨⟨_, _, rfl, rfl, by rw [htS]; exact hP9, hD9⟩, hS.F htS⟩) hS.2.2 dX7_cellsAnywhere_27
      · skip
        have cn_13 : i_3 < cc := Nat.lt_of_not_le (fun q9 => cb_11 ((nI_leI (show cc < 2 ^ 31 by omega) (show i_3 < 2 ^ 31 by omega)).mpr q9))
        refine lv_iload_n hx hb dX7_cellsAnywhere_12 rfl (lv_at hl 1 rfl) ?_
        refine lv_aload_n hx hb dX7_cellsAnywhere_13 rfl (lv_at hl 2 rfl) ?_
        refine lv_iload_n hx hb dX7_cellsAnywhere_14 rfl (lv_at hl 0 rfl) ?_
        refine ky_Vi (As := [.int (nI i_3)]) (rest := [.int i_4]) ⟨hx, hb, hml, hown, hts⟩ ⟨hK, hN⟩ hZ hP hD hS hA [0, 1] [] (wc := [(Mm, .inr (7, [.int zth, .ref Mt, .int (nI tp), .int zma, .int zwr, .ref Mrr, .ref Mrh, .ref Mrc, .int zrh, .int zrc, .ref Mn, .ref Mf, .ref Mr, .ref Mh, .int (nI hp), .int (nI cc), .ref Ma, .ref Mas, .ref Msn, .ref Mac, .ref Mat])), (Mn, .inl (g 0, 1767, .inl fno))]) (wr := []) rfl rfl rfl rfl (by decide) (k_X7_anywhere l D g H.size Mm i_3 zth Mt tp zma zwr Mrr Mrh Mrc zrh zrc Mn Mf Mr Mh hp cc Ma Mas Msn Mac Mat fno (show i_3 < 3 by omega)) (cwV 1 hts gX7_cellsAnywhere_X7_anywhere rfl rfl rfl (by decide +kernel) ⟨(Nat.le_of_ble_eq_true rfl), (Nat.le_of_ble_eq_true rfl)⟩) 0 7 rfl rfl rfl rfl hl.1 rfl (Nat.le_of_ble_eq_true rfl) dX7_cellsAnywhere_15 ⟨(Nat.le_of_ble_eq_true rfl), (Nat.le_of_ble_eq_true rfl)⟩ (fun r_14 u H locs hw hP2 hD2 hS2 => ?_)
        clear hP hD hS
        obtain rfl := hw
        have hPD : PD D A [(Mm, .inr (7, [.int zth, .ref Mt, .int (nI tp), .int zma, .int zwr, .ref Mrr, .ref Mrh, .ref Mrc, .int zrh, .int zrc, .ref Mn, .ref Mf, .ref Mr, .ref Mh, .int (nI hp), .int (nI cc), .ref Ma, .ref Mas, .ref Msn, .ref Mac, .ref Mat])), (Mn, .inl (g 0, 1767, .inl fno))] H := ⟨hP2, hD2⟩
        have hS := hS2; clear hP2 hD2 hS2; have hP := hPD.1; have hD := hPD.2; clear hPD
        refine W.widen (k := 0) (n := 0) (Nat.le_of_ble_eq_true rfl) (Nat.le_of_ble_eq_true rfl) ?_
        refine lv_iadd hx hb dX7_cellsAnywhere_18 ?_
        refine lv_topi (fun y_15 _ => ?_)
        refine lv_istore_n (lv' := [(1, .int y_15), (2, .int (nI i_3)), (0, .ref Mm)]) hx hb dX7_cellsAnywhere_19 rfl hl (by decide) rfl (fun ls hl => ?_)
        refine lv_iinc (v := (nI (i_3 + 1))) (lv' := [(2, .int (nI (i_3 + 1))), (1, .int y_15), (0, .ref Mm)]) hx hb dX7_cellsAnywhere_20 hl (k := 1) rfl (nI_1 (i_3)) (by decide) rfl (fun ls hl => ?_)
        refine lv_goto (tgt := 4) hx hb dX7_cellsAnywhere_23 (by decide) ?_
        exact loop_10_ih (i_3 + 1) y_15 (show (i_3 + 1) ≤ cc by omega) (show cc - (i_3 + 1) < Nloop_10 by omega) _ _ _ hP hD hS hl
  exact loop_10 _ 0 0 (show 0 ≤ cc by omega) (Nat.lt_succ_self _) _ _ _ hP hD hS hl

set_option maxHeartbeats 4000000 in
set_option maxRecDepth 100000 in
theorem k_X7_stuck (l : Launch) (D : va_G) (g : Nat → ClassId) (sz : Nat) {gs : Nat → Int32} (Mm : Nat) (zth : Int32) (Mt : Nat) (tp : Nat) (zma : Int32) (zwr : Int32) (Mrr : Nat) (Mrh : Nat) (Mrc : Nat) (zrh : Int32) (zrc : Int32) (Mn : Nat) (Mf : Nat) (Mr : Nat) (Mh : Nat) (hp : Nat) (cc : Nat) (Ma : Nat) (Mas : Nat) (Msn : Nat) (Mac : Nat) (Mat : Nat) (fno : Nat → Int32) (fmh : Nat → Int32) (fmr : Nat → Int32) (fma : Nat → Int32) (fas : Nat → Int32) (fsn : Nat → Int32) (tb : Nat) (ub : Nat) (h0 : tb < 2 ^ 27) (h1 : ub < 2 ^ 27) (h2 : mOK gs tb ub fno) (h3 : 1 ≤ hp) (h4 : hp ≤ 3) (h5 : 1 ≤ cc) (h6 : cc ≤ 3) (h7 : n3 fmh) : Met l yX7_stuck wsX7_stuck ({ frames := 6, cells := 0, slots := 0, locals := 133 }) (va_Pc [.ref Mm] (pre D g sz [(Mm, .inr (7, [.int zth, .ref Mt, .int (nI tp), .int zma, .int zwr, .ref Mrr, .ref Mrh, .ref Mrc, .int zrh, .int zrc, .ref Mn, .ref Mf, .ref Mr, .ref Mh, .int (nI hp), .int (nI cc), .ref Ma, .ref Mas, .ref Msn, .ref Mac, .ref Mat])), (Mn, .inl (g 0, 1767, .inl fno)), (Mh, .inl (g 0, 9, .inl fmh)), (Mr, .inl (g 0, 3, .inl fmr)), (Ma, .inl (g 0, 3, .inl fma)), (Mas, .inl (g 0, 1767, .inl fas)), (Msn, .inl (g 0, 3, .inl fsn))])) (va_Qi (fun (r : Int32) (u : va_W) => ∃ (zthx : Int32) (fnox : Nat → Int32) (fmax : Nat → Int32) (fasx : Nat → Int32) (fsnx : Nat → Int32), u = [(Mm, .inr (7, [.int zthx, .ref Mt, .int (nI tp), .int zma, .int zwr, .ref Mrr, .ref Mrh, .ref Mrc, .int zrh, .int zrc, .ref Mn, .ref Mf, .ref Mr, .ref Mh, .int (nI hp), .int (nI cc), .ref Ma, .ref Mas, .ref Msn, .ref Mac, .ref Mat])), (Mn, .inl (g 0, 1767, .inl fnox)), (Mh, .inl (g 0, 9, .inl fmh)), (Mr, .inl (g 0, 3, .inl fmr)), (Ma, .inl (g 0, 3, .inl fmax)), (Mas, .inl (g 0, 1767, .inl fasx)), (Msn, .inl (g 0, 3, .inl fsnx))] ∧ (mOK gs tb ub fnox)) (wd D (va_A [(Mm, .inr (7, [.int zth, .ref Mt, .int (nI tp), .int zma, .int zwr, .ref Mrr, .ref Mrh, .ref Mrc, .int zrh, .int zrc, .ref Mn, .ref Mf, .ref Mr, .ref Mh, .int (nI hp), .int (nI cc), .ref Ma, .ref Mas, .ref Msn, .ref Mac, .ref Mat])), (Mn, .inl (g 0, 1767, .inl fno)), (Mh, .inl (g 0, 9, .inl fmh)), (Mr, .inl (g 0, 3, .inl fmr)), (Ma, .inl (g 0, 3, .inl fma)), (Mas, .inl (g 0, 1767, .inl fas)), (Msn, .inl (g 0, 3, .inl fsn))] sz)) (va_A [(Mm, .inr (7, [.int zth, .ref Mt, .int (nI tp), .int zma, .int zwr, .ref Mrr, .ref Mrh, .ref Mrc, .int zrh, .int zrc, .ref Mn, .ref Mf, .ref Mr, .ref Mh, .int (nI hp), .int (nI cc), .ref Ma, .ref Mas, .ref Msn, .ref Mac, .ref Mat])), (Mn, .inl (g 0, 1767, .inl fno)), (Mh, .inl (g 0, 9, .inl fmh)), (Mr, .inl (g 0, 3, .inl fmr)), (Ma, .inl (g 0, 3, .inl fma)), (Mas, .inl (g 0, 1767, .inl fas)), (Msn, .inl (g 0, 3, .inl fsn))] sz)) 0 0 (va_A [(Mm, .inr (7, [.int zth, .ref Mt, .int (nI tp), .int zma, .int zwr, .ref Mrr, .ref Mrh, .ref Mrc, .int zrh, .int zrc, .ref Mn, .ref Mf, .ref Mr, .ref Mh, .int (nI hp), .int (nI cc), .ref Ma, .ref Mas, .ref Msn, .ref Mac, .ref Mat])), (Mn, .inl (g 0, 1767, .inl fno)), (Mh, .inl (g 0, 9, .inl fmh)), (Mr, .inl (g 0, 3, .inl fmr)), (Ma, .inl (g 0, 3, .inl fma)), (Mas, .inl (g 0, 1767, .inl fas)), (Msn, .inl (g 0, 3, .inl fsn))] sz) := by
  refine Met.ofW (cc := cX7_stuck) (maxL := 6) (ret := (some .boolean)) (by decide) rfl ?_
  intro p e s m args below meth c s₁ B hml hv
  obtain ⟨rfl, hsz, hP, ⟨hK, hN⟩, hD0, hZ⟩ := hv
  have hx := B.exec
  have hb := B.bytes
  have hr := B.returns
  have hts := atoms_spec (ws := wsX7_stuck) B.pre
  have hown : s.vm.findClass RX7 = some m.cls := findClass_of_methodNamed B.named
  have hlocks := B.notSynchronized
  clear B
  subst hsz
  have hD := hD0.self (sz := s.heap.size)
  clear hD0
  generalize hAe : va_A [(Mm, .inr (7, [.int zth, .ref Mt, .int (nI tp), .int zma, .int zwr, .ref Mrr, .ref Mrh, .ref Mrc, .int zrh, .int zrc, .ref Mn, .ref Mf, .ref Mr, .ref Mh, .int (nI hp), .int (nI cc), .ref Ma, .ref Mas, .ref Msn, .ref Mac, .ref Mat])), (Mn, .inl (g 0, 1767, .inl fno)), (Mh, .inl (g 0, 9, .inl fmh)), (Mr, .inl (g 0, 3, .inl fmr)), (Ma, .inl (g 0, 3, .inl fma)), (Mas, .inl (g 0, 1767, .inl fas)), (Msn, .inl (g 0, 3, .inl fsn))] s.heap.size = A at hD hZ ⊢
  have hA : ∀ q : Nat, s.heap.size ≤ q → A q := fun q h => by rw [← hAe]; exact Or.inr h
  have hS : va_S A s.heap s.heap [] := va_S.rf
  have f124 := hts (.fieldLink RX7 124 "HopCreditsModel" "hops" "I") (List.mem_of_getElem? (i := 3) rfl)
  have f40 := hts (.fieldLink RX7 40 "HopCreditsModel" "sentNow" "[I") (List.mem_of_getElem? (i := 2) rfl)
  have f49 := hts (.fieldLink RX7 49 "HopCreditsModel" "thrown" "I") (List.mem_of_getElem? (i := 1) rfl)
  have iX7 : ∀ w ∈ u_ws RX7 TX7 21, w ∈ wsX7_stuck := fun w h => List.mem_cons_of_mem _ (List.mem_append_right _ (h))
  have hl := lv_entry ([.ref Mm]) (n := 6) (Nat.le_of_ble_eq_true rfl)
  rw [lg_entry_eq]
  generalize (lg_sl ([.ref Mm]) ++ List.replicate (6 - (lg_sl ([.ref Mm])).length) Slot.unset).toArray = ls at hl ⊢
  have hl : lv_has ls 6 [(0, .ref Mm)] := hl
  generalize hQ : MQ below _ _ s _ _ _ = Q
  generalize hH : s.heap = H at hP ⊢
  have hS : va_S A s.heap H [] := by rw [← hH]; exact hS
  clear hH
  refine lv_aload_n hx hb dX7_stuck_0 rfl (lv_at hl 0 rfl) ?_
  refine lv_iconst (v := 0) hx hb dX7_stuck_1 (by decide) ?_
  refine va_put (D := D) (ci := 7) (v := .int 0) (ty := .int) (C := RX7) (T := TX7) (N := 21) hx hb hts iX7 tyX7 tyX7_ok nmX7 hown hK hP hD hS 0 rfl rfl 0 (by decide) f49 (fun _ h9 => h9) rfl (by decide +kernel) (rfl) (rfl) (Nat.le_of_ble_eq_true rfl) dX7_stuck_2 (fun H locs hP2 hD2 hS2 => ?_)
  clear hP hD hS
  have hPD : PD D A [(Mm, .inr (7, [.int 0, .ref Mt, .int (nI tp), .int zma, .int zwr, .ref Mrr, .ref Mrh, .ref Mrc, .int zrh, .int zrc, .ref Mn, .ref Mf, .ref Mr, .ref Mh, .int (nI hp), .int (nI cc), .ref Ma, .ref Mas, .ref Msn, .ref Mac, .ref Mat])), (Mn, .inl (g 0, 1767, .inl fno)), (Mh, .inl (g 0, 9, .inl fmh)), (Mr, .inl (g 0, 3, .inl fmr)), (Ma, .inl (g 0, 3, .inl fma)), (Mas, .inl (g 0, 1767, .inl fas)), (Msn, .inl (g 0, 3, .inl fsn))] H := ⟨hP2, hD2⟩
  have hS := hS2; clear hP2 hD2 hS2; have hP := hPD.1; have hD := hPD.2; clear hPD
  refine lv_aload_n hx hb dX7_stuck_5 rfl (lv_at hl 0 rfl) ?_
  refine ky_Vi (As := []) (rest := []) ⟨hx, hb, hml, hown, hts⟩ ⟨hK, hN⟩ hZ hP hD hS hA [0] [1, 2, 3, 4, 5, 6] (wc := [(Mm, .inr (7, [.int 0, .ref Mt, .int (nI tp), .int zma, .int zwr, .ref Mrr, .ref Mrh, .ref Mrc, .int zrh, .int zrc, .ref Mn, .ref Mf, .ref Mr, .ref Mh, .int (nI hp), .int (nI cc), .ref Ma, .ref Mas, .ref Msn, .ref Mac, .ref Mat]))]) (wr := [(Mn, .inl (g 0, 1767, .inl fno)), (Mh, .inl (g 0, 9, .inl fmh)), (Mr, .inl (g 0, 3, .inl fmr)), (Ma, .inl (g 0, 3, .inl fma)), (Mas, .inl (g 0, 1767, .inl fas)), (Msn, .inl (g 0, 3, .inl fsn))]) rfl rfl rfl rfl (by decide) (k_X7_isNet l D g H.size Mm 0 Mt tp zma zwr Mrr Mrh Mrc zrh zrc Mn Mf Mr Mh hp cc Ma Mas Msn Mac Mat (show 1 ≤ hp by omega) (show hp ≤ 3 by omega)) (cwV 0 hts gX7_stuck_X7_isNet rfl rfl rfl (by decide +kernel) ⟨(Nat.le_of_ble_eq_true rfl), (Nat.le_of_ble_eq_true rfl)⟩) 0 7 rfl rfl rfl rfl hl.1 rfl (Nat.le_of_ble_eq_true rfl) dX7_stuck_6 ⟨(Nat.le_of_ble_eq_true rfl), (Nat.le_of_ble_eq_true rfl)⟩ (fun r_1 u H locs hw hP2 hD2 hS2 => ?_)
  clear hP hD hS
  obtain ⟨rfl, rfl⟩ := hw
  have hPD : PD D A [(Mn, .inl (g 0, 1767, .inl fno)), (Mh, .inl (g 0, 9, .inl fmh)), (Mr, .inl (g 0, 3, .inl fmr)), (Ma, .inl (g 0, 3, .inl fma)), (Mas, .inl (g 0, 1767, .inl fas)), (Msn, .inl (g 0, 3, .inl fsn)), (Mm, .inr (7, [.int 0, .ref Mt, .int (nI tp), .int zma, .int zwr, .ref Mrr, .ref Mrh, .ref Mrc, .int zrh, .int zrc, .ref Mn, .ref Mf, .ref Mr, .ref Mh, .int (nI hp), .int (nI cc), .ref Ma, .ref Mas, .ref Msn, .ref Mac, .ref Mat]))] H := ⟨hP2, hD2⟩
  have hS := hS2; clear hP2 hD2 hS2; have hP := hPD.1; have hD := hPD.2; clear hPD
  refine W.widen (k := 0) (n := 0) (Nat.le_of_ble_eq_true rfl) (Nat.le_of_ble_eq_true rfl) ?_
  refine lv_if_eq (tgt := 19) hx hb dX7_stuck_9 (by decide) (fun cb => absurd cb (by decide)) (fun _ => ?_)
  refine lv_aload_n hx hb dX7_stuck_12 rfl (lv_at hl 0 rfl) ?_
  refine ky_Vi (As := []) (rest := []) ⟨hx, hb, hml, hown, hts⟩ ⟨hK, hN⟩ hZ hP hD hS hA [6, 0] [1, 2, 3, 4, 5] (wc := [(Mm, .inr (7, [.int 0, .ref Mt, .int (nI tp), .int zma, .int zwr, .ref Mrr, .ref Mrh, .ref Mrc, .int zrh, .int zrc, .ref Mn, .ref Mf, .ref Mr, .ref Mh, .int (nI hp), .int (nI cc), .ref Ma, .ref Mas, .ref Msn, .ref Mac, .ref Mat])), (Mn, .inl (g 0, 1767, .inl fno))]) (wr := [(Mh, .inl (g 0, 9, .inl fmh)), (Mr, .inl (g 0, 3, .inl fmr)), (Ma, .inl (g 0, 3, .inl fma)), (Mas, .inl (g 0, 1767, .inl fas)), (Msn, .inl (g 0, 3, .inl fsn))]) rfl rfl rfl rfl (by decide) (k_X7_cellsAnywhere l D g H.size Mm 0 Mt tp zma zwr Mrr Mrh Mrc zrh zrc Mn Mf Mr Mh hp cc Ma Mas Msn Mac Mat fno (show 1 ≤ cc by omega) (show cc ≤ 3 by omega)) (cwV 0 hts gX7_stuck_X7_cellsAnywhere rfl rfl rfl (by decide +kernel) ⟨(Nat.le_of_ble_eq_true rfl), (Nat.le_of_ble_eq_true rfl)⟩) 6 7 rfl rfl rfl rfl hl.1 rfl (Nat.le_of_ble_eq_true rfl) dX7_stuck_13 ⟨(Nat.le_of_ble_eq_true rfl), (Nat.le_of_ble_eq_true rfl)⟩ (fun r_2 u H locs hw hP2 hD2 hS2 => ?_)
  clear hP hD hS
  obtain rfl := hw
  have hPD : PD D A [(Mh, .inl (g 0, 9, .inl fmh)), (Mr, .inl (g 0, 3, .inl fmr)), (Ma, .inl (g 0, 3, .inl fma)), (Mas, .inl (g 0, 1767, .inl fas)), (Msn, .inl (g 0, 3, .inl fsn)), (Mm, .inr (7, [.int 0, .ref Mt, .int (nI tp), .int zma, .int zwr, .ref Mrr, .ref Mrh, .ref Mrc, .int zrh, .int zrc, .ref Mn, .ref Mf, .ref Mr, .ref Mh, .int (nI hp), .int (nI cc), .ref Ma, .ref Mas, .ref Msn, .ref Mac, .ref Mat])), (Mn, .inl (g 0, 1767, .inl fno))] H := ⟨hP2, hD2⟩
  have hS := hS2; clear hP2 hD2 hS2; have hP := hPD.1; have hD := hPD.2; clear hPD
  refine W.widen (k := 0) (n := 0) (Nat.le_of_ble_eq_true rfl) (Nat.le_of_ble_eq_true rfl) ?_
  refine lv_if_ne (tgt := 21) hx hb dX7_stuck_16 (by decide) (fun cb_3 => ?_) (fun cb_3 => ?_)
  · skip
    refine lv_aload_n hx hb dX7_stuck_21 rfl (lv_at hl 0 rfl) ?_
    refine ky_Vv (As := []) (rest := []) ⟨hx, hb, hml, hown, hts⟩ ⟨hK, hN⟩ hZ hP hD hS hA [5, 6, 3] [0, 1, 2, 4] (wc := [(Mm, .inr (7, [.int 0, .ref Mt, .int (nI tp), .int zma, .int zwr, .ref Mrr, .ref Mrh, .ref Mrc, .int zrh, .int zrc, .ref Mn, .ref Mf, .ref Mr, .ref Mh, .int (nI hp), .int (nI cc), .ref Ma, .ref Mas, .ref Msn, .ref Mac, .ref Mat])), (Mn, .inl (g 0, 1767, .inl fno)), (Mas, .inl (g 0, 1767, .inl fas))]) (wr := [(Mh, .inl (g 0, 9, .inl fmh)), (Mr, .inl (g 0, 3, .inl fmr)), (Ma, .inl (g 0, 3, .inl fma)), (Msn, .inl (g 0, 3, .inl fsn))]) rfl rfl rfl rfl (by decide) (k_X7_putAside l D g H.size Mm 0 Mt tp zma zwr Mrr Mrh Mrc zrh zrc Mn Mf Mr Mh hp cc Ma Mas Msn Mac Mat fno fas tb ub (h2)) (cwV 0 hts gX7_stuck_X7_putAside rfl rfl rfl (by decide +kernel) ⟨(Nat.le_of_ble_eq_true rfl), (Nat.le_of_ble_eq_true rfl)⟩) 5 7 rfl rfl rfl rfl hl.1 rfl (Nat.le_of_ble_eq_true rfl) dX7_stuck_22 ⟨(Nat.le_of_ble_eq_true rfl), (Nat.le_of_ble_eq_true rfl)⟩ (fun u H locs hw hP2 hD2 hS2 => ?_)
    clear hP hD hS
    obtain ⟨fasx_5, rfl, hf_6⟩ := hw
    have hPD : PD D A [(Mh, .inl (g 0, 9, .inl fmh)), (Mr, .inl (g 0, 3, .inl fmr)), (Ma, .inl (g 0, 3, .inl fma)), (Msn, .inl (g 0, 3, .inl fsn)), (Mm, .inr (7, [.int 0, .ref Mt, .int (nI tp), .int zma, .int zwr, .ref Mrr, .ref Mrh, .ref Mrc, .int zrh, .int zrc, .ref Mn, .ref Mf, .ref Mr, .ref Mh, .int (nI hp), .int (nI cc), .ref Ma, .ref Mas, .ref Msn, .ref Mac, .ref Mat])), (Mn, .inl (g 0, 1767, .inl fno)), (Mas, .inl (g 0, 1767, .inl fasx_5))] H := ⟨hP2, hD2⟩
    have hS := hS2; clear hP2 hD2 hS2; have hP := hPD.1; have hD := hPD.2; clear hPD
    refine W.widen (k := 0) (n := 0) (Nat.le_of_ble_eq_true rfl) (Nat.le_of_ble_eq_true rfl) ?_
    refine lv_aload_n hx hb dX7_stuck_25 rfl (lv_at hl 0 rfl) ?_
    refine lv_iconst (v := (-1)) hx hb dX7_stuck_26 (by decide) ?_
    refine ky_Vi (As := [.int (-1)]) (rest := []) ⟨hx, hb, hml, hown, hts⟩ ⟨hK, hN⟩ hZ hP hD hS hA [4, 5] [0, 1, 2, 3, 6] (wc := [(Mm, .inr (7, [.int 0, .ref Mt, .int (nI tp), .int zma, .int zwr, .ref Mrr, .ref Mrh, .ref Mrc, .int zrh, .int zrc, .ref Mn, .ref Mf, .ref Mr, .ref Mh, .int (nI hp), .int (nI cc), .ref Ma, .ref Mas, .ref Msn, .ref Mac, .ref Mat])), (Mn, .inl (g 0, 1767, .inl fno))]) (wr := [(Mh, .inl (g 0, 9, .inl fmh)), (Mr, .inl (g 0, 3, .inl fmr)), (Ma, .inl (g 0, 3, .inl fma)), (Msn, .inl (g 0, 3, .inl fsn)), (Mas, .inl (g 0, 1767, .inl fasx_5))]) rfl rfl rfl rfl (by decide) (k_X7_deliveredOf l D g H.size Mm (-1) 0 Mt tp zma zwr Mrr Mrh Mrc zrh zrc Mn Mf Mr Mh hp cc Ma Mas Msn Mac Mat fno (show 1 ≤ cc by omega) (show cc ≤ 3 by omega)) (cwV 1 hts gX7_stuck_X7_deliveredOf rfl rfl rfl (by decide +kernel) ⟨(Nat.le_of_ble_eq_true rfl), (Nat.le_of_ble_eq_true rfl)⟩) 4 7 rfl rfl rfl rfl hl.1 rfl (Nat.le_of_ble_eq_true rfl) dX7_stuck_27 ⟨(Nat.le_of_ble_eq_true rfl), (Nat.le_of_ble_eq_true rfl)⟩ (fun r_7 u H locs hw hP2 hD2 hS2 => ?_)
    clear hP hD hS
    obtain rfl := hw
    have hPD : PD D A [(Mh, .inl (g 0, 9, .inl fmh)), (Mr, .inl (g 0, 3, .inl fmr)), (Ma, .inl (g 0, 3, .inl fma)), (Msn, .inl (g 0, 3, .inl fsn)), (Mas, .inl (g 0, 1767, .inl fasx_5)), (Mm, .inr (7, [.int 0, .ref Mt, .int (nI tp), .int zma, .int zwr, .ref Mrr, .ref Mrh, .ref Mrc, .int zrh, .int zrc, .ref Mn, .ref Mf, .ref Mr, .ref Mh, .int (nI hp), .int (nI cc), .ref Ma, .ref Mas, .ref Msn, .ref Mac, .ref Mat])), (Mn, .inl (g 0, 1767, .inl fno))] H := ⟨hP2, hD2⟩
    have hS := hS2; clear hP2 hD2 hS2; have hP := hPD.1; have hD := hPD.2; clear hPD
    refine W.widen (k := 0) (n := 0) (Nat.le_of_ble_eq_true rfl) (Nat.le_of_ble_eq_true rfl) ?_
    refine lv_istore_n (lv' := [(1, .int r_7), (0, .ref Mm)]) hx hb dX7_stuck_30 rfl hl (by decide) rfl (fun ls hl => ?_)
    refine lv_iconst (v := 1) hx hb dX7_stuck_31 (by decide) ?_
    refine lv_istore_n (lv' := [(2, .int 1), (1, .int r_7), (0, .ref Mm)]) hx hb dX7_stuck_32 rfl hl (by decide) rfl (fun ls hl => ?_)
    refine lv_iconst (v := 0) hx hb dX7_stuck_33 (by decide) ?_
    refine lv_istore_n (lv' := [(3, .int 0), (2, .int 1), (1, .int r_7), (0, .ref Mm)]) hx hb dX7_stuck_34 rfl hl (by decide) rfl (fun ls hl => ?_)
    have loop_188 : ∀ (Nloop_188 : Nat) (i_91 : Nat) (i_92 : Int32) (F_93 : Nat → Int32) (F_94 : Nat → Int32) (F_95 : Nat → Int32) (hi_92 : zb i_92) (hF_94 : mOK gs (tb + i_91) (ub + 6 * i_91) F_94) (hbi_91 : i_91 ≤ 200) (hmloop_188 : 200 - i_91 < Nloop_188) (H : Heap) (locs : List Loc) (ls : Array Slot), va_P D vwCl [(Mh, .inl (g 0, 9, .inl fmh)), (Mr, .inl (g 0, 3, .inl fmr)), (Ma, .inl (g 0, 3, .inl F_95)), (Msn, .inl (g 0, 3, .inl F_93)), (Mas, .inl (g 0, 1767, .inl fasx_5)), (Mm, .inr (7, [.int 0, .ref Mt, .int (nI tp), .int zma, .int zwr, .ref Mrr, .ref Mrh, .ref Mrc, .int zrh, .int zrc, .ref Mn, .ref Mf, .ref Mr, .ref Mh, .int (nI hp), .int (nI cc), .ref Ma, .ref Mas, .ref Msn, .ref Mac, .ref Mat])), (Mn, .inl (g 0, 1767, .inl F_94))] H → va_D A [(Mh, .inl (g 0, 9, .inl fmh)), (Mr, .inl (g 0, 3, .inl fmr)), (Ma, .inl (g 0, 3, .inl F_95)), (Msn, .inl (g 0, 3, .inl F_93)), (Mas, .inl (g 0, 1767, .inl fasx_5)), (Mm, .inr (7, [.int 0, .ref Mt, .int (nI tp), .int zma, .int zwr, .ref Mrr, .ref Mrh, .ref Mrc, .int zrh, .int zrc, .ref Mn, .ref Mf, .ref Mr, .ref Mh, .int (nI hp), .int (nI cc), .ref Ma, .ref Mas, .ref Msn, .ref Mac, .ref Mat])), (Mn, .inl (g 0, 1767, .inl F_94))] → va_S A s.heap H locs → lv_has ls 6 [(3, .int (nI i_91)), (2, .int i_92), (1, .int r_7), (0, .ref Mm)] → W p l e (headSpec wsX7_stuck ({ frames := 6, cells := 0, slots := 0, locals := 133 })).room s m ([.ref Mm] : List Value).toArray below meth c H locs 0 0 Q (F0 m 35 ls []) := by
      clear hP hD hS hl
      intro Nloop_188
      induction Nloop_188 with
      | zero => intro i_91 i_92 F_93 F_94 F_95 hi_92 hF_94 hbi_91 hm9; exact absurd hm9 (Nat.not_lt_zero _)
      | succ Nloop_188 loop_188_ih =>
        intro i_91 i_92 F_93 F_94 F_95 hi_92 hF_94 hbi_91 hmloop_188 H locs ls hP hD hS hl
        refine lv_iload_n hx hb dX7_stuck_35 rfl (lv_at hl 0 rfl) ?_
        refine lv_sipush (v := 200) hx hb dX7_stuck_36 (by decide) ?_
        refine lv_icmp_ge (tgt := 152) hx hb dX7_stuck_39 (by decide) (fun cb_189 => ?_) (fun cb_189 => ?_)
        · skip
          have cn_190 : 200 ≤ i_91 := (nI_leI (show 200 < 2 ^ 31 by omega) (show i_91 < 2 ^ 31 by omega)).mp cb_189
          refine lv_aload_n hx hb dX7_stuck_152 rfl (lv_at hl 3 rfl) ?_
          refine ky_Vv (As := []) (rest := []) ⟨hx, hb, hml, hown, hts⟩ ⟨hK, hN⟩ hZ hP hD hS hA [5, 6, 4] [0, 1, 2, 3] (wc := [(Mm, .inr (7, [.int 0, .ref Mt, .int (nI tp), .int zma, .int zwr, .ref Mrr, .ref Mrh, .ref Mrc, .int zrh, .int zrc, .ref Mn, .ref Mf, .ref Mr, .ref Mh, .int (nI hp), .int (nI cc), .ref Ma, .ref Mas, .ref Msn, .ref Mac, .ref Mat])), (Mn, .inl (g 0, 1767, .inl F_94)), (Mas, .inl (g 0, 1767, .inl fasx_5))]) (wr := [(Mh, .inl (g 0, 9, .inl fmh)), (Mr, .inl (g 0, 3, .inl fmr)), (Ma, .inl (g 0, 3, .inl F_95)), (Msn, .inl (g 0, 3, .inl F_93))]) rfl rfl rfl rfl (by decide) (k_X7_bringBack l D g H.size Mm 0 Mt tp zma zwr Mrr Mrh Mrc zrh zrc Mn Mf Mr Mh hp cc Ma Mas Msn Mac Mat F_94 fasx_5 tb ub (hf_6)) (cwV 0 hts gX7_stuck_X7_bringBack rfl rfl rfl (by decide +kernel) ⟨(Nat.le_of_ble_eq_true rfl), (Nat.le_of_ble_eq_true rfl)⟩) 5 7 rfl rfl rfl rfl hl.1 rfl (Nat.le_of_ble_eq_true rfl) dX7_stuck_153 ⟨(Nat.le_of_ble_eq_true rfl), (Nat.le_of_ble_eq_true rfl)⟩ (fun u H locs hw hP2 hD2 hS2 => ?_)
          clear hP hD hS
          obtain ⟨fnox_192, rfl, hf_193⟩ := hw
          have hPD : PD D A [(Mh, .inl (g 0, 9, .inl fmh)), (Mr, .inl (g 0, 3, .inl fmr)), (Ma, .inl (g 0, 3, .inl F_95)), (Msn, .inl (g 0, 3, .inl F_93)), (Mm, .inr (7, [.int 0, .ref Mt, .int (nI tp), .int zma, .int zwr, .ref Mrr, .ref Mrh, .ref Mrc, .int zrh, .int zrc, .ref Mn, .ref Mf, .ref Mr, .ref Mh, .int (nI hp), .int (nI cc), .ref Ma, .ref Mas, .ref Msn, .ref Mac, .ref Mat])), (Mn, .inl (g 0, 1767, .inl fnox_192)), (Mas, .inl (g 0, 1767, .inl fasx_5))] H := ⟨hP2, hD2⟩
          have hS := hS2; clear hP2 hD2 hS2; have hP := hPD.1; have hD := hPD.2; clear hPD
          refine W.widen (k := 0) (n := 0) (Nat.le_of_ble_eq_true rfl) (Nat.le_of_ble_eq_true rfl) ?_
          refine lv_iload_n hx hb dX7_stuck_156 rfl (lv_at hl 1 rfl) ?_
          have hPD9 : PD D A [(Mm, .inr (7, [.int 0, .ref Mt, .int (nI tp), .int zma, .int zwr, .ref Mrr, .ref Mrh, .ref Mrc, .int zrh, .int zrc, .ref Mn, .ref Mf, .ref Mr, .ref Mh, .int (nI hp), .int (nI cc), .ref Ma, .ref Mas, .ref Msn, .ref Mac, .ref Mat])), (Mn, .inl (g 0, 1767, .inl fnox_192)), (Mh, .inl (g 0, 9, .inl fmh)), (Mr, .inl (g 0, 3, .inl fmr)), (Ma, .inl (g 0, 3, .inl F_95)), (Mas, .inl (g 0, 1767, .inl fasx_5)), (Msn, .inl (g 0, 3, .inl F_93))] H := ⟨hP.sub [4, 5, 0, 1, 2, 6, 3] rfl, hD.sub [4, 5, 0, 1, 2, 6, 3] (by decide) rfl⟩
          have hP9 := hPD9.1; have hD9 := hPD9.2
          subst hQ
          refine W.widen (k := 0) (n := 0) (Nat.le_of_ble_eq_true rfl) (Nat.le_of_ble_eq_true rfl) ?_
          exact W.zret (v := i_92) (ty := .boolean) hx hb hr (zb_nar (hi_92)) (fun tS htS _ => ⟨⟨_, _, rfl, ⟨0, fnox_192, F_95, fasx_5, F_93, rfl, (hf_193)⟩, by rw [htS]; exact hP9, hD9⟩, hS.F htS⟩) hS.2.2 dX7_stuck_157
        · skip
          have cn_194 : i_91 < 200 := Nat.lt_of_not_le (fun q9 => cb_189 ((nI_leI (show 200 < 2 ^ 31 by omega) (show i_91 < 2 ^ 31 by omega)).mpr q9))
          refine lv_iload_n hx hb dX7_stuck_42 rfl (lv_at hl 1 rfl) ?_
          refine lv_if_eq (tgt := 152) hx hb dX7_stuck_43 (by decide) (fun cb_195 => ?_) (fun cb_195 => ?_)
          · skip
            have hPq_196 := hP; have hDq_196 := hD; have hSq_196 := hS; have hlq_196 := hl; clear hP hD hS hl
            subst cb_195
            have hP := hPq_196; have hD := hDq_196; have hS := hSq_196; have hl := hlq_196; clear hPq_196 hDq_196 hSq_196 hlq_196
            refine lv_aload_n hx hb dX7_stuck_152 rfl (lv_at hl 3 rfl) ?_
            refine ky_Vv (As := []) (rest := []) ⟨hx, hb, hml, hown, hts⟩ ⟨hK, hN⟩ hZ hP hD hS hA [5, 6, 4] [0, 1, 2, 3] (wc := [(Mm, .inr (7, [.int 0, .ref Mt, .int (nI tp), .int zma, .int zwr, .ref Mrr, .ref Mrh, .ref Mrc, .int zrh, .int zrc, .ref Mn, .ref Mf, .ref Mr, .ref Mh, .int (nI hp), .int (nI cc), .ref Ma, .ref Mas, .ref Msn, .ref Mac, .ref Mat])), (Mn, .inl (g 0, 1767, .inl F_94)), (Mas, .inl (g 0, 1767, .inl fasx_5))]) (wr := [(Mh, .inl (g 0, 9, .inl fmh)), (Mr, .inl (g 0, 3, .inl fmr)), (Ma, .inl (g 0, 3, .inl F_95)), (Msn, .inl (g 0, 3, .inl F_93))]) rfl rfl rfl rfl (by decide) (k_X7_bringBack l D g H.size Mm 0 Mt tp zma zwr Mrr Mrh Mrc zrh zrc Mn Mf Mr Mh hp cc Ma Mas Msn Mac Mat F_94 fasx_5 tb ub (hf_6)) (cwV 0 hts gX7_stuck_X7_bringBack rfl rfl rfl (by decide +kernel) ⟨(Nat.le_of_ble_eq_true rfl), (Nat.le_of_ble_eq_true rfl)⟩) 5 7 rfl rfl rfl rfl hl.1 rfl (Nat.le_of_ble_eq_true rfl) dX7_stuck_153 ⟨(Nat.le_of_ble_eq_true rfl), (Nat.le_of_ble_eq_true rfl)⟩ (fun u H locs hw hP2 hD2 hS2 => ?_)
            clear hP hD hS
            obtain ⟨fnox_198, rfl, hf_199⟩ := hw
            have hPD : PD D A [(Mh, .inl (g 0, 9, .inl fmh)), (Mr, .inl (g 0, 3, .inl fmr)), (Ma, .inl (g 0, 3, .inl F_95)), (Msn, .inl (g 0, 3, .inl F_93)), (Mm, .inr (7, [.int 0, .ref Mt, .int (nI tp), .int zma, .int zwr, .ref Mrr, .ref Mrh, .ref Mrc, .int zrh, .int zrc, .ref Mn, .ref Mf, .ref Mr, .ref Mh, .int (nI hp), .int (nI cc), .ref Ma, .ref Mas, .ref Msn, .ref Mac, .ref Mat])), (Mn, .inl (g 0, 1767, .inl fnox_198)), (Mas, .inl (g 0, 1767, .inl fasx_5))] H := ⟨hP2, hD2⟩
            have hS := hS2; clear hP2 hD2 hS2; have hP := hPD.1; have hD := hPD.2; clear hPD
            refine W.widen (k := 0) (n := 0) (Nat.le_of_ble_eq_true rfl) (Nat.le_of_ble_eq_true rfl) ?_
            refine lv_iload_n hx hb dX7_stuck_156 rfl (lv_at hl 1 rfl) ?_
            have hPD9 : PD D A [(Mm, .inr (7, [.int 0, .ref Mt, .int (nI tp), .int zma, .int zwr, .ref Mrr, .ref Mrh, .ref Mrc, .int zrh, .int zrc, .ref Mn, .ref Mf, .ref Mr, .ref Mh, .int (nI hp), .int (nI cc), .ref Ma, .ref Mas, .ref Msn, .ref Mac, .ref Mat])), (Mn, .inl (g 0, 1767, .inl fnox_198)), (Mh, .inl (g 0, 9, .inl fmh)), (Mr, .inl (g 0, 3, .inl fmr)), (Ma, .inl (g 0, 3, .inl F_95)), (Mas, .inl (g 0, 1767, .inl fasx_5)), (Msn, .inl (g 0, 3, .inl F_93))] H := ⟨hP.sub [4, 5, 0, 1, 2, 6, 3] rfl, hD.sub [4, 5, 0, 1, 2, 6, 3] (by decide) rfl⟩
            have hP9 := hPD9.1; have hD9 := hPD9.2
            subst hQ
            refine W.widen (k := 0) (n := 0) (Nat.le_of_ble_eq_true rfl) (Nat.le_of_ble_eq_true rfl) ?_
            exact W.zret (v := 0) (ty := .boolean) hx hb hr (rfl) (fun tS htS _ => ⟨⟨_, _, rfl, ⟨0, fnox_198, F_95, fasx_5, F_93, rfl, (hf_199)⟩, by rw [htS]; exact hP9, hD9⟩, hS.F htS⟩) hS.2.2 dX7_stuck_157
          · skip
            refine lv_aload_n hx hb dX7_stuck_46 rfl (lv_at hl 3 rfl) ?_
            refine va_get (D := D) (ci := 7) (v := .ref Msn) (C := RX7) (T := TX7) (N := 21) hx hb hts iX7 hown hK hP 5 rfl rfl 18 (by decide) f40 (fun _ h9 => h9) rfl dX7_stuck_47 ?_
            refine lv_astore (lv' := [(4, .ref Msn), (3, .int (nI i_91)), (2, .int i_92), (1, .int r_7), (0, .ref Mm)]) hx hb dX7_stuck_50 hl (by decide) rfl (fun ls hl => ?_)
            refine lv_iconst (v := 0) hx hb dX7_stuck_52 (by decide) ?_
            refine lv_istore (lv' := [(5, .int 0), (4, .ref Msn), (3, .int (nI i_91)), (2, .int i_92), (1, .int r_7), (0, .ref Mm)]) hx hb dX7_stuck_53 hl (by decide) rfl (fun ls hl => ?_)
            have loop_245 : ∀ (Nloop_245 : Nat) (i_202 : Nat) (F_203 : Nat → Int32) (hbi_202 : i_202 ≤ hp) (hmloop_245 : hp - i_202 < Nloop_245) (H : Heap) (locs : List Loc) (ls : Array Slot), va_P D vwCl [(Mh, .inl (g 0, 9, .inl fmh)), (Mr, .inl (g 0, 3, .inl fmr)), (Ma, .inl (g 0, 3, .inl F_95)), (Msn, .inl (g 0, 3, .inl F_203)), (Mas, .inl (g 0, 1767, .inl fasx_5)), (Mm, .inr (7, [.int 0, .ref Mt, .int (nI tp), .int zma, .int zwr, .ref Mrr, .ref Mrh, .ref Mrc, .int zrh, .int zrc, .ref Mn, .ref Mf, .ref Mr, .ref Mh, .int (nI hp), .int (nI cc), .ref Ma, .ref Mas, .ref Msn, .ref Mac, .ref Mat])), (Mn, .inl (g 0, 1767, .inl F_94))] H → va_D A [(Mh, .inl (g 0, 9, .inl fmh)), (Mr, .inl (g 0, 3, .inl fmr)), (Ma, .inl (g 0, 3, .inl F_95)), (Msn, .inl (g 0, 3, .inl F_203)), (Mas, .inl (g 0, 1767, .inl fasx_5)), (Mm, .inr (7, [.int 0, .ref Mt, .int (nI tp), .int zma, .int zwr, .ref Mrr, .ref Mrh, .ref Mrc, .int zrh, .int zrc, .ref Mn, .ref Mf, .ref Mr, .ref Mh, .int (nI hp), .int (nI cc), .ref Ma, .ref Mas, .ref Msn, .ref Mac, .ref Mat])), (Mn, .inl (g 0, 1767, .inl F_94))] → va_S A s.heap H locs → lv_has ls 6 [(5, .int (nI i_202)), (4, .ref Msn), (3, .int (nI i_91)), (2, .int i_92), (1, .int r_7), (0, .ref Mm)] → W p l e (headSpec wsX7_stuck ({ frames := 6, cells := 0, slots := 0, locals := 133 })).room s m ([.ref Mm] : List Value).toArray below meth c H locs 0 0 Q (F0 m 55 ls []) := by
              clear hP hD hS hl
              intro Nloop_245
              induction Nloop_245 with
              | zero => intro i_202 F_203 hbi_202 hm9; exact absurd hm9 (Nat.not_lt_zero _)
              | succ Nloop_245 loop_245_ih =>
                intro i_202 F_203 hbi_202 hmloop_245 H locs ls hP hD hS hl
                refine lv_iload hx hb dX7_stuck_55 (lv_at hl 0 rfl) ?_
                refine lv_aload_n hx hb dX7_stuck_57 rfl (lv_at hl 5 rfl) ?_
                refine va_get (D := D) (ci := 7) (v := .int (nI hp)) (C := RX7) (T := TX7) (N := 21) hx hb hts iX7 hown hK hP 5 rfl rfl 14 (by decide) f124 (fun _ h9 => h9) rfl dX7_stuck_58 ?_
                refine lv_icmp_ge (tgt := 81) hx hb dX7_stuck_61 (by decide) (fun cb_246 => ?_) (fun cb_246 => ?_)
                · skip
                  have cn_247 : hp ≤ i_202 := (nI_leI (show hp < 2 ^ 31 by omega) (show i_202 < 2 ^ 31 by omega)).mp cb_246
                  refine lv_aload_n hx hb dX7_stuck_81 rfl (lv_at hl 5 rfl) ?_
                  refine ky_Vv (As := []) (rest := []) ⟨hx, hb, hml, hown, hts⟩ ⟨hK, hN⟩ hZ hP hD hS hA [5, 6, 0, 1, 2] [3, 4] (wc := [(Mm, .inr (7, [.int 0, .ref Mt, .int (nI tp), .int zma, .int zwr, .ref Mrr, .ref Mrh, .ref Mrc, .int zrh, .int zrc, .ref Mn, .ref Mf, .ref Mr, .ref Mh, .int (nI hp), .int (nI cc), .ref Ma, .ref Mas, .ref Msn, .ref Mac, .ref Mat])), (Mn, .inl (g 0, 1767, .inl F_94)), (Mh, .inl (g 0, 9, .inl fmh)), (Mr, .inl (g 0, 3, .inl fmr)), (Ma, .inl (g 0, 3, .inl F_95))]) (wr := [(Msn, .inl (g 0, 3, .inl F_203)), (Mas, .inl (g 0, 1767, .inl fasx_5))]) rfl rfl rfl rfl (by decide) (k_X7_ticks l D g H.size Mm 0 Mt tp zma zwr Mrr Mrh Mrc zrh zrc Mn Mf Mr Mh hp cc Ma Mas Msn Mac Mat F_94 fmh fmr F_95 (tb + i_91) (ub + 6 * i_91) (show tb + i_91 < 2 ^ 28 by omega) (show ub + 6 * i_91 < 2 ^ 28 by omega) (hF_94) (show 1 ≤ hp by omega) (show hp ≤ 3 by omega) (show 1 ≤ cc by omega) (show cc ≤ 3 by omega) (h7)) (cwV 0 hts gX7_stuck_X7_ticks rfl rfl rfl (by decide +kernel) ⟨(Nat.le_of_ble_eq_true rfl), (Nat.le_of_ble_eq_true rfl)⟩) 5 7 rfl rfl rfl rfl hl.1 rfl (Nat.le_of_ble_eq_true rfl) dX7_stuck_82 ⟨(Nat.le_of_ble_eq_true rfl), (Nat.le_of_ble_eq_true rfl)⟩ (fun u H locs hw hP2 hD2 hS2 => ?_)
                  clear hP hD hS
                  obtain ⟨fnox_249, fmax_250, rfl, hf_251⟩ := hw
                  have hPD : PD D A [(Msn, .inl (g 0, 3, .inl F_203)), (Mas, .inl (g 0, 1767, .inl fasx_5)), (Mm, .inr (7, [.int 0, .ref Mt, .int (nI tp), .int zma, .int zwr, .ref Mrr, .ref Mrh, .ref Mrc, .int zrh, .int zrc, .ref Mn, .ref Mf, .ref Mr, .ref Mh, .int (nI hp), .int (nI cc), .ref Ma, .ref Mas, .ref Msn, .ref Mac, .ref Mat])), (Mn, .inl (g 0, 1767, .inl fnox_249)), (Mh, .inl (g 0, 9, .inl fmh)), (Mr, .inl (g 0, 3, .inl fmr)), (Ma, .inl (g 0, 3, .inl fmax_250))] H := ⟨hP2, hD2⟩
                  have hS := hS2; clear hP2 hD2 hS2; have hP := hPD.1; have hD := hPD.2; clear hPD
                  refine W.widen (k := 0) (n := 0) (Nat.le_of_ble_eq_true rfl) (Nat.le_of_ble_eq_true rfl) ?_
                  refine lv_iconst (v := 0) hx hb dX7_stuck_85 (by decide) ?_
                  refine lv_istore (lv' := [(5, .int 0), (4, .ref Msn), (3, .int (nI i_91)), (2, .int i_92), (1, .int r_7), (0, .ref Mm)]) hx hb dX7_stuck_86 hl (by decide) rfl (fun ls hl => ?_)
                  have loop_271 : ∀ (Nloop_271 : Nat) (i_257 : Nat) (i_258 : Int32) (hi_258 : zb i_258) (hbi_257 : i_257 ≤ hp) (hmloop_271 : hp - i_257 < Nloop_271) (H : Heap) (locs : List Loc) (ls : Array Slot), va_P D vwCl [(Msn, .inl (g 0, 3, .inl F_203)), (Mas, .inl (g 0, 1767, .inl fasx_5)), (Mm, .inr (7, [.int 0, .ref Mt, .int (nI tp), .int zma, .int zwr, .ref Mrr, .ref Mrh, .ref Mrc, .int zrh, .int zrc, .ref Mn, .ref Mf, .ref Mr, .ref Mh, .int (nI hp), .int (nI cc), .ref Ma, .ref Mas, .ref Msn, .ref Mac, .ref Mat])), (Mn, .inl (g 0, 1767, .inl fnox_249)), (Mh, .inl (g 0, 9, .inl fmh)), (Mr, .inl (g 0, 3, .inl fmr)), (Ma, .inl (g 0, 3, .inl fmax_250))] H → va_D A [(Msn, .inl (g 0, 3, .inl F_203)), (Mas, .inl (g 0, 1767, .inl fasx_5)), (Mm, .inr (7, [.int 0, .ref Mt, .int (nI tp), .int zma, .int zwr, .ref Mrr, .ref Mrh, .ref Mrc, .int zrh, .int zrc, .ref Mn, .ref Mf, .ref Mr, .ref Mh, .int (nI hp), .int (nI cc), .ref Ma, .ref Mas, .ref Msn, .ref Mac, .ref Mat])), (Mn, .inl (g 0, 1767, .inl fnox_249)), (Mh, .inl (g 0, 9, .inl fmh)), (Mr, .inl (g 0, 3, .inl fmr)), (Ma, .inl (g 0, 3, .inl fmax_250))] → va_S A s.heap H locs → lv_has ls 6 [(5, .int (nI i_257)), (4, .ref Msn), (3, .int (nI i_91)), (2, .int i_258), (1, .int r_7), (0, .ref Mm)] → W p l e (headSpec wsX7_stuck ({ frames := 6, cells := 0, slots := 0, locals := 133 })).room s m ([.ref Mm] : List Value).toArray below meth c H locs 0 0 Q (F0 m 88 ls []) := by
                    clear hP hD hS hl
                    intro Nloop_271
                    induction Nloop_271 with
                    | zero => intro i_257 i_258 hi_258 hbi_257 hm9; exact absurd hm9 (Nat.not_lt_zero _)
                    | succ Nloop_271 loop_271_ih =>
                      intro i_257 i_258 hi_258 hbi_257 hmloop_271 H locs ls hP hD hS hl
                      refine lv_iload hx hb dX7_stuck_88 (lv_at hl 0 rfl) ?_
                      refine lv_aload_n hx hb dX7_stuck_90 rfl (lv_at hl 5 rfl) ?_
                      refine va_get (D := D) (ci := 7) (v := .int (nI hp)) (C := RX7) (T := TX7) (N := 21) hx hb hts iX7 hown hK hP 2 rfl rfl 14 (by decide) f124 (fun _ h9 => h9) rfl dX7_stuck_91 ?_
                      refine lv_icmp_ge (tgt := 127) hx hb dX7_stuck_94 (by decide) (fun cb_272 => ?_) (fun cb_272 => ?_)
                      · skip
                        have cn_273 : hp ≤ i_257 := (nI_leI (show hp < 2 ^ 31 by omega) (show i_257 < 2 ^ 31 by omega)).mp cb_272
                        refine lv_iload_n hx hb dX7_stuck_127 rfl (lv_at hl 3 rfl) ?_
                        refine lv_if_eq (tgt := 144) hx hb dX7_stuck_128 (by decide) (fun cb_274 => ?_) (fun cb_274 => ?_)
                        · skip
                          have hPq_275 := hP; have hDq_275 := hD; have hSq_275 := hS; have hlq_275 := hl; clear hP hD hS hl
                          subst cb_274
                          have hP := hPq_275; have hD := hDq_275; have hS := hSq_275; have hl := hlq_275; clear hPq_275 hDq_275 hSq_275 hlq_275
                          refine lv_iconst (v := 0) hx hb dX7_stuck_144 (by decide) ?_
                          refine lv_istore_n (lv' := [(2, .int 0), (5, .int (nI i_257)), (4, .ref Msn), (3, .int (nI i_91)), (1, .int r_7), (0, .ref Mm)]) hx hb dX7_stuck_145 rfl hl (by decide) rfl (fun ls hl => ?_)
                          refine lv_iinc (v := (nI (i_91 + 1))) (lv' := [(3, .int (nI (i_91 + 1))), (2, .int 0), (5, .int (nI i_257)), (4, .ref Msn), (1, .int r_7), (0, .ref Mm)]) hx hb dX7_stuck_146 hl (k := 3) rfl (nI_1 (i_91)) (by decide) rfl (fun ls hl => ?_)
                          refine lv_goto (tgt := 35) hx hb dX7_stuck_149 (by decide) ?_
                          exact loop_188_ih (i_91 + 1) 0 F_203 fnox_249 fmax_250 (hi_258) (mOK_le hf_251 (show tb + i_91 + 1 = tb + (i_91 + 1) by omega) (show ub + 6 * i_91 + 6 ≤ ub + 6 * (i_91 + 1) by omega)) (show (i_91 + 1) ≤ 200 by omega) (show 200 - (i_91 + 1) < Nloop_188 by omega) _ _ _ (hP.sub [4, 5, 6, 0, 1, 2, 3] rfl) (hD.sub [4, 5, 6, 0, 1, 2, 3] (by decide) rfl) hS (lv_sub hl [0, 1, 4, 5] rfl)
                        · skip
                          refine lv_aload_n hx hb dX7_stuck_131 rfl (lv_at hl 5 rfl) ?_
                          refine lv_iconst (v := (-1)) hx hb dX7_stuck_132 (by decide) ?_
                          refine ky_Vi (As := [.int (-1)]) (rest := []) ⟨hx, hb, hml, hown, hts⟩ ⟨hK, hN⟩ hZ hP hD hS hA [2, 3] [0, 1, 4, 5, 6] (wc := [(Mm, .inr (7, [.int 0, .ref Mt, .int (nI tp), .int zma, .int zwr, .ref Mrr, .ref Mrh, .ref Mrc, .int zrh, .int zrc, .ref Mn, .ref Mf, .ref Mr, .ref Mh, .int (nI hp), .int (nI cc), .ref Ma, .ref Mas, .ref Msn, .ref Mac, .ref Mat])), (Mn, .inl (g 0, 1767, .inl fnox_249))]) (wr := [(Msn, .inl (g 0, 3, .inl F_203)), (Mas, .inl (g 0, 1767, .inl fasx_5)), (Mh, .inl (g 0, 9, .inl fmh)), (Mr, .inl (g 0, 3, .inl fmr)), (Ma, .inl (g 0, 3, .inl fmax_250))]) rfl rfl rfl rfl (by decide) (k_X7_deliveredOf l D g H.size Mm (-1) 0 Mt tp zma zwr Mrr Mrh Mrc zrh zrc Mn Mf Mr Mh hp cc Ma Mas Msn Mac Mat fnox_249 (show 1 ≤ cc by omega) (show cc ≤ 3 by omega)) (cwV 1 hts gX7_stuck_X7_deliveredOf rfl rfl rfl (by decide +kernel) ⟨(Nat.le_of_ble_eq_true rfl), (Nat.le_of_ble_eq_true rfl)⟩) 2 7 rfl rfl rfl rfl hl.1 rfl (Nat.le_of_ble_eq_true rfl) dX7_stuck_133 ⟨(Nat.le_of_ble_eq_true rfl), (Nat.le_of_ble_eq_true rfl)⟩ (fun r_276 u H locs hw hP2 hD2 hS2 => ?_)
                          clear hP hD hS
                          obtain rfl := hw
                          have hPD : PD D A [(Msn, .inl (g 0, 3, .inl F_203)), (Mas, .inl (g 0, 1767, .inl fasx_5)), (Mh, .inl (g 0, 9, .inl fmh)), (Mr, .inl (g 0, 3, .inl fmr)), (Ma, .inl (g 0, 3, .inl fmax_250)), (Mm, .inr (7, [.int 0, .ref Mt, .int (nI tp), .int zma, .int zwr, .ref Mrr, .ref Mrh, .ref Mrc, .int zrh, .int zrc, .ref Mn, .ref Mf, .ref Mr, .ref Mh, .int (nI hp), .int (nI cc), .ref Ma, .ref Mas, .ref Msn, .ref Mac, .ref Mat])), (Mn, .inl (g 0, 1767, .inl fnox_249))] H := ⟨hP2, hD2⟩
                          have hS := hS2; clear hP2 hD2 hS2; have hP := hPD.1; have hD := hPD.2; clear hPD
                          refine W.widen (k := 0) (n := 0) (Nat.le_of_ble_eq_true rfl) (Nat.le_of_ble_eq_true rfl) ?_
                          refine lv_iload_n hx hb dX7_stuck_136 rfl (lv_at hl 4 rfl) ?_
                          refine lv_icmp_ne (tgt := 144) hx hb dX7_stuck_137 (by decide) (fun cb_277 => ?_) (fun cb_277 => ?_)
                          · skip
                            refine lv_iconst (v := 0) hx hb dX7_stuck_144 (by decide) ?_
                            refine lv_istore_n (lv' := [(2, .int 0), (5, .int (nI i_257)), (4, .ref Msn), (3, .int (nI i_91)), (1, .int r_7), (0, .ref Mm)]) hx hb dX7_stuck_145 rfl hl (by decide) rfl (fun ls hl => ?_)
                            refine lv_iinc (v := (nI (i_91 + 1))) (lv' := [(3, .int (nI (i_91 + 1))), (2, .int 0), (5, .int (nI i_257)), (4, .ref Msn), (1, .int r_7), (0, .ref Mm)]) hx hb dX7_stuck_146 hl (k := 3) rfl (nI_1 (i_91)) (by decide) rfl (fun ls hl => ?_)
                            refine lv_goto (tgt := 35) hx hb dX7_stuck_149 (by decide) ?_
                            exact loop_188_ih (i_91 + 1) 0 F_203 fnox_249 fmax_250 (zb_0) (mOK_le hf_251 (show tb + i_91 + 1 = tb + (i_91 + 1) by omega) (show ub + 6 * i_91 + 6 ≤ ub + 6 * (i_91 + 1) by omega)) (show (i_91 + 1) ≤ 200 by omega) (show 200 - (i_91 + 1) < Nloop_188 by omega) _ _ _ (hP.sub [2, 3, 4, 0, 1, 5, 6] rfl) (hD.sub [2, 3, 4, 0, 1, 5, 6] (by decide) rfl) hS (lv_sub hl [0, 1, 4, 5] rfl)
                          · skip
                            refine lv_iconst (v := 1) hx hb dX7_stuck_140 (by decide) ?_
                            refine lv_goto (tgt := 145) hx hb dX7_stuck_141 (by decide) ?_
                            refine lv_istore_n (lv' := [(2, .int 1), (5, .int (nI i_257)), (4, .ref Msn), (3, .int (nI i_91)), (1, .int r_7), (0, .ref Mm)]) hx hb dX7_stuck_145 rfl hl (by decide) rfl (fun ls hl => ?_)
                            refine lv_iinc (v := (nI (i_91 + 1))) (lv' := [(3, .int (nI (i_91 + 1))), (2, .int 1), (5, .int (nI i_257)), (4, .ref Msn), (1, .int r_7), (0, .ref Mm)]) hx hb dX7_stuck_146 hl (k := 3) rfl (nI_1 (i_91)) (by decide) rfl (fun ls hl => ?_)
                            refine lv_goto (tgt := 35) hx hb dX7_stuck_149 (by decide) ?_
                            exact loop_188_ih (i_91 + 1) 1 F_203 fnox_249 fmax_250 (zb_1) (mOK_le hf_251 (show tb + i_91 + 1 = tb + (i_91 + 1) by omega) (show ub + 6 * i_91 + 6 ≤ ub + 6 * (i_91 + 1) by omega)) (show (i_91 + 1) ≤ 200 by omega) (show 200 - (i_91 + 1) < Nloop_188 by omega) _ _ _ (hP.sub [2, 3, 4, 0, 1, 5, 6] rfl) (hD.sub [2, 3, 4, 0, 1, 5, 6] (by decide) rfl) hS (lv_sub hl [0, 1, 4, 5] rfl)
                      · skip
                        have cn_278 : i_257 < hp := Nat.lt_of_not_le (fun q9 => cb_272 ((nI_leI (show hp < 2 ^ 31 by omega) (show i_257 < 2 ^ 31 by omega)).mpr q9))
                        refine lv_iload_n hx hb dX7_stuck_97 rfl (lv_at hl 3 rfl) ?_
                        refine lv_if_eq (tgt := 119) hx hb dX7_stuck_98 (by decide) (fun cb_279 => ?_) (fun cb_279 => ?_)
                        · skip
                          have hPq_280 := hP; have hDq_280 := hD; have hSq_280 := hS; have hlq_280 := hl; clear hP hD hS hl
                          subst cb_279
                          have hP := hPq_280; have hD := hDq_280; have hS := hSq_280; have hl := hlq_280; clear hPq_280 hDq_280 hSq_280 hlq_280
                          refine lv_iconst (v := 0) hx hb dX7_stuck_119 (by decide) ?_
                          refine lv_istore_n (lv' := [(2, .int 0), (5, .int (nI i_257)), (4, .ref Msn), (3, .int (nI i_91)), (1, .int r_7), (0, .ref Mm)]) hx hb dX7_stuck_120 rfl hl (by decide) rfl (fun ls hl => ?_)
                          refine lv_iinc (v := (nI (i_257 + 1))) (lv' := [(5, .int (nI (i_257 + 1))), (2, .int 0), (4, .ref Msn), (3, .int (nI i_91)), (1, .int r_7), (0, .ref Mm)]) hx hb dX7_stuck_121 hl (k := 1) rfl (nI_1 (i_257)) (by decide) rfl (fun ls hl => ?_)
                          refine lv_goto (tgt := 88) hx hb dX7_stuck_124 (by decide) ?_
                          exact loop_271_ih (i_257 + 1) 0 (hi_258) (show (i_257 + 1) ≤ hp by omega) (show hp - (i_257 + 1) < Nloop_271 by omega) _ _ _ hP hD hS (lv_sub hl [0, 2, 3, 1, 4, 5] rfl)
                        · skip
                          refine lv_aload_n hx hb dX7_stuck_101 rfl (lv_at hl 5 rfl) ?_
                          refine lv_iload hx hb dX7_stuck_102 (lv_at hl 0 rfl) ?_
                          refine ky_Vi (As := [.int (nI i_257)]) (rest := []) ⟨hx, hb, hml, hown, hts⟩ ⟨hK, hN⟩ hZ hP hD hS hA [2, 3] [0, 1, 4, 5, 6] (wc := [(Mm, .inr (7, [.int 0, .ref Mt, .int (nI tp), .int zma, .int zwr, .ref Mrr, .ref Mrh, .ref Mrc, .int zrh, .int zrc, .ref Mn, .ref Mf, .ref Mr, .ref Mh, .int (nI hp), .int (nI cc), .ref Ma, .ref Mas, .ref Msn, .ref Mac, .ref Mat])), (Mn, .inl (g 0, 1767, .inl fnox_249))]) (wr := [(Msn, .inl (g 0, 3, .inl F_203)), (Mas, .inl (g 0, 1767, .inl fasx_5)), (Mh, .inl (g 0, 9, .inl fmh)), (Mr, .inl (g 0, 3, .inl fmr)), (Ma, .inl (g 0, 3, .inl fmax_250))]) rfl rfl rfl rfl (by decide) (k_X7_sentOver l D g H.size Mm i_257 0 Mt tp zma zwr Mrr Mrh Mrc zrh zrc Mn Mf Mr Mh hp cc Ma Mas Msn Mac Mat fnox_249 (show i_257 < 3 by omega) (show 1 ≤ cc by omega) (show cc ≤ 3 by omega)) (cwV 1 hts gX7_stuck_X7_sentOver rfl rfl rfl (by decide +kernel) ⟨(Nat.le_of_ble_eq_true rfl), (Nat.le_of_ble_eq_true rfl)⟩) 2 7 rfl rfl rfl rfl hl.1 rfl (Nat.le_of_ble_eq_true rfl) dX7_stuck_104 ⟨(Nat.le_of_ble_eq_true rfl), (Nat.le_of_ble_eq_true rfl)⟩ (fun r_281 u H locs hw hP2 hD2 hS2 => ?_)
                          clear hP hD hS
                          obtain rfl := hw
                          have hPD : PD D A [(Msn, .inl (g 0, 3, .inl F_203)), (Mas, .inl (g 0, 1767, .inl fasx_5)), (Mh, .inl (g 0, 9, .inl fmh)), (Mr, .inl (g 0, 3, .inl fmr)), (Ma, .inl (g 0, 3, .inl fmax_250)), (Mm, .inr (7, [.int 0, .ref Mt, .int (nI tp), .int zma, .int zwr, .ref Mrr, .ref Mrh, .ref Mrc, .int zrh, .int zrc, .ref Mn, .ref Mf, .ref Mr, .ref Mh, .int (nI hp), .int (nI cc), .ref Ma, .ref Mas, .ref Msn, .ref Mac, .ref Mat])), (Mn, .inl (g 0, 1767, .inl fnox_249))] H := ⟨hP2, hD2⟩
                          have hS := hS2; clear hP2 hD2 hS2; have hP := hPD.1; have hD := hPD.2; clear hPD
                          refine W.widen (k := 0) (n := 0) (Nat.le_of_ble_eq_true rfl) (Nat.le_of_ble_eq_true rfl) ?_
                          refine lv_aload hx hb dX7_stuck_107 (lv_at hl 1 rfl) ?_
                          refine lv_iload hx hb dX7_stuck_109 (lv_at hl 0 rfl) ?_
                          refine va_iald hx hb hK hP 0 0 rfl rfl (vp_in_nI (show i_257 < 3 by omega) (by decide)) dX7_stuck_111 ?_
                          refine lv_eqi (y := (F_203 (i_257))) (congrArg F_203 (nI_clamp (show i_257 < 2 ^ 31 by omega))) ?_
                          refine lv_topi (fun y_282 _ => ?_)
                          refine lv_icmp_ne (tgt := 119) hx hb dX7_stuck_112 (by decide) (fun cb_283 => ?_) (fun cb_283 => ?_)
                          · skip
                            refine lv_iconst (v := 0) hx hb dX7_stuck_119 (by decide) ?_
                            refine lv_istore_n (lv' := [(2, .int 0), (5, .int (nI i_257)), (4, .ref Msn), (3, .int (nI i_91)), (1, .int r_7), (0, .ref Mm)]) hx hb dX7_stuck_120 rfl hl (by decide) rfl (fun ls hl => ?_)
                            refine lv_iinc (v := (nI (i_257 + 1))) (lv' := [(5, .int (nI (i_257 + 1))), (2, .int 0), (4, .ref Msn), (3, .int (nI i_91)), (1, .int r_7), (0, .ref Mm)]) hx hb dX7_stuck_121 hl (k := 1) rfl (nI_1 (i_257)) (by decide) rfl (fun ls hl => ?_)
                            refine lv_goto (tgt := 88) hx hb dX7_stuck_124 (by decide) ?_
                            exact loop_271_ih (i_257 + 1) 0 (zb_0) (show (i_257 + 1) ≤ hp by omega) (show hp - (i_257 + 1) < Nloop_271 by omega) _ _ _ (hP.sub [0, 1, 5, 6, 2, 3, 4] rfl) (hD.sub [0, 1, 5, 6, 2, 3, 4] (by decide) rfl) hS (lv_sub hl [0, 2, 3, 1, 4, 5] rfl)
                          · skip
                            refine lv_iconst (v := 1) hx hb dX7_stuck_115 (by decide) ?_
                            refine lv_goto (tgt := 120) hx hb dX7_stuck_116 (by decide) ?_
                            refine lv_istore_n (lv' := [(2, .int 1), (5, .int (nI i_257)), (4, .ref Msn), (3, .int (nI i_91)), (1, .int r_7), (0, .ref Mm)]) hx hb dX7_stuck_120 rfl hl (by decide) rfl (fun ls hl => ?_)
                            refine lv_iinc (v := (nI (i_257 + 1))) (lv' := [(5, .int (nI (i_257 + 1))), (2, .int 1), (4, .ref Msn), (3, .int (nI i_91)), (1, .int r_7), (0, .ref Mm)]) hx hb dX7_stuck_121 hl (k := 1) rfl (nI_1 (i_257)) (by decide) rfl (fun ls hl => ?_)
                            refine lv_goto (tgt := 88) hx hb dX7_stuck_124 (by decide) ?_
                            exact loop_271_ih (i_257 + 1) 1 (zb_1) (show (i_257 + 1) ≤ hp by omega) (show hp - (i_257 + 1) < Nloop_271 by omega) _ _ _ (hP.sub [0, 1, 5, 6, 2, 3, 4] rfl) (hD.sub [0, 1, 5, 6, 2, 3, 4] (by decide) rfl) hS (lv_sub hl [0, 2, 3, 1, 4, 5] rfl)
                  exact loop_271 _ 0 i_92 (hi_92) (show 0 ≤ hp by omega) (Nat.lt_succ_self _) _ _ _ hP hD hS hl
                · skip
                  have cn_284 : i_202 < hp := Nat.lt_of_not_le (fun q9 => cb_246 ((nI_leI (show hp < 2 ^ 31 by omega) (show i_202 < 2 ^ 31 by omega)).mpr q9))
                  refine lv_aload hx hb dX7_stuck_64 (lv_at hl 1 rfl) ?_
                  refine lv_iload hx hb dX7_stuck_66 (lv_at hl 0 rfl) ?_
                  refine lv_aload_n hx hb dX7_stuck_68 rfl (lv_at hl 5 rfl) ?_
                  refine lv_iload hx hb dX7_stuck_69 (lv_at hl 0 rfl) ?_
                  refine ky_Vi (As := [.int (nI i_202)]) (rest := [.int (nI i_202), .ref Msn]) ⟨hx, hb, hml, hown, hts⟩ ⟨hK, hN⟩ hZ hP hD hS hA [5, 6] [0, 1, 2, 3, 4] (wc := [(Mm, .inr (7, [.int 0, .ref Mt, .int (nI tp), .int zma, .int zwr, .ref Mrr, .ref Mrh, .ref Mrc, .int zrh, .int zrc, .ref Mn, .ref Mf, .ref Mr, .ref Mh, .int (nI hp), .int (nI cc), .ref Ma, .ref Mas, .ref Msn, .ref Mac, .ref Mat])), (Mn, .inl (g 0, 1767, .inl F_94))]) (wr := [(Mh, .inl (g 0, 9, .inl fmh)), (Mr, .inl (g 0, 3, .inl fmr)), (Ma, .inl (g 0, 3, .inl F_95)), (Msn, .inl (g 0, 3, .inl F_203)), (Mas, .inl (g 0, 1767, .inl fasx_5))]) rfl rfl rfl rfl (by decide) (k_X7_sentOver l D g H.size Mm i_202 0 Mt tp zma zwr Mrr Mrh Mrc zrh zrc Mn Mf Mr Mh hp cc Ma Mas Msn Mac Mat F_94 (show i_202 < 3 by omega) (show 1 ≤ cc by omega) (show cc ≤ 3 by omega)) (cwV 1 hts gX7_stuck_X7_sentOver rfl rfl rfl (by decide +kernel) ⟨(Nat.le_of_ble_eq_true rfl), (Nat.le_of_ble_eq_true rfl)⟩) 5 7 rfl rfl rfl rfl hl.1 rfl (Nat.le_of_ble_eq_true rfl) dX7_stuck_71 ⟨(Nat.le_of_ble_eq_true rfl), (Nat.le_of_ble_eq_true rfl)⟩ (fun r_285 u H locs hw hP2 hD2 hS2 => ?_)
                  clear hP hD hS
                  obtain rfl := hw
                  have hPD : PD D A [(Mh, .inl (g 0, 9, .inl fmh)), (Mr, .inl (g 0, 3, .inl fmr)), (Ma, .inl (g 0, 3, .inl F_95)), (Msn, .inl (g 0, 3, .inl F_203)), (Mas, .inl (g 0, 1767, .inl fasx_5)), (Mm, .inr (7, [.int 0, .ref Mt, .int (nI tp), .int zma, .int zwr, .ref Mrr, .ref Mrh, .ref Mrc, .int zrh, .int zrc, .ref Mn, .ref Mf, .ref Mr, .ref Mh, .int (nI hp), .int (nI cc), .ref Ma, .ref Mas, .ref Msn, .ref Mac, .ref Mat])), (Mn, .inl (g 0, 1767, .inl F_94))] H := ⟨hP2, hD2⟩
                  have hS := hS2; clear hP2 hD2 hS2; have hP := hPD.1; have hD := hPD.2; clear hPD
                  refine W.widen (k := 0) (n := 0) (Nat.le_of_ble_eq_true rfl) (Nat.le_of_ble_eq_true rfl) ?_
                  refine va_iast hx hb hK hP hD hS 3 0 rfl rfl (vp_in_nI (show i_202 < 3 by omega) (by decide)) dX7_stuck_74 (fun H locs hP2 hD2 hS2 => ?_)
                  clear hP hD hS
                  have hPD : PD D A [(Mh, .inl (g 0, 9, .inl fmh)), (Mr, .inl (g 0, 3, .inl fmr)), (Ma, .inl (g 0, 3, .inl F_95)), (Msn, .inl (g 0, 3, .inl (upd F_203 (nI i_202).toNatClampNeg r_285))), (Mas, .inl (g 0, 1767, .inl fasx_5)), (Mm, .inr (7, [.int 0, .ref Mt, .int (nI tp), .int zma, .int zwr, .ref Mrr, .ref Mrh, .ref Mrc, .int zrh, .int zrc, .ref Mn, .ref Mf, .ref Mr, .ref Mh, .int (nI hp), .int (nI cc), .ref Ma, .ref Mas, .ref Msn, .ref Mac, .ref Mat])), (Mn, .inl (g 0, 1767, .inl F_94))] H := ⟨hP2, hD2⟩
                  have hS := hS2; clear hP2 hD2 hS2; have hP := hPD.1; have hD := hPD.2; clear hPD
                  rw [nI_clamp (show i_202 < 2 ^ 31 by omega)] at hP hD
                  have hPD : PD D A [(Mh, .inl (g 0, 9, .inl fmh)), (Mr, .inl (g 0, 3, .inl fmr)), (Ma, .inl (g 0, 3, .inl F_95)), (Msn, .inl (g 0, 3, .inl (upd F_203 (i_202) r_285))), (Mas, .inl (g 0, 1767, .inl fasx_5)), (Mm, .inr (7, [.int 0, .ref Mt, .int (nI tp), .int zma, .int zwr, .ref Mrr, .ref Mrh, .ref Mrc, .int zrh, .int zrc, .ref Mn, .ref Mf, .ref Mr, .ref Mh, .int (nI hp), .int (nI cc), .ref Ma, .ref Mas, .ref Msn, .ref Mac, .ref Mat])), (Mn, .inl (g 0, 1767, .inl F_94))] H := ⟨hP, hD⟩
                  clear hP hD; have hP := hPD.1; have hD := hPD.2; clear hPD
                  generalize upd F_203 (i_202) r_285 = F_286 at hP hD
                  refine lv_iinc (v := (nI (i_202 + 1))) (lv' := [(5, .int (nI (i_202 + 1))), (4, .ref Msn), (3, .int (nI i_91)), (2, .int i_92), (1, .int r_7), (0, .ref Mm)]) hx hb dX7_stuck_75 hl (k := 0) rfl (nI_1 (i_202)) (by decide) rfl (fun ls hl => ?_)
                  refine lv_goto (tgt := 55) hx hb dX7_stuck_78 (by decide) ?_
                  exact loop_245_ih (i_202 + 1) F_286 (show (i_202 + 1) ≤ hp by omega) (show hp - (i_202 + 1) < Nloop_245 by omega) _ _ _ hP hD hS hl
            exact loop_245 _ 0 F_93 (show 0 ≤ hp by omega) (Nat.lt_succ_self _) _ _ _ hP hD hS hl
    exact loop_188 _ 0 1 fsn fno fma (zb_1) (mOK_le h2 (show tb = tb + 0 by omega) (show ub ≤ ub + 6 * 0 by omega)) (show 0 ≤ 200 by omega) (Nat.lt_succ_self _) _ _ _ hP hD hS hl
  · skip
    have hPq_287 := hP; have hDq_287 := hD; have hSq_287 := hS; have hlq_287 := hl; clear hP hD hS hl
    subst cb_3
    have hP := hPq_287; have hD := hDq_287; have hS := hSq_287; have hl := hlq_287; clear hPq_287 hDq_287 hSq_287 hlq_287
    refine lv_iconst (v := 0) hx hb dX7_stuck_19 (by decide) ?_
    have hPD9 : PD D A [(Mm, .inr (7, [.int 0, .ref Mt, .int (nI tp), .int zma, .int zwr, .ref Mrr, .ref Mrh, .ref Mrc, .int zrh, .int zrc, .ref Mn, .ref Mf, .ref Mr, .ref Mh, .int (nI hp), .int (nI cc), .ref Ma, .ref Mas, .ref Msn, .ref Mac, .ref Mat])), (Mn, .inl (g 0, 1767, .inl fno)), (Mh, .inl (g 0, 9, .inl fmh)), (Mr, .inl (g 0, 3, .inl fmr)), (Ma, .inl (g 0, 3, .inl fma)), (Mas, .inl (g 0, 1767, .inl fas)), (Msn, .inl (g 0, 3, .inl fsn))] H := ⟨hP.sub [5, 6, 0, 1, 2, 3, 4] rfl, hD.sub [5, 6, 0, 1, 2, 3, 4] (by decide) rfl⟩
    have hP9 := hPD9.1; have hD9 := hPD9.2
    subst hQ
    refine W.widen (k := 0) (n := 0) (Nat.le_of_ble_eq_true rfl) (Nat.le_of_ble_eq_true rfl) ?_
    exact W.zret (v := 0) (ty := .boolean) hx hb hr (rfl) (fun tS htS _ => ⟨⟨_, _, rfl, ⟨0, fno, fma, fas, fsn, rfl, (h2)⟩, by rw [htS]; exact hP9, hD9⟩, hS.F htS⟩) hS.2.2 dX7_stuck_20

set_option maxHeartbeats 4000000 in
set_option maxRecDepth 100000 in
theorem k_X7_deliveredByZone (l : Launch) (D : va_G) (g : Nat → ClassId) (sz : Nat) {gs : Nat → Int32} (Mm : Nat) (hix : Nat) (cx : Nat) (zk : Int32) (nx : Nat) (zth : Int32) (Mt : Nat) (tp : Nat) (zma : Int32) (zwr : Int32) (Mrr : Nat) (Mrh : Nat) (Mrc : Nat) (zrh : Int32) (zrc : Int32) (Mn : Nat) (Mf : Nat) (Mr : Nat) (Mh : Nat) (hp : Nat) (cc : Nat) (Ma : Nat) (Mas : Nat) (Msn : Nat) (Mac : Nat) (Mat : Nat) (fno : Nat → Int32) (fmh : Nat → Int32) (fmr : Nat → Int32) (fma : Nat → Int32) (fas : Nat → Int32) (tb : Nat) (ub : Nat) (h0 : tb < 2 ^ 27) (h1 : ub < 2 ^ 27) (h2 : mOK gs tb ub fno) (h3 : 1 ≤ hp) (h4 : hp ≤ 3) (h5 : 1 ≤ cc) (h6 : cc ≤ 3) (h7 : n3 fmh) (h8 : hix < 3) (h9 : cx < 3) (h10 : nx ≤ 200) : Met l yX7_deliveredByZone wsX7_deliveredByZone ({ frames := 8, cells := 0, slots := 0, locals := 179 }) (va_Pc [.ref Mm, .int (nI hix), .int (nI cx), .int zk, .int (nI nx)] (pre D g sz [(Mm, .inr (7, [.int zth, .ref Mt, .int (nI tp), .int zma, .int zwr, .ref Mrr, .ref Mrh, .ref Mrc, .int zrh, .int zrc, .ref Mn, .ref Mf, .ref Mr, .ref Mh, .int (nI hp), .int (nI cc), .ref Ma, .ref Mas, .ref Msn, .ref Mac, .ref Mat])), (Mn, .inl (g 0, 1767, .inl fno)), (Mh, .inl (g 0, 9, .inl fmh)), (Mr, .inl (g 0, 3, .inl fmr)), (Ma, .inl (g 0, 3, .inl fma)), (Mas, .inl (g 0, 1767, .inl fas))])) (va_Qi (fun (r : Int32) (u : va_W) => ∃ (fnox : Nat → Int32) (fmax : Nat → Int32) (fasx : Nat → Int32), u = [(Mm, .inr (7, [.int zth, .ref Mt, .int (nI tp), .int zma, .int zwr, .ref Mrr, .ref Mrh, .ref Mrc, .int zrh, .int zrc, .ref Mn, .ref Mf, .ref Mr, .ref Mh, .int (nI hp), .int (nI cc), .ref Ma, .ref Mas, .ref Msn, .ref Mac, .ref Mat])), (Mn, .inl (g 0, 1767, .inl fnox)), (Mh, .inl (g 0, 9, .inl fmh)), (Mr, .inl (g 0, 3, .inl fmr)), (Ma, .inl (g 0, 3, .inl fmax)), (Mas, .inl (g 0, 1767, .inl fasx))] ∧ (mOK gs tb ub fnox)) (wd D (va_A [(Mm, .inr (7, [.int zth, .ref Mt, .int (nI tp), .int zma, .int zwr, .ref Mrr, .ref Mrh, .ref Mrc, .int zrh, .int zrc, .ref Mn, .ref Mf, .ref Mr, .ref Mh, .int (nI hp), .int (nI cc), .ref Ma, .ref Mas, .ref Msn, .ref Mac, .ref Mat])), (Mn, .inl (g 0, 1767, .inl fno)), (Mh, .inl (g 0, 9, .inl fmh)), (Mr, .inl (g 0, 3, .inl fmr)), (Ma, .inl (g 0, 3, .inl fma)), (Mas, .inl (g 0, 1767, .inl fas))] sz)) (va_A [(Mm, .inr (7, [.int zth, .ref Mt, .int (nI tp), .int zma, .int zwr, .ref Mrr, .ref Mrh, .ref Mrc, .int zrh, .int zrc, .ref Mn, .ref Mf, .ref Mr, .ref Mh, .int (nI hp), .int (nI cc), .ref Ma, .ref Mas, .ref Msn, .ref Mac, .ref Mat])), (Mn, .inl (g 0, 1767, .inl fno)), (Mh, .inl (g 0, 9, .inl fmh)), (Mr, .inl (g 0, 3, .inl fmr)), (Ma, .inl (g 0, 3, .inl fma)), (Mas, .inl (g 0, 1767, .inl fas))] sz)) 0 0 (va_A [(Mm, .inr (7, [.int zth, .ref Mt, .int (nI tp), .int zma, .int zwr, .ref Mrr, .ref Mrh, .ref Mrc, .int zrh, .int zrc, .ref Mn, .ref Mf, .ref Mr, .ref Mh, .int (nI hp), .int (nI cc), .ref Ma, .ref Mas, .ref Msn, .ref Mac, .ref Mat])), (Mn, .inl (g 0, 1767, .inl fno)), (Mh, .inl (g 0, 9, .inl fmh)), (Mr, .inl (g 0, 3, .inl fmr)), (Ma, .inl (g 0, 3, .inl fma)), (Mas, .inl (g 0, 1767, .inl fas))] sz) := by
  refine Met.ofW (cc := cX7_deliveredByZone) (maxL := 5) (ret := (some .int)) (by decide) rfl ?_
  intro p e s m args below meth c s₁ B hml hv
  obtain ⟨rfl, hsz, hP, ⟨hK, hN⟩, hD0, hZ⟩ := hv
  have hx := B.exec
  have hb := B.bytes
  have hr := B.returns
  have hts := atoms_spec (ws := wsX7_deliveredByZone) B.pre
  have hown : s.vm.findClass RX7 = some m.cls := findClass_of_methodNamed B.named
  have hlocks := B.notSynchronized
  clear B
  subst hsz
  have hD := hD0.self (sz := s.heap.size)
  clear hD0
  generalize hAe : va_A [(Mm, .inr (7, [.int zth, .ref Mt, .int (nI tp), .int zma, .int zwr, .ref Mrr, .ref Mrh, .ref Mrc, .int zrh, .int zrc, .ref Mn, .ref Mf, .ref Mr, .ref Mh, .int (nI hp), .int (nI cc), .ref Ma, .ref Mas, .ref Msn, .ref Mac, .ref Mat])), (Mn, .inl (g 0, 1767, .inl fno)), (Mh, .inl (g 0, 9, .inl fmh)), (Mr, .inl (g 0, 3, .inl fmr)), (Ma, .inl (g 0, 3, .inl fma)), (Mas, .inl (g 0, 1767, .inl fas))] s.heap.size = A at hD hZ ⊢
  have hA : ∀ q : Nat, s.heap.size ≤ q → A q := fun q h => by rw [← hAe]; exact Or.inr h
  have hS : va_S A s.heap s.heap [] := va_S.rf
  have f22 := hts (.fieldLink RX7 22 "HopCreditsModel" "now" "[I") (List.mem_of_getElem? (i := 1) rfl)
  have iX7 : ∀ w ∈ u_ws RX7 TX7 21, w ∈ wsX7_deliveredByZone := fun w h => List.mem_cons_of_mem _ (List.mem_append_right _ (h))
  have hl := lv_entry ([.ref Mm, .int (nI hix), .int (nI cx), .int zk, .int (nI nx)]) (n := 5) (Nat.le_of_ble_eq_true rfl)
  rw [lg_entry_eq]
  generalize (lg_sl ([.ref Mm, .int (nI hix), .int (nI cx), .int zk, .int (nI nx)]) ++ List.replicate (5 - (lg_sl ([.ref Mm, .int (nI hix), .int (nI cx), .int zk, .int (nI nx)])).length) Slot.unset).toArray = ls at hl ⊢
  have hl : lv_has ls 5 [(0, .ref Mm), (1, .int (nI hix)), (2, .int (nI cx)), (3, .int zk), (4, .int (nI nx))] := hl
  generalize hQ : MQ below _ _ s _ _ _ = Q
  generalize hH : s.heap = H at hP ⊢
  have hS : va_S A s.heap H [] := by rw [← hH]; exact hS
  clear hH
  refine lv_aload_n hx hb dX7_deliveredByZone_0 rfl (lv_at hl 0 rfl) ?_
  refine ky_Vv (As := []) (rest := []) ⟨hx, hb, hml, hown, hts⟩ ⟨hK, hN⟩ hZ hP hD hS hA [0, 1, 5] [2, 3, 4] (wc := [(Mm, .inr (7, [.int zth, .ref Mt, .int (nI tp), .int zma, .int zwr, .ref Mrr, .ref Mrh, .ref Mrc, .int zrh, .int zrc, .ref Mn, .ref Mf, .ref Mr, .ref Mh, .int (nI hp), .int (nI cc), .ref Ma, .ref Mas, .ref Msn, .ref Mac, .ref Mat])), (Mn, .inl (g 0, 1767, .inl fno)), (Mas, .inl (g 0, 1767, .inl fas))]) (wr := [(Mh, .inl (g 0, 9, .inl fmh)), (Mr, .inl (g 0, 3, .inl fmr)), (Ma, .inl (g 0, 3, .inl fma))]) rfl rfl rfl rfl (by decide) (k_X7_putAside l D g H.size Mm zth Mt tp zma zwr Mrr Mrh Mrc zrh zrc Mn Mf Mr Mh hp cc Ma Mas Msn Mac Mat fno fas tb ub (h2)) (cwV 0 hts gX7_deliveredByZone_X7_putAside rfl rfl rfl (by decide +kernel) ⟨(Nat.le_of_ble_eq_true rfl), (Nat.le_of_ble_eq_true rfl)⟩) 0 7 rfl rfl rfl rfl hl.1 rfl (Nat.le_of_ble_eq_true rfl) dX7_deliveredByZone_1 ⟨(Nat.le_of_ble_eq_true rfl), (Nat.le_of_ble_eq_true rfl)⟩ (fun u H locs hw hP2 hD2 hS2 => ?_)
  clear hP hD hS
  obtain ⟨fasx_2, rfl, hf_3⟩ := hw
  have hPD : PD D A [(Mh, .inl (g 0, 9, .inl fmh)), (Mr, .inl (g 0, 3, .inl fmr)), (Ma, .inl (g 0, 3, .inl fma)), (Mm, .inr (7, [.int zth, .ref Mt, .int (nI tp), .int zma, .int zwr, .ref Mrr, .ref Mrh, .ref Mrc, .int zrh, .int zrc, .ref Mn, .ref Mf, .ref Mr, .ref Mh, .int (nI hp), .int (nI cc), .ref Ma, .ref Mas, .ref Msn, .ref Mac, .ref Mat])), (Mn, .inl (g 0, 1767, .inl fno)), (Mas, .inl (g 0, 1767, .inl fasx_2))] H := ⟨hP2, hD2⟩
  have hS := hS2; clear hP2 hD2 hS2; have hP := hPD.1; have hD := hPD.2; clear hPD
  refine W.widen (k := 0) (n := 0) (Nat.le_of_ble_eq_true rfl) (Nat.le_of_ble_eq_true rfl) ?_
  refine lv_aload_n hx hb dX7_deliveredByZone_4 rfl (lv_at hl 0 rfl) ?_
  refine va_get (D := D) (ci := 7) (v := .ref Mn) (C := RX7) (T := TX7) (N := 21) hx hb hts iX7 hown hK hP 3 rfl rfl 10 (by decide) f22 (fun _ h9 => h9) rfl dX7_deliveredByZone_5 ?_
  refine lv_iload_n hx hb dX7_deliveredByZone_8 rfl (lv_at hl 1 rfl) ?_
  refine lv_iload_n hx hb dX7_deliveredByZone_9 rfl (lv_at hl 2 rfl) ?_
  refine ky_Si (As := [.int (nI hix), .int (nI cx)]) (rest := [.ref Mn]) ⟨hx, hb, hml, hown, hts⟩ ⟨hK, hN⟩ hZ hP hD hS hA [] [0, 1, 2, 3, 4, 5] (wc := []) (wr := [(Mh, .inl (g 0, 9, .inl fmh)), (Mr, .inl (g 0, 3, .inl fmr)), (Ma, .inl (g 0, 3, .inl fma)), (Mm, .inr (7, [.int zth, .ref Mt, .int (nI tp), .int zma, .int zwr, .ref Mrr, .ref Mrh, .ref Mrc, .int zrh, .int zrc, .ref Mn, .ref Mf, .ref Mr, .ref Mh, .int (nI hp), .int (nI cc), .ref Ma, .ref Mas, .ref Msn, .ref Mac, .ref Mat])), (Mn, .inl (g 0, 1767, .inl fno)), (Mas, .inl (g 0, 1767, .inl fasx_2))]) rfl rfl rfl rfl (by decide) (k_X7_lane l D g H.size hix cx (show hix < 3 by omega) (show cx < 3 by omega)) (va_cwS 2 hts gX7_deliveredByZone_X7_lane rfl rfl rfl (by decide +kernel) ⟨(Nat.le_of_ble_eq_true rfl), (Nat.le_of_ble_eq_true rfl)⟩) rfl hl.1 rfl (Nat.le_of_ble_eq_true rfl) dX7_deliveredByZone_10 ⟨(Nat.le_of_ble_eq_true rfl), (Nat.le_of_ble_eq_true rfl)⟩ (fun r_4 u H locs hw hP2 hD2 hS2 => ?_)
  clear hP hD hS
  obtain ⟨rfl, rfl⟩ := hw
  have hPD : PD D A [(Mh, .inl (g 0, 9, .inl fmh)), (Mr, .inl (g 0, 3, .inl fmr)), (Ma, .inl (g 0, 3, .inl fma)), (Mm, .inr (7, [.int zth, .ref Mt, .int (nI tp), .int zma, .int zwr, .ref Mrr, .ref Mrh, .ref Mrc, .int zrh, .int zrc, .ref Mn, .ref Mf, .ref Mr, .ref Mh, .int (nI hp), .int (nI cc), .ref Ma, .ref Mas, .ref Msn, .ref Mac, .ref Mat])), (Mn, .inl (g 0, 1767, .inl fno)), (Mas, .inl (g 0, 1767, .inl fasx_2))] H := ⟨hP2, hD2⟩
  have hS := hS2; clear hP2 hD2 hS2; have hP := hPD.1; have hD := hPD.2; clear hPD
  refine W.widen (k := 0) (n := 0) (Nat.le_of_ble_eq_true rfl) (Nat.le_of_ble_eq_true rfl) ?_
  refine lv_iconst (v := 3) hx hb dX7_deliveredByZone_13 (by decide) ?_
  refine lv_iadd hx hb dX7_deliveredByZone_14 ?_
  refine lv_eqi (y := (nI (7 * (3 * hix + cx) + 3))) (nI_add (7 * (3 * hix + cx)) (3)) ?_
  refine lv_iload_n hx hb dX7_deliveredByZone_15 rfl (lv_at hl 3 rfl) ?_
  refine va_iast hx hb hK hP hD hS 4 0 rfl rfl (vp_in_nI (show 7 * (3 * hix + cx) + 3 < 1767 by omega) (by decide)) dX7_deliveredByZone_16 (fun H locs hP2 hD2 hS2 => ?_)
  clear hP hD hS
  have hPD : PD D A [(Mh, .inl (g 0, 9, .inl fmh)), (Mr, .inl (g 0, 3, .inl fmr)), (Ma, .inl (g 0, 3, .inl fma)), (Mm, .inr (7, [.int zth, .ref Mt, .int (nI tp), .int zma, .int zwr, .ref Mrr, .ref Mrh, .ref Mrc, .int zrh, .int zrc, .ref Mn, .ref Mf, .ref Mr, .ref Mh, .int (nI hp), .int (nI cc), .ref Ma, .ref Mas, .ref Msn, .ref Mac, .ref Mat])), (Mn, .inl (g 0, 1767, .inl (upd fno (nI (7 * (3 * hix + cx) + 3)).toNatClampNeg zk))), (Mas, .inl (g 0, 1767, .inl fasx_2))] H := ⟨hP2, hD2⟩
  have hS := hS2; clear hP2 hD2 hS2; have hP := hPD.1; have hD := hPD.2; clear hPD
  rw [nI_clamp (show 7 * (3 * hix + cx) + 3 < 2 ^ 31 by omega)] at hP hD
  have hPD : PD D A [(Mh, .inl (g 0, 9, .inl fmh)), (Mr, .inl (g 0, 3, .inl fmr)), (Ma, .inl (g 0, 3, .inl fma)), (Mm, .inr (7, [.int zth, .ref Mt, .int (nI tp), .int zma, .int zwr, .ref Mrr, .ref Mrh, .ref Mrc, .int zrh, .int zrc, .ref Mn, .ref Mf, .ref Mr, .ref Mh, .int (nI hp), .int (nI cc), .ref Ma, .ref Mas, .ref Msn, .ref Mac, .ref Mat])), (Mn, .inl (g 0, 1767, .inl (upd fno (7 * (3 * hix + cx) + 3) zk))), (Mas, .inl (g 0, 1767, .inl fasx_2))] H := ⟨hP, hD⟩
  clear hP hD; have hP := hPD.1; have hD := hPD.2; clear hPD
  have hF_5 : mOK gs tb ub (upd fno (7 * (3 * hix + cx) + 3) zk) := mOK_free h2 (show mfree (7 * (3 * hix + cx) + 3) by unfold mfree; omega)
  generalize upd fno (7 * (3 * hix + cx) + 3) zk = F_5 at hP hD hF_5
  refine lv_aload_n hx hb dX7_deliveredByZone_17 rfl (lv_at hl 0 rfl) ?_
  refine lv_iconst (v := (-1)) hx hb dX7_deliveredByZone_18 (by decide) ?_
  refine lv_iload hx hb dX7_deliveredByZone_19 (lv_at hl 4 rfl) ?_
  refine ky_Vi (As := [.int (-1), .int (nI nx)]) (rest := []) ⟨hx, hb, hml, hown, hts⟩ ⟨hK, hN⟩ hZ hP hD hS hA [3, 4, 0, 1, 2, 5] [] (wc := [(Mm, .inr (7, [.int zth, .ref Mt, .int (nI tp), .int zma, .int zwr, .ref Mrr, .ref Mrh, .ref Mrc, .int zrh, .int zrc, .ref Mn, .ref Mf, .ref Mr, .ref Mh, .int (nI hp), .int (nI cc), .ref Ma, .ref Mas, .ref Msn, .ref Mac, .ref Mat])), (Mn, .inl (g 0, 1767, .inl F_5)), (Mh, .inl (g 0, 9, .inl fmh)), (Mr, .inl (g 0, 3, .inl fmr)), (Ma, .inl (g 0, 3, .inl fma)), (Mas, .inl (g 0, 1767, .inl fasx_2))]) (wr := []) rfl rfl rfl rfl (by decide) (k_X7_deliveredIn l D g H.size Mm (-1) nx zth Mt tp zma zwr Mrr Mrh Mrc zrh zrc Mn Mf Mr Mh hp cc Ma Mas Msn Mac Mat F_5 fmh fmr fma fasx_2 tb ub (show tb < 2 ^ 27 by omega) (show ub < 2 ^ 27 by omega) (hF_5) (show 1 ≤ hp by omega) (show hp ≤ 3 by omega) (show 1 ≤ cc by omega) (show cc ≤ 3 by omega) (h7) (hf_3) (show nx ≤ 200 by omega)) (cwV 2 hts gX7_deliveredByZone_X7_deliveredIn rfl rfl rfl (by decide +kernel) ⟨(Nat.le_of_ble_eq_true rfl), (Nat.le_of_ble_eq_true rfl)⟩) 3 7 rfl rfl rfl rfl hl.1 rfl (Nat.le_of_ble_eq_true rfl) dX7_deliveredByZone_21 ⟨(Nat.le_of_ble_eq_true rfl), (Nat.le_of_ble_eq_true rfl)⟩ (fun r_6 u H locs hw hP2 hD2 hS2 => ?_)
  clear hP hD hS
  obtain ⟨fnox_7, fmax_8, rfl, hf_9⟩ := hw
  have hPD : PD D A [(Mm, .inr (7, [.int zth, .ref Mt, .int (nI tp), .int zma, .int zwr, .ref Mrr, .ref Mrh, .ref Mrc, .int zrh, .int zrc, .ref Mn, .ref Mf, .ref Mr, .ref Mh, .int (nI hp), .int (nI cc), .ref Ma, .ref Mas, .ref Msn, .ref Mac, .ref Mat])), (Mn, .inl (g 0, 1767, .inl fnox_7)), (Mh, .inl (g 0, 9, .inl fmh)), (Mr, .inl (g 0, 3, .inl fmr)), (Ma, .inl (g 0, 3, .inl fmax_8)), (Mas, .inl (g 0, 1767, .inl fasx_2))] H := ⟨hP2, hD2⟩
  have hS := hS2; clear hP2 hD2 hS2; have hP := hPD.1; have hD := hPD.2; clear hPD
  refine W.widen (k := 0) (n := 0) (Nat.le_of_ble_eq_true rfl) (Nat.le_of_ble_eq_true rfl) ?_
  have hP9 := hP; have hD9 := hD
  subst hQ
  refine W.widen (k := 0) (n := 0) (Nat.le_of_ble_eq_true rfl) (Nat.le_of_ble_eq_true rfl) ?_
  exact W.iret (v := r_6) hx hb hr (fun tS htS _ => ⟨⟨_, _, rfl, ⟨fnox_7, fmax_8, fasx_2, rfl, (hf_9)⟩, by rw [htS]; exact hP9, hD9⟩, hS.F htS⟩) hS.2.2 dX7_deliveredByZone_24

set_option maxHeartbeats 4000000 in
set_option maxRecDepth 100000 in
theorem k_X7_would (l : Launch) (D : va_G) (g : Nat → ClassId) (sz : Nat) {gs : Nat → Int32} (Mm : Nat) (zh : Int32) (zc : Int32) (zk : Int32) (zm : Int32) (zth : Int32) (Mt : Nat) (tp : Nat) (zma : Int32) (zwr : Int32) (Mrr : Nat) (Mrh : Nat) (Mrc : Nat) (zrh : Int32) (zrc : Int32) (Mn : Nat) (Mf : Nat) (Mr : Nat) (Mh : Nat) (hp : Nat) (cc : Nat) (Ma : Nat) (Mas : Nat) (Msn : Nat) (Mac : Nat) (Mat : Nat) (fno : Nat → Int32) (fmh : Nat → Int32) (fmr : Nat → Int32) (fma : Nat → Int32) (fas : Nat → Int32) (tb : Nat) (ub : Nat) (h0 : tb < 2 ^ 27) (h1 : ub < 2 ^ 27) (h2 : mOK gs tb ub fno) (h3 : 1 ≤ hp) (h4 : hp ≤ 3) (h5 : 1 ≤ cc) (h6 : cc ≤ 3) (h7 : n3 fmh) : Met l yX7_would wsX7_would ({ frames := 9, cells := 0, slots := 0, locals := 203 }) (va_Pc [.ref Mm, .int zh, .int zc, .int zk, .int zm] (pre D g sz [(Mm, .inr (7, [.int zth, .ref Mt, .int (nI tp), .int zma, .int zwr, .ref Mrr, .ref Mrh, .ref Mrc, .int zrh, .int zrc, .ref Mn, .ref Mf, .ref Mr, .ref Mh, .int (nI hp), .int (nI cc), .ref Ma, .ref Mas, .ref Msn, .ref Mac, .ref Mat])), (Mn, .inl (g 0, 1767, .inl fno)), (Mh, .inl (g 0, 9, .inl fmh)), (Mr, .inl (g 0, 3, .inl fmr)), (Ma, .inl (g 0, 3, .inl fma)), (Mas, .inl (g 0, 1767, .inl fas))])) (va_Qi (fun (r : Int32) (u : va_W) => ∃ (zthx : Int32) (fnox : Nat → Int32) (fmax : Nat → Int32) (fasx : Nat → Int32), u = [(Mm, .inr (7, [.int zthx, .ref Mt, .int (nI tp), .int zma, .int zwr, .ref Mrr, .ref Mrh, .ref Mrc, .int zrh, .int zrc, .ref Mn, .ref Mf, .ref Mr, .ref Mh, .int (nI hp), .int (nI cc), .ref Ma, .ref Mas, .ref Msn, .ref Mac, .ref Mat])), (Mn, .inl (g 0, 1767, .inl fnox)), (Mh, .inl (g 0, 9, .inl fmh)), (Mr, .inl (g 0, 3, .inl fmr)), (Ma, .inl (g 0, 3, .inl fmax)), (Mas, .inl (g 0, 1767, .inl fasx))] ∧ (mOK gs tb ub fnox)) (wd D (va_A [(Mm, .inr (7, [.int zth, .ref Mt, .int (nI tp), .int zma, .int zwr, .ref Mrr, .ref Mrh, .ref Mrc, .int zrh, .int zrc, .ref Mn, .ref Mf, .ref Mr, .ref Mh, .int (nI hp), .int (nI cc), .ref Ma, .ref Mas, .ref Msn, .ref Mac, .ref Mat])), (Mn, .inl (g 0, 1767, .inl fno)), (Mh, .inl (g 0, 9, .inl fmh)), (Mr, .inl (g 0, 3, .inl fmr)), (Ma, .inl (g 0, 3, .inl fma)), (Mas, .inl (g 0, 1767, .inl fas))] sz)) (va_A [(Mm, .inr (7, [.int zth, .ref Mt, .int (nI tp), .int zma, .int zwr, .ref Mrr, .ref Mrh, .ref Mrc, .int zrh, .int zrc, .ref Mn, .ref Mf, .ref Mr, .ref Mh, .int (nI hp), .int (nI cc), .ref Ma, .ref Mas, .ref Msn, .ref Mac, .ref Mat])), (Mn, .inl (g 0, 1767, .inl fno)), (Mh, .inl (g 0, 9, .inl fmh)), (Mr, .inl (g 0, 3, .inl fmr)), (Ma, .inl (g 0, 3, .inl fma)), (Mas, .inl (g 0, 1767, .inl fas))] sz)) 0 0 (va_A [(Mm, .inr (7, [.int zth, .ref Mt, .int (nI tp), .int zma, .int zwr, .ref Mrr, .ref Mrh, .ref Mrc, .int zrh, .int zrc, .ref Mn, .ref Mf, .ref Mr, .ref Mh, .int (nI hp), .int (nI cc), .ref Ma, .ref Mas, .ref Msn, .ref Mac, .ref Mat])), (Mn, .inl (g 0, 1767, .inl fno)), (Mh, .inl (g 0, 9, .inl fmh)), (Mr, .inl (g 0, 3, .inl fmr)), (Ma, .inl (g 0, 3, .inl fma)), (Mas, .inl (g 0, 1767, .inl fas))] sz) := by
  refine Met.ofW (cc := cX7_would) (maxL := 5) (ret := (some .int)) (by decide) rfl ?_
  intro p e s m args below meth c s₁ B hml hv
  obtain ⟨rfl, hsz, hP, ⟨hK, hN⟩, hD0, hZ⟩ := hv
  have hx := B.exec
  have hb := B.bytes
  have hr := B.returns
  have hts := atoms_spec (ws := wsX7_would) B.pre
  have hown : s.vm.findClass RX7 = some m.cls := findClass_of_methodNamed B.named
  have hlocks := B.notSynchronized
  clear B
  subst hsz
  have hD := hD0.self (sz := s.heap.size)
  clear hD0
  generalize hAe : va_A [(Mm, .inr (7, [.int zth, .ref Mt, .int (nI tp), .int zma, .int zwr, .ref Mrr, .ref Mrh, .ref Mrc, .int zrh, .int zrc, .ref Mn, .ref Mf, .ref Mr, .ref Mh, .int (nI hp), .int (nI cc), .ref Ma, .ref Mas, .ref Msn, .ref Mac, .ref Mat])), (Mn, .inl (g 0, 1767, .inl fno)), (Mh, .inl (g 0, 9, .inl fmh)), (Mr, .inl (g 0, 3, .inl fmr)), (Ma, .inl (g 0, 3, .inl fma)), (Mas, .inl (g 0, 1767, .inl fas))] s.heap.size = A at hD hZ ⊢
  have hA : ∀ q : Nat, s.heap.size ≤ q → A q := fun q h => by rw [← hAe]; exact Or.inr h
  have hS : va_S A s.heap s.heap [] := va_S.rf
  have f49 := hts (.fieldLink RX7 49 "HopCreditsModel" "thrown" "I") (List.mem_of_getElem? (i := 1) rfl)
  have iX7 : ∀ w ∈ u_ws RX7 TX7 21, w ∈ wsX7_would := fun w h => List.mem_cons_of_mem _ (List.mem_append_right _ (h))
  have hl := lv_entry ([.ref Mm, .int zh, .int zc, .int zk, .int zm]) (n := 5) (Nat.le_of_ble_eq_true rfl)
  rw [lg_entry_eq]
  generalize (lg_sl ([.ref Mm, .int zh, .int zc, .int zk, .int zm]) ++ List.replicate (5 - (lg_sl ([.ref Mm, .int zh, .int zc, .int zk, .int zm])).length) Slot.unset).toArray = ls at hl ⊢
  have hl : lv_has ls 5 [(0, .ref Mm), (1, .int zh), (2, .int zc), (3, .int zk), (4, .int zm)] := hl
  generalize hQ : MQ below _ _ s _ _ _ = Q
  generalize hH : s.heap = H at hP ⊢
  have hS : va_S A s.heap H [] := by rw [← hH]; exact hS
  clear hH
  refine lv_aload_n hx hb dX7_would_0 rfl (lv_at hl 0 rfl) ?_
  refine lv_iconst (v := 0) hx hb dX7_would_1 (by decide) ?_
  refine va_put (D := D) (ci := 7) (v := .int 0) (ty := .int) (C := RX7) (T := TX7) (N := 21) hx hb hts iX7 tyX7 tyX7_ok nmX7 hown hK hP hD hS 0 rfl rfl 0 (by decide) f49 (fun _ h9 => h9) rfl (by decide +kernel) (rfl) (rfl) (Nat.le_of_ble_eq_true rfl) dX7_would_2 (fun H locs hP2 hD2 hS2 => ?_)
  clear hP hD hS
  have hPD : PD D A [(Mm, .inr (7, [.int 0, .ref Mt, .int (nI tp), .int zma, .int zwr, .ref Mrr, .ref Mrh, .ref Mrc, .int zrh, .int zrc, .ref Mn, .ref Mf, .ref Mr, .ref Mh, .int (nI hp), .int (nI cc), .ref Ma, .ref Mas, .ref Msn, .ref Mac, .ref Mat])), (Mn, .inl (g 0, 1767, .inl fno)), (Mh, .inl (g 0, 9, .inl fmh)), (Mr, .inl (g 0, 3, .inl fmr)), (Ma, .inl (g 0, 3, .inl fma)), (Mas, .inl (g 0, 1767, .inl fas))] H := ⟨hP2, hD2⟩
  have hS := hS2; clear hP2 hD2 hS2; have hP := hPD.1; have hD := hPD.2; clear hPD
  refine lv_aload_n hx hb dX7_would_5 rfl (lv_at hl 0 rfl) ?_
  refine lv_iload_n hx hb dX7_would_6 rfl (lv_at hl 1 rfl) ?_
  refine lv_iload_n hx hb dX7_would_7 rfl (lv_at hl 2 rfl) ?_
  refine lv_iload_n hx hb dX7_would_8 rfl (lv_at hl 3 rfl) ?_
  refine ky_Vi (As := [.int zh, .int zc, .int zk]) (rest := []) ⟨hx, hb, hml, hown, hts⟩ ⟨hK, hN⟩ hZ hP hD hS hA [0, 1, 2, 3] [4, 5] (wc := [(Mm, .inr (7, [.int 0, .ref Mt, .int (nI tp), .int zma, .int zwr, .ref Mrr, .ref Mrh, .ref Mrc, .int zrh, .int zrc, .ref Mn, .ref Mf, .ref Mr, .ref Mh, .int (nI hp), .int (nI cc), .ref Ma, .ref Mas, .ref Msn, .ref Mac, .ref Mat])), (Mn, .inl (g 0, 1767, .inl fno)), (Mh, .inl (g 0, 9, .inl fmh)), (Mr, .inl (g 0, 3, .inl fmr))]) (wr := [(Ma, .inl (g 0, 3, .inl fma)), (Mas, .inl (g 0, 1767, .inl fas))]) rfl rfl rfl rfl (by decide) (k_X7_whyZone l D g H.size Mm zh zc zk 0 Mt tp zma zwr Mrr Mrh Mrc zrh zrc Mn Mf Mr Mh hp cc Ma Mas Msn Mac Mat fno fmh fmr (show 1 ≤ hp by omega) (show hp ≤ 3 by omega) (show 1 ≤ cc by omega) (show cc ≤ 3 by omega) (h7)) (cwV 3 hts gX7_would_X7_whyZone rfl rfl rfl (by decide +kernel) ⟨(Nat.le_of_ble_eq_true rfl), (Nat.le_of_ble_eq_true rfl)⟩) 0 7 rfl rfl rfl rfl hl.1 rfl (Nat.le_of_ble_eq_true rfl) dX7_would_9 ⟨(Nat.le_of_ble_eq_true rfl), (Nat.le_of_ble_eq_true rfl)⟩ (fun r_1 u H locs hw hP2 hD2 hS2 => ?_)
  clear hP hD hS
  obtain ⟨zr_2, rfl, rfl, hf_3, hf_4⟩ := hw
  have hPD : PD D A [(Ma, .inl (g 0, 3, .inl fma)), (Mas, .inl (g 0, 1767, .inl fas)), (Mm, .inr (7, [.int 0, .ref Mt, .int (nI tp), .int zma, .int zwr, .ref Mrr, .ref Mrh, .ref Mrc, .int zrh, .int zrc, .ref Mn, .ref Mf, .ref Mr, .ref Mh, .int (nI hp), .int (nI cc), .ref Ma, .ref Mas, .ref Msn, .ref Mac, .ref Mat])), (Mn, .inl (g 0, 1767, .inl fno)), (Mh, .inl (g 0, 9, .inl fmh)), (Mr, .inl (g 0, 3, .inl fmr))] H := ⟨hP2, hD2⟩
  have hS := hS2; clear hP2 hD2 hS2; have hP := hPD.1; have hD := hPD.2; clear hPD
  refine W.widen (k := 0) (n := 0) (Nat.le_of_ble_eq_true rfl) (Nat.le_of_ble_eq_true rfl) ?_
  refine lv_iconst (v := (-1)) hx hb dX7_would_12 (by decide) ?_
  refine lv_icmp_ne (tgt := 37) hx hb dX7_would_13 (by decide) (fun cb_5 => ?_) (fun cb_5 => ?_)
  · skip
    have hPq_8 := hP; have hDq_8 := hD; have hSq_8 := hS; have hlq_8 := hl; clear hP hD hS hl
    obtain ⟨j_6, hj_7, rfl⟩ := ok4_j (hf_3) cb_5
    have hP := hPq_8; have hD := hDq_8; have hS := hSq_8; have hl := hlq_8; clear hPq_8 hDq_8 hSq_8 hlq_8
    refine lv_iconst (v := (-1)) hx hb dX7_would_37 (by decide) ?_
    have hPD9 : PD D A [(Mm, .inr (7, [.int 0, .ref Mt, .int (nI tp), .int zma, .int zwr, .ref Mrr, .ref Mrh, .ref Mrc, .int zrh, .int zrc, .ref Mn, .ref Mf, .ref Mr, .ref Mh, .int (nI hp), .int (nI cc), .ref Ma, .ref Mas, .ref Msn, .ref Mac, .ref Mat])), (Mn, .inl (g 0, 1767, .inl fno)), (Mh, .inl (g 0, 9, .inl fmh)), (Mr, .inl (g 0, 3, .inl fmr)), (Ma, .inl (g 0, 3, .inl fma)), (Mas, .inl (g 0, 1767, .inl fas))] H := ⟨hP.sub [2, 3, 4, 5, 0, 1] rfl, hD.sub [2, 3, 4, 5, 0, 1] (by decide) rfl⟩
    have hP9 := hPD9.1; have hD9 := hPD9.2
    subst hQ
    refine W.widen (k := 0) (n := 0) (Nat.le_of_ble_eq_true rfl) (Nat.le_of_ble_eq_true rfl) ?_
    exact W.iret (v := (-1)) hx hb hr (fun tS htS _ => ⟨⟨_, _, rfl, ⟨0, fno, fma, fas, rfl, (h2)⟩, by rw [htS]; exact hP9, hD9⟩, hS.F htS⟩) hS.2.2 dX7_would_38
  · skip
    have hq_9 : (0 ≤ zh ∧ zh ≤ (nI (hp - 1))) ∧ (0 ≤ zc ∧ zc ≤ (nI (cc - 1))) := hf_4 cb_5
    have hq_10 := hq_9.1; have hq_11 := hq_9.2
    have hPq_15 := hP; have hDq_15 := hD; have hSq_15 := hS; have hlq_15 := hl; clear hP hD hS hl
    obtain ⟨j_12, hl_13, hu_14, rfl⟩ := rg (L := 0) (U := hp - 1) rfl rfl (show 0 < 2 ^ 31 by omega) (show hp - 1 < 2 ^ 31 by omega) hq_10
    have hP := hPq_15; have hD := hDq_15; have hS := hSq_15; have hl := hlq_15; clear hPq_15 hDq_15 hSq_15 hlq_15
    have hPq_19 := hP; have hDq_19 := hD; have hSq_19 := hS; have hlq_19 := hl; clear hP hD hS hl
    obtain ⟨j_16, hl_17, hu_18, rfl⟩ := rg (L := 0) (U := cc - 1) rfl rfl (show 0 < 2 ^ 31 by omega) (show cc - 1 < 2 ^ 31 by omega) hq_11
    have hP := hPq_19; have hD := hDq_19; have hS := hSq_19; have hl := hlq_19; clear hPq_19 hDq_19 hSq_19 hlq_19
    refine lv_iload hx hb dX7_would_16 (lv_at hl 4 rfl) ?_
    refine lv_iconst (v := 0) hx hb dX7_would_18 (by decide) ?_
    refine ky_Si (As := [.int zm, .int 0]) (rest := []) ⟨hx, hb, hml, hown, hts⟩ ⟨hK, hN⟩ hZ hP hD hS hA [] [0, 1, 2, 3, 4, 5] (wc := []) (wr := [(Ma, .inl (g 0, 3, .inl fma)), (Mas, .inl (g 0, 1767, .inl fas)), (Mm, .inr (7, [.int 0, .ref Mt, .int (nI tp), .int zma, .int zwr, .ref Mrr, .ref Mrh, .ref Mrc, .int zrh, .int zrc, .ref Mn, .ref Mf, .ref Mr, .ref Mh, .int (nI hp), .int (nI cc), .ref Ma, .ref Mas, .ref Msn, .ref Mac, .ref Mat])), (Mn, .inl (g 0, 1767, .inl fno)), (Mh, .inl (g 0, 9, .inl fmh)), (Mr, .inl (g 0, 3, .inl fmr))]) rfl rfl rfl rfl (by decide) (k_X7_isSpan l D g H.size zm 0) (va_cwS 2 hts gX7_would_X7_isSpan rfl rfl rfl (by decide +kernel) ⟨(Nat.le_of_ble_eq_true rfl), (Nat.le_of_ble_eq_true rfl)⟩) rfl hl.1 rfl (Nat.le_of_ble_eq_true rfl) dX7_would_19 ⟨(Nat.le_of_ble_eq_true rfl), (Nat.le_of_ble_eq_true rfl)⟩ (fun r_20 u H locs hw hP2 hD2 hS2 => ?_)
    clear hP hD hS
    obtain ⟨rfl, rfl⟩ := hw
    have hPD : PD D A [(Ma, .inl (g 0, 3, .inl fma)), (Mas, .inl (g 0, 1767, .inl fas)), (Mm, .inr (7, [.int 0, .ref Mt, .int (nI tp), .int zma, .int zwr, .ref Mrr, .ref Mrh, .ref Mrc, .int zrh, .int zrc, .ref Mn, .ref Mf, .ref Mr, .ref Mh, .int (nI hp), .int (nI cc), .ref Ma, .ref Mas, .ref Msn, .ref Mac, .ref Mat])), (Mn, .inl (g 0, 1767, .inl fno)), (Mh, .inl (g 0, 9, .inl fmh)), (Mr, .inl (g 0, 3, .inl fmr))] H := ⟨hP2, hD2⟩
    have hS := hS2; clear hP2 hD2 hS2; have hP := hPD.1; have hD := hPD.2; clear hPD
    refine W.widen (k := 0) (n := 0) (Nat.le_of_ble_eq_true rfl) (Nat.le_of_ble_eq_true rfl) ?_
    refine lv_if_eq (tgt := 37) hx hb dX7_would_22 (by decide) (fun cb_21 => ?_) (fun cb_21 => ?_)
    · skip
      have hq_22 : ¬ (0 ≤ zm ∧ zm ≤ 200) := b01_0.mp cb_21
      refine lv_iconst (v := (-1)) hx hb dX7_would_37 (by decide) ?_
      have hPD9 : PD D A [(Mm, .inr (7, [.int 0, .ref Mt, .int (nI tp), .int zma, .int zwr, .ref Mrr, .ref Mrh, .ref Mrc, .int zrh, .int zrc, .ref Mn, .ref Mf, .ref Mr, .ref Mh, .int (nI hp), .int (nI cc), .ref Ma, .ref Mas, .ref Msn, .ref Mac, .ref Mat])), (Mn, .inl (g 0, 1767, .inl fno)), (Mh, .inl (g 0, 9, .inl fmh)), (Mr, .inl (g 0, 3, .inl fmr)), (Ma, .inl (g 0, 3, .inl fma)), (Mas, .inl (g 0, 1767, .inl fas))] H := ⟨hP.sub [2, 3, 4, 5, 0, 1] rfl, hD.sub [2, 3, 4, 5, 0, 1] (by decide) rfl⟩
      have hP9 := hPD9.1; have hD9 := hPD9.2
      subst hQ
      refine W.widen (k := 0) (n := 0) (Nat.le_of_ble_eq_true rfl) (Nat.le_of_ble_eq_true rfl) ?_
      exact W.iret (v := (-1)) hx hb hr (fun tS htS _ => ⟨⟨_, _, rfl, ⟨0, fno, fma, fas, rfl, (h2)⟩, by rw [htS]; exact hP9, hD9⟩, hS.F htS⟩) hS.2.2 dX7_would_38
    · skip
      have hq_23 : 0 ≤ zm ∧ zm ≤ 200 := b01_1.mp cb_21
      have hPq_27 := hP; have hDq_27 := hD; have hSq_27 := hS; have hlq_27 := hl; clear hP hD hS hl
      obtain ⟨j_24, hl_25, hu_26, rfl⟩ := rg (L := 0) (U := 200) rfl rfl (show 0 < 2 ^ 31 by omega) (show 200 < 2 ^ 31 by omega) hq_23
      have hP := hPq_27; have hD := hDq_27; have hS := hSq_27; have hl := hlq_27; clear hPq_27 hDq_27 hSq_27 hlq_27
      refine lv_aload_n hx hb dX7_would_25 rfl (lv_at hl 0 rfl) ?_
      refine lv_iload_n hx hb dX7_would_26 rfl (lv_at hl 1 rfl) ?_
      refine lv_iload_n hx hb dX7_would_27 rfl (lv_at hl 2 rfl) ?_
      refine lv_iload_n hx hb dX7_would_28 rfl (lv_at hl 3 rfl) ?_
      refine lv_iload hx hb dX7_would_29 (lv_at hl 4 rfl) ?_
      refine ky_Vi (As := [.int (nI j_12), .int (nI j_16), .int zk, .int (nI j_24)]) (rest := []) ⟨hx, hb, hml, hown, hts⟩ ⟨hK, hN⟩ hZ hP hD hS hA [2, 3, 4, 5, 0, 1] [] (wc := [(Mm, .inr (7, [.int 0, .ref Mt, .int (nI tp), .int zma, .int zwr, .ref Mrr, .ref Mrh, .ref Mrc, .int zrh, .int zrc, .ref Mn, .ref Mf, .ref Mr, .ref Mh, .int (nI hp), .int (nI cc), .ref Ma, .ref Mas, .ref Msn, .ref Mac, .ref Mat])), (Mn, .inl (g 0, 1767, .inl fno)), (Mh, .inl (g 0, 9, .inl fmh)), (Mr, .inl (g 0, 3, .inl fmr)), (Ma, .inl (g 0, 3, .inl fma)), (Mas, .inl (g 0, 1767, .inl fas))]) (wr := []) rfl rfl rfl rfl (by decide) (k_X7_deliveredByZone l D g H.size Mm j_12 j_16 zk j_24 0 Mt tp zma zwr Mrr Mrh Mrc zrh zrc Mn Mf Mr Mh hp cc Ma Mas Msn Mac Mat fno fmh fmr fma fas tb ub (show tb < 2 ^ 27 by omega) (show ub < 2 ^ 27 by omega) (h2) (show 1 ≤ hp by omega) (show hp ≤ 3 by omega) (show 1 ≤ cc by omega) (show cc ≤ 3 by omega) (h7) (show j_12 < 3 by omega) (show j_16 < 3 by omega) (show j_24 ≤ 200 by omega)) (cwV 4 hts gX7_would_X7_deliveredByZone rfl rfl rfl (by decide +kernel) ⟨(Nat.le_of_ble_eq_true rfl), (Nat.le_of_ble_eq_true rfl)⟩) 2 7 rfl rfl rfl rfl hl.1 rfl (Nat.le_of_ble_eq_true rfl) dX7_would_31 ⟨(Nat.le_of_ble_eq_true rfl), (Nat.le_of_ble_eq_true rfl)⟩ (fun r_28 u H locs hw hP2 hD2 hS2 => ?_)
      clear hP hD hS
      obtain ⟨fnox_29, fmax_30, fasx_31, rfl, hf_32⟩ := hw
      have hPD : PD D A [(Mm, .inr (7, [.int 0, .ref Mt, .int (nI tp), .int zma, .int zwr, .ref Mrr, .ref Mrh, .ref Mrc, .int zrh, .int zrc, .ref Mn, .ref Mf, .ref Mr, .ref Mh, .int (nI hp), .int (nI cc), .ref Ma, .ref Mas, .ref Msn, .ref Mac, .ref Mat])), (Mn, .inl (g 0, 1767, .inl fnox_29)), (Mh, .inl (g 0, 9, .inl fmh)), (Mr, .inl (g 0, 3, .inl fmr)), (Ma, .inl (g 0, 3, .inl fmax_30)), (Mas, .inl (g 0, 1767, .inl fasx_31))] H := ⟨hP2, hD2⟩
      have hS := hS2; clear hP2 hD2 hS2; have hP := hPD.1; have hD := hPD.2; clear hPD
      refine W.widen (k := 0) (n := 0) (Nat.le_of_ble_eq_true rfl) (Nat.le_of_ble_eq_true rfl) ?_
      refine lv_goto (tgt := 38) hx hb dX7_would_34 (by decide) ?_
      have hP9 := hP; have hD9 := hD
      subst hQ
      refine W.widen (k := 0) (n := 0) (Nat.le_of_ble_eq_true rfl) (Nat.le_of_ble_eq_true rfl) ?_
      exact W.iret (v := r_28) hx hb hr (fun tS htS _ => ⟨⟨_, _, rfl, ⟨0, fnox_29, fmax_30, fasx_31, rfl, (hf_32)⟩, by rw [htS]; exact hP9, hD9⟩, hS.F htS⟩) hS.2.2 dX7_would_38
