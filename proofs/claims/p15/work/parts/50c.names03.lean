theorem dX7_most_82 : decode cX7_most 82 = .ok (.iload_n 3, 1) := by decide +kernel
theorem dX7_most_83 : decode cX7_most 83 = .ok (.invokevirtual 277, 3) := by decide +kernel
theorem dX7_most_86 : decode cX7_most 86 = .ok (.invokestatic 154, 3) := by decide +kernel
theorem dX7_most_89 : decode cX7_most 89 = .ok (.istore 5, 2) := by decide +kernel
theorem dX7_most_91 : decode cX7_most 91 = .ok (.iinc 6 1, 3) := by decide +kernel
theorem dX7_most_94 : decode cX7_most 94 = .ok (.goto (-28), 3) := by decide +kernel
theorem dX7_most_97 : decode cX7_most 97 = .ok (.aload_n 0, 1) := by decide +kernel
theorem dX7_most_98 : decode cX7_most 98 = .ok (.invokevirtual 262, 3) := by decide +kernel
theorem dX7_most_101 : decode cX7_most 101 = .ok (.iload 5, 2) := by decide +kernel
theorem dX7_most_103 : decode cX7_most 103 = .ok (.ireturn, 1) := by decide +kernel
set_option maxRecDepth 20000 in
theorem ggX7_unknown_X7_lane : GoodIn wsX7_unknown wsX7_lane := goodIn_r _ [7] (by decide +kernel) (by decide +kernel)
set_option maxRecDepth 20000 in
theorem gX7_unknown_X7_lane : GoodIn wsX7_unknown (va_wsS RX7 163 yX7_lane wsX7_lane) := goodIn_app (goodIn_of _ (by decide +kernel)) ggX7_unknown_X7_lane
theorem dX7_unknown_0 : decode cX7_unknown 0 = .ok (.iconst 0, 1) := by decide +kernel
theorem dX7_unknown_1 : decode cX7_unknown 1 = .ok (.istore_n 1, 1) := by decide +kernel
theorem dX7_unknown_2 : decode cX7_unknown 2 = .ok (.iconst 0, 1) := by decide +kernel
theorem dX7_unknown_3 : decode cX7_unknown 3 = .ok (.istore_n 2, 1) := by decide +kernel
theorem dX7_unknown_4 : decode cX7_unknown 4 = .ok (.iload_n 2, 1) := by decide +kernel
theorem dX7_unknown_5 : decode cX7_unknown 5 = .ok (.aload_n 0, 1) := by decide +kernel
theorem dX7_unknown_6 : decode cX7_unknown 6 = .ok (.getfield 124, 3) := by decide +kernel
theorem dX7_unknown_9 : decode cX7_unknown 9 = .ok (.if_icmp .ge 60, 3) := by decide +kernel
theorem dX7_unknown_12 : decode cX7_unknown 12 = .ok (.iconst 0, 1) := by decide +kernel
theorem dX7_unknown_13 : decode cX7_unknown 13 = .ok (.istore_n 3, 1) := by decide +kernel
theorem dX7_unknown_14 : decode cX7_unknown 14 = .ok (.iload_n 3, 1) := by decide +kernel
theorem dX7_unknown_15 : decode cX7_unknown 15 = .ok (.aload_n 0, 1) := by decide +kernel
theorem dX7_unknown_16 : decode cX7_unknown 16 = .ok (.getfield 127, 3) := by decide +kernel
theorem dX7_unknown_19 : decode cX7_unknown 19 = .ok (.if_icmp .ge 44, 3) := by decide +kernel
theorem dX7_unknown_22 : decode cX7_unknown 22 = .ok (.iload_n 1, 1) := by decide +kernel
theorem dX7_unknown_23 : decode cX7_unknown 23 = .ok (.aload_n 0, 1) := by decide +kernel
theorem dX7_unknown_24 : decode cX7_unknown 24 = .ok (.getfield 22, 3) := by decide +kernel
theorem dX7_unknown_27 : decode cX7_unknown 27 = .ok (.iload_n 2, 1) := by decide +kernel
theorem dX7_unknown_28 : decode cX7_unknown 28 = .ok (.iload_n 3, 1) := by decide +kernel
theorem dX7_unknown_29 : decode cX7_unknown 29 = .ok (.invokestatic 163, 3) := by decide +kernel
theorem dX7_unknown_32 : decode cX7_unknown 32 = .ok (.iconst 2, 1) := by decide +kernel
theorem dX7_unknown_33 : decode cX7_unknown 33 = .ok (.iadd, 1) := by decide +kernel
theorem dX7_unknown_34 : decode cX7_unknown 34 = .ok (.iaload, 1) := by decide +kernel
theorem dX7_unknown_35 : decode cX7_unknown 35 = .ok (.aload_n 0, 1) := by decide +kernel
theorem dX7_unknown_36 : decode cX7_unknown 36 = .ok (.getfield 22, 3) := by decide +kernel
theorem dX7_unknown_39 : decode cX7_unknown 39 = .ok (.iload_n 2, 1) := by decide +kernel
theorem dX7_unknown_40 : decode cX7_unknown 40 = .ok (.iload_n 3, 1) := by decide +kernel
theorem dX7_unknown_41 : decode cX7_unknown 41 = .ok (.invokestatic 163, 3) := by decide +kernel
theorem dX7_unknown_44 : decode cX7_unknown 44 = .ok (.iconst 1, 1) := by decide +kernel
theorem dX7_unknown_45 : decode cX7_unknown 45 = .ok (.iadd, 1) := by decide +kernel
theorem dX7_unknown_46 : decode cX7_unknown 46 = .ok (.iaload, 1) := by decide +kernel
theorem dX7_unknown_47 : decode cX7_unknown 47 = .ok (.if_icmp .eq 7, 3) := by decide +kernel
theorem dX7_unknown_50 : decode cX7_unknown 50 = .ok (.iconst 1, 1) := by decide +kernel
theorem dX7_unknown_51 : decode cX7_unknown 51 = .ok (.goto 4, 3) := by decide +kernel
theorem dX7_unknown_54 : decode cX7_unknown 54 = .ok (.iconst 0, 1) := by decide +kernel
theorem dX7_unknown_55 : decode cX7_unknown 55 = .ok (.iadd, 1) := by decide +kernel
theorem dX7_unknown_56 : decode cX7_unknown 56 = .ok (.istore_n 1, 1) := by decide +kernel
theorem dX7_unknown_57 : decode cX7_unknown 57 = .ok (.iinc 3 1, 3) := by decide +kernel
theorem dX7_unknown_60 : decode cX7_unknown 60 = .ok (.goto (-46), 3) := by decide +kernel
theorem dX7_unknown_63 : decode cX7_unknown 63 = .ok (.iinc 2 1, 3) := by decide +kernel
theorem dX7_unknown_66 : decode cX7_unknown 66 = .ok (.goto (-62), 3) := by decide +kernel
theorem dX7_unknown_69 : decode cX7_unknown 69 = .ok (.iload_n 1, 1) := by decide +kernel
theorem dX7_unknown_70 : decode cX7_unknown 70 = .ok (.ireturn, 1) := by decide +kernel
theorem qxX7_ticksStill_0 : ∀ w ∈ ((wsX7_ticksStill_r1 ++ (wsX7_ticksStill_r2 ++ wsX7_ticksStill_r3)) ++ wsX70), w ∈ wsX7_ticksStill := fun w h => List.mem_cons_of_mem _ h
theorem qxX7_ticksStill_1 : ∀ w ∈ (wsX7_ticksStill_r1 ++ (wsX7_ticksStill_r2 ++ wsX7_ticksStill_r3)), w ∈ wsX7_ticksStill := in_l qxX7_ticksStill_0
theorem qxX7_ticksStill_2 : ∀ w ∈ wsX70, w ∈ wsX7_ticksStill := in_r qxX7_ticksStill_0
theorem qxX7_ticksStill_3 : ∀ w ∈ wsX7_ticksStill_r1, w ∈ wsX7_ticksStill := in_l qxX7_ticksStill_1
theorem qxX7_ticksStill_4 : ∀ w ∈ (wsX7_ticksStill_r2 ++ wsX7_ticksStill_r3), w ∈ wsX7_ticksStill := in_r qxX7_ticksStill_1
theorem qxX7_ticksStill_5 : ∀ w ∈ wsX7_ticksStill_r2, w ∈ wsX7_ticksStill := in_l qxX7_ticksStill_4
theorem qxX7_ticksStill_6 : ∀ w ∈ wsX7_ticksStill_r3, w ∈ wsX7_ticksStill := in_r qxX7_ticksStill_4
def pxX7_ticksStill : List (List Cond) := [wsX7_ticksStill_r1, wsX7_ticksStill_r2, wsX7_ticksStill_r3, wsX70]
theorem pxX7_ticksStill_in : ∀ q ∈ pxX7_ticksStill, ∀ w ∈ q, w ∈ wsX7_ticksStill := lp_c qxX7_ticksStill_3 (lp_c qxX7_ticksStill_5 (lp_c qxX7_ticksStill_6 (lp_c qxX7_ticksStill_2 (lp_n))))
set_option maxRecDepth 20000 in
theorem ggX7_ticksStill_X7_arrives : GoodIn wsX7_ticksStill wsX7_arrives := goodIn_pp pxX7_ticksStill pxX7_ticksStill_in _ [(0, 6), (0, 1), (0, 7), (0, 8), (0, 9), (0, 5), (0, 10), (0, 11), (0, 12), (0, 13), (0, 14), (0, 15), (0, 16), (0, 17), (0, 18), (0, 19), (0, 20), (0, 21), (0, 22), (0, 23), (1, 0), (1, 1), (1, 2), (1, 3), (1, 4), (1, 5), (1, 6), (1, 7), (1, 8), (1, 9), (1, 10), (1, 11), (3, 0), (3, 1), (3, 2), (3, 3), (3, 4), (3, 5), (3, 6), (3, 7), (3, 8), (3, 9), (3, 10), (3, 11), (3, 12), (3, 13), (3, 14), (3, 15), (3, 16), (3, 17), (3, 18), (3, 19), (3, 20)] rfl (by decide +kernel)
set_option maxRecDepth 20000 in
theorem gX7_ticksStill_X7_arrives : GoodIn wsX7_ticksStill (wsV RX7 205 RX7 yX7_arrives wsX7_arrives) := goodIn_app (goodIn_of _ (by decide +kernel)) ggX7_ticksStill_X7_arrives
set_option maxRecDepth 20000 in
theorem ggX7_ticksStill_X7_waits : GoodIn wsX7_ticksStill wsX7_waits := goodIn_pp pxX7_ticksStill pxX7_ticksStill_in _ [(1, 15), (0, 7), (0, 1), (1, 16), (0, 14), (0, 15), (0, 5), (0, 16), (1, 17), (1, 18), (1, 19), (1, 20), (0, 11), (0, 12), (0, 13), (1, 21), (1, 22), (1, 23), (2, 0), (2, 1), (2, 2), (2, 3), (2, 4), (2, 5), (2, 6), (2, 7), (2, 8), (0, 17), (0, 18), (0, 19), (2, 9), (2, 10), (2, 11), (2, 12), (1, 7), (1, 8), (1, 9), (1, 10), (1, 11), (0, 8), (0, 9), (0, 10), (3, 0), (3, 1), (3, 2), (3, 3), (3, 4), (3, 5), (3, 6), (3, 7), (3, 8), (3, 9), (3, 10), (3, 11), (3, 12), (3, 13), (3, 14), (3, 15), (3, 16), (3, 17), (3, 18), (3, 19), (3, 20)] rfl (by decide +kernel)
set_option maxRecDepth 20000 in
theorem gX7_ticksStill_X7_waits : GoodIn wsX7_ticksStill (wsV RX7 217 RX7 yX7_waits wsX7_waits) := goodIn_app (goodIn_of _ (by decide +kernel)) ggX7_ticksStill_X7_waits
theorem dX7_ticksStill_0 : decode cX7_ticksStill 0 = .ok (.iconst 0, 1) := by decide +kernel
theorem dX7_ticksStill_1 : decode cX7_ticksStill 1 = .ok (.istore_n 1, 1) := by decide +kernel
theorem dX7_ticksStill_2 : decode cX7_ticksStill 2 = .ok (.iload_n 1, 1) := by decide +kernel
theorem dX7_ticksStill_3 : decode cX7_ticksStill 3 = .ok (.aload_n 0, 1) := by decide +kernel
theorem dX7_ticksStill_4 : decode cX7_ticksStill 4 = .ok (.getfield 124, 3) := by decide +kernel
theorem dX7_ticksStill_7 : decode cX7_ticksStill 7 = .ok (.if_icmp .ge 14, 3) := by decide +kernel
theorem dX7_ticksStill_10 : decode cX7_ticksStill 10 = .ok (.aload_n 0, 1) := by decide +kernel
theorem dX7_ticksStill_11 : decode cX7_ticksStill 11 = .ok (.iload_n 1, 1) := by decide +kernel
theorem dX7_ticksStill_12 : decode cX7_ticksStill 12 = .ok (.invokevirtual 205, 3) := by decide +kernel
theorem dX7_ticksStill_15 : decode cX7_ticksStill 15 = .ok (.iinc 1 1, 3) := by decide +kernel
theorem dX7_ticksStill_18 : decode cX7_ticksStill 18 = .ok (.goto (-16), 3) := by decide +kernel
theorem dX7_ticksStill_21 : decode cX7_ticksStill 21 = .ok (.aload_n 0, 1) := by decide +kernel
theorem dX7_ticksStill_22 : decode cX7_ticksStill 22 = .ok (.getfield 124, 3) := by decide +kernel
theorem dX7_ticksStill_25 : decode cX7_ticksStill 25 = .ok (.iconst 1, 1) := by decide +kernel
theorem dX7_ticksStill_26 : decode cX7_ticksStill 26 = .ok (.isub, 1) := by decide +kernel
theorem dX7_ticksStill_27 : decode cX7_ticksStill 27 = .ok (.istore_n 1, 1) := by decide +kernel
theorem dX7_ticksStill_28 : decode cX7_ticksStill 28 = .ok (.iload_n 1, 1) := by decide +kernel
theorem dX7_ticksStill_29 : decode cX7_ticksStill 29 = .ok (.ifCond .lt 14, 3) := by decide +kernel
theorem dX7_ticksStill_32 : decode cX7_ticksStill 32 = .ok (.aload_n 0, 1) := by decide +kernel
theorem dX7_ticksStill_33 : decode cX7_ticksStill 33 = .ok (.iload_n 1, 1) := by decide +kernel
theorem dX7_ticksStill_34 : decode cX7_ticksStill 34 = .ok (.invokevirtual 217, 3) := by decide +kernel
theorem dX7_ticksStill_37 : decode cX7_ticksStill 37 = .ok (.iinc 1 (-1), 3) := by decide +kernel
theorem dX7_ticksStill_40 : decode cX7_ticksStill 40 = .ok (.goto (-12), 3) := by decide +kernel
theorem dX7_ticksStill_43 : decode cX7_ticksStill 43 = .ok (.aload_n 0, 1) := by decide +kernel
theorem dX7_ticksStill_44 : decode cX7_ticksStill 44 = .ok (.getfield 22, 3) := by decide +kernel
theorem dX7_ticksStill_47 : decode cX7_ticksStill 47 = .ok (.sipush 1764, 3) := by decide +kernel
theorem dX7_ticksStill_50 : decode cX7_ticksStill 50 = .ok (.dup2, 1) := by decide +kernel
theorem dX7_ticksStill_51 : decode cX7_ticksStill 51 = .ok (.iaload, 1) := by decide +kernel
theorem dX7_ticksStill_52 : decode cX7_ticksStill 52 = .ok (.iconst 1, 1) := by decide +kernel
theorem dX7_ticksStill_53 : decode cX7_ticksStill 53 = .ok (.iadd, 1) := by decide +kernel
theorem dX7_ticksStill_54 : decode cX7_ticksStill 54 = .ok (.iastore, 1) := by decide +kernel
theorem dX7_ticksStill_55 : decode cX7_ticksStill 55 = .ok (.return_, 1) := by decide +kernel
set_option maxRecDepth 20000 in
theorem ggX7_healed_X7_isNet : GoodIn wsX7_healed wsX7_isNet := goodIn_r _ [6, 7, 84, 85, 86, 87, 88, 89, 90, 91, 92, 93, 94, 95, 96, 97, 98, 99, 100, 101, 102, 103, 104] (by decide +kernel) (by decide +kernel)
set_option maxRecDepth 20000 in
theorem gX7_healed_X7_isNet : GoodIn wsX7_healed (wsV RX7 136 RX7 yX7_isNet wsX7_isNet) := goodIn_app (goodIn_of _ (by decide +kernel)) ggX7_healed_X7_isNet
set_option maxRecDepth 20000 in
theorem ggX7_healed_X7_putAside : GoodIn wsX7_healed wsX7_putAside := goodIn_r _ [11, 12, 13, 84, 85, 86, 87, 88, 89, 90, 91, 92, 93, 94, 95, 96, 97, 98, 99, 100, 101, 102, 103, 104] (by decide +kernel) (by decide +kernel)
set_option maxRecDepth 20000 in
theorem gX7_healed_X7_putAside : GoodIn wsX7_healed (wsV RX7 256 RX7 yX7_putAside wsX7_putAside) := goodIn_app (goodIn_of _ (by decide +kernel)) ggX7_healed_X7_putAside
theorem qxX7_healed_0 : ∀ w ∈ ((wsX7_healed_r1 ++ (wsX7_healed_r2 ++ (wsX7_healed_r3 ++ wsX7_healed_r4))) ++ wsX70), w ∈ wsX7_healed := fun w h => List.mem_cons_of_mem _ h
theorem qxX7_healed_1 : ∀ w ∈ (wsX7_healed_r1 ++ (wsX7_healed_r2 ++ (wsX7_healed_r3 ++ wsX7_healed_r4))), w ∈ wsX7_healed := in_l qxX7_healed_0
theorem qxX7_healed_2 : ∀ w ∈ wsX70, w ∈ wsX7_healed := in_r qxX7_healed_0
theorem qxX7_healed_3 : ∀ w ∈ wsX7_healed_r1, w ∈ wsX7_healed := in_l qxX7_healed_1
theorem qxX7_healed_4 : ∀ w ∈ (wsX7_healed_r2 ++ (wsX7_healed_r3 ++ wsX7_healed_r4)), w ∈ wsX7_healed := in_r qxX7_healed_1
theorem qxX7_healed_5 : ∀ w ∈ wsX7_healed_r2, w ∈ wsX7_healed := in_l qxX7_healed_4
theorem qxX7_healed_6 : ∀ w ∈ (wsX7_healed_r3 ++ wsX7_healed_r4), w ∈ wsX7_healed := in_r qxX7_healed_4
theorem qxX7_healed_7 : ∀ w ∈ wsX7_healed_r3, w ∈ wsX7_healed := in_l qxX7_healed_6
theorem qxX7_healed_8 : ∀ w ∈ wsX7_healed_r4, w ∈ wsX7_healed := in_r qxX7_healed_6
def pxX7_healed : List (List Cond) := [wsX7_healed_r1, wsX7_healed_r2, wsX7_healed_r3, wsX7_healed_r4, wsX70]
theorem pxX7_healed_in : ∀ q ∈ pxX7_healed, ∀ w ∈ q, w ∈ wsX7_healed := lp_c qxX7_healed_3 (lp_c qxX7_healed_5 (lp_c qxX7_healed_7 (lp_c qxX7_healed_8 (lp_c qxX7_healed_2 (lp_n)))))
set_option maxRecDepth 20000 in
theorem ggX7_healed_X7_unknown : GoodIn wsX7_healed wsX7_unknown := goodIn_pp pxX7_healed pxX7_healed_in _ [(0, 16), (0, 6), (0, 17), (0, 12), (0, 18), (0, 19), (0, 4), (0, 20), (4, 0), (4, 1), (4, 2), (4, 3), (4, 4), (4, 5), (4, 6), (4, 7), (4, 8), (4, 9), (4, 10), (4, 11), (4, 12), (4, 13), (4, 14), (4, 15), (4, 16), (4, 17), (4, 18), (4, 19), (4, 20)] rfl (by decide +kernel)
set_option maxRecDepth 20000 in
theorem gX7_healed_X7_unknown : GoodIn wsX7_healed (wsV RX7 280 RX7 yX7_unknown wsX7_unknown) := goodIn_app (goodIn_of _ (by decide +kernel)) ggX7_healed_X7_unknown
set_option maxRecDepth 20000 in
theorem ggX7_healed_X7_ticksStill : GoodIn wsX7_healed wsX7_ticksStill := goodIn_pp pxX7_healed pxX7_healed_in _ [(1, 0), (0, 6), (0, 12), (1, 1), (1, 2), (1, 3), (0, 4), (1, 4), (0, 17), (1, 5), (1, 6), (1, 7), (1, 8), (1, 9), (1, 10), (0, 18), (0, 19), (0, 20), (1, 11), (1, 12), (1, 13), (1, 14), (1, 15), (1, 16), (1, 17), (1, 18), (1, 19), (1, 20), (1, 21), (1, 22), (1, 23), (2, 0), (2, 1), (2, 2), (2, 3), (2, 4), (2, 5), (2, 6), (2, 7), (2, 8), (2, 9), (2, 10), (2, 11), (2, 12), (2, 13), (2, 14), (2, 15), (2, 16), (2, 17), (2, 18), (2, 19), (2, 20), (2, 21), (2, 22), (2, 23), (3, 0), (3, 1), (3, 2), (3, 3), (3, 4), (3, 5), (3, 6), (4, 0), (4, 1), (4, 2), (4, 3), (4, 4), (4, 5), (4, 6), (4, 7), (4, 8), (4, 9), (4, 10), (4, 11), (4, 12), (4, 13), (4, 14), (4, 15), (4, 16), (4, 17), (4, 18), (4, 19), (4, 20)] rfl (by decide +kernel)
set_option maxRecDepth 20000 in
theorem gX7_healed_X7_ticksStill : GoodIn wsX7_healed (wsV RX7 283 RX7 yX7_ticksStill wsX7_ticksStill) := goodIn_app (goodIn_of _ (by decide +kernel)) ggX7_healed_X7_ticksStill
set_option maxRecDepth 20000 in
theorem ggX7_healed_X7_bringBack : GoodIn wsX7_healed wsX7_bringBack := goodIn_r _ [83, 13, 12, 84, 85, 86, 87, 88, 89, 90, 91, 92, 93, 94, 95, 96, 97, 98, 99, 100, 101, 102, 103, 104] (by decide +kernel) (by decide +kernel)
set_option maxRecDepth 20000 in
theorem gX7_healed_X7_bringBack : GoodIn wsX7_healed (wsV RX7 262 RX7 yX7_bringBack wsX7_bringBack) := goodIn_app (goodIn_of _ (by decide +kernel)) ggX7_healed_X7_bringBack
theorem dX7_healed_0 : decode cX7_healed 0 = .ok (.aload_n 0, 1) := by decide +kernel
theorem dX7_healed_1 : decode cX7_healed 1 = .ok (.iconst 0, 1) := by decide +kernel
theorem dX7_healed_2 : decode cX7_healed 2 = .ok (.putfield 49, 3) := by decide +kernel
theorem dX7_healed_5 : decode cX7_healed 5 = .ok (.aload_n 0, 1) := by decide +kernel
theorem dX7_healed_6 : decode cX7_healed 6 = .ok (.invokevirtual 136, 3) := by decide +kernel
theorem dX7_healed_9 : decode cX7_healed 9 = .ok (.ifCond .ne 5, 3) := by decide +kernel
theorem dX7_healed_12 : decode cX7_healed 12 = .ok (.iconst (-1), 1) := by decide +kernel
theorem dX7_healed_13 : decode cX7_healed 13 = .ok (.ireturn, 1) := by decide +kernel
theorem dX7_healed_14 : decode cX7_healed 14 = .ok (.aload_n 0, 1) := by decide +kernel
theorem dX7_healed_15 : decode cX7_healed 15 = .ok (.invokevirtual 256, 3) := by decide +kernel
theorem dX7_healed_18 : decode cX7_healed 18 = .ok (.iconst 0, 1) := by decide +kernel
theorem dX7_healed_19 : decode cX7_healed 19 = .ok (.istore_n 1, 1) := by decide +kernel
theorem dX7_healed_20 : decode cX7_healed 20 = .ok (.iload_n 1, 1) := by decide +kernel
theorem dX7_healed_21 : decode cX7_healed 21 = .ok (.sipush 200, 3) := by decide +kernel
theorem dX7_healed_24 : decode cX7_healed 24 = .ok (.if_icmp .gt 20, 3) := by decide +kernel
theorem dX7_healed_27 : decode cX7_healed 27 = .ok (.aload_n 0, 1) := by decide +kernel
theorem dX7_healed_28 : decode cX7_healed 28 = .ok (.invokevirtual 280, 3) := by decide +kernel
theorem dX7_healed_31 : decode cX7_healed 31 = .ok (.ifCond .le 13, 3) := by decide +kernel
theorem dX7_healed_34 : decode cX7_healed 34 = .ok (.aload_n 0, 1) := by decide +kernel
theorem dX7_healed_35 : decode cX7_healed 35 = .ok (.invokevirtual 283, 3) := by decide +kernel
theorem dX7_healed_38 : decode cX7_healed 38 = .ok (.iinc 1 1, 3) := by decide +kernel
theorem dX7_healed_41 : decode cX7_healed 41 = .ok (.goto (-21), 3) := by decide +kernel
theorem dX7_healed_44 : decode cX7_healed 44 = .ok (.aload_n 0, 1) := by decide +kernel
theorem dX7_healed_45 : decode cX7_healed 45 = .ok (.invokevirtual 262, 3) := by decide +kernel
theorem dX7_healed_48 : decode cX7_healed 48 = .ok (.iload_n 1, 1) := by decide +kernel
theorem dX7_healed_49 : decode cX7_healed 49 = .ok (.sipush 200, 3) := by decide +kernel
theorem dX7_healed_52 : decode cX7_healed 52 = .ok (.if_icmp .gt 7, 3) := by decide +kernel
theorem dX7_healed_55 : decode cX7_healed 55 = .ok (.iload_n 1, 1) := by decide +kernel
theorem dX7_healed_56 : decode cX7_healed 56 = .ok (.goto 4, 3) := by decide +kernel
theorem dX7_healed_59 : decode cX7_healed 59 = .ok (.iconst (-1), 1) := by decide +kernel
theorem dX7_healed_60 : decode cX7_healed 60 = .ok (.ireturn, 1) := by decide +kernel
set_option maxRecDepth 20000 in
theorem ggX7_deliveredJammed_X7_putAside : GoodIn wsX7_deliveredJammed wsX7_putAside := goodIn_r _ [7, 8, 2, 130, 131, 132, 133, 134, 135, 136, 137, 138, 139, 140, 141, 142, 143, 144, 145, 146, 147, 148, 149, 150] (by decide +kernel) (by decide +kernel)
set_option maxRecDepth 20000 in
theorem gX7_deliveredJammed_X7_putAside : GoodIn wsX7_deliveredJammed (wsV RX7 256 RX7 yX7_putAside wsX7_putAside) := goodIn_app (goodIn_of _ (by decide +kernel)) ggX7_deliveredJammed_X7_putAside
theorem qxX7_deliveredJammed_0 : ∀ w ∈ ((wsX7_deliveredJammed_r1 ++ (wsX7_deliveredJammed_r2 ++ (wsX7_deliveredJammed_r3 ++ (wsX7_deliveredJammed_r4 ++ (wsX7_deliveredJammed_r5 ++ wsX7_deliveredJammed_r6))))) ++ wsX70), w ∈ wsX7_deliveredJammed := fun w h => List.mem_cons_of_mem _ h
theorem qxX7_deliveredJammed_1 : ∀ w ∈ (wsX7_deliveredJammed_r1 ++ (wsX7_deliveredJammed_r2 ++ (wsX7_deliveredJammed_r3 ++ (wsX7_deliveredJammed_r4 ++ (wsX7_deliveredJammed_r5 ++ wsX7_deliveredJammed_r6))))), w ∈ wsX7_deliveredJammed := in_l qxX7_deliveredJammed_0
theorem qxX7_deliveredJammed_2 : ∀ w ∈ wsX70, w ∈ wsX7_deliveredJammed := in_r qxX7_deliveredJammed_0
theorem qxX7_deliveredJammed_3 : ∀ w ∈ wsX7_deliveredJammed_r1, w ∈ wsX7_deliveredJammed := in_l qxX7_deliveredJammed_1
theorem qxX7_deliveredJammed_4 : ∀ w ∈ (wsX7_deliveredJammed_r2 ++ (wsX7_deliveredJammed_r3 ++ (wsX7_deliveredJammed_r4 ++ (wsX7_deliveredJammed_r5 ++ wsX7_deliveredJammed_r6)))), w ∈ wsX7_deliveredJammed := in_r qxX7_deliveredJammed_1
theorem qxX7_deliveredJammed_5 : ∀ w ∈ wsX7_deliveredJammed_r2, w ∈ wsX7_deliveredJammed := in_l qxX7_deliveredJammed_4
theorem qxX7_deliveredJammed_6 : ∀ w ∈ (wsX7_deliveredJammed_r3 ++ (wsX7_deliveredJammed_r4 ++ (wsX7_deliveredJammed_r5 ++ wsX7_deliveredJammed_r6))), w ∈ wsX7_deliveredJammed := in_r qxX7_deliveredJammed_4
theorem qxX7_deliveredJammed_7 : ∀ w ∈ wsX7_deliveredJammed_r3, w ∈ wsX7_deliveredJammed := in_l qxX7_deliveredJammed_6
theorem qxX7_deliveredJammed_8 : ∀ w ∈ (wsX7_deliveredJammed_r4 ++ (wsX7_deliveredJammed_r5 ++ wsX7_deliveredJammed_r6)), w ∈ wsX7_deliveredJammed := in_r qxX7_deliveredJammed_6
theorem qxX7_deliveredJammed_9 : ∀ w ∈ wsX7_deliveredJammed_r4, w ∈ wsX7_deliveredJammed := in_l qxX7_deliveredJammed_8
theorem qxX7_deliveredJammed_10 : ∀ w ∈ (wsX7_deliveredJammed_r5 ++ wsX7_deliveredJammed_r6), w ∈ wsX7_deliveredJammed := in_r qxX7_deliveredJammed_8
theorem qxX7_deliveredJammed_11 : ∀ w ∈ wsX7_deliveredJammed_r5, w ∈ wsX7_deliveredJammed := in_l qxX7_deliveredJammed_10
theorem qxX7_deliveredJammed_12 : ∀ w ∈ wsX7_deliveredJammed_r6, w ∈ wsX7_deliveredJammed := in_r qxX7_deliveredJammed_10
def pxX7_deliveredJammed : List (List Cond) := [wsX7_deliveredJammed_r1, wsX7_deliveredJammed_r2, wsX7_deliveredJammed_r3, wsX7_deliveredJammed_r4, wsX7_deliveredJammed_r5, wsX7_deliveredJammed_r6, wsX70]
theorem pxX7_deliveredJammed_in : ∀ q ∈ pxX7_deliveredJammed, ∀ w ∈ q, w ∈ wsX7_deliveredJammed := lp_c qxX7_deliveredJammed_3 (lp_c qxX7_deliveredJammed_5 (lp_c qxX7_deliveredJammed_7 (lp_c qxX7_deliveredJammed_9 (lp_c qxX7_deliveredJammed_11 (lp_c qxX7_deliveredJammed_12 (lp_c qxX7_deliveredJammed_2 (lp_n)))))))
set_option maxRecDepth 20000 in
theorem ggX7_deliveredJammed_X7_deliveredIn : GoodIn wsX7_deliveredJammed wsX7_deliveredIn := goodIn_pp pxX7_deliveredJammed pxX7_deliveredJammed_in _ [(0, 11), (0, 12), (0, 13), (0, 14), (0, 5), (0, 15), (0, 16), (0, 1), (0, 17), (0, 18), (0, 19), (0, 20), (0, 21), (0, 22), (0, 23), (1, 0), (1, 1), (1, 2), (1, 3), (0, 0), (1, 4), (1, 5), (1, 6), (1, 7), (1, 8), (1, 9), (1, 10), (1, 11), (1, 12), (1, 13), (1, 14), (1, 15), (1, 16), (1, 17), (1, 18), (1, 19), (1, 20), (1, 21), (1, 22), (1, 23), (2, 0), (2, 1), (2, 2), (2, 3), (2, 4), (2, 5), (2, 6), (2, 7), (2, 8), (2, 9), (2, 10), (2, 11), (2, 12), (2, 13), (2, 14), (2, 15), (2, 16), (2, 17), (2, 18), (2, 19), (2, 20), (2, 21), (2, 22), (2, 23), (3, 0), (3, 1), (3, 2), (3, 3), (3, 4), (3, 5), (3, 6), (3, 7), (3, 8), (3, 9), (3, 10), (3, 11), (3, 12), (3, 13), (3, 14), (3, 15), (3, 16), (3, 17), (3, 18), (3, 19), (3, 20), (3, 21), (3, 22), (3, 23), (4, 0), (4, 1), (4, 2), (4, 3), (4, 4), (4, 5), (4, 6), (4, 7), (4, 8), (4, 9), (4, 10), (4, 11), (4, 12), (4, 13), (4, 14), (4, 15), (4, 16), (4, 17), (4, 18), (4, 19), (4, 20), (4, 21), (4, 22), (4, 23), (5, 0), (5, 1), (5, 2), (5, 3), (5, 4), (5, 5), (5, 6), (5, 7), (5, 8), (0, 7), (6, 0), (6, 1), (6, 2), (6, 3), (6, 4), (6, 5), (6, 6), (6, 7), (6, 8), (6, 9), (6, 10), (6, 11), (6, 12), (6, 13), (6, 14), (6, 15), (6, 16), (6, 17), (6, 18), (6, 19), (6, 20)] rfl (by decide +kernel)
set_option maxRecDepth 20000 in
theorem gX7_deliveredJammed_X7_deliveredIn : GoodIn wsX7_deliveredJammed (wsV RX7 268 RX7 yX7_deliveredIn wsX7_deliveredIn) := goodIn_app (goodIn_of _ (by decide +kernel)) ggX7_deliveredJammed_X7_deliveredIn
theorem dX7_deliveredJammed_0 : decode cX7_deliveredJammed 0 = .ok (.aload_n 0, 1) := by decide +kernel
theorem dX7_deliveredJammed_1 : decode cX7_deliveredJammed 1 = .ok (.invokevirtual 256, 3) := by decide +kernel
theorem dX7_deliveredJammed_4 : decode cX7_deliveredJammed 4 = .ok (.iconst 0, 1) := by decide +kernel
theorem dX7_deliveredJammed_5 : decode cX7_deliveredJammed 5 = .ok (.istore_n 3, 1) := by decide +kernel
theorem dX7_deliveredJammed_6 : decode cX7_deliveredJammed 6 = .ok (.iload_n 3, 1) := by decide +kernel
theorem dX7_deliveredJammed_7 : decode cX7_deliveredJammed 7 = .ok (.aload_n 0, 1) := by decide +kernel
theorem dX7_deliveredJammed_8 : decode cX7_deliveredJammed 8 = .ok (.getfield 124, 3) := by decide +kernel
theorem dX7_deliveredJammed_11 : decode cX7_deliveredJammed 11 = .ok (.if_icmp .ge 19, 3) := by decide +kernel
theorem dX7_deliveredJammed_14 : decode cX7_deliveredJammed 14 = .ok (.aload_n 0, 1) := by decide +kernel
theorem dX7_deliveredJammed_15 : decode cX7_deliveredJammed 15 = .ok (.getfield 22, 3) := by decide +kernel
theorem dX7_deliveredJammed_18 : decode cX7_deliveredJammed 18 = .ok (.bipush 63, 2) := by decide +kernel
theorem dX7_deliveredJammed_20 : decode cX7_deliveredJammed 20 = .ok (.iload_n 3, 1) := by decide +kernel
theorem dX7_deliveredJammed_21 : decode cX7_deliveredJammed 21 = .ok (.iadd, 1) := by decide +kernel
theorem dX7_deliveredJammed_22 : decode cX7_deliveredJammed 22 = .ok (.iload_n 1, 1) := by decide +kernel
theorem dX7_deliveredJammed_23 : decode cX7_deliveredJammed 23 = .ok (.iastore, 1) := by decide +kernel
theorem dX7_deliveredJammed_24 : decode cX7_deliveredJammed 24 = .ok (.iinc 3 1, 3) := by decide +kernel
theorem dX7_deliveredJammed_27 : decode cX7_deliveredJammed 27 = .ok (.goto (-21), 3) := by decide +kernel
theorem dX7_deliveredJammed_30 : decode cX7_deliveredJammed 30 = .ok (.aload_n 0, 1) := by decide +kernel
theorem dX7_deliveredJammed_31 : decode cX7_deliveredJammed 31 = .ok (.iconst (-1), 1) := by decide +kernel
theorem dX7_deliveredJammed_32 : decode cX7_deliveredJammed 32 = .ok (.iload_n 2, 1) := by decide +kernel
theorem dX7_deliveredJammed_33 : decode cX7_deliveredJammed 33 = .ok (.invokevirtual 268, 3) := by decide +kernel
theorem dX7_deliveredJammed_36 : decode cX7_deliveredJammed 36 = .ok (.ireturn, 1) := by decide +kernel
set_option maxRecDepth 20000 in
theorem ggX7_loss_X7_isNet : GoodIn wsX7_loss wsX7_isNet := goodIn_r _ [7, 8, 150, 151, 152, 153, 154, 155, 156, 157, 158, 159, 160, 161, 162, 163, 164, 165, 166, 167, 168, 169, 170] (by decide +kernel) (by decide +kernel)
set_option maxRecDepth 20000 in
theorem gX7_loss_X7_isNet : GoodIn wsX7_loss (wsV RX7 136 RX7 yX7_isNet wsX7_isNet) := goodIn_app (goodIn_of _ (by decide +kernel)) ggX7_loss_X7_isNet
set_option maxRecDepth 20000 in
theorem ggX7_loss_X7_in : GoodIn wsX7_loss wsX7_in := goodIn_r _ [11] (by decide +kernel) (by decide +kernel)
set_option maxRecDepth 20000 in
theorem gX7_loss_X7_in : GoodIn wsX7_loss (va_wsS RX7 60 yX7_in wsX7_in) := goodIn_app (goodIn_of _ (by decide +kernel)) ggX7_loss_X7_in
set_option maxRecDepth 20000 in
theorem ggX7_loss_X7_isSpan : GoodIn wsX7_loss wsX7_isSpan := goodIn_r _ [14, 9, 10, 6, 11] (by decide +kernel) (by decide +kernel)
set_option maxRecDepth 20000 in
theorem gX7_loss_X7_isSpan : GoodIn wsX7_loss (va_wsS RX7 253 yX7_isSpan wsX7_isSpan) := goodIn_app (goodIn_of _ (by decide +kernel)) ggX7_loss_X7_isSpan
theorem qxX7_loss_0 : ∀ w ∈ ((wsX7_loss_r1 ++ (wsX7_loss_r2 ++ (wsX7_loss_r3 ++ (wsX7_loss_r4 ++ (wsX7_loss_r5 ++ (wsX7_loss_r6 ++ wsX7_loss_r7)))))) ++ wsX70), w ∈ wsX7_loss := fun w h => List.mem_cons_of_mem _ h
theorem qxX7_loss_1 : ∀ w ∈ (wsX7_loss_r1 ++ (wsX7_loss_r2 ++ (wsX7_loss_r3 ++ (wsX7_loss_r4 ++ (wsX7_loss_r5 ++ (wsX7_loss_r6 ++ wsX7_loss_r7)))))), w ∈ wsX7_loss := in_l qxX7_loss_0
theorem qxX7_loss_2 : ∀ w ∈ wsX70, w ∈ wsX7_loss := in_r qxX7_loss_0
theorem qxX7_loss_3 : ∀ w ∈ wsX7_loss_r1, w ∈ wsX7_loss := in_l qxX7_loss_1
theorem qxX7_loss_4 : ∀ w ∈ (wsX7_loss_r2 ++ (wsX7_loss_r3 ++ (wsX7_loss_r4 ++ (wsX7_loss_r5 ++ (wsX7_loss_r6 ++ wsX7_loss_r7))))), w ∈ wsX7_loss := in_r qxX7_loss_1
theorem qxX7_loss_5 : ∀ w ∈ wsX7_loss_r2, w ∈ wsX7_loss := in_l qxX7_loss_4
theorem qxX7_loss_6 : ∀ w ∈ (wsX7_loss_r3 ++ (wsX7_loss_r4 ++ (wsX7_loss_r5 ++ (wsX7_loss_r6 ++ wsX7_loss_r7)))), w ∈ wsX7_loss := in_r qxX7_loss_4
theorem qxX7_loss_7 : ∀ w ∈ wsX7_loss_r3, w ∈ wsX7_loss := in_l qxX7_loss_6
theorem qxX7_loss_8 : ∀ w ∈ (wsX7_loss_r4 ++ (wsX7_loss_r5 ++ (wsX7_loss_r6 ++ wsX7_loss_r7))), w ∈ wsX7_loss := in_r qxX7_loss_6
theorem qxX7_loss_9 : ∀ w ∈ wsX7_loss_r4, w ∈ wsX7_loss := in_l qxX7_loss_8
theorem qxX7_loss_10 : ∀ w ∈ (wsX7_loss_r5 ++ (wsX7_loss_r6 ++ wsX7_loss_r7)), w ∈ wsX7_loss := in_r qxX7_loss_8
theorem qxX7_loss_11 : ∀ w ∈ wsX7_loss_r5, w ∈ wsX7_loss := in_l qxX7_loss_10
theorem qxX7_loss_12 : ∀ w ∈ (wsX7_loss_r6 ++ wsX7_loss_r7), w ∈ wsX7_loss := in_r qxX7_loss_10
theorem qxX7_loss_13 : ∀ w ∈ wsX7_loss_r6, w ∈ wsX7_loss := in_l qxX7_loss_12
theorem qxX7_loss_14 : ∀ w ∈ wsX7_loss_r7, w ∈ wsX7_loss := in_r qxX7_loss_12
def pxX7_loss : List (List Cond) := [wsX7_loss_r1, wsX7_loss_r2, wsX7_loss_r3, wsX7_loss_r4, wsX7_loss_r5, wsX7_loss_r6, wsX7_loss_r7, wsX70]
theorem pxX7_loss_in : ∀ q ∈ pxX7_loss, ∀ w ∈ q, w ∈ wsX7_loss := lp_c qxX7_loss_3 (lp_c qxX7_loss_5 (lp_c qxX7_loss_7 (lp_c qxX7_loss_9 (lp_c qxX7_loss_11 (lp_c qxX7_loss_13 (lp_c qxX7_loss_14 (lp_c qxX7_loss_2 (lp_n))))))))
set_option maxRecDepth 20000 in
theorem ggX7_loss_X7_lossOf : GoodIn wsX7_loss wsX7_lossOf := goodIn_pp pxX7_loss pxX7_loss_in _ [(0, 17), (0, 18), (0, 19), (0, 20), (0, 5), (0, 21), (0, 22), (0, 23), (1, 0), (1, 1), (1, 2), (1, 3), (1, 4), (1, 5), (1, 6), (1, 7), (1, 8), (1, 9), (1, 10), (1, 11), (1, 12), (1, 13), (1, 14), (1, 15), (1, 16), (1, 17), (1, 18), (1, 19), (0, 7), (1, 20), (1, 21), (1, 22), (1, 23), (2, 0), (2, 1), (2, 2), (2, 3), (2, 4), (2, 5), (2, 6), (2, 7), (2, 8), (2, 9), (2, 10), (2, 11), (2, 12), (2, 13), (2, 14), (2, 15), (2, 16), (2, 17), (2, 18), (2, 19), (2, 20), (2, 21), (2, 22), (2, 23), (3, 0), (3, 1), (3, 2), (3, 3), (3, 4), (3, 5), (3, 6), (3, 7), (3, 8), (3, 9), (3, 10), (3, 11), (3, 12), (3, 13), (3, 14), (3, 15), (3, 16), (3, 17), (3, 18), (3, 19), (3, 20), (3, 21), (3, 22), (3, 23), (4, 0), (4, 1), (4, 2), (4, 3), (4, 4), (4, 5), (4, 6), (4, 7), (4, 8), (4, 9), (4, 10), (4, 11), (4, 12), (4, 13), (4, 14), (4, 15), (4, 16), (4, 17), (4, 18), (4, 19), (4, 20), (4, 21), (4, 22), (4, 23), (5, 0), (5, 1), (5, 2), (5, 3), (5, 4), (5, 5), (5, 6), (5, 7), (5, 8), (5, 9), (5, 10), (5, 11), (5, 12), (5, 13), (5, 14), (5, 15), (5, 16), (5, 17), (5, 18), (5, 19), (5, 20), (5, 21), (5, 22), (5, 23), (6, 0), (6, 1), (6, 2), (6, 3), (6, 4), (7, 0), (7, 1), (7, 2), (7, 3), (7, 4), (7, 5), (7, 6), (7, 7), (7, 8), (7, 9), (7, 10), (7, 11), (7, 12), (7, 13), (7, 14), (7, 15), (7, 16), (7, 17), (7, 18), (7, 19), (7, 20)] rfl (by decide +kernel)
set_option maxRecDepth 20000 in
theorem gX7_loss_X7_lossOf : GoodIn wsX7_loss (wsV RX7 286 RX7 yX7_lossOf wsX7_lossOf) := goodIn_app (goodIn_of _ (by decide +kernel)) ggX7_loss_X7_lossOf
theorem dX7_loss_0 : decode cX7_loss 0 = .ok (.aload_n 0, 1) := by decide +kernel
theorem dX7_loss_1 : decode cX7_loss 1 = .ok (.iconst 0, 1) := by decide +kernel
theorem dX7_loss_2 : decode cX7_loss 2 = .ok (.putfield 49, 3) := by decide +kernel
theorem dX7_loss_5 : decode cX7_loss 5 = .ok (.aload_n 0, 1) := by decide +kernel
theorem dX7_loss_6 : decode cX7_loss 6 = .ok (.invokevirtual 136, 3) := by decide +kernel
theorem dX7_loss_9 : decode cX7_loss 9 = .ok (.ifCond .eq 30, 3) := by decide +kernel
theorem dX7_loss_12 : decode cX7_loss 12 = .ok (.iload_n 1, 1) := by decide +kernel
theorem dX7_loss_13 : decode cX7_loss 13 = .ok (.iconst 1, 1) := by decide +kernel
theorem dX7_loss_14 : decode cX7_loss 14 = .ok (.bipush 9, 2) := by decide +kernel
theorem dX7_loss_16 : decode cX7_loss 16 = .ok (.invokestatic 60, 3) := by decide +kernel
theorem dX7_loss_19 : decode cX7_loss 19 = .ok (.ifCond .eq 20, 3) := by decide +kernel
theorem dX7_loss_22 : decode cX7_loss 22 = .ok (.iload_n 2, 1) := by decide +kernel
theorem dX7_loss_23 : decode cX7_loss 23 = .ok (.iconst 1, 1) := by decide +kernel
theorem dX7_loss_24 : decode cX7_loss 24 = .ok (.invokestatic 253, 3) := by decide +kernel
theorem dX7_loss_27 : decode cX7_loss 27 = .ok (.ifCond .eq 12, 3) := by decide +kernel
theorem dX7_loss_30 : decode cX7_loss 30 = .ok (.aload_n 0, 1) := by decide +kernel
theorem dX7_loss_31 : decode cX7_loss 31 = .ok (.iload_n 1, 1) := by decide +kernel
theorem dX7_loss_32 : decode cX7_loss 32 = .ok (.iload_n 2, 1) := by decide +kernel
theorem dX7_loss_33 : decode cX7_loss 33 = .ok (.invokevirtual 286, 3) := by decide +kernel
theorem dX7_loss_36 : decode cX7_loss 36 = .ok (.goto 5, 3) := by decide +kernel
theorem dX7_loss_39 : decode cX7_loss 39 = .ok (.ldc 236, 2) := by decide +kernel
theorem dX7_loss_41 : decode cX7_loss 41 = .ok (.ireturn, 1) := by decide +kernel
set_option maxRecDepth 20000 in
theorem ggX7_lossOf_X7_putAside : GoodIn wsX7_lossOf wsX7_putAside := goodIn_r _ [5, 6, 7, 134, 135, 136, 137, 138, 139, 140, 141, 142, 143, 144, 145, 146, 147, 148, 149, 150, 151, 152, 153, 154] (by decide +kernel) (by decide +kernel)
set_option maxRecDepth 20000 in
theorem gX7_lossOf_X7_putAside : GoodIn wsX7_lossOf (wsV RX7 256 RX7 yX7_putAside wsX7_putAside) := goodIn_app (goodIn_of _ (by decide +kernel)) ggX7_lossOf_X7_putAside
theorem qxX7_lossOf_0 : ∀ w ∈ ((wsX7_lossOf_r1 ++ (wsX7_lossOf_r2 ++ (wsX7_lossOf_r3 ++ (wsX7_lossOf_r4 ++ (wsX7_lossOf_r5 ++ wsX7_lossOf_r6))))) ++ wsX70), w ∈ wsX7_lossOf := fun w h => List.mem_cons_of_mem _ h
theorem qxX7_lossOf_1 : ∀ w ∈ (wsX7_lossOf_r1 ++ (wsX7_lossOf_r2 ++ (wsX7_lossOf_r3 ++ (wsX7_lossOf_r4 ++ (wsX7_lossOf_r5 ++ wsX7_lossOf_r6))))), w ∈ wsX7_lossOf := in_l qxX7_lossOf_0
theorem qxX7_lossOf_2 : ∀ w ∈ wsX70, w ∈ wsX7_lossOf := in_r qxX7_lossOf_0
theorem qxX7_lossOf_3 : ∀ w ∈ wsX7_lossOf_r1, w ∈ wsX7_lossOf := in_l qxX7_lossOf_1
theorem qxX7_lossOf_4 : ∀ w ∈ (wsX7_lossOf_r2 ++ (wsX7_lossOf_r3 ++ (wsX7_lossOf_r4 ++ (wsX7_lossOf_r5 ++ wsX7_lossOf_r6)))), w ∈ wsX7_lossOf := in_r qxX7_lossOf_1
theorem qxX7_lossOf_5 : ∀ w ∈ wsX7_lossOf_r2, w ∈ wsX7_lossOf := in_l qxX7_lossOf_4
theorem qxX7_lossOf_6 : ∀ w ∈ (wsX7_lossOf_r3 ++ (wsX7_lossOf_r4 ++ (wsX7_lossOf_r5 ++ wsX7_lossOf_r6))), w ∈ wsX7_lossOf := in_r qxX7_lossOf_4
theorem qxX7_lossOf_7 : ∀ w ∈ wsX7_lossOf_r3, w ∈ wsX7_lossOf := in_l qxX7_lossOf_6
theorem qxX7_lossOf_8 : ∀ w ∈ (wsX7_lossOf_r4 ++ (wsX7_lossOf_r5 ++ wsX7_lossOf_r6)), w ∈ wsX7_lossOf := in_r qxX7_lossOf_6
theorem qxX7_lossOf_9 : ∀ w ∈ wsX7_lossOf_r4, w ∈ wsX7_lossOf := in_l qxX7_lossOf_8
theorem qxX7_lossOf_10 : ∀ w ∈ (wsX7_lossOf_r5 ++ wsX7_lossOf_r6), w ∈ wsX7_lossOf := in_r qxX7_lossOf_8
theorem qxX7_lossOf_11 : ∀ w ∈ wsX7_lossOf_r5, w ∈ wsX7_lossOf := in_l qxX7_lossOf_10
theorem qxX7_lossOf_12 : ∀ w ∈ wsX7_lossOf_r6, w ∈ wsX7_lossOf := in_r qxX7_lossOf_10
def pxX7_lossOf : List (List Cond) := [wsX7_lossOf_r1, wsX7_lossOf_r2, wsX7_lossOf_r3, wsX7_lossOf_r4, wsX7_lossOf_r5, wsX7_lossOf_r6, wsX70]
theorem pxX7_lossOf_in : ∀ q ∈ pxX7_lossOf, ∀ w ∈ q, w ∈ wsX7_lossOf := lp_c qxX7_lossOf_3 (lp_c qxX7_lossOf_5 (lp_c qxX7_lossOf_7 (lp_c qxX7_lossOf_9 (lp_c qxX7_lossOf_11 (lp_c qxX7_lossOf_12 (lp_c qxX7_lossOf_2 (lp_n)))))))
set_option maxRecDepth 20000 in
theorem ggX7_lossOf_X7_deliveredIn : GoodIn wsX7_lossOf wsX7_deliveredIn := goodIn_pp pxX7_lossOf pxX7_lossOf_in _ [(0, 10), (0, 11), (0, 12), (0, 13), (0, 3), (0, 14), (0, 15), (0, 6), (0, 16), (0, 17), (0, 18), (0, 19), (0, 20), (0, 21), (0, 22), (0, 23), (1, 0), (1, 1), (1, 2), (1, 3), (1, 4), (1, 5), (1, 6), (1, 7), (1, 8), (1, 9), (1, 10), (1, 11), (1, 12), (1, 13), (1, 14), (1, 15), (1, 16), (1, 17), (1, 18), (1, 19), (1, 20), (1, 21), (1, 22), (1, 23), (2, 0), (2, 1), (2, 2), (2, 3), (2, 4), (2, 5), (2, 6), (2, 7), (2, 8), (2, 9), (2, 10), (2, 11), (2, 12), (2, 13), (2, 14), (2, 15), (2, 16), (2, 17), (2, 18), (2, 19), (2, 20), (2, 21), (2, 22), (2, 23), (3, 0), (3, 1), (3, 2), (3, 3), (3, 4), (3, 5), (3, 6), (3, 7), (3, 8), (3, 9), (3, 10), (3, 11), (3, 12), (3, 13), (3, 14), (3, 15), (3, 16), (3, 17), (3, 18), (3, 19), (3, 20), (3, 21), (3, 22), (3, 23), (4, 0), (4, 1), (4, 2), (4, 3), (4, 4), (4, 5), (4, 6), (4, 7), (4, 8), (4, 9), (4, 10), (4, 11), (4, 12), (4, 13), (4, 14), (4, 15), (4, 16), (4, 17), (4, 18), (4, 19), (4, 20), (4, 21), (4, 22), (4, 23), (5, 0), (5, 1), (5, 2), (5, 3), (5, 4), (5, 5), (5, 6), (5, 7), (5, 8), (0, 5), (6, 0), (6, 1), (6, 2), (6, 3), (6, 4), (6, 5), (6, 6), (6, 7), (6, 8), (6, 9), (6, 10), (6, 11), (6, 12), (6, 13), (6, 14), (6, 15), (6, 16), (6, 17), (6, 18), (6, 19), (6, 20)] rfl (by decide +kernel)
set_option maxRecDepth 20000 in
theorem gX7_lossOf_X7_deliveredIn : GoodIn wsX7_lossOf (wsV RX7 268 RX7 yX7_deliveredIn wsX7_deliveredIn) := goodIn_app (goodIn_of _ (by decide +kernel)) ggX7_lossOf_X7_deliveredIn
set_option maxRecDepth 20000 in
theorem ggX7_lossOf_X7_deliveredJammed : GoodIn wsX7_lossOf wsX7_deliveredJammed := goodIn_pp pxX7_lossOf pxX7_lossOf_in _ [(5, 12), (1, 3), (0, 6), (0, 0), (0, 1), (0, 2), (0, 3), (0, 4), (0, 5), (0, 7), (0, 8), (0, 9), (0, 10), (0, 11), (0, 12), (0, 13), (0, 14), (0, 15), (0, 16), (0, 17), (0, 18), (0, 19), (0, 20), (0, 21), (0, 22), (0, 23), (1, 0), (1, 1), (1, 2), (1, 4), (1, 5), (1, 6), (1, 7), (1, 8), (1, 9), (1, 10), (1, 11), (1, 12), (1, 13), (1, 14), (1, 15), (1, 16), (1, 17), (1, 18), (1, 19), (1, 20), (1, 21), (1, 22), (1, 23), (2, 0), (2, 1), (2, 2), (2, 3), (2, 4), (2, 5), (2, 6), (2, 7), (2, 8), (2, 9), (2, 10), (2, 11), (2, 12), (2, 13), (2, 14), (2, 15), (2, 16), (2, 17), (2, 18), (2, 19), (2, 20), (2, 21), (2, 22), (2, 23), (3, 0), (3, 1), (3, 2), (3, 3), (3, 4), (3, 5), (3, 6), (3, 7), (3, 8), (3, 9), (3, 10), (3, 11), (3, 12), (3, 13), (3, 14), (3, 15), (3, 16), (3, 17), (3, 18), (3, 19), (3, 20), (3, 21), (3, 22), (3, 23), (4, 0), (4, 1), (4, 2), (4, 3), (4, 4), (4, 5), (4, 6), (4, 7), (4, 8), (4, 9), (4, 10), (4, 11), (4, 12), (4, 13), (4, 14), (4, 15), (4, 16), (4, 17), (4, 18), (4, 19), (4, 20), (4, 21), (4, 22), (4, 23), (5, 0), (5, 1), (5, 2), (5, 3), (5, 4), (5, 5), (5, 6), (5, 7), (5, 8), (6, 0), (6, 1), (6, 2), (6, 3), (6, 4), (6, 5), (6, 6), (6, 7), (6, 8), (6, 9), (6, 10), (6, 11), (6, 12), (6, 13), (6, 14), (6, 15), (6, 16), (6, 17), (6, 18), (6, 19), (6, 20)] rfl (by decide +kernel)
set_option maxRecDepth 20000 in
theorem gX7_lossOf_X7_deliveredJammed : GoodIn wsX7_lossOf (wsV RX7 289 RX7 yX7_deliveredJammed wsX7_deliveredJammed) := goodIn_app (goodIn_of _ (by decide +kernel)) ggX7_lossOf_X7_deliveredJammed
theorem dX7_lossOf_0 : decode cX7_lossOf 0 = .ok (.aload_n 0, 1) := by decide +kernel
theorem dX7_lossOf_1 : decode cX7_lossOf 1 = .ok (.invokevirtual 256, 3) := by decide +kernel
theorem dX7_lossOf_4 : decode cX7_lossOf 4 = .ok (.aload_n 0, 1) := by decide +kernel
theorem dX7_lossOf_5 : decode cX7_lossOf 5 = .ok (.iconst (-1), 1) := by decide +kernel
theorem dX7_lossOf_6 : decode cX7_lossOf 6 = .ok (.iload_n 2, 1) := by decide +kernel
theorem dX7_lossOf_7 : decode cX7_lossOf 7 = .ok (.invokevirtual 268, 3) := by decide +kernel
theorem dX7_lossOf_10 : decode cX7_lossOf 10 = .ok (.istore_n 3, 1) := by decide +kernel
theorem dX7_lossOf_11 : decode cX7_lossOf 11 = .ok (.iload_n 3, 1) := by decide +kernel
theorem dX7_lossOf_12 : decode cX7_lossOf 12 = .ok (.aload_n 0, 1) := by decide +kernel
theorem dX7_lossOf_13 : decode cX7_lossOf 13 = .ok (.iload_n 1, 1) := by decide +kernel
theorem dX7_lossOf_14 : decode cX7_lossOf 14 = .ok (.iload_n 2, 1) := by decide +kernel
theorem dX7_lossOf_15 : decode cX7_lossOf 15 = .ok (.invokevirtual 289, 3) := by decide +kernel
theorem dX7_lossOf_18 : decode cX7_lossOf 18 = .ok (.isub, 1) := by decide +kernel
theorem dX7_lossOf_19 : decode cX7_lossOf 19 = .ok (.ireturn, 1) := by decide +kernel
set_option maxRecDepth 20000 in
theorem ggX7_bears_X7_isNet : GoodIn wsX7_bears wsX7_isNet := goodIn_r _ [6, 7, 149, 150, 151, 152, 153, 154, 155, 156, 157, 158, 159, 160, 161, 162, 163, 164, 165, 166, 167, 168, 169] (by decide +kernel) (by decide +kernel)
set_option maxRecDepth 20000 in
theorem gX7_bears_X7_isNet : GoodIn wsX7_bears (wsV RX7 136 RX7 yX7_isNet wsX7_isNet) := goodIn_app (goodIn_of _ (by decide +kernel)) ggX7_bears_X7_isNet
set_option maxRecDepth 20000 in
theorem ggX7_bears_X7_isSpan : GoodIn wsX7_bears wsX7_isSpan := goodIn_r _ [10, 11, 12, 5, 13] (by decide +kernel) (by decide +kernel)
set_option maxRecDepth 20000 in
theorem gX7_bears_X7_isSpan : GoodIn wsX7_bears (va_wsS RX7 253 yX7_isSpan wsX7_isSpan) := goodIn_app (goodIn_of _ (by decide +kernel)) ggX7_bears_X7_isSpan
theorem qxX7_bears_0 : ∀ w ∈ ((wsX7_bears_r1 ++ (wsX7_bears_r2 ++ (wsX7_bears_r3 ++ (wsX7_bears_r4 ++ (wsX7_bears_r5 ++ (wsX7_bears_r6 ++ wsX7_bears_r7)))))) ++ wsX70), w ∈ wsX7_bears := fun w h => List.mem_cons_of_mem _ h
theorem qxX7_bears_1 : ∀ w ∈ (wsX7_bears_r1 ++ (wsX7_bears_r2 ++ (wsX7_bears_r3 ++ (wsX7_bears_r4 ++ (wsX7_bears_r5 ++ (wsX7_bears_r6 ++ wsX7_bears_r7)))))), w ∈ wsX7_bears := in_l qxX7_bears_0
theorem qxX7_bears_2 : ∀ w ∈ wsX70, w ∈ wsX7_bears := in_r qxX7_bears_0
theorem qxX7_bears_3 : ∀ w ∈ wsX7_bears_r1, w ∈ wsX7_bears := in_l qxX7_bears_1
theorem qxX7_bears_4 : ∀ w ∈ (wsX7_bears_r2 ++ (wsX7_bears_r3 ++ (wsX7_bears_r4 ++ (wsX7_bears_r5 ++ (wsX7_bears_r6 ++ wsX7_bears_r7))))), w ∈ wsX7_bears := in_r qxX7_bears_1
theorem qxX7_bears_5 : ∀ w ∈ wsX7_bears_r2, w ∈ wsX7_bears := in_l qxX7_bears_4
theorem qxX7_bears_6 : ∀ w ∈ (wsX7_bears_r3 ++ (wsX7_bears_r4 ++ (wsX7_bears_r5 ++ (wsX7_bears_r6 ++ wsX7_bears_r7)))), w ∈ wsX7_bears := in_r qxX7_bears_4
theorem qxX7_bears_7 : ∀ w ∈ wsX7_bears_r3, w ∈ wsX7_bears := in_l qxX7_bears_6
theorem qxX7_bears_8 : ∀ w ∈ (wsX7_bears_r4 ++ (wsX7_bears_r5 ++ (wsX7_bears_r6 ++ wsX7_bears_r7))), w ∈ wsX7_bears := in_r qxX7_bears_6
theorem qxX7_bears_9 : ∀ w ∈ wsX7_bears_r4, w ∈ wsX7_bears := in_l qxX7_bears_8
theorem qxX7_bears_10 : ∀ w ∈ (wsX7_bears_r5 ++ (wsX7_bears_r6 ++ wsX7_bears_r7)), w ∈ wsX7_bears := in_r qxX7_bears_8
theorem qxX7_bears_11 : ∀ w ∈ wsX7_bears_r5, w ∈ wsX7_bears := in_l qxX7_bears_10
theorem qxX7_bears_12 : ∀ w ∈ (wsX7_bears_r6 ++ wsX7_bears_r7), w ∈ wsX7_bears := in_r qxX7_bears_10
theorem qxX7_bears_13 : ∀ w ∈ wsX7_bears_r6, w ∈ wsX7_bears := in_l qxX7_bears_12
theorem qxX7_bears_14 : ∀ w ∈ wsX7_bears_r7, w ∈ wsX7_bears := in_r qxX7_bears_12
def pxX7_bears : List (List Cond) := [wsX7_bears_r1, wsX7_bears_r2, wsX7_bears_r3, wsX7_bears_r4, wsX7_bears_r5, wsX7_bears_r6, wsX7_bears_r7, wsX70]
theorem pxX7_bears_in : ∀ q ∈ pxX7_bears, ∀ w ∈ q, w ∈ wsX7_bears := lp_c qxX7_bears_3 (lp_c qxX7_bears_5 (lp_c qxX7_bears_7 (lp_c qxX7_bears_9 (lp_c qxX7_bears_11 (lp_c qxX7_bears_13 (lp_c qxX7_bears_14 (lp_c qxX7_bears_2 (lp_n))))))))
set_option maxRecDepth 20000 in
theorem ggX7_bears_X7_lossOf : GoodIn wsX7_bears wsX7_lossOf := goodIn_pp pxX7_bears pxX7_bears_in _ [(0, 16), (0, 17), (0, 18), (0, 19), (0, 4), (0, 20), (0, 21), (0, 22), (0, 23), (1, 0), (1, 1), (1, 2), (1, 3), (1, 4), (1, 5), (1, 6), (1, 7), (1, 8), (1, 9), (1, 10), (1, 11), (1, 12), (1, 13), (1, 14), (1, 15), (1, 16), (1, 17), (1, 18), (0, 6), (1, 19), (1, 20), (1, 21), (1, 22), (1, 23), (2, 0), (2, 1), (2, 2), (2, 3), (2, 4), (2, 5), (2, 6), (2, 7), (2, 8), (2, 9), (2, 10), (2, 11), (2, 12), (2, 13), (2, 14), (2, 15), (2, 16), (2, 17), (2, 18), (2, 19), (2, 20), (2, 21), (2, 22), (2, 23), (3, 0), (3, 1), (3, 2), (3, 3), (3, 4), (3, 5), (3, 6), (3, 7), (3, 8), (3, 9), (3, 10), (3, 11), (3, 12), (3, 13), (3, 14), (3, 15), (3, 16), (3, 17), (3, 18), (3, 19), (3, 20), (3, 21), (3, 22), (3, 23), (4, 0), (4, 1), (4, 2), (4, 3), (4, 4), (4, 5), (4, 6), (4, 7), (4, 8), (4, 9), (4, 10), (4, 11), (4, 12), (4, 13), (4, 14), (4, 15), (4, 16), (4, 17), (4, 18), (4, 19), (4, 20), (4, 21), (4, 22), (4, 23), (5, 0), (5, 1), (5, 2), (5, 3), (5, 4), (5, 5), (5, 6), (5, 7), (5, 8), (5, 9), (5, 10), (5, 11), (5, 12), (5, 13), (5, 14), (5, 15), (5, 16), (5, 17), (5, 18), (5, 19), (5, 20), (5, 21), (5, 22), (5, 23), (6, 0), (6, 1), (6, 2), (6, 3), (7, 0), (7, 1), (7, 2), (7, 3), (7, 4), (7, 5), (7, 6), (7, 7), (7, 8), (7, 9), (7, 10), (7, 11), (7, 12), (7, 13), (7, 14), (7, 15), (7, 16), (7, 17), (7, 18), (7, 19), (7, 20)] rfl (by decide +kernel)
set_option maxRecDepth 20000 in
theorem gX7_bears_X7_lossOf : GoodIn wsX7_bears (wsV RX7 286 RX7 yX7_lossOf wsX7_lossOf) := goodIn_app (goodIn_of _ (by decide +kernel)) ggX7_bears_X7_lossOf
theorem dX7_bears_0 : decode cX7_bears 0 = .ok (.aload_n 0, 1) := by decide +kernel
theorem dX7_bears_1 : decode cX7_bears 1 = .ok (.iconst 0, 1) := by decide +kernel
theorem dX7_bears_2 : decode cX7_bears 2 = .ok (.putfield 49, 3) := by decide +kernel
theorem dX7_bears_5 : decode cX7_bears 5 = .ok (.aload_n 0, 1) := by decide +kernel
theorem dX7_bears_6 : decode cX7_bears 6 = .ok (.invokevirtual 136, 3) := by decide +kernel
theorem dX7_bears_9 : decode cX7_bears 9 = .ok (.ifCond .eq 11, 3) := by decide +kernel
theorem dX7_bears_12 : decode cX7_bears 12 = .ok (.iload_n 1, 1) := by decide +kernel
theorem dX7_bears_13 : decode cX7_bears 13 = .ok (.iconst 1, 1) := by decide +kernel
theorem dX7_bears_14 : decode cX7_bears 14 = .ok (.invokestatic 253, 3) := by decide +kernel
theorem dX7_bears_17 : decode cX7_bears 17 = .ok (.ifCond .ne 5, 3) := by decide +kernel
theorem dX7_bears_20 : decode cX7_bears 20 = .ok (.iconst (-1), 1) := by decide +kernel
theorem dX7_bears_21 : decode cX7_bears 21 = .ok (.ireturn, 1) := by decide +kernel
theorem dX7_bears_22 : decode cX7_bears 22 = .ok (.bipush 9, 2) := by decide +kernel
theorem dX7_bears_24 : decode cX7_bears 24 = .ok (.istore_n 2, 1) := by decide +kernel
theorem dX7_bears_25 : decode cX7_bears 25 = .ok (.iload_n 2, 1) := by decide +kernel
theorem dX7_bears_26 : decode cX7_bears 26 = .ok (.ifCond .le 18, 3) := by decide +kernel
theorem dX7_bears_29 : decode cX7_bears 29 = .ok (.aload_n 0, 1) := by decide +kernel
theorem dX7_bears_30 : decode cX7_bears 30 = .ok (.iload_n 2, 1) := by decide +kernel
theorem dX7_bears_31 : decode cX7_bears 31 = .ok (.iload_n 1, 1) := by decide +kernel
theorem dX7_bears_32 : decode cX7_bears 32 = .ok (.invokevirtual 286, 3) := by decide +kernel
theorem dX7_bears_35 : decode cX7_bears 35 = .ok (.ifCond .le 9, 3) := by decide +kernel
theorem dX7_bears_38 : decode cX7_bears 38 = .ok (.iinc 2 (-1), 3) := by decide +kernel
theorem dX7_bears_41 : decode cX7_bears 41 = .ok (.goto (-16), 3) := by decide +kernel
theorem dX7_bears_44 : decode cX7_bears 44 = .ok (.iload_n 2, 1) := by decide +kernel
theorem dX7_bears_45 : decode cX7_bears 45 = .ok (.ireturn, 1) := by decide +kernel
set_option maxRecDepth 20000 in
theorem ggX7_fair_X7_isNet : GoodIn wsX7_fair wsX7_isNet := goodIn_r _ [14, 15, 141, 142, 143, 144, 145, 146, 147, 148, 149, 150, 151, 152, 153, 154, 155, 156, 157, 158, 159, 160, 161] (by decide +kernel) (by decide +kernel)
set_option maxRecDepth 20000 in
theorem gX7_fair_X7_isNet : GoodIn wsX7_fair (wsV RX7 136 RX7 yX7_isNet wsX7_isNet) := goodIn_app (goodIn_of _ (by decide +kernel)) ggX7_fair_X7_isNet
set_option maxRecDepth 20000 in
theorem ggX7_fair_X7_isSpan : GoodIn wsX7_fair wsX7_isSpan := goodIn_r _ [18, 19, 20, 13, 21] (by decide +kernel) (by decide +kernel)
set_option maxRecDepth 20000 in
theorem gX7_fair_X7_isSpan : GoodIn wsX7_fair (va_wsS RX7 253 yX7_isSpan wsX7_isSpan) := goodIn_app (goodIn_of _ (by decide +kernel)) ggX7_fair_X7_isSpan
set_option maxRecDepth 20000 in
theorem ggX7_fair_X7_putAside : GoodIn wsX7_fair wsX7_putAside := goodIn_r _ [25, 26, 27, 141, 142, 143, 144, 145, 146, 147, 148, 149, 150, 151, 152, 153, 154, 155, 156, 157, 158, 159, 160, 161] (by decide +kernel) (by decide +kernel)
set_option maxRecDepth 20000 in
theorem gX7_fair_X7_putAside : GoodIn wsX7_fair (wsV RX7 256 RX7 yX7_putAside wsX7_putAside) := goodIn_app (goodIn_of _ (by decide +kernel)) ggX7_fair_X7_putAside
theorem qxX7_fair_0 : ∀ w ∈ ((wsX7_fair_r1 ++ (wsX7_fair_r2 ++ (wsX7_fair_r3 ++ (wsX7_fair_r4 ++ (wsX7_fair_r5 ++ wsX7_fair_r6))))) ++ wsX70), w ∈ wsX7_fair := fun w h => List.mem_cons_of_mem _ h
theorem qxX7_fair_1 : ∀ w ∈ (wsX7_fair_r1 ++ (wsX7_fair_r2 ++ (wsX7_fair_r3 ++ (wsX7_fair_r4 ++ (wsX7_fair_r5 ++ wsX7_fair_r6))))), w ∈ wsX7_fair := in_l qxX7_fair_0
theorem qxX7_fair_2 : ∀ w ∈ wsX70, w ∈ wsX7_fair := in_r qxX7_fair_0
theorem qxX7_fair_3 : ∀ w ∈ wsX7_fair_r1, w ∈ wsX7_fair := in_l qxX7_fair_1
theorem qxX7_fair_4 : ∀ w ∈ (wsX7_fair_r2 ++ (wsX7_fair_r3 ++ (wsX7_fair_r4 ++ (wsX7_fair_r5 ++ wsX7_fair_r6)))), w ∈ wsX7_fair := in_r qxX7_fair_1
theorem qxX7_fair_5 : ∀ w ∈ wsX7_fair_r2, w ∈ wsX7_fair := in_l qxX7_fair_4
theorem qxX7_fair_6 : ∀ w ∈ (wsX7_fair_r3 ++ (wsX7_fair_r4 ++ (wsX7_fair_r5 ++ wsX7_fair_r6))), w ∈ wsX7_fair := in_r qxX7_fair_4
theorem qxX7_fair_7 : ∀ w ∈ wsX7_fair_r3, w ∈ wsX7_fair := in_l qxX7_fair_6
theorem qxX7_fair_8 : ∀ w ∈ (wsX7_fair_r4 ++ (wsX7_fair_r5 ++ wsX7_fair_r6)), w ∈ wsX7_fair := in_r qxX7_fair_6
theorem qxX7_fair_9 : ∀ w ∈ wsX7_fair_r4, w ∈ wsX7_fair := in_l qxX7_fair_8
theorem qxX7_fair_10 : ∀ w ∈ (wsX7_fair_r5 ++ wsX7_fair_r6), w ∈ wsX7_fair := in_r qxX7_fair_8
theorem qxX7_fair_11 : ∀ w ∈ wsX7_fair_r5, w ∈ wsX7_fair := in_l qxX7_fair_10
theorem qxX7_fair_12 : ∀ w ∈ wsX7_fair_r6, w ∈ wsX7_fair := in_r qxX7_fair_10
def pxX7_fair : List (List Cond) := [wsX7_fair_r1, wsX7_fair_r2, wsX7_fair_r3, wsX7_fair_r4, wsX7_fair_r5, wsX7_fair_r6, wsX70]
theorem pxX7_fair_in : ∀ q ∈ pxX7_fair, ∀ w ∈ q, w ∈ wsX7_fair := lp_c qxX7_fair_3 (lp_c qxX7_fair_5 (lp_c qxX7_fair_7 (lp_c qxX7_fair_9 (lp_c qxX7_fair_11 (lp_c qxX7_fair_12 (lp_c qxX7_fair_2 (lp_n)))))))
set_option maxRecDepth 20000 in
theorem ggX7_fair_X7_deliveredIn : GoodIn wsX7_fair wsX7_deliveredIn := goodIn_pp pxX7_fair pxX7_fair_in _ [(1, 6), (1, 7), (1, 8), (1, 9), (0, 12), (1, 10), (0, 1), (1, 2), (1, 11), (1, 12), (1, 13), (1, 14), (1, 15), (1, 16), (1, 17), (1, 18), (1, 19), (1, 20), (1, 21), (0, 14), (1, 22), (1, 23), (2, 0), (2, 1), (2, 2), (2, 3), (2, 4), (2, 5), (2, 6), (2, 7), (2, 8), (2, 9), (2, 10), (2, 11), (2, 12), (2, 13), (2, 14), (2, 15), (2, 16), (2, 17), (2, 18), (2, 19), (2, 20), (2, 21), (2, 22), (2, 23), (3, 0), (3, 1), (3, 2), (3, 3), (3, 4), (3, 5), (3, 6), (3, 7), (3, 8), (3, 9), (3, 10), (3, 11), (3, 12), (3, 13), (3, 14), (0, 2), (0, 3), (0, 4), (0, 5), (3, 15), (3, 16), (3, 17), (3, 18), (3, 19), (3, 20), (3, 21), (3, 22), (3, 23), (4, 0), (4, 1), (4, 2), (4, 3), (4, 4), (4, 5), (4, 6), (4, 7), (4, 8), (4, 9), (4, 10), (4, 11), (4, 12), (4, 13), (4, 14), (4, 15), (4, 16), (4, 17), (4, 18), (4, 19), (4, 20), (4, 21), (4, 22), (4, 23), (5, 0), (5, 1), (5, 2), (5, 3), (0, 6), (0, 7), (0, 8), (5, 4), (5, 5), (5, 6), (5, 7), (5, 8), (5, 9), (5, 10), (5, 11), (5, 12), (5, 13), (5, 14), (5, 15), (5, 16), (5, 17), (5, 18), (5, 19), (1, 1), (6, 0), (6, 1), (6, 2), (6, 3), (6, 4), (6, 5), (6, 6), (6, 7), (6, 8), (6, 9), (6, 10), (6, 11), (6, 12), (6, 13), (6, 14), (6, 15), (6, 16), (6, 17), (6, 18), (6, 19), (6, 20)] rfl (by decide +kernel)
set_option maxRecDepth 20000 in
theorem gX7_fair_X7_deliveredIn : GoodIn wsX7_fair (wsV RX7 268 RX7 yX7_deliveredIn wsX7_deliveredIn) := goodIn_app (goodIn_of _ (by decide +kernel)) ggX7_fair_X7_deliveredIn
theorem dX7_fair_0 : decode cX7_fair 0 = .ok (.aload_n 0, 1) := by decide +kernel
theorem dX7_fair_1 : decode cX7_fair 1 = .ok (.iconst 0, 1) := by decide +kernel
theorem dX7_fair_2 : decode cX7_fair 2 = .ok (.putfield 49, 3) := by decide +kernel
theorem dX7_fair_5 : decode cX7_fair 5 = .ok (.aload_n 0, 1) := by decide +kernel
theorem dX7_fair_6 : decode cX7_fair 6 = .ok (.invokevirtual 136, 3) := by decide +kernel
theorem dX7_fair_9 : decode cX7_fair 9 = .ok (.ifCond .eq 11, 3) := by decide +kernel
theorem dX7_fair_12 : decode cX7_fair 12 = .ok (.iload_n 1, 1) := by decide +kernel
theorem dX7_fair_13 : decode cX7_fair 13 = .ok (.iconst 1, 1) := by decide +kernel
theorem dX7_fair_14 : decode cX7_fair 14 = .ok (.invokestatic 253, 3) := by decide +kernel
theorem dX7_fair_17 : decode cX7_fair 17 = .ok (.ifCond .ne 5, 3) := by decide +kernel
theorem dX7_fair_20 : decode cX7_fair 20 = .ok (.iconst (-1), 1) := by decide +kernel
theorem dX7_fair_21 : decode cX7_fair 21 = .ok (.ireturn, 1) := by decide +kernel
theorem dX7_fair_22 : decode cX7_fair 22 = .ok (.iconst (-1), 1) := by decide +kernel
theorem dX7_fair_23 : decode cX7_fair 23 = .ok (.istore_n 2, 1) := by decide +kernel
theorem dX7_fair_24 : decode cX7_fair 24 = .ok (.iconst (-1), 1) := by decide +kernel
theorem dX7_fair_25 : decode cX7_fair 25 = .ok (.istore_n 3, 1) := by decide +kernel
theorem dX7_fair_26 : decode cX7_fair 26 = .ok (.iconst 0, 1) := by decide +kernel
theorem dX7_fair_27 : decode cX7_fair 27 = .ok (.istore 4, 2) := by decide +kernel
theorem dX7_fair_29 : decode cX7_fair 29 = .ok (.iload 4, 2) := by decide +kernel
theorem dX7_fair_31 : decode cX7_fair 31 = .ok (.aload_n 0, 1) := by decide +kernel
theorem dX7_fair_32 : decode cX7_fair 32 = .ok (.getfield 127, 3) := by decide +kernel
theorem dX7_fair_35 : decode cX7_fair 35 = .ok (.if_icmp .ge 46, 3) := by decide +kernel
theorem dX7_fair_38 : decode cX7_fair 38 = .ok (.aload_n 0, 1) := by decide +kernel
theorem dX7_fair_39 : decode cX7_fair 39 = .ok (.invokevirtual 256, 3) := by decide +kernel
theorem dX7_fair_42 : decode cX7_fair 42 = .ok (.aload_n 0, 1) := by decide +kernel
theorem dX7_fair_43 : decode cX7_fair 43 = .ok (.iload 4, 2) := by decide +kernel
theorem dX7_fair_45 : decode cX7_fair 45 = .ok (.iload_n 1, 1) := by decide +kernel
theorem dX7_fair_46 : decode cX7_fair 46 = .ok (.invokevirtual 268, 3) := by decide +kernel
theorem dX7_fair_49 : decode cX7_fair 49 = .ok (.istore 5, 2) := by decide +kernel
theorem dX7_fair_51 : decode cX7_fair 51 = .ok (.iload_n 2, 1) := by decide +kernel
theorem dX7_fair_52 : decode cX7_fair 52 = .ok (.iload 5, 2) := by decide +kernel
theorem dX7_fair_54 : decode cX7_fair 54 = .ok (.invokestatic 154, 3) := by decide +kernel
theorem dX7_fair_57 : decode cX7_fair 57 = .ok (.istore_n 2, 1) := by decide +kernel
theorem dX7_fair_58 : decode cX7_fair 58 = .ok (.iload_n 3, 1) := by decide +kernel
theorem dX7_fair_59 : decode cX7_fair 59 = .ok (.iconst (-1), 1) := by decide +kernel
theorem dX7_fair_60 : decode cX7_fair 60 = .ok (.if_icmp .ne 8, 3) := by decide +kernel
theorem dX7_fair_63 : decode cX7_fair 63 = .ok (.iload 5, 2) := by decide +kernel
theorem dX7_fair_65 : decode cX7_fair 65 = .ok (.goto 9, 3) := by decide +kernel
theorem dX7_fair_68 : decode cX7_fair 68 = .ok (.iload_n 3, 1) := by decide +kernel
theorem dX7_fair_69 : decode cX7_fair 69 = .ok (.iload 5, 2) := by decide +kernel
theorem dX7_fair_71 : decode cX7_fair 71 = .ok (.invokestatic 175, 3) := by decide +kernel
theorem dX7_fair_74 : decode cX7_fair 74 = .ok (.istore_n 3, 1) := by decide +kernel
theorem dX7_fair_75 : decode cX7_fair 75 = .ok (.iinc 4 1, 3) := by decide +kernel
theorem dX7_fair_78 : decode cX7_fair 78 = .ok (.goto (-49), 3) := by decide +kernel
theorem dX7_fair_81 : decode cX7_fair 81 = .ok (.iload_n 2, 1) := by decide +kernel
theorem dX7_fair_82 : decode cX7_fair 82 = .ok (.iload_n 3, 1) := by decide +kernel
theorem dX7_fair_83 : decode cX7_fair 83 = .ok (.isub, 1) := by decide +kernel
theorem dX7_fair_84 : decode cX7_fair 84 = .ok (.ireturn, 1) := by decide +kernel
theorem qxX7_learns_0 : ∀ w ∈ ((wsX7_learns_r1 ++ (wsX7_learns_r2 ++ (wsX7_learns_r3 ++ (wsX7_learns_r4 ++ (wsX7_learns_r5 ++ wsX7_learns_r6))))) ++ wsX70), w ∈ wsX7_learns := fun w h => List.mem_cons_of_mem _ h
theorem qxX7_learns_1 : ∀ w ∈ (wsX7_learns_r1 ++ (wsX7_learns_r2 ++ (wsX7_learns_r3 ++ (wsX7_learns_r4 ++ (wsX7_learns_r5 ++ wsX7_learns_r6))))), w ∈ wsX7_learns := in_l qxX7_learns_0
theorem qxX7_learns_2 : ∀ w ∈ wsX70, w ∈ wsX7_learns := in_r qxX7_learns_0
theorem qxX7_learns_3 : ∀ w ∈ wsX7_learns_r1, w ∈ wsX7_learns := in_l qxX7_learns_1
theorem qxX7_learns_4 : ∀ w ∈ (wsX7_learns_r2 ++ (wsX7_learns_r3 ++ (wsX7_learns_r4 ++ (wsX7_learns_r5 ++ wsX7_learns_r6)))), w ∈ wsX7_learns := in_r qxX7_learns_1
theorem qxX7_learns_5 : ∀ w ∈ wsX7_learns_r2, w ∈ wsX7_learns := in_l qxX7_learns_4
theorem qxX7_learns_6 : ∀ w ∈ (wsX7_learns_r3 ++ (wsX7_learns_r4 ++ (wsX7_learns_r5 ++ wsX7_learns_r6))), w ∈ wsX7_learns := in_r qxX7_learns_4
theorem qxX7_learns_7 : ∀ w ∈ wsX7_learns_r3, w ∈ wsX7_learns := in_l qxX7_learns_6
theorem qxX7_learns_8 : ∀ w ∈ (wsX7_learns_r4 ++ (wsX7_learns_r5 ++ wsX7_learns_r6)), w ∈ wsX7_learns := in_r qxX7_learns_6
theorem qxX7_learns_9 : ∀ w ∈ wsX7_learns_r4, w ∈ wsX7_learns := in_l qxX7_learns_8
theorem qxX7_learns_10 : ∀ w ∈ (wsX7_learns_r5 ++ wsX7_learns_r6), w ∈ wsX7_learns := in_r qxX7_learns_8
theorem qxX7_learns_11 : ∀ w ∈ wsX7_learns_r5, w ∈ wsX7_learns := in_l qxX7_learns_10
theorem qxX7_learns_12 : ∀ w ∈ wsX7_learns_r6, w ∈ wsX7_learns := in_r qxX7_learns_10
def pxX7_learns : List (List Cond) := [wsX7_learns_r1, wsX7_learns_r2, wsX7_learns_r3, wsX7_learns_r4, wsX7_learns_r5, wsX7_learns_r6, wsX70]
theorem pxX7_learns_in : ∀ q ∈ pxX7_learns, ∀ w ∈ q, w ∈ wsX7_learns := lp_c qxX7_learns_3 (lp_c qxX7_learns_5 (lp_c qxX7_learns_7 (lp_c qxX7_learns_9 (lp_c qxX7_learns_11 (lp_c qxX7_learns_12 (lp_c qxX7_learns_2 (lp_n)))))))
set_option maxRecDepth 20000 in
theorem ggX7_learns_X7_isLane : GoodIn wsX7_learns wsX7_isLane := goodIn_pp pxX7_learns pxX7_learns_in _ [(0, 6), (0, 7), (0, 8), (0, 9), (0, 5), (0, 10), (0, 11), (0, 12), (0, 13), (0, 14), (0, 15), (0, 16), (0, 17), (0, 18), (0, 19), (6, 0), (6, 1), (6, 2), (6, 3), (6, 4), (6, 5), (6, 6), (6, 7), (6, 8), (6, 9), (6, 10), (6, 11), (6, 12), (6, 13), (6, 14), (6, 15), (6, 16), (6, 17), (6, 18), (6, 19), (6, 20)] rfl (by decide +kernel)
set_option maxRecDepth 20000 in
theorem gX7_learns_X7_isLane : GoodIn wsX7_learns (wsV RX7 229 RX7 yX7_isLane wsX7_isLane) := goodIn_app (goodIn_of _ (by decide +kernel)) ggX7_learns_X7_isLane
set_option maxRecDepth 20000 in
theorem ggX7_learns_X7_putAside : GoodIn wsX7_learns wsX7_putAside := goodIn_r _ [24, 25, 2, 134, 135, 136, 137, 138, 139, 140, 141, 142, 143, 144, 145, 146, 147, 148, 149, 150, 151, 152, 153, 154] (by decide +kernel) (by decide +kernel)
set_option maxRecDepth 20000 in
theorem gX7_learns_X7_putAside : GoodIn wsX7_learns (wsV RX7 256 RX7 yX7_putAside wsX7_putAside) := goodIn_app (goodIn_of _ (by decide +kernel)) ggX7_learns_X7_putAside
set_option maxRecDepth 20000 in
theorem ggX7_learns_X7_lane : GoodIn wsX7_learns wsX7_lane := goodIn_r _ [28] (by decide +kernel) (by decide +kernel)
set_option maxRecDepth 20000 in
theorem gX7_learns_X7_lane : GoodIn wsX7_learns (va_wsS RX7 163 yX7_lane wsX7_lane) := goodIn_app (goodIn_of _ (by decide +kernel)) ggX7_learns_X7_lane
set_option maxRecDepth 20000 in
theorem ggX7_learns_X7_less : GoodIn wsX7_learns wsX7_less := goodIn_r _ [31] (by decide +kernel) (by decide +kernel)
set_option maxRecDepth 20000 in
theorem gX7_learns_X7_less : GoodIn wsX7_learns (va_wsS RX7 166 yX7_less wsX7_less) := goodIn_app (goodIn_of _ (by decide +kernel)) ggX7_learns_X7_less
set_option maxRecDepth 20000 in
theorem ggX7_learns_X7_ticks : GoodIn wsX7_learns wsX7_ticks := goodIn_pp pxX7_learns pxX7_learns_in _ [(1, 10), (0, 11), (0, 19), (1, 11), (0, 1), (1, 12), (1, 13), (1, 14), (0, 5), (1, 15), (1, 16), (1, 17), (1, 18), (1, 19), (1, 20), (1, 21), (1, 1), (1, 2), (1, 3), (1, 4), (1, 5), (1, 6), (1, 22), (1, 23), (2, 0), (2, 1), (2, 2), (2, 3), (2, 4), (2, 5), (2, 6), (2, 7), (2, 8), (2, 9), (2, 10), (2, 11), (2, 12), (2, 13), (2, 14), (2, 15), (2, 16), (2, 17), (2, 18), (2, 19), (2, 20), (2, 21), (2, 22), (2, 23), (3, 0), (3, 1), (3, 2), (3, 3), (3, 4), (3, 5), (3, 6), (3, 7), (3, 8), (3, 9), (3, 10), (3, 11), (3, 12), (3, 13), (3, 14), (3, 15), (3, 16), (3, 17), (3, 18), (3, 19), (3, 20), (3, 21), (3, 22), (3, 23), (4, 0), (4, 1), (4, 2), (4, 3), (4, 4), (4, 5), (4, 6), (4, 7), (4, 8), (4, 9), (4, 10), (4, 11), (4, 12), (4, 13), (4, 14), (4, 15), (4, 16), (4, 17), (4, 18), (4, 19), (4, 20), (4, 21), (4, 22), (4, 23), (5, 0), (5, 1), (5, 2), (5, 3), (5, 4), (5, 5), (5, 6), (5, 7), (5, 8), (6, 0), (6, 1), (6, 2), (6, 3), (6, 4), (6, 5), (6, 6), (6, 7), (6, 8), (6, 9), (6, 10), (6, 11), (6, 12), (6, 13), (6, 14), (6, 15), (6, 16), (6, 17), (6, 18), (6, 19), (6, 20)] rfl (by decide +kernel)
set_option maxRecDepth 20000 in
theorem gX7_learns_X7_ticks : GoodIn wsX7_learns (wsV RX7 226 RX7 yX7_ticks wsX7_ticks) := goodIn_app (goodIn_of _ (by decide +kernel)) ggX7_learns_X7_ticks
set_option maxRecDepth 20000 in
theorem ggX7_learns_X7_bringBack : GoodIn wsX7_learns wsX7_bringBack := goodIn_r _ [133, 2, 25, 134, 135, 136, 137, 138, 139, 140, 141, 142, 143, 144, 145, 146, 147, 148, 149, 150, 151, 152, 153, 154] (by decide +kernel) (by decide +kernel)
set_option maxRecDepth 20000 in
theorem gX7_learns_X7_bringBack : GoodIn wsX7_learns (wsV RX7 262 RX7 yX7_bringBack wsX7_bringBack) := goodIn_app (goodIn_of _ (by decide +kernel)) ggX7_learns_X7_bringBack
theorem dX7_learns_0 : decode cX7_learns 0 = .ok (.aload_n 0, 1) := by decide +kernel
theorem dX7_learns_1 : decode cX7_learns 1 = .ok (.iconst 0, 1) := by decide +kernel
theorem dX7_learns_2 : decode cX7_learns 2 = .ok (.putfield 49, 3) := by decide +kernel
theorem dX7_learns_5 : decode cX7_learns 5 = .ok (.aload_n 0, 1) := by decide +kernel
theorem dX7_learns_6 : decode cX7_learns 6 = .ok (.iload_n 1, 1) := by decide +kernel
theorem dX7_learns_7 : decode cX7_learns 7 = .ok (.iload_n 2, 1) := by decide +kernel
theorem dX7_learns_8 : decode cX7_learns 8 = .ok (.invokevirtual 229, 3) := by decide +kernel
theorem dX7_learns_11 : decode cX7_learns 11 = .ok (.ifCond .ne 5, 3) := by decide +kernel
theorem dX7_learns_14 : decode cX7_learns 14 = .ok (.iconst (-1), 1) := by decide +kernel
theorem dX7_learns_15 : decode cX7_learns 15 = .ok (.ireturn, 1) := by decide +kernel
theorem dX7_learns_16 : decode cX7_learns 16 = .ok (.aload_n 0, 1) := by decide +kernel
theorem dX7_learns_17 : decode cX7_learns 17 = .ok (.invokevirtual 256, 3) := by decide +kernel
theorem dX7_learns_20 : decode cX7_learns 20 = .ok (.aload_n 0, 1) := by decide +kernel
theorem dX7_learns_21 : decode cX7_learns 21 = .ok (.getfield 22, 3) := by decide +kernel
theorem dX7_learns_24 : decode cX7_learns 24 = .ok (.iload_n 1, 1) := by decide +kernel
theorem dX7_learns_25 : decode cX7_learns 25 = .ok (.iload_n 2, 1) := by decide +kernel
theorem dX7_learns_26 : decode cX7_learns 26 = .ok (.invokestatic 163, 3) := by decide +kernel
theorem dX7_learns_29 : decode cX7_learns 29 = .ok (.iconst 1, 1) := by decide +kernel
theorem dX7_learns_30 : decode cX7_learns 30 = .ok (.iadd, 1) := by decide +kernel
theorem dX7_learns_31 : decode cX7_learns 31 = .ok (.iaload, 1) := by decide +kernel
theorem dX7_learns_32 : decode cX7_learns 32 = .ok (.istore_n 3, 1) := by decide +kernel
theorem dX7_learns_33 : decode cX7_learns 33 = .ok (.iconst 0, 1) := by decide +kernel
theorem dX7_learns_34 : decode cX7_learns 34 = .ok (.istore 4, 2) := by decide +kernel
theorem dX7_learns_36 : decode cX7_learns 36 = .ok (.iload 4, 2) := by decide +kernel
theorem dX7_learns_38 : decode cX7_learns 38 = .ok (.sipush 200, 3) := by decide +kernel
theorem dX7_learns_41 : decode cX7_learns 41 = .ok (.if_icmp .gt 34, 3) := by decide +kernel
theorem dX7_learns_44 : decode cX7_learns 44 = .ok (.aload_n 0, 1) := by decide +kernel
theorem dX7_learns_45 : decode cX7_learns 45 = .ok (.getfield 22, 3) := by decide +kernel
theorem dX7_learns_48 : decode cX7_learns 48 = .ok (.iload_n 1, 1) := by decide +kernel
theorem dX7_learns_49 : decode cX7_learns 49 = .ok (.iload_n 2, 1) := by decide +kernel
theorem dX7_learns_50 : decode cX7_learns 50 = .ok (.invokestatic 163, 3) := by decide +kernel
theorem dX7_learns_53 : decode cX7_learns 53 = .ok (.iconst 2, 1) := by decide +kernel
theorem dX7_learns_54 : decode cX7_learns 54 = .ok (.iadd, 1) := by decide +kernel
theorem dX7_learns_55 : decode cX7_learns 55 = .ok (.iaload, 1) := by decide +kernel
theorem dX7_learns_56 : decode cX7_learns 56 = .ok (.iload_n 3, 1) := by decide +kernel
theorem dX7_learns_57 : decode cX7_learns 57 = .ok (.invokestatic 166, 3) := by decide +kernel
theorem dX7_learns_60 : decode cX7_learns 60 = .ok (.bipush 32, 2) := by decide +kernel
theorem dX7_learns_62 : decode cX7_learns 62 = .ok (.if_icmp .lt 13, 3) := by decide +kernel
theorem dX7_learns_65 : decode cX7_learns 65 = .ok (.aload_n 0, 1) := by decide +kernel
theorem dX7_learns_66 : decode cX7_learns 66 = .ok (.invokevirtual 226, 3) := by decide +kernel
theorem dX7_learns_69 : decode cX7_learns 69 = .ok (.iinc 4 1, 3) := by decide +kernel
theorem dX7_learns_72 : decode cX7_learns 72 = .ok (.goto (-36), 3) := by decide +kernel
theorem dX7_learns_75 : decode cX7_learns 75 = .ok (.aload_n 0, 1) := by decide +kernel
theorem dX7_learns_76 : decode cX7_learns 76 = .ok (.invokevirtual 262, 3) := by decide +kernel
theorem dX7_learns_79 : decode cX7_learns 79 = .ok (.iload 4, 2) := by decide +kernel
theorem dX7_learns_81 : decode cX7_learns 81 = .ok (.sipush 200, 3) := by decide +kernel
theorem dX7_learns_84 : decode cX7_learns 84 = .ok (.if_icmp .gt 8, 3) := by decide +kernel
theorem dX7_learns_87 : decode cX7_learns 87 = .ok (.iload 4, 2) := by decide +kernel
theorem dX7_learns_89 : decode cX7_learns 89 = .ok (.goto 4, 3) := by decide +kernel
theorem dX7_learns_92 : decode cX7_learns 92 = .ok (.iconst (-1), 1) := by decide +kernel
theorem dX7_learns_93 : decode cX7_learns 93 = .ok (.ireturn, 1) := by decide +kernel
theorem qxX7_cellsAnywhere_0 : ∀ w ∈ ([.fieldLink RX7 127 "HopCreditsModel" "circuits" "I", .methodLink RX7 244 yX7_anywhere, .instanceMethod yX7_anywhere, .selects RX7 yX7_anywhere yX7_anywhere, .initialized RX7, .code yX7_anywhere cX7_anywhere 2 (some .int), .fieldLink RX7 22 "HopCreditsModel" "now" "[I", .methodLink RX7 147 yX7_circuitAt, .static yX7_circuitAt, .code yX7_circuitAt cX7_circuitAt 1 (some .int)] ++ wsX70), w ∈ wsX7_cellsAnywhere := fun w h => List.mem_cons_of_mem _ h
theorem qxX7_cellsAnywhere_1 : ∀ w ∈ [.fieldLink RX7 127 "HopCreditsModel" "circuits" "I", .methodLink RX7 244 yX7_anywhere, .instanceMethod yX7_anywhere, .selects RX7 yX7_anywhere yX7_anywhere, .initialized RX7, .code yX7_anywhere cX7_anywhere 2 (some .int), .fieldLink RX7 22 "HopCreditsModel" "now" "[I", .methodLink RX7 147 yX7_circuitAt, .static yX7_circuitAt, .code yX7_circuitAt cX7_circuitAt 1 (some .int)], w ∈ wsX7_cellsAnywhere := in_l qxX7_cellsAnywhere_0
theorem qxX7_cellsAnywhere_2 : ∀ w ∈ wsX70, w ∈ wsX7_cellsAnywhere := in_r qxX7_cellsAnywhere_0
def pxX7_cellsAnywhere : List (List Cond) := [[.fieldLink RX7 127 "HopCreditsModel" "circuits" "I", .methodLink RX7 244 yX7_anywhere, .instanceMethod yX7_anywhere, .selects RX7 yX7_anywhere yX7_anywhere, .initialized RX7, .code yX7_anywhere cX7_anywhere 2 (some .int), .fieldLink RX7 22 "HopCreditsModel" "now" "[I", .methodLink RX7 147 yX7_circuitAt, .static yX7_circuitAt, .code yX7_circuitAt cX7_circuitAt 1 (some .int)], wsX70]
theorem pxX7_cellsAnywhere_in : ∀ q ∈ pxX7_cellsAnywhere, ∀ w ∈ q, w ∈ wsX7_cellsAnywhere := lp_c qxX7_cellsAnywhere_1 (lp_c qxX7_cellsAnywhere_2 (lp_n))
set_option maxRecDepth 20000 in
theorem ggX7_cellsAnywhere_X7_anywhere : GoodIn wsX7_cellsAnywhere wsX7_anywhere := goodIn_pp pxX7_cellsAnywhere pxX7_cellsAnywhere_in _ [(0, 5), (0, 6), (0, 7), (0, 8), (0, 4), (0, 9), (1, 0), (1, 1), (1, 2), (1, 3), (1, 4), (1, 5), (1, 6), (1, 7), (1, 8), (1, 9), (1, 10), (1, 11), (1, 12), (1, 13), (1, 14), (1, 15), (1, 16), (1, 17), (1, 18), (1, 19), (1, 20)] rfl (by decide +kernel)
set_option maxRecDepth 20000 in
theorem gX7_cellsAnywhere_X7_anywhere : GoodIn wsX7_cellsAnywhere (wsV RX7 244 RX7 yX7_anywhere wsX7_anywhere) := goodIn_app (goodIn_of _ (by decide +kernel)) ggX7_cellsAnywhere_X7_anywhere
theorem dX7_cellsAnywhere_0 : decode cX7_cellsAnywhere 0 = .ok (.iconst 0, 1) := by decide +kernel
theorem dX7_cellsAnywhere_1 : decode cX7_cellsAnywhere 1 = .ok (.istore_n 1, 1) := by decide +kernel
theorem dX7_cellsAnywhere_2 : decode cX7_cellsAnywhere 2 = .ok (.iconst 0, 1) := by decide +kernel
theorem dX7_cellsAnywhere_3 : decode cX7_cellsAnywhere 3 = .ok (.istore_n 2, 1) := by decide +kernel
theorem dX7_cellsAnywhere_4 : decode cX7_cellsAnywhere 4 = .ok (.iload_n 2, 1) := by decide +kernel
theorem dX7_cellsAnywhere_5 : decode cX7_cellsAnywhere 5 = .ok (.aload_n 0, 1) := by decide +kernel
theorem dX7_cellsAnywhere_6 : decode cX7_cellsAnywhere 6 = .ok (.getfield 127, 3) := by decide +kernel
theorem dX7_cellsAnywhere_9 : decode cX7_cellsAnywhere 9 = .ok (.if_icmp .ge 17, 3) := by decide +kernel
theorem dX7_cellsAnywhere_12 : decode cX7_cellsAnywhere 12 = .ok (.iload_n 1, 1) := by decide +kernel
theorem dX7_cellsAnywhere_13 : decode cX7_cellsAnywhere 13 = .ok (.aload_n 0, 1) := by decide +kernel
theorem dX7_cellsAnywhere_14 : decode cX7_cellsAnywhere 14 = .ok (.iload_n 2, 1) := by decide +kernel
theorem dX7_cellsAnywhere_15 : decode cX7_cellsAnywhere 15 = .ok (.invokevirtual 244, 3) := by decide +kernel
theorem dX7_cellsAnywhere_18 : decode cX7_cellsAnywhere 18 = .ok (.iadd, 1) := by decide +kernel
theorem dX7_cellsAnywhere_19 : decode cX7_cellsAnywhere 19 = .ok (.istore_n 1, 1) := by decide +kernel
theorem dX7_cellsAnywhere_20 : decode cX7_cellsAnywhere 20 = .ok (.iinc 2 1, 3) := by decide +kernel
theorem dX7_cellsAnywhere_23 : decode cX7_cellsAnywhere 23 = .ok (.goto (-19), 3) := by decide +kernel
theorem dX7_cellsAnywhere_26 : decode cX7_cellsAnywhere 26 = .ok (.iload_n 1, 1) := by decide +kernel
theorem dX7_cellsAnywhere_27 : decode cX7_cellsAnywhere 27 = .ok (.ireturn, 1) := by decide +kernel
set_option maxRecDepth 20000 in
theorem ggX7_stuck_X7_isNet : GoodIn wsX7_stuck wsX7_isNet := goodIn_r _ [8, 3, 140, 141, 142, 143, 144, 145, 146, 147, 148, 149, 150, 151, 152, 153, 154, 155, 156, 157, 158, 159, 160] (by decide +kernel) (by decide +kernel)
set_option maxRecDepth 20000 in
theorem gX7_stuck_X7_isNet : GoodIn wsX7_stuck (wsV RX7 136 RX7 yX7_isNet wsX7_isNet) := goodIn_app (goodIn_of _ (by decide +kernel)) ggX7_stuck_X7_isNet
theorem qxX7_stuck_0 : ∀ w ∈ ((wsX7_stuck_r1 ++ (wsX7_stuck_r2 ++ (wsX7_stuck_r3 ++ (wsX7_stuck_r4 ++ (wsX7_stuck_r5 ++ wsX7_stuck_r6))))) ++ wsX70), w ∈ wsX7_stuck := fun w h => List.mem_cons_of_mem _ h
theorem qxX7_stuck_1 : ∀ w ∈ (wsX7_stuck_r1 ++ (wsX7_stuck_r2 ++ (wsX7_stuck_r3 ++ (wsX7_stuck_r4 ++ (wsX7_stuck_r5 ++ wsX7_stuck_r6))))), w ∈ wsX7_stuck := in_l qxX7_stuck_0
theorem qxX7_stuck_2 : ∀ w ∈ wsX70, w ∈ wsX7_stuck := in_r qxX7_stuck_0
theorem qxX7_stuck_3 : ∀ w ∈ wsX7_stuck_r1, w ∈ wsX7_stuck := in_l qxX7_stuck_1
theorem qxX7_stuck_4 : ∀ w ∈ (wsX7_stuck_r2 ++ (wsX7_stuck_r3 ++ (wsX7_stuck_r4 ++ (wsX7_stuck_r5 ++ wsX7_stuck_r6)))), w ∈ wsX7_stuck := in_r qxX7_stuck_1
theorem qxX7_stuck_5 : ∀ w ∈ wsX7_stuck_r2, w ∈ wsX7_stuck := in_l qxX7_stuck_4
theorem qxX7_stuck_6 : ∀ w ∈ (wsX7_stuck_r3 ++ (wsX7_stuck_r4 ++ (wsX7_stuck_r5 ++ wsX7_stuck_r6))), w ∈ wsX7_stuck := in_r qxX7_stuck_4
theorem qxX7_stuck_7 : ∀ w ∈ wsX7_stuck_r3, w ∈ wsX7_stuck := in_l qxX7_stuck_6
theorem qxX7_stuck_8 : ∀ w ∈ (wsX7_stuck_r4 ++ (wsX7_stuck_r5 ++ wsX7_stuck_r6)), w ∈ wsX7_stuck := in_r qxX7_stuck_6
theorem qxX7_stuck_9 : ∀ w ∈ wsX7_stuck_r4, w ∈ wsX7_stuck := in_l qxX7_stuck_8
theorem qxX7_stuck_10 : ∀ w ∈ (wsX7_stuck_r5 ++ wsX7_stuck_r6), w ∈ wsX7_stuck := in_r qxX7_stuck_8
theorem qxX7_stuck_11 : ∀ w ∈ wsX7_stuck_r5, w ∈ wsX7_stuck := in_l qxX7_stuck_10
theorem qxX7_stuck_12 : ∀ w ∈ wsX7_stuck_r6, w ∈ wsX7_stuck := in_r qxX7_stuck_10
def pxX7_stuck : List (List Cond) := [wsX7_stuck_r1, wsX7_stuck_r2, wsX7_stuck_r3, wsX7_stuck_r4, wsX7_stuck_r5, wsX7_stuck_r6, wsX70]
theorem pxX7_stuck_in : ∀ q ∈ pxX7_stuck, ∀ w ∈ q, w ∈ wsX7_stuck := lp_c qxX7_stuck_3 (lp_c qxX7_stuck_5 (lp_c qxX7_stuck_7 (lp_c qxX7_stuck_9 (lp_c qxX7_stuck_11 (lp_c qxX7_stuck_12 (lp_c qxX7_stuck_2 (lp_n)))))))
set_option maxRecDepth 20000 in
theorem ggX7_stuck_X7_cellsAnywhere : GoodIn wsX7_stuck wsX7_cellsAnywhere := goodIn_pp pxX7_stuck pxX7_stuck_in _ [(0, 11), (0, 12), (0, 13), (0, 14), (0, 15), (0, 6), (0, 16), (0, 17), (0, 18), (0, 19), (0, 20), (6, 0), (6, 1), (6, 2), (6, 3), (6, 4), (6, 5), (6, 6), (6, 7), (6, 8), (6, 9), (6, 10), (6, 11), (6, 12), (6, 13), (6, 14), (6, 15), (6, 16), (6, 17), (6, 18), (6, 19), (6, 20)] rfl (by decide +kernel)
set_option maxRecDepth 20000 in
theorem gX7_stuck_X7_cellsAnywhere : GoodIn wsX7_stuck (wsV RX7 292 RX7 yX7_cellsAnywhere wsX7_cellsAnywhere) := goodIn_app (goodIn_of _ (by decide +kernel)) ggX7_stuck_X7_cellsAnywhere
set_option maxRecDepth 20000 in
theorem ggX7_stuck_X7_putAside : GoodIn wsX7_stuck wsX7_putAside := goodIn_r _ [25, 26, 18, 140, 141, 142, 143, 144, 145, 146, 147, 148, 149, 150, 151, 152, 153, 154, 155, 156, 157, 158, 159, 160] (by decide +kernel) (by decide +kernel)
set_option maxRecDepth 20000 in
theorem gX7_stuck_X7_putAside : GoodIn wsX7_stuck (wsV RX7 256 RX7 yX7_putAside wsX7_putAside) := goodIn_app (goodIn_of _ (by decide +kernel)) ggX7_stuck_X7_putAside
set_option maxRecDepth 20000 in
theorem ggX7_stuck_X7_deliveredOf : GoodIn wsX7_stuck wsX7_deliveredOf := goodIn_pp pxX7_stuck pxX7_stuck_in _ [(1, 5), (0, 12), (0, 17), (0, 18), (0, 19), (0, 6), (0, 20), (6, 0), (6, 1), (6, 2), (6, 3), (6, 4), (6, 5), (6, 6), (6, 7), (6, 8), (6, 9), (6, 10), (6, 11), (6, 12), (6, 13), (6, 14), (6, 15), (6, 16), (6, 17), (6, 18), (6, 19), (6, 20)] rfl (by decide +kernel)
set_option maxRecDepth 20000 in
theorem gX7_stuck_X7_deliveredOf : GoodIn wsX7_stuck (wsV RX7 265 RX7 yX7_deliveredOf wsX7_deliveredOf) := goodIn_app (goodIn_of _ (by decide +kernel)) ggX7_stuck_X7_deliveredOf
set_option maxRecDepth 20000 in
theorem ggX7_stuck_X7_sentOver : GoodIn wsX7_stuck wsX7_sentOver := goodIn_pp pxX7_stuck pxX7_stuck_in _ [(1, 9), (0, 12), (0, 17), (1, 10), (1, 11), (0, 6), (1, 12), (6, 0), (6, 1), (6, 2), (6, 3), (6, 4), (6, 5), (6, 6), (6, 7), (6, 8), (6, 9), (6, 10), (6, 11), (6, 12), (6, 13), (6, 14), (6, 15), (6, 16), (6, 17), (6, 18), (6, 19), (6, 20)] rfl (by decide +kernel)
set_option maxRecDepth 20000 in
theorem gX7_stuck_X7_sentOver : GoodIn wsX7_stuck (wsV RX7 271 RX7 yX7_sentOver wsX7_sentOver) := goodIn_app (goodIn_of _ (by decide +kernel)) ggX7_stuck_X7_sentOver
set_option maxRecDepth 20000 in
theorem ggX7_stuck_X7_ticks : GoodIn wsX7_stuck wsX7_ticks := goodIn_pp pxX7_stuck pxX7_stuck_in _ [(1, 16), (0, 2), (0, 12), (1, 17), (0, 17), (1, 18), (1, 19), (1, 20), (0, 6), (1, 21), (1, 22), (1, 23), (2, 0), (2, 1), (2, 2), (2, 3), (1, 10), (1, 11), (1, 12), (2, 4), (2, 5), (2, 6), (2, 7), (2, 8), (2, 9), (2, 10), (2, 11), (2, 12), (2, 13), (2, 14), (2, 15), (2, 16), (2, 17), (2, 18), (2, 19), (2, 20), (2, 21), (2, 22), (2, 23), (3, 0), (3, 1), (3, 2), (0, 18), (0, 19), (0, 20), (3, 3), (3, 4), (3, 5), (3, 6), (3, 7), (3, 8), (3, 9), (3, 10), (3, 11), (3, 12), (3, 13), (3, 14), (3, 15), (3, 16), (3, 17), (3, 18), (3, 19), (3, 20), (3, 21), (3, 22), (3, 23), (4, 0), (4, 1), (4, 2), (4, 3), (4, 4), (4, 5), (4, 6), (4, 7), (4, 8), (4, 9), (4, 10), (4, 11), (4, 12), (4, 13), (4, 14), (4, 15), (4, 16), (4, 17), (4, 18), (4, 19), (4, 20), (4, 21), (4, 22), (4, 23), (5, 0), (5, 1), (5, 2), (5, 3), (5, 4), (5, 5), (5, 6), (5, 7), (5, 8), (5, 9), (5, 10), (5, 11), (5, 12), (5, 13), (5, 14), (6, 0), (6, 1), (6, 2), (6, 3), (6, 4), (6, 5), (6, 6), (6, 7), (6, 8), (6, 9), (6, 10), (6, 11), (6, 12), (6, 13), (6, 14), (6, 15), (6, 16), (6, 17), (6, 18), (6, 19), (6, 20)] rfl (by decide +kernel)
set_option maxRecDepth 20000 in
theorem gX7_stuck_X7_ticks : GoodIn wsX7_stuck (wsV RX7 226 RX7 yX7_ticks wsX7_ticks) := goodIn_app (goodIn_of _ (by decide +kernel)) ggX7_stuck_X7_ticks
set_option maxRecDepth 20000 in
theorem ggX7_stuck_X7_bringBack : GoodIn wsX7_stuck wsX7_bringBack := goodIn_r _ [139, 18, 26, 140, 141, 142, 143, 144, 145, 146, 147, 148, 149, 150, 151, 152, 153, 154, 155, 156, 157, 158, 159, 160] (by decide +kernel) (by decide +kernel)
set_option maxRecDepth 20000 in
theorem gX7_stuck_X7_bringBack : GoodIn wsX7_stuck (wsV RX7 262 RX7 yX7_bringBack wsX7_bringBack) := goodIn_app (goodIn_of _ (by decide +kernel)) ggX7_stuck_X7_bringBack
theorem dX7_stuck_0 : decode cX7_stuck 0 = .ok (.aload_n 0, 1) := by decide +kernel
theorem dX7_stuck_1 : decode cX7_stuck 1 = .ok (.iconst 0, 1) := by decide +kernel
theorem dX7_stuck_2 : decode cX7_stuck 2 = .ok (.putfield 49, 3) := by decide +kernel
theorem dX7_stuck_5 : decode cX7_stuck 5 = .ok (.aload_n 0, 1) := by decide +kernel
theorem dX7_stuck_6 : decode cX7_stuck 6 = .ok (.invokevirtual 136, 3) := by decide +kernel
theorem dX7_stuck_9 : decode cX7_stuck 9 = .ok (.ifCond .eq 10, 3) := by decide +kernel
theorem dX7_stuck_12 : decode cX7_stuck 12 = .ok (.aload_n 0, 1) := by decide +kernel
theorem dX7_stuck_13 : decode cX7_stuck 13 = .ok (.invokevirtual 292, 3) := by decide +kernel
theorem dX7_stuck_16 : decode cX7_stuck 16 = .ok (.ifCond .ne 5, 3) := by decide +kernel
theorem dX7_stuck_19 : decode cX7_stuck 19 = .ok (.iconst 0, 1) := by decide +kernel
theorem dX7_stuck_20 : decode cX7_stuck 20 = .ok (.ireturn, 1) := by decide +kernel
theorem dX7_stuck_21 : decode cX7_stuck 21 = .ok (.aload_n 0, 1) := by decide +kernel
theorem dX7_stuck_22 : decode cX7_stuck 22 = .ok (.invokevirtual 256, 3) := by decide +kernel
theorem dX7_stuck_25 : decode cX7_stuck 25 = .ok (.aload_n 0, 1) := by decide +kernel
theorem dX7_stuck_26 : decode cX7_stuck 26 = .ok (.iconst (-1), 1) := by decide +kernel
theorem dX7_stuck_27 : decode cX7_stuck 27 = .ok (.invokevirtual 265, 3) := by decide +kernel
theorem dX7_stuck_30 : decode cX7_stuck 30 = .ok (.istore_n 1, 1) := by decide +kernel
theorem dX7_stuck_31 : decode cX7_stuck 31 = .ok (.iconst 1, 1) := by decide +kernel
theorem dX7_stuck_32 : decode cX7_stuck 32 = .ok (.istore_n 2, 1) := by decide +kernel
theorem dX7_stuck_33 : decode cX7_stuck 33 = .ok (.iconst 0, 1) := by decide +kernel
theorem dX7_stuck_34 : decode cX7_stuck 34 = .ok (.istore_n 3, 1) := by decide +kernel
theorem dX7_stuck_35 : decode cX7_stuck 35 = .ok (.iload_n 3, 1) := by decide +kernel
theorem dX7_stuck_36 : decode cX7_stuck 36 = .ok (.sipush 200, 3) := by decide +kernel
theorem dX7_stuck_39 : decode cX7_stuck 39 = .ok (.if_icmp .ge 113, 3) := by decide +kernel
theorem dX7_stuck_42 : decode cX7_stuck 42 = .ok (.iload_n 2, 1) := by decide +kernel
theorem dX7_stuck_43 : decode cX7_stuck 43 = .ok (.ifCond .eq 109, 3) := by decide +kernel
theorem dX7_stuck_46 : decode cX7_stuck 46 = .ok (.aload_n 0, 1) := by decide +kernel
theorem dX7_stuck_47 : decode cX7_stuck 47 = .ok (.getfield 40, 3) := by decide +kernel
theorem dX7_stuck_50 : decode cX7_stuck 50 = .ok (.astore 4, 2) := by decide +kernel
theorem dX7_stuck_52 : decode cX7_stuck 52 = .ok (.iconst 0, 1) := by decide +kernel
theorem dX7_stuck_53 : decode cX7_stuck 53 = .ok (.istore 5, 2) := by decide +kernel
theorem dX7_stuck_55 : decode cX7_stuck 55 = .ok (.iload 5, 2) := by decide +kernel
theorem dX7_stuck_57 : decode cX7_stuck 57 = .ok (.aload_n 0, 1) := by decide +kernel
theorem dX7_stuck_58 : decode cX7_stuck 58 = .ok (.getfield 124, 3) := by decide +kernel
theorem dX7_stuck_61 : decode cX7_stuck 61 = .ok (.if_icmp .ge 20, 3) := by decide +kernel
theorem dX7_stuck_64 : decode cX7_stuck 64 = .ok (.aload 4, 2) := by decide +kernel
theorem dX7_stuck_66 : decode cX7_stuck 66 = .ok (.iload 5, 2) := by decide +kernel
theorem dX7_stuck_68 : decode cX7_stuck 68 = .ok (.aload_n 0, 1) := by decide +kernel
theorem dX7_stuck_69 : decode cX7_stuck 69 = .ok (.iload 5, 2) := by decide +kernel
theorem dX7_stuck_71 : decode cX7_stuck 71 = .ok (.invokevirtual 271, 3) := by decide +kernel
theorem dX7_stuck_74 : decode cX7_stuck 74 = .ok (.iastore, 1) := by decide +kernel
theorem dX7_stuck_75 : decode cX7_stuck 75 = .ok (.iinc 5 1, 3) := by decide +kernel
theorem dX7_stuck_78 : decode cX7_stuck 78 = .ok (.goto (-23), 3) := by decide +kernel
theorem dX7_stuck_81 : decode cX7_stuck 81 = .ok (.aload_n 0, 1) := by decide +kernel
theorem dX7_stuck_82 : decode cX7_stuck 82 = .ok (.invokevirtual 226, 3) := by decide +kernel
theorem dX7_stuck_85 : decode cX7_stuck 85 = .ok (.iconst 0, 1) := by decide +kernel
theorem dX7_stuck_86 : decode cX7_stuck 86 = .ok (.istore 5, 2) := by decide +kernel
theorem dX7_stuck_88 : decode cX7_stuck 88 = .ok (.iload 5, 2) := by decide +kernel
theorem dX7_stuck_90 : decode cX7_stuck 90 = .ok (.aload_n 0, 1) := by decide +kernel
theorem dX7_stuck_91 : decode cX7_stuck 91 = .ok (.getfield 124, 3) := by decide +kernel
theorem dX7_stuck_94 : decode cX7_stuck 94 = .ok (.if_icmp .ge 33, 3) := by decide +kernel
theorem dX7_stuck_97 : decode cX7_stuck 97 = .ok (.iload_n 2, 1) := by decide +kernel
theorem dX7_stuck_98 : decode cX7_stuck 98 = .ok (.ifCond .eq 21, 3) := by decide +kernel
theorem dX7_stuck_101 : decode cX7_stuck 101 = .ok (.aload_n 0, 1) := by decide +kernel
theorem dX7_stuck_102 : decode cX7_stuck 102 = .ok (.iload 5, 2) := by decide +kernel
theorem dX7_stuck_104 : decode cX7_stuck 104 = .ok (.invokevirtual 271, 3) := by decide +kernel
theorem dX7_stuck_107 : decode cX7_stuck 107 = .ok (.aload 4, 2) := by decide +kernel
theorem dX7_stuck_109 : decode cX7_stuck 109 = .ok (.iload 5, 2) := by decide +kernel
theorem dX7_stuck_111 : decode cX7_stuck 111 = .ok (.iaload, 1) := by decide +kernel
theorem dX7_stuck_112 : decode cX7_stuck 112 = .ok (.if_icmp .ne 7, 3) := by decide +kernel
theorem dX7_stuck_115 : decode cX7_stuck 115 = .ok (.iconst 1, 1) := by decide +kernel
theorem dX7_stuck_116 : decode cX7_stuck 116 = .ok (.goto 4, 3) := by decide +kernel
theorem dX7_stuck_119 : decode cX7_stuck 119 = .ok (.iconst 0, 1) := by decide +kernel
theorem dX7_stuck_120 : decode cX7_stuck 120 = .ok (.istore_n 2, 1) := by decide +kernel
theorem dX7_stuck_121 : decode cX7_stuck 121 = .ok (.iinc 5 1, 3) := by decide +kernel
theorem dX7_stuck_124 : decode cX7_stuck 124 = .ok (.goto (-36), 3) := by decide +kernel
theorem dX7_stuck_127 : decode cX7_stuck 127 = .ok (.iload_n 2, 1) := by decide +kernel
theorem dX7_stuck_128 : decode cX7_stuck 128 = .ok (.ifCond .eq 16, 3) := by decide +kernel
theorem dX7_stuck_131 : decode cX7_stuck 131 = .ok (.aload_n 0, 1) := by decide +kernel
theorem dX7_stuck_132 : decode cX7_stuck 132 = .ok (.iconst (-1), 1) := by decide +kernel
theorem dX7_stuck_133 : decode cX7_stuck 133 = .ok (.invokevirtual 265, 3) := by decide +kernel
theorem dX7_stuck_136 : decode cX7_stuck 136 = .ok (.iload_n 1, 1) := by decide +kernel
theorem dX7_stuck_137 : decode cX7_stuck 137 = .ok (.if_icmp .ne 7, 3) := by decide +kernel
theorem dX7_stuck_140 : decode cX7_stuck 140 = .ok (.iconst 1, 1) := by decide +kernel
theorem dX7_stuck_141 : decode cX7_stuck 141 = .ok (.goto 4, 3) := by decide +kernel
theorem dX7_stuck_144 : decode cX7_stuck 144 = .ok (.iconst 0, 1) := by decide +kernel
theorem dX7_stuck_145 : decode cX7_stuck 145 = .ok (.istore_n 2, 1) := by decide +kernel
theorem dX7_stuck_146 : decode cX7_stuck 146 = .ok (.iinc 3 1, 3) := by decide +kernel
theorem dX7_stuck_149 : decode cX7_stuck 149 = .ok (.goto (-114), 3) := by decide +kernel
theorem dX7_stuck_152 : decode cX7_stuck 152 = .ok (.aload_n 0, 1) := by decide +kernel
theorem dX7_stuck_153 : decode cX7_stuck 153 = .ok (.invokevirtual 262, 3) := by decide +kernel
theorem dX7_stuck_156 : decode cX7_stuck 156 = .ok (.iload_n 2, 1) := by decide +kernel
theorem dX7_stuck_157 : decode cX7_stuck 157 = .ok (.ireturn, 1) := by decide +kernel
set_option maxRecDepth 20000 in
theorem ggX7_deliveredByZone_X7_putAside : GoodIn wsX7_deliveredByZone wsX7_putAside := goodIn_r _ [6, 7, 1, 130, 131, 132, 133, 134, 135, 136, 137, 138, 139, 140, 141, 142, 143, 144, 145, 146, 147, 148, 149, 150] (by decide +kernel) (by decide +kernel)
set_option maxRecDepth 20000 in
theorem gX7_deliveredByZone_X7_putAside : GoodIn wsX7_deliveredByZone (wsV RX7 256 RX7 yX7_putAside wsX7_putAside) := goodIn_app (goodIn_of _ (by decide +kernel)) ggX7_deliveredByZone_X7_putAside
set_option maxRecDepth 20000 in
theorem ggX7_deliveredByZone_X7_lane : GoodIn wsX7_deliveredByZone wsX7_lane := goodIn_r _ [10] (by decide +kernel) (by decide +kernel)
set_option maxRecDepth 20000 in
theorem gX7_deliveredByZone_X7_lane : GoodIn wsX7_deliveredByZone (va_wsS RX7 163 yX7_lane wsX7_lane) := goodIn_app (goodIn_of _ (by decide +kernel)) ggX7_deliveredByZone_X7_lane
theorem qxX7_deliveredByZone_0 : ∀ w ∈ ((wsX7_deliveredByZone_r1 ++ (wsX7_deliveredByZone_r2 ++ (wsX7_deliveredByZone_r3 ++ (wsX7_deliveredByZone_r4 ++ (wsX7_deliveredByZone_r5 ++ wsX7_deliveredByZone_r6))))) ++ wsX70), w ∈ wsX7_deliveredByZone := fun w h => List.mem_cons_of_mem _ h
theorem qxX7_deliveredByZone_1 : ∀ w ∈ (wsX7_deliveredByZone_r1 ++ (wsX7_deliveredByZone_r2 ++ (wsX7_deliveredByZone_r3 ++ (wsX7_deliveredByZone_r4 ++ (wsX7_deliveredByZone_r5 ++ wsX7_deliveredByZone_r6))))), w ∈ wsX7_deliveredByZone := in_l qxX7_deliveredByZone_0
theorem qxX7_deliveredByZone_2 : ∀ w ∈ wsX70, w ∈ wsX7_deliveredByZone := in_r qxX7_deliveredByZone_0
theorem qxX7_deliveredByZone_3 : ∀ w ∈ wsX7_deliveredByZone_r1, w ∈ wsX7_deliveredByZone := in_l qxX7_deliveredByZone_1
theorem qxX7_deliveredByZone_4 : ∀ w ∈ (wsX7_deliveredByZone_r2 ++ (wsX7_deliveredByZone_r3 ++ (wsX7_deliveredByZone_r4 ++ (wsX7_deliveredByZone_r5 ++ wsX7_deliveredByZone_r6)))), w ∈ wsX7_deliveredByZone := in_r qxX7_deliveredByZone_1
theorem qxX7_deliveredByZone_5 : ∀ w ∈ wsX7_deliveredByZone_r2, w ∈ wsX7_deliveredByZone := in_l qxX7_deliveredByZone_4
theorem qxX7_deliveredByZone_6 : ∀ w ∈ (wsX7_deliveredByZone_r3 ++ (wsX7_deliveredByZone_r4 ++ (wsX7_deliveredByZone_r5 ++ wsX7_deliveredByZone_r6))), w ∈ wsX7_deliveredByZone := in_r qxX7_deliveredByZone_4
theorem qxX7_deliveredByZone_7 : ∀ w ∈ wsX7_deliveredByZone_r3, w ∈ wsX7_deliveredByZone := in_l qxX7_deliveredByZone_6
theorem qxX7_deliveredByZone_8 : ∀ w ∈ (wsX7_deliveredByZone_r4 ++ (wsX7_deliveredByZone_r5 ++ wsX7_deliveredByZone_r6)), w ∈ wsX7_deliveredByZone := in_r qxX7_deliveredByZone_6
theorem qxX7_deliveredByZone_9 : ∀ w ∈ wsX7_deliveredByZone_r4, w ∈ wsX7_deliveredByZone := in_l qxX7_deliveredByZone_8
theorem qxX7_deliveredByZone_10 : ∀ w ∈ (wsX7_deliveredByZone_r5 ++ wsX7_deliveredByZone_r6), w ∈ wsX7_deliveredByZone := in_r qxX7_deliveredByZone_8
theorem qxX7_deliveredByZone_11 : ∀ w ∈ wsX7_deliveredByZone_r5, w ∈ wsX7_deliveredByZone := in_l qxX7_deliveredByZone_10
theorem qxX7_deliveredByZone_12 : ∀ w ∈ wsX7_deliveredByZone_r6, w ∈ wsX7_deliveredByZone := in_r qxX7_deliveredByZone_10
def pxX7_deliveredByZone : List (List Cond) := [wsX7_deliveredByZone_r1, wsX7_deliveredByZone_r2, wsX7_deliveredByZone_r3, wsX7_deliveredByZone_r4, wsX7_deliveredByZone_r5, wsX7_deliveredByZone_r6, wsX70]
theorem pxX7_deliveredByZone_in : ∀ q ∈ pxX7_deliveredByZone, ∀ w ∈ q, w ∈ wsX7_deliveredByZone := lp_c qxX7_deliveredByZone_3 (lp_c qxX7_deliveredByZone_5 (lp_c qxX7_deliveredByZone_7 (lp_c qxX7_deliveredByZone_9 (lp_c qxX7_deliveredByZone_11 (lp_c qxX7_deliveredByZone_12 (lp_c qxX7_deliveredByZone_2 (lp_n)))))))
set_option maxRecDepth 20000 in
theorem ggX7_deliveredByZone_X7_deliveredIn : GoodIn wsX7_deliveredByZone wsX7_deliveredIn := goodIn_pp pxX7_deliveredByZone pxX7_deliveredByZone_in _ [(0, 13), (0, 14), (0, 15), (0, 16), (0, 4), (0, 17), (0, 18), (0, 0), (0, 19), (0, 20), (0, 21), (0, 22), (0, 23), (1, 0), (1, 1), (1, 2), (1, 3), (1, 4), (1, 5), (1, 6), (1, 7), (1, 8), (1, 9), (1, 10), (1, 11), (1, 12), (1, 13), (1, 14), (1, 15), (1, 16), (1, 17), (0, 7), (0, 8), (0, 9), (1, 18), (1, 19), (1, 20), (1, 21), (1, 22), (1, 23), (2, 0), (2, 1), (2, 2), (2, 3), (2, 4), (2, 5), (2, 6), (2, 7), (2, 8), (2, 9), (2, 10), (2, 11), (2, 12), (2, 13), (2, 14), (2, 15), (2, 16), (2, 17), (2, 18), (2, 19), (2, 20), (2, 21), (2, 22), (2, 23), (3, 0), (3, 1), (3, 2), (3, 3), (3, 4), (3, 5), (3, 6), (3, 7), (3, 8), (3, 9), (3, 10), (3, 11), (3, 12), (3, 13), (3, 14), (3, 15), (3, 16), (3, 17), (3, 18), (3, 19), (3, 20), (3, 21), (3, 22), (3, 23), (4, 0), (4, 1), (4, 2), (4, 3), (4, 4), (4, 5), (4, 6), (4, 7), (4, 8), (4, 9), (4, 10), (4, 11), (4, 12), (4, 13), (4, 14), (4, 15), (4, 16), (4, 17), (4, 18), (4, 19), (4, 20), (4, 21), (4, 22), (4, 23), (5, 0), (5, 1), (5, 2), (5, 3), (5, 4), (5, 5), (5, 6), (5, 7), (5, 8), (0, 6), (6, 0), (6, 1), (6, 2), (6, 3), (6, 4), (6, 5), (6, 6), (6, 7), (6, 8), (6, 9), (6, 10), (6, 11), (6, 12), (6, 13), (6, 14), (6, 15), (6, 16), (6, 17), (6, 18), (6, 19), (6, 20)] rfl (by decide +kernel)
set_option maxRecDepth 20000 in
theorem gX7_deliveredByZone_X7_deliveredIn : GoodIn wsX7_deliveredByZone (wsV RX7 268 RX7 yX7_deliveredIn wsX7_deliveredIn) := goodIn_app (goodIn_of _ (by decide +kernel)) ggX7_deliveredByZone_X7_deliveredIn
theorem dX7_deliveredByZone_0 : decode cX7_deliveredByZone 0 = .ok (.aload_n 0, 1) := by decide +kernel
theorem dX7_deliveredByZone_1 : decode cX7_deliveredByZone 1 = .ok (.invokevirtual 256, 3) := by decide +kernel
theorem dX7_deliveredByZone_4 : decode cX7_deliveredByZone 4 = .ok (.aload_n 0, 1) := by decide +kernel
theorem dX7_deliveredByZone_5 : decode cX7_deliveredByZone 5 = .ok (.getfield 22, 3) := by decide +kernel
theorem dX7_deliveredByZone_8 : decode cX7_deliveredByZone 8 = .ok (.iload_n 1, 1) := by decide +kernel
theorem dX7_deliveredByZone_9 : decode cX7_deliveredByZone 9 = .ok (.iload_n 2, 1) := by decide +kernel
theorem dX7_deliveredByZone_10 : decode cX7_deliveredByZone 10 = .ok (.invokestatic 163, 3) := by decide +kernel
theorem dX7_deliveredByZone_13 : decode cX7_deliveredByZone 13 = .ok (.iconst 3, 1) := by decide +kernel
theorem dX7_deliveredByZone_14 : decode cX7_deliveredByZone 14 = .ok (.iadd, 1) := by decide +kernel
theorem dX7_deliveredByZone_15 : decode cX7_deliveredByZone 15 = .ok (.iload_n 3, 1) := by decide +kernel
theorem dX7_deliveredByZone_16 : decode cX7_deliveredByZone 16 = .ok (.iastore, 1) := by decide +kernel
theorem dX7_deliveredByZone_17 : decode cX7_deliveredByZone 17 = .ok (.aload_n 0, 1) := by decide +kernel
theorem dX7_deliveredByZone_18 : decode cX7_deliveredByZone 18 = .ok (.iconst (-1), 1) := by decide +kernel
theorem dX7_deliveredByZone_19 : decode cX7_deliveredByZone 19 = .ok (.iload 4, 2) := by decide +kernel
theorem dX7_deliveredByZone_21 : decode cX7_deliveredByZone 21 = .ok (.invokevirtual 268, 3) := by decide +kernel
theorem dX7_deliveredByZone_24 : decode cX7_deliveredByZone 24 = .ok (.ireturn, 1) := by decide +kernel
theorem qxX7_would_0 : ∀ w ∈ ((wsX7_would_r1 ++ (wsX7_would_r2 ++ (wsX7_would_r3 ++ (wsX7_would_r4 ++ (wsX7_would_r5 ++ (wsX7_would_r6 ++ wsX7_would_r7)))))) ++ wsX70), w ∈ wsX7_would := fun w h => List.mem_cons_of_mem _ h
theorem qxX7_would_1 : ∀ w ∈ (wsX7_would_r1 ++ (wsX7_would_r2 ++ (wsX7_would_r3 ++ (wsX7_would_r4 ++ (wsX7_would_r5 ++ (wsX7_would_r6 ++ wsX7_would_r7)))))), w ∈ wsX7_would := in_l qxX7_would_0
theorem qxX7_would_2 : ∀ w ∈ wsX70, w ∈ wsX7_would := in_r qxX7_would_0
theorem qxX7_would_3 : ∀ w ∈ wsX7_would_r1, w ∈ wsX7_would := in_l qxX7_would_1
theorem qxX7_would_4 : ∀ w ∈ (wsX7_would_r2 ++ (wsX7_would_r3 ++ (wsX7_would_r4 ++ (wsX7_would_r5 ++ (wsX7_would_r6 ++ wsX7_would_r7))))), w ∈ wsX7_would := in_r qxX7_would_1
theorem qxX7_would_5 : ∀ w ∈ wsX7_would_r2, w ∈ wsX7_would := in_l qxX7_would_4
theorem qxX7_would_6 : ∀ w ∈ (wsX7_would_r3 ++ (wsX7_would_r4 ++ (wsX7_would_r5 ++ (wsX7_would_r6 ++ wsX7_would_r7)))), w ∈ wsX7_would := in_r qxX7_would_4
theorem qxX7_would_7 : ∀ w ∈ wsX7_would_r3, w ∈ wsX7_would := in_l qxX7_would_6
theorem qxX7_would_8 : ∀ w ∈ (wsX7_would_r4 ++ (wsX7_would_r5 ++ (wsX7_would_r6 ++ wsX7_would_r7))), w ∈ wsX7_would := in_r qxX7_would_6
theorem qxX7_would_9 : ∀ w ∈ wsX7_would_r4, w ∈ wsX7_would := in_l qxX7_would_8
theorem qxX7_would_10 : ∀ w ∈ (wsX7_would_r5 ++ (wsX7_would_r6 ++ wsX7_would_r7)), w ∈ wsX7_would := in_r qxX7_would_8
theorem qxX7_would_11 : ∀ w ∈ wsX7_would_r5, w ∈ wsX7_would := in_l qxX7_would_10
theorem qxX7_would_12 : ∀ w ∈ (wsX7_would_r6 ++ wsX7_would_r7), w ∈ wsX7_would := in_r qxX7_would_10
theorem qxX7_would_13 : ∀ w ∈ wsX7_would_r6, w ∈ wsX7_would := in_l qxX7_would_12
theorem qxX7_would_14 : ∀ w ∈ wsX7_would_r7, w ∈ wsX7_would := in_r qxX7_would_12
def pxX7_would : List (List Cond) := [wsX7_would_r1, wsX7_would_r2, wsX7_would_r3, wsX7_would_r4, wsX7_would_r5, wsX7_would_r6, wsX7_would_r7, wsX70]
theorem pxX7_would_in : ∀ q ∈ pxX7_would, ∀ w ∈ q, w ∈ wsX7_would := lp_c qxX7_would_3 (lp_c qxX7_would_5 (lp_c qxX7_would_7 (lp_c qxX7_would_9 (lp_c qxX7_would_11 (lp_c qxX7_would_13 (lp_c qxX7_would_14 (lp_c qxX7_would_2 (lp_n))))))))
set_option maxRecDepth 20000 in
theorem ggX7_would_X7_whyZone : GoodIn wsX7_would wsX7_whyZone := goodIn_pp pxX7_would pxX7_would_in _ [(0, 5), (0, 6), (0, 7), (0, 8), (0, 9), (0, 10), (0, 4), (0, 11), (0, 12), (0, 13), (0, 14), (0, 15), (0, 16), (0, 17), (0, 18), (0, 19), (0, 20), (0, 21), (0, 22), (0, 23), (1, 0), (1, 1), (1, 2), (1, 3), (1, 4), (1, 5), (1, 6), (1, 7), (1, 8), (1, 9), (1, 10), (1, 11), (1, 12), (1, 13), (1, 14), (1, 15), (1, 16), (1, 17), (1, 18), (1, 19), (1, 20), (1, 21), (1, 22), (1, 23), (7, 0), (7, 1), (7, 2), (7, 3), (7, 4), (7, 5), (7, 6), (7, 7), (7, 8), (7, 9), (7, 10), (7, 11), (7, 12), (7, 13), (7, 14), (7, 15), (7, 16), (7, 17), (7, 18), (7, 19), (7, 20)] rfl (by decide +kernel)
set_option maxRecDepth 20000 in
theorem gX7_would_X7_whyZone : GoodIn wsX7_would (wsV RX7 232 RX7 yX7_whyZone wsX7_whyZone) := goodIn_app (goodIn_of _ (by decide +kernel)) ggX7_would_X7_whyZone
set_option maxRecDepth 20000 in
theorem ggX7_would_X7_isSpan : GoodIn wsX7_would wsX7_isSpan := goodIn_r _ [51, 18, 19, 5, 20] (by decide +kernel) (by decide +kernel)
set_option maxRecDepth 20000 in
theorem gX7_would_X7_isSpan : GoodIn wsX7_would (va_wsS RX7 253 yX7_isSpan wsX7_isSpan) := goodIn_app (goodIn_of _ (by decide +kernel)) ggX7_would_X7_isSpan
set_option maxRecDepth 20000 in
theorem ggX7_would_X7_deliveredByZone : GoodIn wsX7_would wsX7_deliveredByZone := goodIn_pp pxX7_would pxX7_would_in _ [(2, 6), (0, 7), (2, 7), (2, 8), (2, 9), (0, 4), (2, 10), (2, 11), (1, 6), (1, 7), (1, 8), (2, 12), (2, 13), (2, 14), (2, 15), (2, 16), (2, 17), (2, 18), (2, 19), (1, 0), (2, 20), (2, 21), (2, 22), (2, 23), (3, 0), (3, 1), (3, 2), (3, 3), (3, 4), (3, 5), (3, 6), (0, 16), (0, 6), (3, 7), (3, 8), (3, 9), (3, 10), (3, 11), (3, 12), (3, 13), (3, 14), (3, 15), (3, 16), (1, 21), (1, 22), (1, 23), (3, 17), (3, 18), (3, 19), (3, 20), (3, 21), (3, 22), (3, 23), (4, 0), (4, 1), (4, 2), (4, 3), (4, 4), (4, 5), (4, 6), (4, 7), (1, 5), (4, 8), (4, 9), (4, 10), (4, 11), (4, 12), (4, 13), (4, 14), (4, 15), (1, 13), (1, 14), (1, 15), (1, 16), (4, 16), (4, 17), (4, 18), (4, 19), (4, 20), (4, 21), (4, 22), (4, 23), (5, 0), (5, 1), (5, 2), (5, 3), (5, 4), (5, 5), (5, 6), (5, 7), (1, 17), (1, 18), (1, 19), (1, 20), (5, 8), (5, 9), (5, 10), (5, 11), (5, 12), (5, 13), (5, 14), (5, 15), (5, 16), (5, 17), (5, 18), (5, 19), (5, 20), (5, 21), (5, 22), (5, 23), (6, 0), (6, 1), (6, 2), (6, 3), (6, 4), (6, 5), (6, 6), (6, 7), (1, 1), (1, 2), (1, 3), (1, 4), (1, 9), (1, 10), (1, 11), (1, 12), (6, 8), (6, 9), (6, 10), (6, 11), (7, 0), (7, 1), (7, 2), (7, 3), (7, 4), (7, 5), (7, 6), (7, 7), (7, 8), (7, 9), (7, 10), (7, 11), (7, 12), (7, 13), (7, 14), (7, 15), (7, 16), (7, 17), (7, 18), (7, 19), (7, 20)] rfl (by decide +kernel)
set_option maxRecDepth 20000 in
theorem gX7_would_X7_deliveredByZone : GoodIn wsX7_would (wsV RX7 295 RX7 yX7_deliveredByZone wsX7_deliveredByZone) := goodIn_app (goodIn_of _ (by decide +kernel)) ggX7_would_X7_deliveredByZone
theorem dX7_would_0 : decode cX7_would 0 = .ok (.aload_n 0, 1) := by decide +kernel
theorem dX7_would_1 : decode cX7_would 1 = .ok (.iconst 0, 1) := by decide +kernel
theorem dX7_would_2 : decode cX7_would 2 = .ok (.putfield 49, 3) := by decide +kernel
theorem dX7_would_5 : decode cX7_would 5 = .ok (.aload_n 0, 1) := by decide +kernel
theorem dX7_would_6 : decode cX7_would 6 = .ok (.iload_n 1, 1) := by decide +kernel
theorem dX7_would_7 : decode cX7_would 7 = .ok (.iload_n 2, 1) := by decide +kernel
theorem dX7_would_8 : decode cX7_would 8 = .ok (.iload_n 3, 1) := by decide +kernel
theorem dX7_would_9 : decode cX7_would 9 = .ok (.invokevirtual 232, 3) := by decide +kernel
theorem dX7_would_12 : decode cX7_would 12 = .ok (.iconst (-1), 1) := by decide +kernel
theorem dX7_would_13 : decode cX7_would 13 = .ok (.if_icmp .ne 24, 3) := by decide +kernel
theorem dX7_would_16 : decode cX7_would 16 = .ok (.iload 4, 2) := by decide +kernel
theorem dX7_would_18 : decode cX7_would 18 = .ok (.iconst 0, 1) := by decide +kernel
theorem dX7_would_19 : decode cX7_would 19 = .ok (.invokestatic 253, 3) := by decide +kernel
theorem dX7_would_22 : decode cX7_would 22 = .ok (.ifCond .eq 15, 3) := by decide +kernel
theorem dX7_would_25 : decode cX7_would 25 = .ok (.aload_n 0, 1) := by decide +kernel
theorem dX7_would_26 : decode cX7_would 26 = .ok (.iload_n 1, 1) := by decide +kernel
theorem dX7_would_27 : decode cX7_would 27 = .ok (.iload_n 2, 1) := by decide +kernel
theorem dX7_would_28 : decode cX7_would 28 = .ok (.iload_n 3, 1) := by decide +kernel
theorem dX7_would_29 : decode cX7_would 29 = .ok (.iload 4, 2) := by decide +kernel
theorem dX7_would_31 : decode cX7_would 31 = .ok (.invokevirtual 295, 3) := by decide +kernel
theorem dX7_would_34 : decode cX7_would 34 = .ok (.goto 4, 3) := by decide +kernel
theorem dX7_would_37 : decode cX7_would 37 = .ok (.iconst (-1), 1) := by decide +kernel
theorem dX7_would_38 : decode cX7_would 38 = .ok (.ireturn, 1) := by decide +kernel
theorem qxX7_bestZone_0 : ∀ w ∈ ((wsX7_bestZone_r1 ++ (wsX7_bestZone_r2 ++ (wsX7_bestZone_r3 ++ (wsX7_bestZone_r4 ++ (wsX7_bestZone_r5 ++ (wsX7_bestZone_r6 ++ wsX7_bestZone_r7)))))) ++ wsX70), w ∈ wsX7_bestZone := fun w h => List.mem_cons_of_mem _ h
theorem qxX7_bestZone_1 : ∀ w ∈ (wsX7_bestZone_r1 ++ (wsX7_bestZone_r2 ++ (wsX7_bestZone_r3 ++ (wsX7_bestZone_r4 ++ (wsX7_bestZone_r5 ++ (wsX7_bestZone_r6 ++ wsX7_bestZone_r7)))))), w ∈ wsX7_bestZone := in_l qxX7_bestZone_0
theorem qxX7_bestZone_2 : ∀ w ∈ wsX70, w ∈ wsX7_bestZone := in_r qxX7_bestZone_0
theorem qxX7_bestZone_3 : ∀ w ∈ wsX7_bestZone_r1, w ∈ wsX7_bestZone := in_l qxX7_bestZone_1
theorem qxX7_bestZone_4 : ∀ w ∈ (wsX7_bestZone_r2 ++ (wsX7_bestZone_r3 ++ (wsX7_bestZone_r4 ++ (wsX7_bestZone_r5 ++ (wsX7_bestZone_r6 ++ wsX7_bestZone_r7))))), w ∈ wsX7_bestZone := in_r qxX7_bestZone_1
theorem qxX7_bestZone_5 : ∀ w ∈ wsX7_bestZone_r2, w ∈ wsX7_bestZone := in_l qxX7_bestZone_4
theorem qxX7_bestZone_6 : ∀ w ∈ (wsX7_bestZone_r3 ++ (wsX7_bestZone_r4 ++ (wsX7_bestZone_r5 ++ (wsX7_bestZone_r6 ++ wsX7_bestZone_r7)))), w ∈ wsX7_bestZone := in_r qxX7_bestZone_4
theorem qxX7_bestZone_7 : ∀ w ∈ wsX7_bestZone_r3, w ∈ wsX7_bestZone := in_l qxX7_bestZone_6
theorem qxX7_bestZone_8 : ∀ w ∈ (wsX7_bestZone_r4 ++ (wsX7_bestZone_r5 ++ (wsX7_bestZone_r6 ++ wsX7_bestZone_r7))), w ∈ wsX7_bestZone := in_r qxX7_bestZone_6
theorem qxX7_bestZone_9 : ∀ w ∈ wsX7_bestZone_r4, w ∈ wsX7_bestZone := in_l qxX7_bestZone_8
theorem qxX7_bestZone_10 : ∀ w ∈ (wsX7_bestZone_r5 ++ (wsX7_bestZone_r6 ++ wsX7_bestZone_r7)), w ∈ wsX7_bestZone := in_r qxX7_bestZone_8
theorem qxX7_bestZone_11 : ∀ w ∈ wsX7_bestZone_r5, w ∈ wsX7_bestZone := in_l qxX7_bestZone_10
theorem qxX7_bestZone_12 : ∀ w ∈ (wsX7_bestZone_r6 ++ wsX7_bestZone_r7), w ∈ wsX7_bestZone := in_r qxX7_bestZone_10
theorem qxX7_bestZone_13 : ∀ w ∈ wsX7_bestZone_r6, w ∈ wsX7_bestZone := in_l qxX7_bestZone_12
theorem qxX7_bestZone_14 : ∀ w ∈ wsX7_bestZone_r7, w ∈ wsX7_bestZone := in_r qxX7_bestZone_12
def pxX7_bestZone : List (List Cond) := [wsX7_bestZone_r1, wsX7_bestZone_r2, wsX7_bestZone_r3, wsX7_bestZone_r4, wsX7_bestZone_r5, wsX7_bestZone_r6, wsX7_bestZone_r7, wsX70]
theorem pxX7_bestZone_in : ∀ q ∈ pxX7_bestZone, ∀ w ∈ q, w ∈ wsX7_bestZone := lp_c qxX7_bestZone_3 (lp_c qxX7_bestZone_5 (lp_c qxX7_bestZone_7 (lp_c qxX7_bestZone_9 (lp_c qxX7_bestZone_11 (lp_c qxX7_bestZone_13 (lp_c qxX7_bestZone_14 (lp_c qxX7_bestZone_2 (lp_n))))))))
set_option maxRecDepth 20000 in
theorem ggX7_bestZone_X7_isLane : GoodIn wsX7_bestZone wsX7_isLane := goodIn_pp pxX7_bestZone pxX7_bestZone_in _ [(0, 10), (0, 11), (0, 12), (0, 13), (0, 9), (0, 14), (0, 15), (0, 16), (0, 17), (0, 18), (0, 19), (0, 20), (0, 21), (0, 22), (0, 23), (7, 0), (7, 1), (7, 2), (7, 3), (7, 4), (7, 5), (7, 6), (7, 7), (7, 8), (7, 9), (7, 10), (7, 11), (7, 12), (7, 13), (7, 14), (7, 15), (7, 16), (7, 17), (7, 18), (7, 19), (7, 20)] rfl (by decide +kernel)
set_option maxRecDepth 20000 in
theorem gX7_bestZone_X7_isLane : GoodIn wsX7_bestZone (wsV RX7 229 RX7 yX7_isLane wsX7_isLane) := goodIn_app (goodIn_of _ (by decide +kernel)) ggX7_bestZone_X7_isLane
set_option maxRecDepth 20000 in
theorem ggX7_bestZone_X7_in : GoodIn wsX7_bestZone wsX7_in := goodIn_r _ [19] (by decide +kernel) (by decide +kernel)
set_option maxRecDepth 20000 in
theorem gX7_bestZone_X7_in : GoodIn wsX7_bestZone (va_wsS RX7 60 yX7_in wsX7_in) := goodIn_app (goodIn_of _ (by decide +kernel)) ggX7_bestZone_X7_in
set_option maxRecDepth 20000 in
theorem ggX7_bestZone_X7_pool : GoodIn wsX7_bestZone wsX7_pool := goodIn_r _ [28, 29, 154, 155, 156, 157, 158, 159, 160, 161, 162, 163, 164, 165, 166, 167, 168, 169, 170, 171, 172, 173, 174] (by decide +kernel) (by decide +kernel)
set_option maxRecDepth 20000 in
theorem gX7_bestZone_X7_pool : GoodIn wsX7_bestZone (wsV RX7 151 RX7 yX7_pool wsX7_pool) := goodIn_app (goodIn_of _ (by decide +kernel)) ggX7_bestZone_X7_pool
set_option maxRecDepth 20000 in
theorem ggX7_bestZone_X7_whyZone : GoodIn wsX7_bestZone wsX7_whyZone := goodIn_pp pxX7_bestZone pxX7_bestZone_in _ [(1, 8), (1, 9), (0, 1), (0, 6), (0, 7), (0, 8), (0, 9), (0, 10), (0, 11), (0, 12), (0, 13), (0, 14), (0, 15), (0, 16), (0, 17), (0, 18), (0, 19), (0, 20), (0, 21), (0, 22), (0, 23), (1, 0), (1, 1), (1, 2), (1, 3), (1, 4), (1, 10), (1, 11), (1, 12), (1, 13), (1, 14), (1, 15), (1, 16), (0, 2), (0, 3), (0, 4), (0, 5), (1, 17), (1, 18), (1, 19), (1, 20), (1, 21), (1, 22), (1, 23), (7, 0), (7, 1), (7, 2), (7, 3), (7, 4), (7, 5), (7, 6), (7, 7), (7, 8), (7, 9), (7, 10), (7, 11), (7, 12), (7, 13), (7, 14), (7, 15), (7, 16), (7, 17), (7, 18), (7, 19), (7, 20)] rfl (by decide +kernel)
set_option maxRecDepth 20000 in
theorem gX7_bestZone_X7_whyZone : GoodIn wsX7_bestZone (wsV RX7 232 RX7 yX7_whyZone wsX7_whyZone) := goodIn_app (goodIn_of _ (by decide +kernel)) ggX7_bestZone_X7_whyZone
set_option maxRecDepth 20000 in
theorem ggX7_bestZone_X7_lane : GoodIn wsX7_bestZone wsX7_lane := goodIn_r _ [37] (by decide +kernel) (by decide +kernel)
set_option maxRecDepth 20000 in
theorem gX7_bestZone_X7_lane : GoodIn wsX7_bestZone (va_wsS RX7 163 yX7_lane wsX7_lane) := goodIn_app (goodIn_of _ (by decide +kernel)) ggX7_bestZone_X7_lane
set_option maxRecDepth 20000 in
theorem ggX7_bestZone_X7_deliveredByZone : GoodIn wsX7_bestZone wsX7_deliveredByZone := goodIn_pp pxX7_bestZone pxX7_bestZone_in _ [(2, 3), (0, 1), (2, 4), (2, 5), (2, 6), (0, 9), (2, 7), (2, 8), (1, 10), (1, 11), (1, 12), (2, 9), (2, 10), (2, 11), (2, 12), (2, 13), (2, 14), (2, 15), (2, 16), (0, 23), (2, 17), (2, 18), (2, 19), (2, 20), (2, 21), (2, 22), (2, 23), (3, 0), (3, 1), (3, 2), (3, 3), (0, 15), (1, 9), (3, 4), (3, 5), (3, 6), (3, 7), (3, 8), (3, 9), (3, 10), (3, 11), (3, 12), (3, 13), (1, 21), (1, 22), (1, 23), (3, 14), (3, 15), (3, 16), (3, 17), (3, 18), (3, 19), (3, 20), (3, 21), (3, 22), (3, 23), (4, 0), (4, 1), (4, 2), (4, 3), (4, 4), (1, 4), (4, 5), (4, 6), (4, 7), (4, 8), (4, 9), (4, 10), (4, 11), (4, 12), (0, 2), (0, 3), (0, 4), (0, 5), (4, 13), (4, 14), (4, 15), (4, 16), (4, 17), (4, 18), (4, 19), (4, 20), (4, 21), (4, 22), (4, 23), (5, 0), (5, 1), (5, 2), (5, 3), (5, 4), (1, 17), (1, 18), (1, 19), (1, 20), (5, 5), (5, 6), (5, 7), (5, 8), (5, 9), (5, 10), (5, 11), (5, 12), (5, 13), (5, 14), (5, 15), (5, 16), (5, 17), (5, 18), (5, 19), (5, 20), (5, 21), (5, 22), (5, 23), (6, 0), (6, 1), (6, 2), (6, 3), (6, 4), (1, 0), (1, 1), (1, 2), (1, 3), (1, 13), (1, 14), (1, 15), (1, 16), (6, 5), (6, 6), (6, 7), (6, 8), (7, 0), (7, 1), (7, 2), (7, 3), (7, 4), (7, 5), (7, 6), (7, 7), (7, 8), (7, 9), (7, 10), (7, 11), (7, 12), (7, 13), (7, 14), (7, 15), (7, 16), (7, 17), (7, 18), (7, 19), (7, 20)] rfl (by decide +kernel)
set_option maxRecDepth 20000 in
theorem gX7_bestZone_X7_deliveredByZone : GoodIn wsX7_bestZone (wsV RX7 295 RX7 yX7_deliveredByZone wsX7_deliveredByZone) := goodIn_app (goodIn_of _ (by decide +kernel)) ggX7_bestZone_X7_deliveredByZone
theorem dX7_bestZone_0 : decode cX7_bestZone 0 = .ok (.aload_n 0, 1) := by decide +kernel
theorem dX7_bestZone_1 : decode cX7_bestZone 1 = .ok (.iconst 0, 1) := by decide +kernel
theorem dX7_bestZone_2 : decode cX7_bestZone 2 = .ok (.putfield 49, 3) := by decide +kernel
theorem dX7_bestZone_5 : decode cX7_bestZone 5 = .ok (.aload_n 0, 1) := by decide +kernel
theorem dX7_bestZone_6 : decode cX7_bestZone 6 = .ok (.iload_n 1, 1) := by decide +kernel
theorem dX7_bestZone_7 : decode cX7_bestZone 7 = .ok (.iload_n 2, 1) := by decide +kernel
theorem dX7_bestZone_8 : decode cX7_bestZone 8 = .ok (.invokevirtual 229, 3) := by decide +kernel
theorem dX7_bestZone_11 : decode cX7_bestZone 11 = .ok (.ifCond .eq 13, 3) := by decide +kernel
theorem dX7_bestZone_14 : decode cX7_bestZone 14 = .ok (.iload_n 3, 1) := by decide +kernel
theorem dX7_bestZone_15 : decode cX7_bestZone 15 = .ok (.iconst 1, 1) := by decide +kernel
theorem dX7_bestZone_16 : decode cX7_bestZone 16 = .ok (.bipush 60, 2) := by decide +kernel
theorem dX7_bestZone_18 : decode cX7_bestZone 18 = .ok (.invokestatic 60, 3) := by decide +kernel
theorem dX7_bestZone_21 : decode cX7_bestZone 21 = .ok (.ifCond .ne 5, 3) := by decide +kernel
theorem dX7_bestZone_24 : decode cX7_bestZone 24 = .ok (.iconst (-1), 1) := by decide +kernel
theorem dX7_bestZone_25 : decode cX7_bestZone 25 = .ok (.ireturn, 1) := by decide +kernel
theorem dX7_bestZone_26 : decode cX7_bestZone 26 = .ok (.iconst (-1), 1) := by decide +kernel
theorem dX7_bestZone_27 : decode cX7_bestZone 27 = .ok (.istore 4, 2) := by decide +kernel
theorem dX7_bestZone_29 : decode cX7_bestZone 29 = .ok (.iconst (-1), 1) := by decide +kernel
theorem dX7_bestZone_30 : decode cX7_bestZone 30 = .ok (.istore 5, 2) := by decide +kernel
theorem dX7_bestZone_32 : decode cX7_bestZone 32 = .ok (.iconst 0, 1) := by decide +kernel
theorem dX7_bestZone_33 : decode cX7_bestZone 33 = .ok (.istore 6, 2) := by decide +kernel
theorem dX7_bestZone_35 : decode cX7_bestZone 35 = .ok (.iload 6, 2) := by decide +kernel
theorem dX7_bestZone_37 : decode cX7_bestZone 37 = .ok (.aload_n 0, 1) := by decide +kernel
theorem dX7_bestZone_38 : decode cX7_bestZone 38 = .ok (.iload_n 1, 1) := by decide +kernel
theorem dX7_bestZone_39 : decode cX7_bestZone 39 = .ok (.invokevirtual 151, 3) := by decide +kernel
theorem dX7_bestZone_42 : decode cX7_bestZone 42 = .ok (.if_icmp .gt 94, 3) := by decide +kernel
theorem dX7_bestZone_45 : decode cX7_bestZone 45 = .ok (.aload_n 0, 1) := by decide +kernel
theorem dX7_bestZone_46 : decode cX7_bestZone 46 = .ok (.iload_n 1, 1) := by decide +kernel
theorem dX7_bestZone_47 : decode cX7_bestZone 47 = .ok (.iload_n 2, 1) := by decide +kernel
theorem dX7_bestZone_48 : decode cX7_bestZone 48 = .ok (.iload 6, 2) := by decide +kernel
theorem dX7_bestZone_50 : decode cX7_bestZone 50 = .ok (.invokevirtual 232, 3) := by decide +kernel
theorem dX7_bestZone_53 : decode cX7_bestZone 53 = .ok (.istore 7, 2) := by decide +kernel
theorem dX7_bestZone_55 : decode cX7_bestZone 55 = .ok (.iload 7, 2) := by decide +kernel
theorem dX7_bestZone_57 : decode cX7_bestZone 57 = .ok (.iconst (-1), 1) := by decide +kernel
theorem dX7_bestZone_58 : decode cX7_bestZone 58 = .ok (.if_icmp .eq 20, 3) := by decide +kernel
theorem dX7_bestZone_61 : decode cX7_bestZone 61 = .ok (.iload 6, 2) := by decide +kernel
theorem dX7_bestZone_63 : decode cX7_bestZone 63 = .ok (.aload_n 0, 1) := by decide +kernel
theorem dX7_bestZone_64 : decode cX7_bestZone 64 = .ok (.getfield 22, 3) := by decide +kernel
theorem dX7_bestZone_67 : decode cX7_bestZone 67 = .ok (.iload_n 1, 1) := by decide +kernel
theorem dX7_bestZone_68 : decode cX7_bestZone 68 = .ok (.iload_n 2, 1) := by decide +kernel
theorem dX7_bestZone_69 : decode cX7_bestZone 69 = .ok (.invokestatic 163, 3) := by decide +kernel
theorem dX7_bestZone_72 : decode cX7_bestZone 72 = .ok (.iconst 3, 1) := by decide +kernel
theorem dX7_bestZone_73 : decode cX7_bestZone 73 = .ok (.iadd, 1) := by decide +kernel
theorem dX7_bestZone_74 : decode cX7_bestZone 74 = .ok (.iaload, 1) := by decide +kernel
theorem dX7_bestZone_75 : decode cX7_bestZone 75 = .ok (.if_icmp .ne 7, 3) := by decide +kernel
theorem dX7_bestZone_78 : decode cX7_bestZone 78 = .ok (.iconst 1, 1) := by decide +kernel
theorem dX7_bestZone_79 : decode cX7_bestZone 79 = .ok (.goto 4, 3) := by decide +kernel
theorem dX7_bestZone_82 : decode cX7_bestZone 82 = .ok (.iconst 0, 1) := by decide +kernel
theorem dX7_bestZone_83 : decode cX7_bestZone 83 = .ok (.istore 8, 2) := by decide +kernel
theorem dX7_bestZone_85 : decode cX7_bestZone 85 = .ok (.iload 8, 2) := by decide +kernel
theorem dX7_bestZone_87 : decode cX7_bestZone 87 = .ok (.ifCond .eq 15, 3) := by decide +kernel
theorem dX7_bestZone_90 : decode cX7_bestZone 90 = .ok (.aload_n 0, 1) := by decide +kernel
theorem dX7_bestZone_91 : decode cX7_bestZone 91 = .ok (.iload_n 1, 1) := by decide +kernel
theorem dX7_bestZone_92 : decode cX7_bestZone 92 = .ok (.iload_n 2, 1) := by decide +kernel
theorem dX7_bestZone_93 : decode cX7_bestZone 93 = .ok (.iload 6, 2) := by decide +kernel
theorem dX7_bestZone_95 : decode cX7_bestZone 95 = .ok (.iload_n 3, 1) := by decide +kernel
theorem dX7_bestZone_96 : decode cX7_bestZone 96 = .ok (.invokevirtual 295, 3) := by decide +kernel
theorem dX7_bestZone_99 : decode cX7_bestZone 99 = .ok (.goto 4, 3) := by decide +kernel
theorem dX7_bestZone_102 : decode cX7_bestZone 102 = .ok (.iconst (-1), 1) := by decide +kernel
theorem dX7_bestZone_103 : decode cX7_bestZone 103 = .ok (.istore 9, 2) := by decide +kernel
theorem dX7_bestZone_105 : decode cX7_bestZone 105 = .ok (.iload 9, 2) := by decide +kernel
theorem dX7_bestZone_107 : decode cX7_bestZone 107 = .ok (.iload 5, 2) := by decide +kernel
theorem dX7_bestZone_109 : decode cX7_bestZone 109 = .ok (.if_icmp .le 8, 3) := by decide +kernel
theorem dX7_bestZone_112 : decode cX7_bestZone 112 = .ok (.iload 6, 2) := by decide +kernel
theorem dX7_bestZone_114 : decode cX7_bestZone 114 = .ok (.goto 5, 3) := by decide +kernel
theorem dX7_bestZone_117 : decode cX7_bestZone 117 = .ok (.iload 4, 2) := by decide +kernel
theorem dX7_bestZone_119 : decode cX7_bestZone 119 = .ok (.istore 4, 2) := by decide +kernel
theorem dX7_bestZone_121 : decode cX7_bestZone 121 = .ok (.iload 5, 2) := by decide +kernel
theorem dX7_bestZone_123 : decode cX7_bestZone 123 = .ok (.iload 9, 2) := by decide +kernel
theorem dX7_bestZone_125 : decode cX7_bestZone 125 = .ok (.invokestatic 154, 3) := by decide +kernel
theorem dX7_bestZone_128 : decode cX7_bestZone 128 = .ok (.istore 5, 2) := by decide +kernel
theorem dX7_bestZone_130 : decode cX7_bestZone 130 = .ok (.iinc 6 1, 3) := by decide +kernel
theorem dX7_bestZone_133 : decode cX7_bestZone 133 = .ok (.goto (-98), 3) := by decide +kernel
theorem dX7_bestZone_136 : decode cX7_bestZone 136 = .ok (.iload 4, 2) := by decide +kernel
theorem dX7_bestZone_138 : decode cX7_bestZone 138 = .ok (.ireturn, 1) := by decide +kernel
set_option maxRecDepth 20000 in
theorem ggX7_waitsOf_X7_putAside : GoodIn wsX7_waitsOf wsX7_putAside := goodIn_r _ [5, 6, 7, 118, 119, 120, 121, 122, 123, 124, 125, 126, 127, 128, 129, 130, 131, 132, 133, 134, 135, 136, 137, 138] (by decide +kernel) (by decide +kernel)
set_option maxRecDepth 20000 in
theorem gX7_waitsOf_X7_putAside : GoodIn wsX7_waitsOf (wsV RX7 256 RX7 yX7_putAside wsX7_putAside) := goodIn_app (goodIn_of _ (by decide +kernel)) ggX7_waitsOf_X7_putAside
theorem qxX7_waitsOf_0 : ∀ w ∈ ((wsX7_waitsOf_r1 ++ (wsX7_waitsOf_r2 ++ (wsX7_waitsOf_r3 ++ (wsX7_waitsOf_r4 ++ wsX7_waitsOf_r5)))) ++ wsX70), w ∈ wsX7_waitsOf := fun w h => List.mem_cons_of_mem _ h
theorem qxX7_waitsOf_1 : ∀ w ∈ (wsX7_waitsOf_r1 ++ (wsX7_waitsOf_r2 ++ (wsX7_waitsOf_r3 ++ (wsX7_waitsOf_r4 ++ wsX7_waitsOf_r5)))), w ∈ wsX7_waitsOf := in_l qxX7_waitsOf_0
theorem qxX7_waitsOf_2 : ∀ w ∈ wsX70, w ∈ wsX7_waitsOf := in_r qxX7_waitsOf_0
theorem qxX7_waitsOf_3 : ∀ w ∈ wsX7_waitsOf_r1, w ∈ wsX7_waitsOf := in_l qxX7_waitsOf_1
theorem qxX7_waitsOf_4 : ∀ w ∈ (wsX7_waitsOf_r2 ++ (wsX7_waitsOf_r3 ++ (wsX7_waitsOf_r4 ++ wsX7_waitsOf_r5))), w ∈ wsX7_waitsOf := in_r qxX7_waitsOf_1
theorem qxX7_waitsOf_5 : ∀ w ∈ wsX7_waitsOf_r2, w ∈ wsX7_waitsOf := in_l qxX7_waitsOf_4
theorem qxX7_waitsOf_6 : ∀ w ∈ (wsX7_waitsOf_r3 ++ (wsX7_waitsOf_r4 ++ wsX7_waitsOf_r5)), w ∈ wsX7_waitsOf := in_r qxX7_waitsOf_4
theorem qxX7_waitsOf_7 : ∀ w ∈ wsX7_waitsOf_r3, w ∈ wsX7_waitsOf := in_l qxX7_waitsOf_6
theorem qxX7_waitsOf_8 : ∀ w ∈ (wsX7_waitsOf_r4 ++ wsX7_waitsOf_r5), w ∈ wsX7_waitsOf := in_r qxX7_waitsOf_6
theorem qxX7_waitsOf_9 : ∀ w ∈ wsX7_waitsOf_r4, w ∈ wsX7_waitsOf := in_l qxX7_waitsOf_8
theorem qxX7_waitsOf_10 : ∀ w ∈ wsX7_waitsOf_r5, w ∈ wsX7_waitsOf := in_r qxX7_waitsOf_8
def pxX7_waitsOf : List (List Cond) := [wsX7_waitsOf_r1, wsX7_waitsOf_r2, wsX7_waitsOf_r3, wsX7_waitsOf_r4, wsX7_waitsOf_r5, wsX70]
theorem pxX7_waitsOf_in : ∀ q ∈ pxX7_waitsOf, ∀ w ∈ q, w ∈ wsX7_waitsOf := lp_c qxX7_waitsOf_3 (lp_c qxX7_waitsOf_5 (lp_c qxX7_waitsOf_7 (lp_c qxX7_waitsOf_9 (lp_c qxX7_waitsOf_10 (lp_c qxX7_waitsOf_2 (lp_n))))))
set_option maxRecDepth 20000 in
theorem ggX7_waitsOf_X7_ticks : GoodIn wsX7_waitsOf wsX7_ticks := goodIn_pp pxX7_waitsOf pxX7_waitsOf_in _ [(0, 10), (0, 11), (0, 12), (0, 13), (0, 6), (0, 14), (0, 15), (0, 16), (0, 3), (0, 17), (0, 18), (0, 19), (0, 20), (0, 21), (0, 22), (0, 23), (1, 0), (1, 1), (1, 2), (1, 3), (1, 4), (1, 5), (1, 6), (1, 7), (1, 8), (1, 9), (1, 10), (1, 11), (1, 12), (1, 13), (1, 14), (1, 15), (1, 16), (1, 17), (1, 18), (1, 19), (1, 20), (1, 21), (1, 22), (1, 23), (2, 0), (2, 1), (2, 2), (2, 3), (2, 4), (2, 5), (2, 6), (2, 7), (2, 8), (2, 9), (2, 10), (2, 11), (2, 12), (2, 13), (2, 14), (2, 15), (2, 16), (2, 17), (2, 18), (2, 19), (2, 20), (2, 21), (2, 22), (2, 23), (3, 0), (3, 1), (3, 2), (3, 3), (3, 4), (3, 5), (3, 6), (3, 7), (3, 8), (3, 9), (3, 10), (3, 11), (3, 12), (3, 13), (3, 14), (3, 15), (3, 16), (3, 17), (3, 18), (3, 19), (3, 20), (3, 21), (3, 22), (3, 23), (4, 0), (4, 1), (4, 2), (4, 3), (4, 4), (4, 5), (4, 6), (4, 7), (4, 8), (4, 9), (4, 10), (4, 11), (4, 12), (4, 13), (4, 14), (4, 15), (4, 16), (5, 0), (5, 1), (5, 2), (5, 3), (5, 4), (5, 5), (5, 6), (5, 7), (5, 8), (5, 9), (5, 10), (5, 11), (5, 12), (5, 13), (5, 14), (5, 15), (5, 16), (5, 17), (5, 18), (5, 19), (5, 20)] rfl (by decide +kernel)
set_option maxRecDepth 20000 in
theorem gX7_waitsOf_X7_ticks : GoodIn wsX7_waitsOf (wsV RX7 226 RX7 yX7_ticks wsX7_ticks) := goodIn_app (goodIn_of _ (by decide +kernel)) ggX7_waitsOf_X7_ticks
set_option maxRecDepth 20000 in
theorem ggX7_waitsOf_X7_isHeld : GoodIn wsX7_waitsOf wsX7_isHeld := goodIn_pp pxX7_waitsOf pxX7_waitsOf_in _ [(3, 16), (0, 6), (0, 21), (0, 22), (0, 3), (0, 23), (3, 1), (3, 2), (3, 3), (3, 4), (2, 9), (2, 10), (2, 11), (2, 12), (1, 0), (1, 1), (1, 2), (3, 5), (3, 6), (3, 7), (3, 8), (1, 3), (1, 4), (1, 5), (5, 0), (5, 1), (5, 2), (5, 3), (5, 4), (5, 5), (5, 6), (5, 7), (5, 8), (5, 9), (5, 10), (5, 11), (5, 12), (5, 13), (5, 14), (5, 15), (5, 16), (5, 17), (5, 18), (5, 19), (5, 20)] rfl (by decide +kernel)
set_option maxRecDepth 20000 in
theorem gX7_waitsOf_X7_isHeld : GoodIn wsX7_waitsOf (wsV RX7 196 RX7 yX7_isHeld wsX7_isHeld) := goodIn_app (goodIn_of _ (by decide +kernel)) ggX7_waitsOf_X7_isHeld
set_option maxRecDepth 20000 in
theorem ggX7_waitsOf_X7_bringBack : GoodIn wsX7_waitsOf wsX7_bringBack := goodIn_r _ [117, 7, 6, 118, 119, 120, 121, 122, 123, 124, 125, 126, 127, 128, 129, 130, 131, 132, 133, 134, 135, 136, 137, 138] (by decide +kernel) (by decide +kernel)
set_option maxRecDepth 20000 in
theorem gX7_waitsOf_X7_bringBack : GoodIn wsX7_waitsOf (wsV RX7 262 RX7 yX7_bringBack wsX7_bringBack) := goodIn_app (goodIn_of _ (by decide +kernel)) ggX7_waitsOf_X7_bringBack
theorem dX7_waitsOf_0 : decode cX7_waitsOf 0 = .ok (.aload_n 0, 1) := by decide +kernel
theorem dX7_waitsOf_1 : decode cX7_waitsOf 1 = .ok (.invokevirtual 256, 3) := by decide +kernel
theorem dX7_waitsOf_4 : decode cX7_waitsOf 4 = .ok (.iconst 0, 1) := by decide +kernel
theorem dX7_waitsOf_5 : decode cX7_waitsOf 5 = .ok (.istore 4, 2) := by decide +kernel
theorem dX7_waitsOf_7 : decode cX7_waitsOf 7 = .ok (.iconst 0, 1) := by decide +kernel
theorem dX7_waitsOf_8 : decode cX7_waitsOf 8 = .ok (.istore 5, 2) := by decide +kernel
theorem dX7_waitsOf_10 : decode cX7_waitsOf 10 = .ok (.iload 5, 2) := by decide +kernel
theorem dX7_waitsOf_12 : decode cX7_waitsOf 12 = .ok (.iload_n 3, 1) := by decide +kernel
theorem dX7_waitsOf_13 : decode cX7_waitsOf 13 = .ok (.if_icmp .ge 32, 3) := by decide +kernel
theorem dX7_waitsOf_16 : decode cX7_waitsOf 16 = .ok (.aload_n 0, 1) := by decide +kernel
theorem dX7_waitsOf_17 : decode cX7_waitsOf 17 = .ok (.invokevirtual 226, 3) := by decide +kernel
theorem dX7_waitsOf_20 : decode cX7_waitsOf 20 = .ok (.iload 4, 2) := by decide +kernel
theorem dX7_waitsOf_22 : decode cX7_waitsOf 22 = .ok (.aload_n 0, 1) := by decide +kernel
theorem dX7_waitsOf_23 : decode cX7_waitsOf 23 = .ok (.iload_n 1, 1) := by decide +kernel
theorem dX7_waitsOf_24 : decode cX7_waitsOf 24 = .ok (.iload_n 2, 1) := by decide +kernel
theorem dX7_waitsOf_25 : decode cX7_waitsOf 25 = .ok (.invokevirtual 196, 3) := by decide +kernel
theorem dX7_waitsOf_28 : decode cX7_waitsOf 28 = .ok (.ifCond .eq 7, 3) := by decide +kernel
theorem dX7_waitsOf_31 : decode cX7_waitsOf 31 = .ok (.iconst 1, 1) := by decide +kernel
theorem dX7_waitsOf_32 : decode cX7_waitsOf 32 = .ok (.goto 4, 3) := by decide +kernel
theorem dX7_waitsOf_35 : decode cX7_waitsOf 35 = .ok (.iconst 0, 1) := by decide +kernel
theorem dX7_waitsOf_36 : decode cX7_waitsOf 36 = .ok (.iadd, 1) := by decide +kernel
theorem dX7_waitsOf_37 : decode cX7_waitsOf 37 = .ok (.istore 4, 2) := by decide +kernel
theorem dX7_waitsOf_39 : decode cX7_waitsOf 39 = .ok (.iinc 5 1, 3) := by decide +kernel
theorem dX7_waitsOf_42 : decode cX7_waitsOf 42 = .ok (.goto (-32), 3) := by decide +kernel
theorem dX7_waitsOf_45 : decode cX7_waitsOf 45 = .ok (.aload_n 0, 1) := by decide +kernel
theorem dX7_waitsOf_46 : decode cX7_waitsOf 46 = .ok (.invokevirtual 262, 3) := by decide +kernel
theorem dX7_waitsOf_49 : decode cX7_waitsOf 49 = .ok (.iload 4, 2) := by decide +kernel
theorem dX7_waitsOf_51 : decode cX7_waitsOf 51 = .ok (.ireturn, 1) := by decide +kernel
theorem qxX7_waits__0 : ∀ w ∈ ((wsX7_waits__r1 ++ (wsX7_waits__r2 ++ (wsX7_waits__r3 ++ (wsX7_waits__r4 ++ (wsX7_waits__r5 ++ wsX7_waits__r6))))) ++ wsX70), w ∈ wsX7_waits_ := fun w h => List.mem_cons_of_mem _ h
theorem qxX7_waits__1 : ∀ w ∈ (wsX7_waits__r1 ++ (wsX7_waits__r2 ++ (wsX7_waits__r3 ++ (wsX7_waits__r4 ++ (wsX7_waits__r5 ++ wsX7_waits__r6))))), w ∈ wsX7_waits_ := in_l qxX7_waits__0
theorem qxX7_waits__2 : ∀ w ∈ wsX70, w ∈ wsX7_waits_ := in_r qxX7_waits__0
theorem qxX7_waits__3 : ∀ w ∈ wsX7_waits__r1, w ∈ wsX7_waits_ := in_l qxX7_waits__1
theorem qxX7_waits__4 : ∀ w ∈ (wsX7_waits__r2 ++ (wsX7_waits__r3 ++ (wsX7_waits__r4 ++ (wsX7_waits__r5 ++ wsX7_waits__r6)))), w ∈ wsX7_waits_ := in_r qxX7_waits__1
theorem qxX7_waits__5 : ∀ w ∈ wsX7_waits__r2, w ∈ wsX7_waits_ := in_l qxX7_waits__4
theorem qxX7_waits__6 : ∀ w ∈ (wsX7_waits__r3 ++ (wsX7_waits__r4 ++ (wsX7_waits__r5 ++ wsX7_waits__r6))), w ∈ wsX7_waits_ := in_r qxX7_waits__4
theorem qxX7_waits__7 : ∀ w ∈ wsX7_waits__r3, w ∈ wsX7_waits_ := in_l qxX7_waits__6
theorem qxX7_waits__8 : ∀ w ∈ (wsX7_waits__r4 ++ (wsX7_waits__r5 ++ wsX7_waits__r6)), w ∈ wsX7_waits_ := in_r qxX7_waits__6
theorem qxX7_waits__9 : ∀ w ∈ wsX7_waits__r4, w ∈ wsX7_waits_ := in_l qxX7_waits__8
theorem qxX7_waits__10 : ∀ w ∈ (wsX7_waits__r5 ++ wsX7_waits__r6), w ∈ wsX7_waits_ := in_r qxX7_waits__8
theorem qxX7_waits__11 : ∀ w ∈ wsX7_waits__r5, w ∈ wsX7_waits_ := in_l qxX7_waits__10
theorem qxX7_waits__12 : ∀ w ∈ wsX7_waits__r6, w ∈ wsX7_waits_ := in_r qxX7_waits__10
def pxX7_waits_ : List (List Cond) := [wsX7_waits__r1, wsX7_waits__r2, wsX7_waits__r3, wsX7_waits__r4, wsX7_waits__r5, wsX7_waits__r6, wsX70]
theorem pxX7_waits__in : ∀ q ∈ pxX7_waits_, ∀ w ∈ q, w ∈ wsX7_waits_ := lp_c qxX7_waits__3 (lp_c qxX7_waits__5 (lp_c qxX7_waits__7 (lp_c qxX7_waits__9 (lp_c qxX7_waits__11 (lp_c qxX7_waits__12 (lp_c qxX7_waits__2 (lp_n)))))))
set_option maxRecDepth 20000 in
theorem ggX7_waits__X7_isLane : GoodIn wsX7_waits_ wsX7_isLane := goodIn_pp pxX7_waits_ pxX7_waits__in _ [(0, 5), (0, 6), (0, 7), (0, 8), (0, 4), (0, 9), (0, 10), (0, 11), (0, 12), (0, 13), (0, 14), (0, 15), (0, 16), (0, 17), (0, 18), (6, 0), (6, 1), (6, 2), (6, 3), (6, 4), (6, 5), (6, 6), (6, 7), (6, 8), (6, 9), (6, 10), (6, 11), (6, 12), (6, 13), (6, 14), (6, 15), (6, 16), (6, 17), (6, 18), (6, 19), (6, 20)] rfl (by decide +kernel)
set_option maxRecDepth 20000 in
theorem gX7_waits__X7_isLane : GoodIn wsX7_waits_ (wsV RX7 229 RX7 yX7_isLane wsX7_isLane) := goodIn_app (goodIn_of _ (by decide +kernel)) ggX7_waits__X7_isLane
set_option maxRecDepth 20000 in
theorem ggX7_waits__X7_isSpan : GoodIn wsX7_waits_ wsX7_isSpan := goodIn_r _ [22, 12, 13, 5, 14] (by decide +kernel) (by decide +kernel)
set_option maxRecDepth 20000 in
theorem gX7_waits__X7_isSpan : GoodIn wsX7_waits_ (va_wsS RX7 253 yX7_isSpan wsX7_isSpan) := goodIn_app (goodIn_of _ (by decide +kernel)) ggX7_waits__X7_isSpan
set_option maxRecDepth 20000 in
theorem ggX7_waits__X7_waitsOf : GoodIn wsX7_waits_ wsX7_waitsOf := goodIn_pp pxX7_waits_ pxX7_waits__in _ [(1, 1), (1, 2), (1, 3), (1, 4), (0, 4), (1, 5), (1, 6), (1, 7), (1, 8), (1, 9), (1, 10), (1, 11), (0, 10), (0, 18), (1, 12), (1, 13), (1, 14), (1, 15), (1, 16), (1, 17), (1, 18), (1, 19), (1, 20), (1, 21), (1, 22), (1, 23), (2, 0), (2, 1), (2, 2), (2, 3), (2, 4), (2, 5), (2, 6), (2, 7), (2, 8), (2, 9), (2, 10), (2, 11), (2, 12), (2, 13), (2, 14), (2, 15), (2, 16), (2, 17), (2, 18), (2, 19), (2, 20), (2, 21), (2, 22), (2, 23), (3, 0), (3, 1), (3, 2), (3, 3), (3, 4), (3, 5), (3, 6), (3, 7), (3, 8), (3, 9), (3, 10), (3, 11), (3, 12), (3, 13), (3, 14), (3, 15), (3, 16), (3, 17), (3, 18), (3, 19), (3, 20), (3, 21), (3, 22), (3, 23), (4, 0), (4, 1), (4, 2), (4, 3), (4, 4), (4, 5), (4, 6), (4, 7), (4, 8), (4, 9), (4, 10), (4, 11), (4, 12), (4, 13), (4, 14), (4, 15), (4, 16), (4, 17), (4, 18), (4, 19), (4, 20), (4, 21), (4, 22), (4, 23), (5, 0), (5, 1), (5, 2), (5, 3), (5, 4), (5, 5), (5, 6), (5, 7), (5, 8), (5, 9), (5, 10), (5, 11), (5, 12), (5, 13), (5, 14), (5, 15), (5, 16), (5, 17), (5, 18), (5, 19), (6, 0), (6, 1), (6, 2), (6, 3), (6, 4), (6, 5), (6, 6), (6, 7), (6, 8), (6, 9), (6, 10), (6, 11), (6, 12), (6, 13), (6, 14), (6, 15), (6, 16), (6, 17), (6, 18), (6, 19), (6, 20)] rfl (by decide +kernel)
set_option maxRecDepth 20000 in
theorem gX7_waits__X7_waitsOf : GoodIn wsX7_waits_ (wsV RX7 299 RX7 yX7_waitsOf wsX7_waitsOf) := goodIn_app (goodIn_of _ (by decide +kernel)) ggX7_waits__X7_waitsOf
theorem dX7_waits__0 : decode cX7_waits_ 0 = .ok (.aload_n 0, 1) := by decide +kernel
theorem dX7_waits__1 : decode cX7_waits_ 1 = .ok (.iconst 0, 1) := by decide +kernel
theorem dX7_waits__2 : decode cX7_waits_ 2 = .ok (.putfield 49, 3) := by decide +kernel
theorem dX7_waits__5 : decode cX7_waits_ 5 = .ok (.aload_n 0, 1) := by decide +kernel
theorem dX7_waits__6 : decode cX7_waits_ 6 = .ok (.iload_n 1, 1) := by decide +kernel
theorem dX7_waits__7 : decode cX7_waits_ 7 = .ok (.iload_n 2, 1) := by decide +kernel
theorem dX7_waits__8 : decode cX7_waits_ 8 = .ok (.invokevirtual 229, 3) := by decide +kernel
theorem dX7_waits__11 : decode cX7_waits_ 11 = .ok (.ifCond .eq 21, 3) := by decide +kernel
theorem dX7_waits__14 : decode cX7_waits_ 14 = .ok (.iload_n 3, 1) := by decide +kernel
theorem dX7_waits__15 : decode cX7_waits_ 15 = .ok (.iconst 1, 1) := by decide +kernel
theorem dX7_waits__16 : decode cX7_waits_ 16 = .ok (.invokestatic 253, 3) := by decide +kernel
theorem dX7_waits__19 : decode cX7_waits_ 19 = .ok (.ifCond .eq 13, 3) := by decide +kernel
theorem dX7_waits__22 : decode cX7_waits_ 22 = .ok (.aload_n 0, 1) := by decide +kernel
theorem dX7_waits__23 : decode cX7_waits_ 23 = .ok (.iload_n 1, 1) := by decide +kernel
theorem dX7_waits__24 : decode cX7_waits_ 24 = .ok (.iload_n 2, 1) := by decide +kernel
theorem dX7_waits__25 : decode cX7_waits_ 25 = .ok (.iload_n 3, 1) := by decide +kernel
theorem dX7_waits__26 : decode cX7_waits_ 26 = .ok (.invokevirtual 299, 3) := by decide +kernel
theorem dX7_waits__29 : decode cX7_waits_ 29 = .ok (.goto 4, 3) := by decide +kernel
theorem dX7_waits__32 : decode cX7_waits_ 32 = .ok (.iconst (-1), 1) := by decide +kernel
theorem dX7_waits__33 : decode cX7_waits_ 33 = .ok (.ireturn, 1) := by decide +kernel
theorem qxX7_worst_0 : ∀ w ∈ ((wsX7_worst_r1 ++ (wsX7_worst_r2 ++ (wsX7_worst_r3 ++ (wsX7_worst_r4 ++ (wsX7_worst_r5 ++ wsX7_worst_r6))))) ++ wsX70), w ∈ wsX7_worst := fun w h => List.mem_cons_of_mem _ h
theorem qxX7_worst_1 : ∀ w ∈ (wsX7_worst_r1 ++ (wsX7_worst_r2 ++ (wsX7_worst_r3 ++ (wsX7_worst_r4 ++ (wsX7_worst_r5 ++ wsX7_worst_r6))))), w ∈ wsX7_worst := in_l qxX7_worst_0
theorem qxX7_worst_2 : ∀ w ∈ wsX70, w ∈ wsX7_worst := in_r qxX7_worst_0
theorem qxX7_worst_3 : ∀ w ∈ wsX7_worst_r1, w ∈ wsX7_worst := in_l qxX7_worst_1
theorem qxX7_worst_4 : ∀ w ∈ (wsX7_worst_r2 ++ (wsX7_worst_r3 ++ (wsX7_worst_r4 ++ (wsX7_worst_r5 ++ wsX7_worst_r6)))), w ∈ wsX7_worst := in_r qxX7_worst_1
theorem qxX7_worst_5 : ∀ w ∈ wsX7_worst_r2, w ∈ wsX7_worst := in_l qxX7_worst_4
theorem qxX7_worst_6 : ∀ w ∈ (wsX7_worst_r3 ++ (wsX7_worst_r4 ++ (wsX7_worst_r5 ++ wsX7_worst_r6))), w ∈ wsX7_worst := in_r qxX7_worst_4
theorem qxX7_worst_7 : ∀ w ∈ wsX7_worst_r3, w ∈ wsX7_worst := in_l qxX7_worst_6
theorem qxX7_worst_8 : ∀ w ∈ (wsX7_worst_r4 ++ (wsX7_worst_r5 ++ wsX7_worst_r6)), w ∈ wsX7_worst := in_r qxX7_worst_6
theorem qxX7_worst_9 : ∀ w ∈ wsX7_worst_r4, w ∈ wsX7_worst := in_l qxX7_worst_8
theorem qxX7_worst_10 : ∀ w ∈ (wsX7_worst_r5 ++ wsX7_worst_r6), w ∈ wsX7_worst := in_r qxX7_worst_8
theorem qxX7_worst_11 : ∀ w ∈ wsX7_worst_r5, w ∈ wsX7_worst := in_l qxX7_worst_10
theorem qxX7_worst_12 : ∀ w ∈ wsX7_worst_r6, w ∈ wsX7_worst := in_r qxX7_worst_10
def pxX7_worst : List (List Cond) := [wsX7_worst_r1, wsX7_worst_r2, wsX7_worst_r3, wsX7_worst_r4, wsX7_worst_r5, wsX7_worst_r6, wsX70]
theorem pxX7_worst_in : ∀ q ∈ pxX7_worst, ∀ w ∈ q, w ∈ wsX7_worst := lp_c qxX7_worst_3 (lp_c qxX7_worst_5 (lp_c qxX7_worst_7 (lp_c qxX7_worst_9 (lp_c qxX7_worst_11 (lp_c qxX7_worst_12 (lp_c qxX7_worst_2 (lp_n)))))))
set_option maxRecDepth 20000 in
theorem ggX7_worst_X7_isCircuit : GoodIn wsX7_worst wsX7_isCircuit := goodIn_pp pxX7_worst pxX7_worst_in _ [(0, 10), (0, 11), (0, 12), (0, 13), (0, 9), (0, 14), (6, 0), (6, 1), (6, 2), (6, 3), (6, 4), (6, 5), (6, 6), (6, 7), (6, 8), (6, 9), (6, 10), (6, 11), (6, 12), (6, 13), (6, 14), (6, 15), (6, 16), (6, 17), (6, 18), (6, 19), (6, 20)] rfl (by decide +kernel)
set_option maxRecDepth 20000 in
theorem gX7_worst_X7_isCircuit : GoodIn wsX7_worst (wsV RX7 133 RX7 yX7_isCircuit wsX7_isCircuit) := goodIn_app (goodIn_of _ (by decide +kernel)) ggX7_worst_X7_isCircuit
set_option maxRecDepth 20000 in
theorem ggX7_worst_X7_isSpan : GoodIn wsX7_worst wsX7_isSpan := goodIn_r _ [18, 13, 14, 10, 15] (by decide +kernel) (by decide +kernel)
set_option maxRecDepth 20000 in
theorem gX7_worst_X7_isSpan : GoodIn wsX7_worst (va_wsS RX7 253 yX7_isSpan wsX7_isSpan) := goodIn_app (goodIn_of _ (by decide +kernel)) ggX7_worst_X7_isSpan
set_option maxRecDepth 20000 in
theorem ggX7_worst_X7_waitsOf : GoodIn wsX7_worst wsX7_waitsOf := goodIn_pp pxX7_worst pxX7_worst_in _ [(0, 21), (0, 22), (0, 23), (1, 0), (0, 9), (1, 1), (1, 2), (1, 3), (1, 4), (1, 5), (1, 6), (1, 7), (0, 1), (0, 11), (1, 8), (1, 9), (1, 10), (1, 11), (1, 12), (1, 13), (1, 14), (1, 15), (1, 16), (1, 17), (1, 18), (1, 19), (1, 20), (1, 21), (1, 22), (1, 23), (2, 0), (2, 1), (2, 2), (2, 3), (2, 4), (2, 5), (2, 6), (2, 7), (2, 8), (2, 9), (2, 10), (2, 11), (2, 12), (2, 13), (2, 14), (2, 15), (2, 16), (2, 17), (2, 18), (2, 19), (2, 20), (2, 21), (2, 22), (2, 23), (3, 0), (3, 1), (3, 2), (3, 3), (0, 2), (0, 3), (0, 4), (0, 5), (3, 4), (3, 5), (3, 6), (3, 7), (3, 8), (3, 9), (3, 10), (3, 11), (3, 12), (3, 13), (3, 14), (3, 15), (3, 16), (3, 17), (3, 18), (3, 19), (3, 20), (3, 21), (3, 22), (3, 23), (4, 0), (4, 1), (4, 2), (4, 3), (4, 4), (4, 5), (4, 6), (4, 7), (4, 8), (4, 9), (4, 10), (4, 11), (4, 12), (4, 13), (4, 14), (4, 15), (4, 16), (4, 17), (4, 18), (4, 19), (4, 20), (4, 21), (4, 22), (4, 23), (5, 0), (5, 1), (5, 2), (5, 3), (5, 4), (5, 5), (5, 6), (5, 7), (5, 8), (5, 9), (5, 10), (5, 11), (6, 0), (6, 1), (6, 2), (6, 3), (6, 4), (6, 5), (6, 6), (6, 7), (6, 8), (6, 9), (6, 10), (6, 11), (6, 12), (6, 13), (6, 14), (6, 15), (6, 16), (6, 17), (6, 18), (6, 19), (6, 20)] rfl (by decide +kernel)
set_option maxRecDepth 20000 in
theorem gX7_worst_X7_waitsOf : GoodIn wsX7_worst (wsV RX7 299 RX7 yX7_waitsOf wsX7_waitsOf) := goodIn_app (goodIn_of _ (by decide +kernel)) ggX7_worst_X7_waitsOf
theorem dX7_worst_0 : decode cX7_worst 0 = .ok (.aload_n 0, 1) := by decide +kernel
theorem dX7_worst_1 : decode cX7_worst 1 = .ok (.iconst 0, 1) := by decide +kernel
theorem dX7_worst_2 : decode cX7_worst 2 = .ok (.putfield 49, 3) := by decide +kernel
theorem dX7_worst_5 : decode cX7_worst 5 = .ok (.aload_n 0, 1) := by decide +kernel
theorem dX7_worst_6 : decode cX7_worst 6 = .ok (.iload_n 1, 1) := by decide +kernel
theorem dX7_worst_7 : decode cX7_worst 7 = .ok (.invokevirtual 133, 3) := by decide +kernel
theorem dX7_worst_10 : decode cX7_worst 10 = .ok (.ifCond .eq 11, 3) := by decide +kernel
theorem dX7_worst_13 : decode cX7_worst 13 = .ok (.iload_n 2, 1) := by decide +kernel
theorem dX7_worst_14 : decode cX7_worst 14 = .ok (.iconst 1, 1) := by decide +kernel
theorem dX7_worst_15 : decode cX7_worst 15 = .ok (.invokestatic 253, 3) := by decide +kernel
theorem dX7_worst_18 : decode cX7_worst 18 = .ok (.ifCond .ne 5, 3) := by decide +kernel
theorem dX7_worst_21 : decode cX7_worst 21 = .ok (.iconst (-1), 1) := by decide +kernel
theorem dX7_worst_22 : decode cX7_worst 22 = .ok (.ireturn, 1) := by decide +kernel
theorem dX7_worst_23 : decode cX7_worst 23 = .ok (.iconst (-1), 1) := by decide +kernel
theorem dX7_worst_24 : decode cX7_worst 24 = .ok (.istore_n 3, 1) := by decide +kernel
theorem dX7_worst_25 : decode cX7_worst 25 = .ok (.iconst 0, 1) := by decide +kernel
theorem dX7_worst_26 : decode cX7_worst 26 = .ok (.istore 4, 2) := by decide +kernel
theorem dX7_worst_28 : decode cX7_worst 28 = .ok (.iconst 0, 1) := by decide +kernel
theorem dX7_worst_29 : decode cX7_worst 29 = .ok (.istore 5, 2) := by decide +kernel
theorem dX7_worst_31 : decode cX7_worst 31 = .ok (.iload 5, 2) := by decide +kernel
theorem dX7_worst_33 : decode cX7_worst 33 = .ok (.aload_n 0, 1) := by decide +kernel
theorem dX7_worst_34 : decode cX7_worst 34 = .ok (.getfield 124, 3) := by decide +kernel
theorem dX7_worst_37 : decode cX7_worst 37 = .ok (.if_icmp .ge 42, 3) := by decide +kernel
theorem dX7_worst_40 : decode cX7_worst 40 = .ok (.aload_n 0, 1) := by decide +kernel
theorem dX7_worst_41 : decode cX7_worst 41 = .ok (.iload 5, 2) := by decide +kernel
theorem dX7_worst_43 : decode cX7_worst 43 = .ok (.iload_n 1, 1) := by decide +kernel
theorem dX7_worst_44 : decode cX7_worst 44 = .ok (.iload_n 2, 1) := by decide +kernel
theorem dX7_worst_45 : decode cX7_worst 45 = .ok (.invokevirtual 299, 3) := by decide +kernel
theorem dX7_worst_48 : decode cX7_worst 48 = .ok (.istore 6, 2) := by decide +kernel
theorem dX7_worst_50 : decode cX7_worst 50 = .ok (.iload 6, 2) := by decide +kernel
theorem dX7_worst_52 : decode cX7_worst 52 = .ok (.iload 4, 2) := by decide +kernel
theorem dX7_worst_54 : decode cX7_worst 54 = .ok (.if_icmp .le 8, 3) := by decide +kernel
theorem dX7_worst_57 : decode cX7_worst 57 = .ok (.iload 5, 2) := by decide +kernel
theorem dX7_worst_59 : decode cX7_worst 59 = .ok (.goto 4, 3) := by decide +kernel
theorem dX7_worst_62 : decode cX7_worst 62 = .ok (.iload_n 3, 1) := by decide +kernel
theorem dX7_worst_63 : decode cX7_worst 63 = .ok (.istore_n 3, 1) := by decide +kernel
theorem dX7_worst_64 : decode cX7_worst 64 = .ok (.iload 4, 2) := by decide +kernel
theorem dX7_worst_66 : decode cX7_worst 66 = .ok (.iload 6, 2) := by decide +kernel
theorem dX7_worst_68 : decode cX7_worst 68 = .ok (.invokestatic 154, 3) := by decide +kernel
theorem dX7_worst_71 : decode cX7_worst 71 = .ok (.istore 4, 2) := by decide +kernel
theorem dX7_worst_73 : decode cX7_worst 73 = .ok (.iinc 5 1, 3) := by decide +kernel
theorem dX7_worst_76 : decode cX7_worst 76 = .ok (.goto (-45), 3) := by decide +kernel
theorem dX7_worst_79 : decode cX7_worst 79 = .ok (.iload_n 3, 1) := by decide +kernel
theorem dX7_worst_80 : decode cX7_worst 80 = .ok (.ireturn, 1) := by decide +kernel
theorem dX7_aloneSent_0 : decode cX7_aloneSent 0 = .ok (.iconst 0, 1) := by decide +kernel
theorem dX7_aloneSent_1 : decode cX7_aloneSent 1 = .ok (.istore 6, 2) := by decide +kernel
theorem dX7_aloneSent_3 : decode cX7_aloneSent 3 = .ok (.iload 6, 2) := by decide +kernel
theorem dX7_aloneSent_5 : decode cX7_aloneSent 5 = .ok (.bipush 8, 2) := by decide +kernel
theorem dX7_aloneSent_7 : decode cX7_aloneSent 7 = .ok (.if_icmp .ge 25, 3) := by decide +kernel
theorem dX7_aloneSent_10 : decode cX7_aloneSent 10 = .ok (.aload_n 0, 1) := by decide +kernel
theorem dX7_aloneSent_11 : decode cX7_aloneSent 11 = .ok (.getfield 43, 3) := by decide +kernel
theorem dX7_aloneSent_14 : decode cX7_aloneSent 14 = .ok (.iload 6, 2) := by decide +kernel
theorem dX7_aloneSent_16 : decode cX7_aloneSent 16 = .ok (.iconst 0, 1) := by decide +kernel
theorem dX7_aloneSent_17 : decode cX7_aloneSent 17 = .ok (.iastore, 1) := by decide +kernel
theorem dX7_aloneSent_18 : decode cX7_aloneSent 18 = .ok (.aload_n 0, 1) := by decide +kernel
theorem dX7_aloneSent_19 : decode cX7_aloneSent 19 = .ok (.getfield 46, 3) := by decide +kernel
theorem dX7_aloneSent_22 : decode cX7_aloneSent 22 = .ok (.iload 6, 2) := by decide +kernel
theorem dX7_aloneSent_24 : decode cX7_aloneSent 24 = .ok (.iconst (-1), 1) := by decide +kernel
theorem dX7_aloneSent_25 : decode cX7_aloneSent 25 = .ok (.iastore, 1) := by decide +kernel
theorem dX7_aloneSent_26 : decode cX7_aloneSent 26 = .ok (.iinc 6 1, 3) := by decide +kernel
theorem dX7_aloneSent_29 : decode cX7_aloneSent 29 = .ok (.goto (-26), 3) := by decide +kernel
theorem dX7_aloneSent_32 : decode cX7_aloneSent 32 = .ok (.iconst 0, 1) := by decide +kernel
theorem dX7_aloneSent_33 : decode cX7_aloneSent 33 = .ok (.istore 6, 2) := by decide +kernel
theorem dX7_aloneSent_35 : decode cX7_aloneSent 35 = .ok (.iconst 0, 1) := by decide +kernel
theorem dX7_aloneSent_36 : decode cX7_aloneSent 36 = .ok (.istore 7, 2) := by decide +kernel
theorem dX7_aloneSent_38 : decode cX7_aloneSent 38 = .ok (.iconst 0, 1) := by decide +kernel
theorem dX7_aloneSent_39 : decode cX7_aloneSent 39 = .ok (.istore 8, 2) := by decide +kernel
theorem dX7_aloneSent_41 : decode cX7_aloneSent 41 = .ok (.iconst 0, 1) := by decide +kernel
theorem dX7_aloneSent_42 : decode cX7_aloneSent 42 = .ok (.istore 9, 2) := by decide +kernel
theorem dX7_aloneSent_44 : decode cX7_aloneSent 44 = .ok (.iconst 0, 1) := by decide +kernel
theorem dX7_aloneSent_45 : decode cX7_aloneSent 45 = .ok (.istore 10, 2) := by decide +kernel
theorem dX7_aloneSent_47 : decode cX7_aloneSent 47 = .ok (.iload 10, 2) := by decide +kernel
theorem dX7_aloneSent_49 : decode cX7_aloneSent 49 = .ok (.iload 5, 2) := by decide +kernel
theorem dX7_aloneSent_51 : decode cX7_aloneSent 51 = .ok (.if_icmp .ge 137, 3) := by decide +kernel
theorem dX7_aloneSent_54 : decode cX7_aloneSent 54 = .ok (.iload 10, 2) := by decide +kernel
theorem dX7_aloneSent_56 : decode cX7_aloneSent 56 = .ok (.bipush 8, 2) := by decide +kernel
theorem dX7_aloneSent_58 : decode cX7_aloneSent 58 = .ok (.irem, 1) := by decide +kernel
theorem dX7_aloneSent_59 : decode cX7_aloneSent 59 = .ok (.istore 11, 2) := by decide +kernel
theorem dX7_aloneSent_61 : decode cX7_aloneSent 61 = .ok (.iload 9, 2) := by decide +kernel
theorem dX7_aloneSent_63 : decode cX7_aloneSent 63 = .ok (.aload_n 0, 1) := by decide +kernel
theorem dX7_aloneSent_64 : decode cX7_aloneSent 64 = .ok (.getfield 43, 3) := by decide +kernel
theorem dX7_aloneSent_67 : decode cX7_aloneSent 67 = .ok (.iload 11, 2) := by decide +kernel
theorem dX7_aloneSent_69 : decode cX7_aloneSent 69 = .ok (.iaload, 1) := by decide +kernel
theorem dX7_aloneSent_70 : decode cX7_aloneSent 70 = .ok (.iadd, 1) := by decide +kernel
theorem dX7_aloneSent_71 : decode cX7_aloneSent 71 = .ok (.istore 9, 2) := by decide +kernel
theorem dX7_aloneSent_73 : decode cX7_aloneSent 73 = .ok (.aload_n 0, 1) := by decide +kernel
theorem dX7_aloneSent_74 : decode cX7_aloneSent 74 = .ok (.getfield 46, 3) := by decide +kernel
theorem dX7_aloneSent_77 : decode cX7_aloneSent 77 = .ok (.iload 11, 2) := by decide +kernel
theorem dX7_aloneSent_79 : decode cX7_aloneSent 79 = .ok (.iaload, 1) := by decide +kernel
theorem dX7_aloneSent_80 : decode cX7_aloneSent 80 = .ok (.iconst (-1), 1) := by decide +kernel
theorem dX7_aloneSent_81 : decode cX7_aloneSent 81 = .ok (.if_icmp .ne 8, 3) := by decide +kernel
theorem dX7_aloneSent_84 : decode cX7_aloneSent 84 = .ok (.iload 8, 2) := by decide +kernel
theorem dX7_aloneSent_86 : decode cX7_aloneSent 86 = .ok (.goto 10, 3) := by decide +kernel
theorem dX7_aloneSent_89 : decode cX7_aloneSent 89 = .ok (.aload_n 0, 1) := by decide +kernel
theorem dX7_aloneSent_90 : decode cX7_aloneSent 90 = .ok (.getfield 46, 3) := by decide +kernel
theorem dX7_aloneSent_93 : decode cX7_aloneSent 93 = .ok (.iload 11, 2) := by decide +kernel
theorem dX7_aloneSent_95 : decode cX7_aloneSent 95 = .ok (.iaload, 1) := by decide +kernel
theorem dX7_aloneSent_96 : decode cX7_aloneSent 96 = .ok (.istore 8, 2) := by decide +kernel
theorem dX7_aloneSent_98 : decode cX7_aloneSent 98 = .ok (.aload_n 0, 1) := by decide +kernel
theorem dX7_aloneSent_99 : decode cX7_aloneSent 99 = .ok (.getfield 43, 3) := by decide +kernel
theorem dX7_aloneSent_102 : decode cX7_aloneSent 102 = .ok (.iload 11, 2) := by decide +kernel
theorem dX7_aloneSent_104 : decode cX7_aloneSent 104 = .ok (.iconst 0, 1) := by decide +kernel
theorem dX7_aloneSent_105 : decode cX7_aloneSent 105 = .ok (.iastore, 1) := by decide +kernel
theorem dX7_aloneSent_106 : decode cX7_aloneSent 106 = .ok (.aload_n 0, 1) := by decide +kernel
theorem dX7_aloneSent_107 : decode cX7_aloneSent 107 = .ok (.getfield 46, 3) := by decide +kernel
theorem dX7_aloneSent_110 : decode cX7_aloneSent 110 = .ok (.iload 11, 2) := by decide +kernel
theorem dX7_aloneSent_112 : decode cX7_aloneSent 112 = .ok (.iconst (-1), 1) := by decide +kernel
theorem dX7_aloneSent_113 : decode cX7_aloneSent 113 = .ok (.iastore, 1) := by decide +kernel
theorem dX7_aloneSent_114 : decode cX7_aloneSent 114 = .ok (.iload 10, 2) := by decide +kernel
theorem dX7_aloneSent_116 : decode cX7_aloneSent 116 = .ok (.iload_n 1, 1) := by decide +kernel
theorem dX7_aloneSent_117 : decode cX7_aloneSent 117 = .ok (.iadd, 1) := by decide +kernel
theorem dX7_aloneSent_118 : decode cX7_aloneSent 118 = .ok (.bipush 8, 2) := by decide +kernel
theorem dX7_aloneSent_120 : decode cX7_aloneSent 120 = .ok (.irem, 1) := by decide +kernel
theorem dX7_aloneSent_121 : decode cX7_aloneSent 121 = .ok (.istore 12, 2) := by decide +kernel
theorem dX7_aloneSent_123 : decode cX7_aloneSent 123 = .ok (.iload 10, 2) := by decide +kernel
theorem dX7_aloneSent_125 : decode cX7_aloneSent 125 = .ok (.iload 4, 2) := by decide +kernel
theorem dX7_aloneSent_127 : decode cX7_aloneSent 127 = .ok (.irem, 1) := by decide +kernel
theorem dX7_aloneSent_128 : decode cX7_aloneSent 128 = .ok (.ifCond .ne 34, 3) := by decide +kernel
theorem dX7_aloneSent_131 : decode cX7_aloneSent 131 = .ok (.iload 9, 2) := by decide +kernel
theorem dX7_aloneSent_133 : decode cX7_aloneSent 133 = .ok (.ifCond .le 29, 3) := by decide +kernel
theorem dX7_aloneSent_136 : decode cX7_aloneSent 136 = .ok (.iinc 9 (-1), 3) := by decide +kernel
theorem dX7_aloneSent_139 : decode cX7_aloneSent 139 = .ok (.iinc 7 1, 3) := by decide +kernel
theorem dX7_aloneSent_142 : decode cX7_aloneSent 142 = .ok (.aload_n 0, 1) := by decide +kernel
theorem dX7_aloneSent_143 : decode cX7_aloneSent 143 = .ok (.getfield 46, 3) := by decide +kernel
theorem dX7_aloneSent_146 : decode cX7_aloneSent 146 = .ok (.iload 12, 2) := by decide +kernel
theorem dX7_aloneSent_148 : decode cX7_aloneSent 148 = .ok (.iload 7, 2) := by decide +kernel
theorem dX7_aloneSent_150 : decode cX7_aloneSent 150 = .ok (.iload_n 2, 1) := by decide +kernel
theorem dX7_aloneSent_151 : decode cX7_aloneSent 151 = .ok (.irem, 1) := by decide +kernel
theorem dX7_aloneSent_152 : decode cX7_aloneSent 152 = .ok (.ifCond .ne 8, 3) := by decide +kernel
theorem dX7_aloneSent_155 : decode cX7_aloneSent 155 = .ok (.iload 7, 2) := by decide +kernel
theorem dX7_aloneSent_157 : decode cX7_aloneSent 157 = .ok (.goto 4, 3) := by decide +kernel
theorem dX7_aloneSent_160 : decode cX7_aloneSent 160 = .ok (.iconst (-1), 1) := by decide +kernel
theorem dX7_aloneSent_161 : decode cX7_aloneSent 161 = .ok (.iastore, 1) := by decide +kernel
theorem dX7_aloneSent_162 : decode cX7_aloneSent 162 = .ok (.iload 6, 2) := by decide +kernel
theorem dX7_aloneSent_164 : decode cX7_aloneSent 164 = .ok (.iload 8, 2) := by decide +kernel
theorem dX7_aloneSent_166 : decode cX7_aloneSent 166 = .ok (.isub, 1) := by decide +kernel
theorem dX7_aloneSent_167 : decode cX7_aloneSent 167 = .ok (.iload_n 3, 1) := by decide +kernel
theorem dX7_aloneSent_168 : decode cX7_aloneSent 168 = .ok (.if_icmp .ge 14, 3) := by decide +kernel
theorem dX7_aloneSent_171 : decode cX7_aloneSent 171 = .ok (.iinc 6 1, 3) := by decide +kernel
theorem dX7_aloneSent_174 : decode cX7_aloneSent 174 = .ok (.aload_n 0, 1) := by decide +kernel
theorem dX7_aloneSent_175 : decode cX7_aloneSent 175 = .ok (.getfield 43, 3) := by decide +kernel
theorem dX7_aloneSent_178 : decode cX7_aloneSent 178 = .ok (.iload 12, 2) := by decide +kernel
theorem dX7_aloneSent_180 : decode cX7_aloneSent 180 = .ok (.iconst 1, 1) := by decide +kernel
theorem dX7_aloneSent_181 : decode cX7_aloneSent 181 = .ok (.iastore, 1) := by decide +kernel
theorem dX7_aloneSent_182 : decode cX7_aloneSent 182 = .ok (.iinc 10 1, 3) := by decide +kernel
theorem dX7_aloneSent_185 : decode cX7_aloneSent 185 = .ok (.goto (-138), 3) := by decide +kernel
theorem dX7_aloneSent_188 : decode cX7_aloneSent 188 = .ok (.iload 6, 2) := by decide +kernel
theorem dX7_aloneSent_190 : decode cX7_aloneSent 190 = .ok (.ireturn, 1) := by decide +kernel
set_option maxRecDepth 20000 in
theorem ggX7_isAlone_X7_in : GoodIn wsX7_isAlone wsX7_in := goodIn_r _ [4] (by decide +kernel) (by decide +kernel)
set_option maxRecDepth 20000 in
theorem gX7_isAlone_X7_in : GoodIn wsX7_isAlone (va_wsS RX7 60 yX7_in wsX7_in) := goodIn_app (goodIn_of _ (by decide +kernel)) ggX7_isAlone_X7_in
set_option maxRecDepth 20000 in
theorem ggX7_isAlone_X7_isSpan : GoodIn wsX7_isAlone wsX7_isSpan := goodIn_r _ [7, 1, 2, 3, 4] (by decide +kernel) (by decide +kernel)
set_option maxRecDepth 20000 in
theorem gX7_isAlone_X7_isSpan : GoodIn wsX7_isAlone (va_wsS RX7 253 yX7_isSpan wsX7_isSpan) := goodIn_app (goodIn_of _ (by decide +kernel)) ggX7_isAlone_X7_isSpan
theorem dX7_isAlone_0 : decode cX7_isAlone 0 = .ok (.iload_n 0, 1) := by decide +kernel
theorem dX7_isAlone_1 : decode cX7_isAlone 1 = .ok (.iconst 1, 1) := by decide +kernel
theorem dX7_isAlone_2 : decode cX7_isAlone 2 = .ok (.iconst 4, 1) := by decide +kernel
theorem dX7_isAlone_3 : decode cX7_isAlone 3 = .ok (.invokestatic 60, 3) := by decide +kernel
theorem dX7_isAlone_6 : decode cX7_isAlone 6 = .ok (.ifCond .eq 34, 3) := by decide +kernel
theorem dX7_isAlone_9 : decode cX7_isAlone 9 = .ok (.iload_n 1, 1) := by decide +kernel
theorem dX7_isAlone_10 : decode cX7_isAlone 10 = .ok (.iconst 1, 1) := by decide +kernel
theorem dX7_isAlone_11 : decode cX7_isAlone 11 = .ok (.iconst 4, 1) := by decide +kernel
theorem dX7_isAlone_12 : decode cX7_isAlone 12 = .ok (.invokestatic 60, 3) := by decide +kernel
theorem dX7_isAlone_15 : decode cX7_isAlone 15 = .ok (.ifCond .eq 25, 3) := by decide +kernel
theorem dX7_isAlone_18 : decode cX7_isAlone 18 = .ok (.iload_n 2, 1) := by decide +kernel
theorem dX7_isAlone_19 : decode cX7_isAlone 19 = .ok (.iconst 1, 1) := by decide +kernel
theorem dX7_isAlone_20 : decode cX7_isAlone 20 = .ok (.bipush 9, 2) := by decide +kernel
theorem dX7_isAlone_22 : decode cX7_isAlone 22 = .ok (.invokestatic 60, 3) := by decide +kernel
theorem dX7_isAlone_25 : decode cX7_isAlone 25 = .ok (.ifCond .eq 15, 3) := by decide +kernel
theorem dX7_isAlone_28 : decode cX7_isAlone 28 = .ok (.iload_n 3, 1) := by decide +kernel
theorem dX7_isAlone_29 : decode cX7_isAlone 29 = .ok (.iconst 1, 1) := by decide +kernel
theorem dX7_isAlone_30 : decode cX7_isAlone 30 = .ok (.invokestatic 253, 3) := by decide +kernel
theorem dX7_isAlone_33 : decode cX7_isAlone 33 = .ok (.ifCond .eq 7, 3) := by decide +kernel
theorem dX7_isAlone_36 : decode cX7_isAlone 36 = .ok (.iconst 1, 1) := by decide +kernel
theorem dX7_isAlone_37 : decode cX7_isAlone 37 = .ok (.goto 4, 3) := by decide +kernel
theorem dX7_isAlone_40 : decode cX7_isAlone 40 = .ok (.iconst 0, 1) := by decide +kernel
theorem dX7_isAlone_41 : decode cX7_isAlone 41 = .ok (.ireturn, 1) := by decide +kernel
set_option maxRecDepth 20000 in
theorem ggX7_alone_X7_isAlone : GoodIn wsX7_alone wsX7_isAlone := goodIn_r _ [5, 6, 7, 4, 8, 9, 10, 11] (by decide +kernel) (by decide +kernel)
set_option maxRecDepth 20000 in
theorem gX7_alone_X7_isAlone : GoodIn wsX7_alone (va_wsS RX7 302 yX7_isAlone wsX7_isAlone) := goodIn_app (goodIn_of _ (by decide +kernel)) ggX7_alone_X7_isAlone
set_option maxRecDepth 20000 in
theorem ggX7_alone_X7_in : GoodIn wsX7_alone wsX7_in := goodIn_r _ [8] (by decide +kernel) (by decide +kernel)
set_option maxRecDepth 20000 in
theorem gX7_alone_X7_in : GoodIn wsX7_alone (va_wsS RX7 60 yX7_in wsX7_in) := goodIn_app (goodIn_of _ (by decide +kernel)) ggX7_alone_X7_in
set_option maxRecDepth 20000 in
theorem ggX7_alone_X7_aloneSent : GoodIn wsX7_alone wsX7_aloneSent := goodIn_r _ [15, 16, 17, 18, 19, 20, 21, 22, 23, 24, 25, 26, 27, 28, 29, 30, 31, 32, 33, 34, 35, 36, 37, 38] (by decide +kernel) (by decide +kernel)
set_option maxRecDepth 20000 in
theorem gX7_alone_X7_aloneSent : GoodIn wsX7_alone (wsV RX7 306 RX7 yX7_aloneSent wsX7_aloneSent) := goodIn_app (goodIn_of _ (by decide +kernel)) ggX7_alone_X7_aloneSent
theorem dX7_alone_0 : decode cX7_alone 0 = .ok (.aload_n 0, 1) := by decide +kernel
theorem dX7_alone_1 : decode cX7_alone 1 = .ok (.iconst 0, 1) := by decide +kernel
theorem dX7_alone_2 : decode cX7_alone 2 = .ok (.putfield 49, 3) := by decide +kernel
theorem dX7_alone_5 : decode cX7_alone 5 = .ok (.iload_n 1, 1) := by decide +kernel
theorem dX7_alone_6 : decode cX7_alone 6 = .ok (.iload_n 2, 1) := by decide +kernel
theorem dX7_alone_7 : decode cX7_alone 7 = .ok (.iload 4, 2) := by decide +kernel
theorem dX7_alone_9 : decode cX7_alone 9 = .ok (.iload 5, 2) := by decide +kernel
theorem dX7_alone_11 : decode cX7_alone 11 = .ok (.invokestatic 302, 3) := by decide +kernel
theorem dX7_alone_14 : decode cX7_alone 14 = .ok (.ifCond .eq 27, 3) := by decide +kernel
theorem dX7_alone_17 : decode cX7_alone 17 = .ok (.iload_n 3, 1) := by decide +kernel
theorem dX7_alone_18 : decode cX7_alone 18 = .ok (.iconst 1, 1) := by decide +kernel
theorem dX7_alone_19 : decode cX7_alone 19 = .ok (.bipush 30, 2) := by decide +kernel
theorem dX7_alone_21 : decode cX7_alone 21 = .ok (.invokestatic 60, 3) := by decide +kernel
theorem dX7_alone_24 : decode cX7_alone 24 = .ok (.ifCond .eq 17, 3) := by decide +kernel
theorem dX7_alone_27 : decode cX7_alone 27 = .ok (.aload_n 0, 1) := by decide +kernel
theorem dX7_alone_28 : decode cX7_alone 28 = .ok (.iload_n 1, 1) := by decide +kernel
theorem dX7_alone_29 : decode cX7_alone 29 = .ok (.iload_n 2, 1) := by decide +kernel
theorem dX7_alone_30 : decode cX7_alone 30 = .ok (.iload_n 3, 1) := by decide +kernel
theorem dX7_alone_31 : decode cX7_alone 31 = .ok (.iload 4, 2) := by decide +kernel
theorem dX7_alone_33 : decode cX7_alone 33 = .ok (.iload 5, 2) := by decide +kernel
theorem dX7_alone_35 : decode cX7_alone 35 = .ok (.invokevirtual 306, 3) := by decide +kernel
theorem dX7_alone_38 : decode cX7_alone 38 = .ok (.goto 4, 3) := by decide +kernel
theorem dX7_alone_41 : decode cX7_alone 41 = .ok (.iconst (-1), 1) := by decide +kernel
theorem dX7_alone_42 : decode cX7_alone 42 = .ok (.ireturn, 1) := by decide +kernel
set_option maxRecDepth 20000 in
theorem ggX7_full_X7_isAlone : GoodIn wsX7_full wsX7_isAlone := goodIn_r _ [5, 6, 7, 4, 8, 9, 10, 11] (by decide +kernel) (by decide +kernel)
set_option maxRecDepth 20000 in
theorem gX7_full_X7_isAlone : GoodIn wsX7_full (va_wsS RX7 302 yX7_isAlone wsX7_isAlone) := goodIn_app (goodIn_of _ (by decide +kernel)) ggX7_full_X7_isAlone
set_option maxRecDepth 20000 in
theorem ggX7_full_X7_aloneSent : GoodIn wsX7_full wsX7_aloneSent := goodIn_r _ [15, 16, 17, 18, 19, 20, 21, 22, 23, 24, 25, 26, 27, 28, 29, 30, 31, 32, 33, 34, 35, 36, 37, 38] (by decide +kernel) (by decide +kernel)
set_option maxRecDepth 20000 in
theorem gX7_full_X7_aloneSent : GoodIn wsX7_full (wsV RX7 306 RX7 yX7_aloneSent wsX7_aloneSent) := goodIn_app (goodIn_of _ (by decide +kernel)) ggX7_full_X7_aloneSent
theorem dX7_full_0 : decode cX7_full 0 = .ok (.aload_n 0, 1) := by decide +kernel
theorem dX7_full_1 : decode cX7_full 1 = .ok (.iconst 0, 1) := by decide +kernel
theorem dX7_full_2 : decode cX7_full 2 = .ok (.putfield 49, 3) := by decide +kernel
theorem dX7_full_5 : decode cX7_full 5 = .ok (.iload_n 1, 1) := by decide +kernel
theorem dX7_full_6 : decode cX7_full 6 = .ok (.iload_n 2, 1) := by decide +kernel
theorem dX7_full_7 : decode cX7_full 7 = .ok (.iload_n 3, 1) := by decide +kernel
theorem dX7_full_8 : decode cX7_full 8 = .ok (.iload 4, 2) := by decide +kernel
theorem dX7_full_10 : decode cX7_full 10 = .ok (.invokestatic 302, 3) := by decide +kernel
theorem dX7_full_13 : decode cX7_full 13 = .ok (.ifCond .ne 5, 3) := by decide +kernel
theorem dX7_full_16 : decode cX7_full 16 = .ok (.iconst (-1), 1) := by decide +kernel
theorem dX7_full_17 : decode cX7_full 17 = .ok (.ireturn, 1) := by decide +kernel
theorem dX7_full_18 : decode cX7_full 18 = .ok (.aload_n 0, 1) := by decide +kernel
theorem dX7_full_19 : decode cX7_full 19 = .ok (.iload_n 1, 1) := by decide +kernel
theorem dX7_full_20 : decode cX7_full 20 = .ok (.iload_n 2, 1) := by decide +kernel
theorem dX7_full_21 : decode cX7_full 21 = .ok (.bipush 30, 2) := by decide +kernel
theorem dX7_full_23 : decode cX7_full 23 = .ok (.iload_n 3, 1) := by decide +kernel
theorem dX7_full_24 : decode cX7_full 24 = .ok (.iload 4, 2) := by decide +kernel
theorem dX7_full_26 : decode cX7_full 26 = .ok (.invokevirtual 306, 3) := by decide +kernel
theorem dX7_full_29 : decode cX7_full 29 = .ok (.istore 5, 2) := by decide +kernel
theorem dX7_full_31 : decode cX7_full 31 = .ok (.iconst 1, 1) := by decide +kernel
theorem dX7_full_32 : decode cX7_full 32 = .ok (.istore 6, 2) := by decide +kernel
theorem dX7_full_34 : decode cX7_full 34 = .ok (.aload_n 0, 1) := by decide +kernel
theorem dX7_full_35 : decode cX7_full 35 = .ok (.iload_n 1, 1) := by decide +kernel
theorem dX7_full_36 : decode cX7_full 36 = .ok (.iload_n 2, 1) := by decide +kernel
theorem dX7_full_37 : decode cX7_full 37 = .ok (.iload 6, 2) := by decide +kernel
theorem dX7_full_39 : decode cX7_full 39 = .ok (.iload_n 3, 1) := by decide +kernel
theorem dX7_full_40 : decode cX7_full 40 = .ok (.iload 4, 2) := by decide +kernel
theorem dX7_full_42 : decode cX7_full 42 = .ok (.invokevirtual 306, 3) := by decide +kernel
theorem dX7_full_45 : decode cX7_full 45 = .ok (.iload 5, 2) := by decide +kernel
theorem dX7_full_47 : decode cX7_full 47 = .ok (.if_icmp .ge 9, 3) := by decide +kernel
theorem dX7_full_50 : decode cX7_full 50 = .ok (.iinc 6 1, 3) := by decide +kernel
theorem dX7_full_53 : decode cX7_full 53 = .ok (.goto (-19), 3) := by decide +kernel
theorem dX7_full_56 : decode cX7_full 56 = .ok (.iload 6, 2) := by decide +kernel
theorem dX7_full_58 : decode cX7_full 58 = .ok (.ireturn, 1) := by decide +kernel
set_option maxRecDepth 20000 in
theorem ggX7_law_X7_isAlone : GoodIn wsX7_law wsX7_isAlone := goodIn_r _ [5, 6, 7, 4, 8, 9, 10, 11] (by decide +kernel) (by decide +kernel)
set_option maxRecDepth 20000 in
theorem gX7_law_X7_isAlone : GoodIn wsX7_law (va_wsS RX7 302 yX7_isAlone wsX7_isAlone) := goodIn_app (goodIn_of _ (by decide +kernel)) ggX7_law_X7_isAlone
set_option maxRecDepth 20000 in
theorem ggX7_law_X7_in : GoodIn wsX7_law wsX7_in := goodIn_r _ [8] (by decide +kernel) (by decide +kernel)
set_option maxRecDepth 20000 in
theorem gX7_law_X7_in : GoodIn wsX7_law (va_wsS RX7 60 yX7_in wsX7_in) := goodIn_app (goodIn_of _ (by decide +kernel)) ggX7_law_X7_in
theorem dX7_law_0 : decode cX7_law 0 = .ok (.aload_n 0, 1) := by decide +kernel
theorem dX7_law_1 : decode cX7_law 1 = .ok (.iconst 0, 1) := by decide +kernel
theorem dX7_law_2 : decode cX7_law 2 = .ok (.putfield 49, 3) := by decide +kernel
theorem dX7_law_5 : decode cX7_law 5 = .ok (.iload_n 1, 1) := by decide +kernel
theorem dX7_law_6 : decode cX7_law 6 = .ok (.iload_n 2, 1) := by decide +kernel
theorem dX7_law_7 : decode cX7_law 7 = .ok (.iconst 1, 1) := by decide +kernel
theorem dX7_law_8 : decode cX7_law 8 = .ok (.iconst 1, 1) := by decide +kernel
theorem dX7_law_9 : decode cX7_law 9 = .ok (.invokestatic 302, 3) := by decide +kernel
theorem dX7_law_12 : decode cX7_law 12 = .ok (.ifCond .eq 29, 3) := by decide +kernel
theorem dX7_law_15 : decode cX7_law 15 = .ok (.iload_n 3, 1) := by decide +kernel
theorem dX7_law_16 : decode cX7_law 16 = .ok (.iconst 1, 1) := by decide +kernel
theorem dX7_law_17 : decode cX7_law 17 = .ok (.bipush 9, 2) := by decide +kernel
theorem dX7_law_19 : decode cX7_law 19 = .ok (.invokestatic 60, 3) := by decide +kernel
theorem dX7_law_22 : decode cX7_law 22 = .ok (.ifCond .eq 19, 3) := by decide +kernel
theorem dX7_law_25 : decode cX7_law 25 = .ok (.iconst 2, 1) := by decide +kernel
theorem dX7_law_26 : decode cX7_law 26 = .ok (.iload_n 1, 1) := by decide +kernel
theorem dX7_law_27 : decode cX7_law 27 = .ok (.imul, 1) := by decide +kernel
theorem dX7_law_28 : decode cX7_law 28 = .ok (.iload_n 3, 1) := by decide +kernel
theorem dX7_law_29 : decode cX7_law 29 = .ok (.iadd, 1) := by decide +kernel
theorem dX7_law_30 : decode cX7_law 30 = .ok (.iconst 1, 1) := by decide +kernel
theorem dX7_law_31 : decode cX7_law 31 = .ok (.isub, 1) := by decide +kernel
theorem dX7_law_32 : decode cX7_law 32 = .ok (.iload_n 3, 1) := by decide +kernel
theorem dX7_law_33 : decode cX7_law 33 = .ok (.idiv, 1) := by decide +kernel
theorem dX7_law_34 : decode cX7_law 34 = .ok (.iload_n 2, 1) := by decide +kernel
theorem dX7_law_35 : decode cX7_law 35 = .ok (.iadd, 1) := by decide +kernel
theorem dX7_law_36 : decode cX7_law 36 = .ok (.iconst 1, 1) := by decide +kernel
theorem dX7_law_37 : decode cX7_law 37 = .ok (.isub, 1) := by decide +kernel
theorem dX7_law_38 : decode cX7_law 38 = .ok (.goto 4, 3) := by decide +kernel
theorem dX7_law_41 : decode cX7_law 41 = .ok (.iconst (-1), 1) := by decide +kernel
theorem dX7_law_42 : decode cX7_law 42 = .ok (.ireturn, 1) := by decide +kernel
theorem qxX7_aim_0 : ∀ w ∈ ((wsX7_aim_r1 ++ wsX7_aim_r2) ++ wsX70), w ∈ wsX7_aim := fun w h => List.mem_cons_of_mem _ h
theorem qxX7_aim_1 : ∀ w ∈ (wsX7_aim_r1 ++ wsX7_aim_r2), w ∈ wsX7_aim := in_l qxX7_aim_0
theorem qxX7_aim_2 : ∀ w ∈ wsX70, w ∈ wsX7_aim := in_r qxX7_aim_0
theorem qxX7_aim_3 : ∀ w ∈ wsX7_aim_r1, w ∈ wsX7_aim := in_l qxX7_aim_1
theorem qxX7_aim_4 : ∀ w ∈ wsX7_aim_r2, w ∈ wsX7_aim := in_r qxX7_aim_1
def pxX7_aim : List (List Cond) := [wsX7_aim_r1, wsX7_aim_r2, wsX70]
theorem pxX7_aim_in : ∀ q ∈ pxX7_aim, ∀ w ∈ q, w ∈ wsX7_aim := lp_c qxX7_aim_3 (lp_c qxX7_aim_4 (lp_c qxX7_aim_2 (lp_n)))
set_option maxRecDepth 20000 in
theorem ggX7_aim_X7_isLane : GoodIn wsX7_aim wsX7_isLane := goodIn_pp pxX7_aim pxX7_aim_in _ [(0, 5), (0, 6), (0, 7), (0, 8), (0, 4), (0, 9), (0, 10), (0, 11), (0, 12), (0, 13), (0, 14), (0, 15), (0, 16), (0, 17), (0, 18), (2, 0), (2, 1), (2, 2), (2, 3), (2, 4), (2, 5), (2, 6), (2, 7), (2, 8), (2, 9), (2, 10), (2, 11), (2, 12), (2, 13), (2, 14), (2, 15), (2, 16), (2, 17), (2, 18), (2, 19), (2, 20)] rfl (by decide +kernel)
set_option maxRecDepth 20000 in
theorem gX7_aim_X7_isLane : GoodIn wsX7_aim (wsV RX7 229 RX7 yX7_isLane wsX7_isLane) := goodIn_app (goodIn_of _ (by decide +kernel)) ggX7_aim_X7_isLane
set_option maxRecDepth 20000 in
theorem ggX7_aim_X7_aimOf : GoodIn wsX7_aim wsX7_aimOf := goodIn_pp pxX7_aim pxX7_aim_in _ [(0, 22), (0, 18), (0, 23), (1, 0), (1, 1), (1, 2), (0, 4), (1, 3), (1, 4), (1, 5), (1, 6), (1, 7), (1, 8), (2, 0), (2, 1), (2, 2), (2, 3), (2, 4), (2, 5), (2, 6), (2, 7), (2, 8), (2, 9), (2, 10), (2, 11), (2, 12), (2, 13), (2, 14), (2, 15), (2, 16), (2, 17), (2, 18), (2, 19), (2, 20)] rfl (by decide +kernel)
set_option maxRecDepth 20000 in
theorem gX7_aim_X7_aimOf : GoodIn wsX7_aim (wsV RX7 202 RX7 yX7_aimOf wsX7_aimOf) := goodIn_app (goodIn_of _ (by decide +kernel)) ggX7_aim_X7_aimOf
theorem dX7_aim_0 : decode cX7_aim 0 = .ok (.aload_n 0, 1) := by decide +kernel
theorem dX7_aim_1 : decode cX7_aim 1 = .ok (.iconst 0, 1) := by decide +kernel
theorem dX7_aim_2 : decode cX7_aim 2 = .ok (.putfield 49, 3) := by decide +kernel
theorem dX7_aim_5 : decode cX7_aim 5 = .ok (.aload_n 0, 1) := by decide +kernel
theorem dX7_aim_6 : decode cX7_aim 6 = .ok (.iload_n 1, 1) := by decide +kernel
theorem dX7_aim_7 : decode cX7_aim 7 = .ok (.iload_n 2, 1) := by decide +kernel
theorem dX7_aim_8 : decode cX7_aim 8 = .ok (.invokevirtual 229, 3) := by decide +kernel
theorem dX7_aim_11 : decode cX7_aim 11 = .ok (.ifCond .eq 12, 3) := by decide +kernel
theorem dX7_aim_14 : decode cX7_aim 14 = .ok (.aload_n 0, 1) := by decide +kernel
theorem dX7_aim_15 : decode cX7_aim 15 = .ok (.iload_n 1, 1) := by decide +kernel
theorem dX7_aim_16 : decode cX7_aim 16 = .ok (.iload_n 2, 1) := by decide +kernel
theorem dX7_aim_17 : decode cX7_aim 17 = .ok (.invokevirtual 202, 3) := by decide +kernel
theorem dX7_aim_20 : decode cX7_aim 20 = .ok (.goto 4, 3) := by decide +kernel
theorem dX7_aim_23 : decode cX7_aim 23 = .ok (.iconst (-1), 1) := by decide +kernel
theorem dX7_aim_24 : decode cX7_aim 24 = .ok (.ireturn, 1) := by decide +kernel
theorem qxX7_room_0 : ∀ w ∈ ((wsX7_room_r1 ++ (wsX7_room_r2 ++ wsX7_room_r3)) ++ wsX70), w ∈ wsX7_room := fun w h => List.mem_cons_of_mem _ h
theorem qxX7_room_1 : ∀ w ∈ (wsX7_room_r1 ++ (wsX7_room_r2 ++ wsX7_room_r3)), w ∈ wsX7_room := in_l qxX7_room_0
theorem qxX7_room_2 : ∀ w ∈ wsX70, w ∈ wsX7_room := in_r qxX7_room_0
theorem qxX7_room_3 : ∀ w ∈ wsX7_room_r1, w ∈ wsX7_room := in_l qxX7_room_1
theorem qxX7_room_4 : ∀ w ∈ (wsX7_room_r2 ++ wsX7_room_r3), w ∈ wsX7_room := in_r qxX7_room_1
theorem qxX7_room_5 : ∀ w ∈ wsX7_room_r2, w ∈ wsX7_room := in_l qxX7_room_4
theorem qxX7_room_6 : ∀ w ∈ wsX7_room_r3, w ∈ wsX7_room := in_r qxX7_room_4
def pxX7_room : List (List Cond) := [wsX7_room_r1, wsX7_room_r2, wsX7_room_r3, wsX70]
theorem pxX7_room_in : ∀ q ∈ pxX7_room, ∀ w ∈ q, w ∈ wsX7_room := lp_c qxX7_room_3 (lp_c qxX7_room_5 (lp_c qxX7_room_6 (lp_c qxX7_room_2 (lp_n))))
set_option maxRecDepth 20000 in
theorem ggX7_room_X7_isLane : GoodIn wsX7_room wsX7_isLane := goodIn_pp pxX7_room pxX7_room_in _ [(0, 5), (0, 6), (0, 7), (0, 8), (0, 4), (0, 9), (0, 10), (0, 11), (0, 12), (0, 13), (0, 14), (0, 15), (0, 16), (0, 17), (0, 18), (3, 0), (3, 1), (3, 2), (3, 3), (3, 4), (3, 5), (3, 6), (3, 7), (3, 8), (3, 9), (3, 10), (3, 11), (3, 12), (3, 13), (3, 14), (3, 15), (3, 16), (3, 17), (3, 18), (3, 19), (3, 20)] rfl (by decide +kernel)
set_option maxRecDepth 20000 in
theorem gX7_room_X7_isLane : GoodIn wsX7_room (wsV RX7 229 RX7 yX7_isLane wsX7_isLane) := goodIn_app (goodIn_of _ (by decide +kernel)) ggX7_room_X7_isLane
set_option maxRecDepth 20000 in
theorem ggX7_room_X7_roomFor : GoodIn wsX7_room wsX7_roomFor := goodIn_pp pxX7_room pxX7_room_in _ [(0, 22), (0, 23), (1, 0), (1, 1), (1, 2), (1, 3), (1, 4), (1, 5), (1, 6), (1, 7), (1, 8), (0, 4), (1, 9), (1, 10), (1, 11), (1, 12), (1, 13), (1, 14), (1, 15), (1, 16), (1, 17), (1, 18), (0, 18), (1, 19), (1, 20), (1, 21), (1, 22), (1, 23), (2, 0), (2, 1), (3, 0), (3, 1), (3, 2), (3, 3), (3, 4), (3, 5), (3, 6), (3, 7), (3, 8), (3, 9), (3, 10), (3, 11), (3, 12), (3, 13), (3, 14), (3, 15), (3, 16), (3, 17), (3, 18), (3, 19), (3, 20)] rfl (by decide +kernel)
set_option maxRecDepth 20000 in
theorem gX7_room_X7_roomFor : GoodIn wsX7_room (wsV RX7 310 RX7 yX7_roomFor wsX7_roomFor) := goodIn_app (goodIn_of _ (by decide +kernel)) ggX7_room_X7_roomFor
theorem dX7_room_0 : decode cX7_room 0 = .ok (.aload_n 0, 1) := by decide +kernel
theorem dX7_room_1 : decode cX7_room 1 = .ok (.iconst 0, 1) := by decide +kernel
theorem dX7_room_2 : decode cX7_room 2 = .ok (.putfield 49, 3) := by decide +kernel
theorem dX7_room_5 : decode cX7_room 5 = .ok (.aload_n 0, 1) := by decide +kernel
theorem dX7_room_6 : decode cX7_room 6 = .ok (.iload_n 1, 1) := by decide +kernel
theorem dX7_room_7 : decode cX7_room 7 = .ok (.iload_n 2, 1) := by decide +kernel
theorem dX7_room_8 : decode cX7_room 8 = .ok (.invokevirtual 229, 3) := by decide +kernel
theorem dX7_room_11 : decode cX7_room 11 = .ok (.ifCond .eq 12, 3) := by decide +kernel
theorem dX7_room_14 : decode cX7_room 14 = .ok (.aload_n 0, 1) := by decide +kernel
theorem dX7_room_15 : decode cX7_room 15 = .ok (.iload_n 1, 1) := by decide +kernel
theorem dX7_room_16 : decode cX7_room 16 = .ok (.iload_n 2, 1) := by decide +kernel
theorem dX7_room_17 : decode cX7_room 17 = .ok (.invokevirtual 310, 3) := by decide +kernel
theorem dX7_room_20 : decode cX7_room 20 = .ok (.goto 4, 3) := by decide +kernel
theorem dX7_room_23 : decode cX7_room 23 = .ok (.iconst (-1), 1) := by decide +kernel
theorem dX7_room_24 : decode cX7_room 24 = .ok (.ireturn, 1) := by decide +kernel
theorem qxX7_trip_0 : ∀ w ∈ ([.fieldLink RX7 49 "HopCreditsModel" "thrown" "I", .fieldLink RX7 22 "HopCreditsModel" "now" "[I", .methodLink RX7 133 yX7_isCircuit, .instanceMethod yX7_isCircuit, .selects RX7 yX7_isCircuit yX7_isCircuit, .initialized RX7, .code yX7_isCircuit cX7_isCircuit 2 (some .boolean), .fieldLink RX7 127 "HopCreditsModel" "circuits" "I", .methodLink RX7 60 yX7_in, .static yX7_in, .code yX7_in cX7_in 3 (some .boolean), .methodLink RX7 147 yX7_circuitAt, .static yX7_circuitAt, .code yX7_circuitAt cX7_circuitAt 1 (some .int)] ++ wsX70), w ∈ wsX7_trip := fun w h => List.mem_cons_of_mem _ h
theorem qxX7_trip_1 : ∀ w ∈ [.fieldLink RX7 49 "HopCreditsModel" "thrown" "I", .fieldLink RX7 22 "HopCreditsModel" "now" "[I", .methodLink RX7 133 yX7_isCircuit, .instanceMethod yX7_isCircuit, .selects RX7 yX7_isCircuit yX7_isCircuit, .initialized RX7, .code yX7_isCircuit cX7_isCircuit 2 (some .boolean), .fieldLink RX7 127 "HopCreditsModel" "circuits" "I", .methodLink RX7 60 yX7_in, .static yX7_in, .code yX7_in cX7_in 3 (some .boolean), .methodLink RX7 147 yX7_circuitAt, .static yX7_circuitAt, .code yX7_circuitAt cX7_circuitAt 1 (some .int)], w ∈ wsX7_trip := in_l qxX7_trip_0
theorem qxX7_trip_2 : ∀ w ∈ wsX70, w ∈ wsX7_trip := in_r qxX7_trip_0
def pxX7_trip : List (List Cond) := [[.fieldLink RX7 49 "HopCreditsModel" "thrown" "I", .fieldLink RX7 22 "HopCreditsModel" "now" "[I", .methodLink RX7 133 yX7_isCircuit, .instanceMethod yX7_isCircuit, .selects RX7 yX7_isCircuit yX7_isCircuit, .initialized RX7, .code yX7_isCircuit cX7_isCircuit 2 (some .boolean), .fieldLink RX7 127 "HopCreditsModel" "circuits" "I", .methodLink RX7 60 yX7_in, .static yX7_in, .code yX7_in cX7_in 3 (some .boolean), .methodLink RX7 147 yX7_circuitAt, .static yX7_circuitAt, .code yX7_circuitAt cX7_circuitAt 1 (some .int)], wsX70]
theorem pxX7_trip_in : ∀ q ∈ pxX7_trip, ∀ w ∈ q, w ∈ wsX7_trip := lp_c qxX7_trip_1 (lp_c qxX7_trip_2 (lp_n))
set_option maxRecDepth 20000 in
theorem ggX7_trip_X7_isCircuit : GoodIn wsX7_trip wsX7_isCircuit := goodIn_pp pxX7_trip pxX7_trip_in _ [(0, 6), (0, 7), (0, 8), (0, 9), (0, 5), (0, 10), (1, 0), (1, 1), (1, 2), (1, 3), (1, 4), (1, 5), (1, 6), (1, 7), (1, 8), (1, 9), (1, 10), (1, 11), (1, 12), (1, 13), (1, 14), (1, 15), (1, 16), (1, 17), (1, 18), (1, 19), (1, 20)] rfl (by decide +kernel)
set_option maxRecDepth 20000 in
theorem gX7_trip_X7_isCircuit : GoodIn wsX7_trip (wsV RX7 133 RX7 yX7_isCircuit wsX7_isCircuit) := goodIn_app (goodIn_of _ (by decide +kernel)) ggX7_trip_X7_isCircuit
set_option maxRecDepth 20000 in
theorem ggX7_trip_X7_in : GoodIn wsX7_trip wsX7_in := goodIn_r _ [11] (by decide +kernel) (by decide +kernel)
set_option maxRecDepth 20000 in
theorem gX7_trip_X7_in : GoodIn wsX7_trip (va_wsS RX7 60 yX7_in wsX7_in) := goodIn_app (goodIn_of _ (by decide +kernel)) ggX7_trip_X7_in
set_option maxRecDepth 20000 in
theorem ggX7_trip_X7_circuitAt : GoodIn wsX7_trip wsX7_circuitAt := goodIn_r _ [14] (by decide +kernel) (by decide +kernel)
set_option maxRecDepth 20000 in
theorem gX7_trip_X7_circuitAt : GoodIn wsX7_trip (va_wsS RX7 147 yX7_circuitAt wsX7_circuitAt) := goodIn_app (goodIn_of _ (by decide +kernel)) ggX7_trip_X7_circuitAt
theorem dX7_trip_0 : decode cX7_trip 0 = .ok (.aload_n 0, 1) := by decide +kernel
theorem dX7_trip_1 : decode cX7_trip 1 = .ok (.iconst 0, 1) := by decide +kernel
theorem dX7_trip_2 : decode cX7_trip 2 = .ok (.putfield 49, 3) := by decide +kernel
theorem dX7_trip_5 : decode cX7_trip 5 = .ok (.aload_n 0, 1) := by decide +kernel
theorem dX7_trip_6 : decode cX7_trip 6 = .ok (.iload_n 1, 1) := by decide +kernel
theorem dX7_trip_7 : decode cX7_trip 7 = .ok (.invokevirtual 133, 3) := by decide +kernel
theorem dX7_trip_10 : decode cX7_trip 10 = .ok (.ifCond .eq 26, 3) := by decide +kernel
theorem dX7_trip_13 : decode cX7_trip 13 = .ok (.iload_n 2, 1) := by decide +kernel
theorem dX7_trip_14 : decode cX7_trip 14 = .ok (.iconst 0, 1) := by decide +kernel
theorem dX7_trip_15 : decode cX7_trip 15 = .ok (.iconst 2, 1) := by decide +kernel
theorem dX7_trip_16 : decode cX7_trip 16 = .ok (.invokestatic 60, 3) := by decide +kernel
theorem dX7_trip_19 : decode cX7_trip 19 = .ok (.ifCond .eq 17, 3) := by decide +kernel
theorem dX7_trip_22 : decode cX7_trip 22 = .ok (.aload_n 0, 1) := by decide +kernel
theorem dX7_trip_23 : decode cX7_trip 23 = .ok (.getfield 22, 3) := by decide +kernel
theorem dX7_trip_26 : decode cX7_trip 26 = .ok (.iload_n 1, 1) := by decide +kernel
theorem dX7_trip_27 : decode cX7_trip 27 = .ok (.invokestatic 147, 3) := by decide +kernel
theorem dX7_trip_30 : decode cX7_trip 30 = .ok (.iconst 5, 1) := by decide +kernel
theorem dX7_trip_31 : decode cX7_trip 31 = .ok (.iadd, 1) := by decide +kernel
theorem dX7_trip_32 : decode cX7_trip 32 = .ok (.iaload, 1) := by decide +kernel
theorem dX7_trip_33 : decode cX7_trip 33 = .ok (.ifCond .ne 5, 3) := by decide +kernel
theorem dX7_trip_36 : decode cX7_trip 36 = .ok (.iconst (-1), 1) := by decide +kernel
theorem dX7_trip_37 : decode cX7_trip 37 = .ok (.ireturn, 1) := by decide +kernel
theorem dX7_trip_38 : decode cX7_trip 38 = .ok (.aload_n 0, 1) := by decide +kernel
theorem dX7_trip_39 : decode cX7_trip 39 = .ok (.getfield 22, 3) := by decide +kernel
theorem dX7_trip_42 : decode cX7_trip 42 = .ok (.iload_n 1, 1) := by decide +kernel
theorem dX7_trip_43 : decode cX7_trip 43 = .ok (.invokestatic 147, 3) := by decide +kernel
theorem dX7_trip_46 : decode cX7_trip 46 = .ok (.bipush 6, 2) := by decide +kernel
theorem dX7_trip_48 : decode cX7_trip 48 = .ok (.iadd, 1) := by decide +kernel
theorem dX7_trip_49 : decode cX7_trip 49 = .ok (.iload_n 2, 1) := by decide +kernel
theorem dX7_trip_50 : decode cX7_trip 50 = .ok (.iadd, 1) := by decide +kernel
theorem dX7_trip_51 : decode cX7_trip 51 = .ok (.iaload, 1) := by decide +kernel
theorem dX7_trip_52 : decode cX7_trip 52 = .ok (.ireturn, 1) := by decide +kernel
theorem qxX7_oldest_0 : ∀ w ∈ ([.fieldLink RX7 49 "HopCreditsModel" "thrown" "I", .fieldLink RX7 22 "HopCreditsModel" "now" "[I", .methodLink RX7 133 yX7_isCircuit, .instanceMethod yX7_isCircuit, .selects RX7 yX7_isCircuit yX7_isCircuit, .initialized RX7, .code yX7_isCircuit cX7_isCircuit 2 (some .boolean), .fieldLink RX7 127 "HopCreditsModel" "circuits" "I", .methodLink RX7 60 yX7_in, .static yX7_in, .code yX7_in cX7_in 3 (some .boolean), .methodLink RX7 244 yX7_anywhere, .instanceMethod yX7_anywhere, .selects RX7 yX7_anywhere yX7_anywhere, .code yX7_anywhere cX7_anywhere 2 (some .int), .methodLink RX7 147 yX7_circuitAt, .static yX7_circuitAt, .code yX7_circuitAt cX7_circuitAt 1 (some .int)] ++ wsX70), w ∈ wsX7_oldest := fun w h => List.mem_cons_of_mem _ h
theorem qxX7_oldest_1 : ∀ w ∈ [.fieldLink RX7 49 "HopCreditsModel" "thrown" "I", .fieldLink RX7 22 "HopCreditsModel" "now" "[I", .methodLink RX7 133 yX7_isCircuit, .instanceMethod yX7_isCircuit, .selects RX7 yX7_isCircuit yX7_isCircuit, .initialized RX7, .code yX7_isCircuit cX7_isCircuit 2 (some .boolean), .fieldLink RX7 127 "HopCreditsModel" "circuits" "I", .methodLink RX7 60 yX7_in, .static yX7_in, .code yX7_in cX7_in 3 (some .boolean), .methodLink RX7 244 yX7_anywhere, .instanceMethod yX7_anywhere, .selects RX7 yX7_anywhere yX7_anywhere, .code yX7_anywhere cX7_anywhere 2 (some .int), .methodLink RX7 147 yX7_circuitAt, .static yX7_circuitAt, .code yX7_circuitAt cX7_circuitAt 1 (some .int)], w ∈ wsX7_oldest := in_l qxX7_oldest_0
theorem qxX7_oldest_2 : ∀ w ∈ wsX70, w ∈ wsX7_oldest := in_r qxX7_oldest_0
def pxX7_oldest : List (List Cond) := [[.fieldLink RX7 49 "HopCreditsModel" "thrown" "I", .fieldLink RX7 22 "HopCreditsModel" "now" "[I", .methodLink RX7 133 yX7_isCircuit, .instanceMethod yX7_isCircuit, .selects RX7 yX7_isCircuit yX7_isCircuit, .initialized RX7, .code yX7_isCircuit cX7_isCircuit 2 (some .boolean), .fieldLink RX7 127 "HopCreditsModel" "circuits" "I", .methodLink RX7 60 yX7_in, .static yX7_in, .code yX7_in cX7_in 3 (some .boolean), .methodLink RX7 244 yX7_anywhere, .instanceMethod yX7_anywhere, .selects RX7 yX7_anywhere yX7_anywhere, .code yX7_anywhere cX7_anywhere 2 (some .int), .methodLink RX7 147 yX7_circuitAt, .static yX7_circuitAt, .code yX7_circuitAt cX7_circuitAt 1 (some .int)], wsX70]
theorem pxX7_oldest_in : ∀ q ∈ pxX7_oldest, ∀ w ∈ q, w ∈ wsX7_oldest := lp_c qxX7_oldest_1 (lp_c qxX7_oldest_2 (lp_n))
set_option maxRecDepth 20000 in
theorem ggX7_oldest_X7_isCircuit : GoodIn wsX7_oldest wsX7_isCircuit := goodIn_pp pxX7_oldest pxX7_oldest_in _ [(0, 6), (0, 7), (0, 8), (0, 9), (0, 5), (0, 10), (1, 0), (1, 1), (1, 2), (1, 3), (1, 4), (1, 5), (1, 6), (1, 7), (1, 8), (1, 9), (1, 10), (1, 11), (1, 12), (1, 13), (1, 14), (1, 15), (1, 16), (1, 17), (1, 18), (1, 19), (1, 20)] rfl (by decide +kernel)
set_option maxRecDepth 20000 in
theorem gX7_oldest_X7_isCircuit : GoodIn wsX7_oldest (wsV RX7 133 RX7 yX7_isCircuit wsX7_isCircuit) := goodIn_app (goodIn_of _ (by decide +kernel)) ggX7_oldest_X7_isCircuit
set_option maxRecDepth 20000 in
theorem ggX7_oldest_X7_anywhere : GoodIn wsX7_oldest wsX7_anywhere := goodIn_pp pxX7_oldest pxX7_oldest_in _ [(0, 14), (0, 1), (0, 15), (0, 16), (0, 5), (0, 17), (1, 0), (1, 1), (1, 2), (1, 3), (1, 4), (1, 5), (1, 6), (1, 7), (1, 8), (1, 9), (1, 10), (1, 11), (1, 12), (1, 13), (1, 14), (1, 15), (1, 16), (1, 17), (1, 18), (1, 19), (1, 20)] rfl (by decide +kernel)
set_option maxRecDepth 20000 in
theorem gX7_oldest_X7_anywhere : GoodIn wsX7_oldest (wsV RX7 244 RX7 yX7_anywhere wsX7_anywhere) := goodIn_app (goodIn_of _ (by decide +kernel)) ggX7_oldest_X7_anywhere
set_option maxRecDepth 20000 in
theorem ggX7_oldest_X7_circuitAt : GoodIn wsX7_oldest wsX7_circuitAt := goodIn_r _ [18] (by decide +kernel) (by decide +kernel)
set_option maxRecDepth 20000 in
theorem gX7_oldest_X7_circuitAt : GoodIn wsX7_oldest (va_wsS RX7 147 yX7_circuitAt wsX7_circuitAt) := goodIn_app (goodIn_of _ (by decide +kernel)) ggX7_oldest_X7_circuitAt
theorem dX7_oldest_0 : decode cX7_oldest 0 = .ok (.aload_n 0, 1) := by decide +kernel
theorem dX7_oldest_1 : decode cX7_oldest 1 = .ok (.iconst 0, 1) := by decide +kernel
theorem dX7_oldest_2 : decode cX7_oldest 2 = .ok (.putfield 49, 3) := by decide +kernel
theorem dX7_oldest_5 : decode cX7_oldest 5 = .ok (.aload_n 0, 1) := by decide +kernel
theorem dX7_oldest_6 : decode cX7_oldest 6 = .ok (.iload_n 1, 1) := by decide +kernel
theorem dX7_oldest_7 : decode cX7_oldest 7 = .ok (.invokevirtual 133, 3) := by decide +kernel
theorem dX7_oldest_10 : decode cX7_oldest 10 = .ok (.ifCond .eq 11, 3) := by decide +kernel
theorem dX7_oldest_13 : decode cX7_oldest 13 = .ok (.aload_n 0, 1) := by decide +kernel
theorem dX7_oldest_14 : decode cX7_oldest 14 = .ok (.iload_n 1, 1) := by decide +kernel
theorem dX7_oldest_15 : decode cX7_oldest 15 = .ok (.invokevirtual 244, 3) := by decide +kernel
theorem dX7_oldest_18 : decode cX7_oldest 18 = .ok (.ifCond .ne 5, 3) := by decide +kernel
theorem dX7_oldest_21 : decode cX7_oldest 21 = .ok (.iconst (-1), 1) := by decide +kernel
theorem dX7_oldest_22 : decode cX7_oldest 22 = .ok (.ireturn, 1) := by decide +kernel
theorem dX7_oldest_23 : decode cX7_oldest 23 = .ok (.aload_n 0, 1) := by decide +kernel
theorem dX7_oldest_24 : decode cX7_oldest 24 = .ok (.getfield 22, 3) := by decide +kernel
theorem dX7_oldest_27 : decode cX7_oldest 27 = .ok (.sipush 1764, 3) := by decide +kernel
theorem dX7_oldest_30 : decode cX7_oldest 30 = .ok (.iaload, 1) := by decide +kernel
theorem dX7_oldest_31 : decode cX7_oldest 31 = .ok (.aload_n 0, 1) := by decide +kernel
theorem dX7_oldest_32 : decode cX7_oldest 32 = .ok (.getfield 22, 3) := by decide +kernel
theorem dX7_oldest_35 : decode cX7_oldest 35 = .ok (.sipush 228, 3) := by decide +kernel
theorem dX7_oldest_38 : decode cX7_oldest 38 = .ok (.sipush 512, 3) := by decide +kernel
theorem dX7_oldest_41 : decode cX7_oldest 41 = .ok (.iload_n 1, 1) := by decide +kernel
theorem dX7_oldest_42 : decode cX7_oldest 42 = .ok (.imul, 1) := by decide +kernel
theorem dX7_oldest_43 : decode cX7_oldest 43 = .ok (.iadd, 1) := by decide +kernel
theorem dX7_oldest_44 : decode cX7_oldest 44 = .ok (.aload_n 0, 1) := by decide +kernel
theorem dX7_oldest_45 : decode cX7_oldest 45 = .ok (.getfield 22, 3) := by decide +kernel
theorem dX7_oldest_48 : decode cX7_oldest 48 = .ok (.iload_n 1, 1) := by decide +kernel
theorem dX7_oldest_49 : decode cX7_oldest 49 = .ok (.invokestatic 147, 3) := by decide +kernel
theorem dX7_oldest_52 : decode cX7_oldest 52 = .ok (.iconst 5, 1) := by decide +kernel
theorem dX7_oldest_53 : decode cX7_oldest 53 = .ok (.iadd, 1) := by decide +kernel
theorem dX7_oldest_54 : decode cX7_oldest 54 = .ok (.iaload, 1) := by decide +kernel
theorem dX7_oldest_55 : decode cX7_oldest 55 = .ok (.sipush 512, 3) := by decide +kernel
theorem dX7_oldest_58 : decode cX7_oldest 58 = .ok (.irem, 1) := by decide +kernel
theorem dX7_oldest_59 : decode cX7_oldest 59 = .ok (.iadd, 1) := by decide +kernel
theorem dX7_oldest_60 : decode cX7_oldest 60 = .ok (.iaload, 1) := by decide +kernel
theorem dX7_oldest_61 : decode cX7_oldest 61 = .ok (.isub, 1) := by decide +kernel
theorem dX7_oldest_62 : decode cX7_oldest 62 = .ok (.ireturn, 1) := by decide +kernel
set_option maxRecDepth 20000 in
theorem ggX7_count_X7_isNet : GoodIn wsX7_count wsX7_isNet := goodIn_r _ [9, 10, 34, 35, 36, 37, 38, 39, 40, 41, 42, 43, 44, 45, 46, 47, 48, 49, 50, 51, 52, 53, 54] (by decide +kernel) (by decide +kernel)
set_option maxRecDepth 20000 in
theorem gX7_count_X7_isNet : GoodIn wsX7_count (wsV RX7 136 RX7 yX7_isNet wsX7_isNet) := goodIn_app (goodIn_of _ (by decide +kernel)) ggX7_count_X7_isNet
theorem qxX7_count_0 : ∀ w ∈ ((wsX7_count_r1 ++ wsX7_count_r2) ++ wsX70), w ∈ wsX7_count := fun w h => List.mem_cons_of_mem _ h
theorem qxX7_count_1 : ∀ w ∈ (wsX7_count_r1 ++ wsX7_count_r2), w ∈ wsX7_count := in_l qxX7_count_0
theorem qxX7_count_2 : ∀ w ∈ wsX70, w ∈ wsX7_count := in_r qxX7_count_0
theorem qxX7_count_3 : ∀ w ∈ wsX7_count_r1, w ∈ wsX7_count := in_l qxX7_count_1
theorem qxX7_count_4 : ∀ w ∈ wsX7_count_r2, w ∈ wsX7_count := in_r qxX7_count_1
def pxX7_count : List (List Cond) := [wsX7_count_r1, wsX7_count_r2, wsX70]
theorem pxX7_count_in : ∀ q ∈ pxX7_count, ∀ w ∈ q, w ∈ wsX7_count := lp_c qxX7_count_3 (lp_c qxX7_count_4 (lp_c qxX7_count_2 (lp_n)))
set_option maxRecDepth 20000 in
theorem ggX7_count_X7_cellsAnywhere : GoodIn wsX7_count wsX7_cellsAnywhere := goodIn_pp pxX7_count pxX7_count_in _ [(0, 13), (0, 14), (0, 15), (0, 16), (0, 17), (0, 7), (0, 18), (0, 3), (0, 19), (0, 20), (0, 21), (2, 0), (2, 1), (2, 2), (2, 3), (2, 4), (2, 5), (2, 6), (2, 7), (2, 8), (2, 9), (2, 10), (2, 11), (2, 12), (2, 13), (2, 14), (2, 15), (2, 16), (2, 17), (2, 18), (2, 19), (2, 20)] rfl (by decide +kernel)
set_option maxRecDepth 20000 in
theorem gX7_count_X7_cellsAnywhere : GoodIn wsX7_count (wsV RX7 292 RX7 yX7_cellsAnywhere wsX7_cellsAnywhere) := goodIn_app (goodIn_of _ (by decide +kernel)) ggX7_count_X7_cellsAnywhere
set_option maxRecDepth 20000 in
theorem ggX7_count_X7_deliveredOf : GoodIn wsX7_count wsX7_deliveredOf := goodIn_pp pxX7_count pxX7_count_in _ [(1, 1), (0, 14), (0, 3), (0, 19), (0, 20), (0, 7), (0, 21), (2, 0), (2, 1), (2, 2), (2, 3), (2, 4), (2, 5), (2, 6), (2, 7), (2, 8), (2, 9), (2, 10), (2, 11), (2, 12), (2, 13), (2, 14), (2, 15), (2, 16), (2, 17), (2, 18), (2, 19), (2, 20)] rfl (by decide +kernel)
set_option maxRecDepth 20000 in
theorem gX7_count_X7_deliveredOf : GoodIn wsX7_count (wsV RX7 265 RX7 yX7_deliveredOf wsX7_deliveredOf) := goodIn_app (goodIn_of _ (by decide +kernel)) ggX7_count_X7_deliveredOf
set_option maxRecDepth 20000 in
theorem ggX7_count_X7_unknown : GoodIn wsX7_count wsX7_unknown := goodIn_pp pxX7_count pxX7_count_in _ [(1, 5), (0, 9), (0, 14), (0, 3), (1, 6), (1, 7), (0, 7), (1, 8), (2, 0), (2, 1), (2, 2), (2, 3), (2, 4), (2, 5), (2, 6), (2, 7), (2, 8), (2, 9), (2, 10), (2, 11), (2, 12), (2, 13), (2, 14), (2, 15), (2, 16), (2, 17), (2, 18), (2, 19), (2, 20)] rfl (by decide +kernel)
set_option maxRecDepth 20000 in
theorem gX7_count_X7_unknown : GoodIn wsX7_count (wsV RX7 280 RX7 yX7_unknown wsX7_unknown) := goodIn_app (goodIn_of _ (by decide +kernel)) ggX7_count_X7_unknown
theorem dX7_count_0 : decode cX7_count 0 = .ok (.aload_n 0, 1) := by decide +kernel
theorem dX7_count_1 : decode cX7_count 1 = .ok (.iconst 0, 1) := by decide +kernel
theorem dX7_count_2 : decode cX7_count 2 = .ok (.putfield 49, 3) := by decide +kernel
theorem dX7_count_5 : decode cX7_count 5 = .ok (.iload_n 1, 1) := by decide +kernel
theorem dX7_count_6 : decode cX7_count 6 = .ok (.ifCond .ne 8, 3) := by decide +kernel
theorem dX7_count_9 : decode cX7_count 9 = .ok (.aload_n 0, 1) := by decide +kernel
theorem dX7_count_10 : decode cX7_count 10 = .ok (.getfield 57, 3) := by decide +kernel
theorem dX7_count_13 : decode cX7_count 13 = .ok (.ireturn, 1) := by decide +kernel
theorem dX7_count_14 : decode cX7_count 14 = .ok (.aload_n 0, 1) := by decide +kernel
theorem dX7_count_15 : decode cX7_count 15 = .ok (.invokevirtual 136, 3) := by decide +kernel
theorem dX7_count_18 : decode cX7_count 18 = .ok (.ifCond .ne 6, 3) := by decide +kernel
theorem dX7_count_21 : decode cX7_count 21 = .ok (.ldc 236, 2) := by decide +kernel
theorem dX7_count_23 : decode cX7_count 23 = .ok (.ireturn, 1) := by decide +kernel
theorem dX7_count_24 : decode cX7_count 24 = .ok (.iload_n 1, 1) := by decide +kernel
theorem dX7_count_25 : decode cX7_count 25 = .ok (.tableswitch 69 1 5 #[35, 40, 46, 55, 64], 35) := by decide +kernel
theorem dX7_count_60 : decode cX7_count 60 = .ok (.aload_n 0, 1) := by decide +kernel
theorem dX7_count_61 : decode cX7_count 61 = .ok (.invokevirtual 292, 3) := by decide +kernel
theorem dX7_count_64 : decode cX7_count 64 = .ok (.ireturn, 1) := by decide +kernel
theorem dX7_count_65 : decode cX7_count 65 = .ok (.aload_n 0, 1) := by decide +kernel
theorem dX7_count_66 : decode cX7_count 66 = .ok (.iconst (-1), 1) := by decide +kernel
theorem dX7_count_67 : decode cX7_count 67 = .ok (.invokevirtual 265, 3) := by decide +kernel
theorem dX7_count_70 : decode cX7_count 70 = .ok (.ireturn, 1) := by decide +kernel
theorem dX7_count_71 : decode cX7_count 71 = .ok (.aload_n 0, 1) := by decide +kernel
theorem dX7_count_72 : decode cX7_count 72 = .ok (.getfield 22, 3) := by decide +kernel
theorem dX7_count_75 : decode cX7_count 75 = .ok (.sipush 1765, 3) := by decide +kernel
theorem dX7_count_78 : decode cX7_count 78 = .ok (.iaload, 1) := by decide +kernel
theorem dX7_count_79 : decode cX7_count 79 = .ok (.ireturn, 1) := by decide +kernel
theorem dX7_count_80 : decode cX7_count 80 = .ok (.aload_n 0, 1) := by decide +kernel
theorem dX7_count_81 : decode cX7_count 81 = .ok (.getfield 22, 3) := by decide +kernel
theorem dX7_count_84 : decode cX7_count 84 = .ok (.sipush 1766, 3) := by decide +kernel
theorem dX7_count_87 : decode cX7_count 87 = .ok (.iaload, 1) := by decide +kernel
theorem dX7_count_88 : decode cX7_count 88 = .ok (.ireturn, 1) := by decide +kernel
theorem dX7_count_89 : decode cX7_count 89 = .ok (.aload_n 0, 1) := by decide +kernel
theorem dX7_count_90 : decode cX7_count 90 = .ok (.invokevirtual 280, 3) := by decide +kernel
theorem dX7_count_93 : decode cX7_count 93 = .ok (.ireturn, 1) := by decide +kernel
theorem dX7_count_94 : decode cX7_count 94 = .ok (.ldc 236, 2) := by decide +kernel
theorem dX7_count_96 : decode cX7_count 96 = .ok (.ireturn, 1) := by decide +kernel
