theorem dX6_status_17 : decode cX6_status 17 = .ok (.iload_n 1, 1) := by decide +kernel
theorem dX6_status_18 : decode cX6_status 18 = .ok (.iaload, 1) := by decide +kernel
theorem dX6_status_19 : decode cX6_status 19 = .ok (.ireturn, 1) := by decide +kernel
theorem dX6_refuse_0 : decode cX6_refuse 0 = .ok (.aload_n 0, 1) := by decide +kernel
theorem dX6_refuse_1 : decode cX6_refuse 1 = .ok (.getfield 13, 3) := by decide +kernel
theorem dX6_refuse_4 : decode cX6_refuse 4 = .ok (.iload_n 1, 1) := by decide +kernel
theorem dX6_refuse_5 : decode cX6_refuse 5 = .ok (.dup2, 1) := by decide +kernel
theorem dX6_refuse_6 : decode cX6_refuse 6 = .ok (.iaload, 1) := by decide +kernel
theorem dX6_refuse_7 : decode cX6_refuse 7 = .ok (.iconst 1, 1) := by decide +kernel
theorem dX6_refuse_8 : decode cX6_refuse 8 = .ok (.iadd, 1) := by decide +kernel
theorem dX6_refuse_9 : decode cX6_refuse 9 = .ok (.iastore, 1) := by decide +kernel
theorem dX6_refuse_10 : decode cX6_refuse 10 = .ok (.iconst (-1), 1) := by decide +kernel
theorem dX6_refuse_11 : decode cX6_refuse 11 = .ok (.ireturn, 1) := by decide +kernel
theorem qxX6_laneAhead_0 : ∀ w ∈ ((((((wsX6_laneAhead_r1 ++ (wsX6_laneAhead_r2 ++ (wsX6_laneAhead_r3 ++ (wsX6_laneAhead_r4 ++ (wsX6_laneAhead_r5 ++ (wsX6_laneAhead_r6 ++ (wsX6_laneAhead_r7 ++ (wsX6_laneAhead_r8 ++ (wsX6_laneAhead_r9 ++ wsX6_laneAhead_r10))))))))) ++ wsX60) ++ wsX30) ++ wsX20) ++ wsX10) ++ wsX00), w ∈ wsX6_laneAhead := fun w h => List.mem_cons_of_mem _ h
theorem qxX6_laneAhead_1 : ∀ w ∈ (((((wsX6_laneAhead_r1 ++ (wsX6_laneAhead_r2 ++ (wsX6_laneAhead_r3 ++ (wsX6_laneAhead_r4 ++ (wsX6_laneAhead_r5 ++ (wsX6_laneAhead_r6 ++ (wsX6_laneAhead_r7 ++ (wsX6_laneAhead_r8 ++ (wsX6_laneAhead_r9 ++ wsX6_laneAhead_r10))))))))) ++ wsX60) ++ wsX30) ++ wsX20) ++ wsX10), w ∈ wsX6_laneAhead := in_l qxX6_laneAhead_0
theorem qxX6_laneAhead_2 : ∀ w ∈ wsX00, w ∈ wsX6_laneAhead := in_r qxX6_laneAhead_0
theorem qxX6_laneAhead_3 : ∀ w ∈ ((((wsX6_laneAhead_r1 ++ (wsX6_laneAhead_r2 ++ (wsX6_laneAhead_r3 ++ (wsX6_laneAhead_r4 ++ (wsX6_laneAhead_r5 ++ (wsX6_laneAhead_r6 ++ (wsX6_laneAhead_r7 ++ (wsX6_laneAhead_r8 ++ (wsX6_laneAhead_r9 ++ wsX6_laneAhead_r10))))))))) ++ wsX60) ++ wsX30) ++ wsX20), w ∈ wsX6_laneAhead := in_l qxX6_laneAhead_1
theorem qxX6_laneAhead_4 : ∀ w ∈ wsX10, w ∈ wsX6_laneAhead := in_r qxX6_laneAhead_1
theorem qxX6_laneAhead_5 : ∀ w ∈ (((wsX6_laneAhead_r1 ++ (wsX6_laneAhead_r2 ++ (wsX6_laneAhead_r3 ++ (wsX6_laneAhead_r4 ++ (wsX6_laneAhead_r5 ++ (wsX6_laneAhead_r6 ++ (wsX6_laneAhead_r7 ++ (wsX6_laneAhead_r8 ++ (wsX6_laneAhead_r9 ++ wsX6_laneAhead_r10))))))))) ++ wsX60) ++ wsX30), w ∈ wsX6_laneAhead := in_l qxX6_laneAhead_3
theorem qxX6_laneAhead_6 : ∀ w ∈ wsX20, w ∈ wsX6_laneAhead := in_r qxX6_laneAhead_3
theorem qxX6_laneAhead_7 : ∀ w ∈ ((wsX6_laneAhead_r1 ++ (wsX6_laneAhead_r2 ++ (wsX6_laneAhead_r3 ++ (wsX6_laneAhead_r4 ++ (wsX6_laneAhead_r5 ++ (wsX6_laneAhead_r6 ++ (wsX6_laneAhead_r7 ++ (wsX6_laneAhead_r8 ++ (wsX6_laneAhead_r9 ++ wsX6_laneAhead_r10))))))))) ++ wsX60), w ∈ wsX6_laneAhead := in_l qxX6_laneAhead_5
theorem qxX6_laneAhead_8 : ∀ w ∈ wsX30, w ∈ wsX6_laneAhead := in_r qxX6_laneAhead_5
theorem qxX6_laneAhead_9 : ∀ w ∈ (wsX6_laneAhead_r1 ++ (wsX6_laneAhead_r2 ++ (wsX6_laneAhead_r3 ++ (wsX6_laneAhead_r4 ++ (wsX6_laneAhead_r5 ++ (wsX6_laneAhead_r6 ++ (wsX6_laneAhead_r7 ++ (wsX6_laneAhead_r8 ++ (wsX6_laneAhead_r9 ++ wsX6_laneAhead_r10))))))))), w ∈ wsX6_laneAhead := in_l qxX6_laneAhead_7
theorem qxX6_laneAhead_10 : ∀ w ∈ wsX60, w ∈ wsX6_laneAhead := in_r qxX6_laneAhead_7
theorem qxX6_laneAhead_11 : ∀ w ∈ wsX6_laneAhead_r1, w ∈ wsX6_laneAhead := in_l qxX6_laneAhead_9
theorem qxX6_laneAhead_12 : ∀ w ∈ (wsX6_laneAhead_r2 ++ (wsX6_laneAhead_r3 ++ (wsX6_laneAhead_r4 ++ (wsX6_laneAhead_r5 ++ (wsX6_laneAhead_r6 ++ (wsX6_laneAhead_r7 ++ (wsX6_laneAhead_r8 ++ (wsX6_laneAhead_r9 ++ wsX6_laneAhead_r10)))))))), w ∈ wsX6_laneAhead := in_r qxX6_laneAhead_9
theorem qxX6_laneAhead_13 : ∀ w ∈ wsX6_laneAhead_r2, w ∈ wsX6_laneAhead := in_l qxX6_laneAhead_12
theorem qxX6_laneAhead_14 : ∀ w ∈ (wsX6_laneAhead_r3 ++ (wsX6_laneAhead_r4 ++ (wsX6_laneAhead_r5 ++ (wsX6_laneAhead_r6 ++ (wsX6_laneAhead_r7 ++ (wsX6_laneAhead_r8 ++ (wsX6_laneAhead_r9 ++ wsX6_laneAhead_r10))))))), w ∈ wsX6_laneAhead := in_r qxX6_laneAhead_12
theorem qxX6_laneAhead_15 : ∀ w ∈ wsX6_laneAhead_r3, w ∈ wsX6_laneAhead := in_l qxX6_laneAhead_14
theorem qxX6_laneAhead_16 : ∀ w ∈ (wsX6_laneAhead_r4 ++ (wsX6_laneAhead_r5 ++ (wsX6_laneAhead_r6 ++ (wsX6_laneAhead_r7 ++ (wsX6_laneAhead_r8 ++ (wsX6_laneAhead_r9 ++ wsX6_laneAhead_r10)))))), w ∈ wsX6_laneAhead := in_r qxX6_laneAhead_14
theorem qxX6_laneAhead_17 : ∀ w ∈ wsX6_laneAhead_r4, w ∈ wsX6_laneAhead := in_l qxX6_laneAhead_16
theorem qxX6_laneAhead_18 : ∀ w ∈ (wsX6_laneAhead_r5 ++ (wsX6_laneAhead_r6 ++ (wsX6_laneAhead_r7 ++ (wsX6_laneAhead_r8 ++ (wsX6_laneAhead_r9 ++ wsX6_laneAhead_r10))))), w ∈ wsX6_laneAhead := in_r qxX6_laneAhead_16
theorem qxX6_laneAhead_19 : ∀ w ∈ wsX6_laneAhead_r5, w ∈ wsX6_laneAhead := in_l qxX6_laneAhead_18
theorem qxX6_laneAhead_20 : ∀ w ∈ (wsX6_laneAhead_r6 ++ (wsX6_laneAhead_r7 ++ (wsX6_laneAhead_r8 ++ (wsX6_laneAhead_r9 ++ wsX6_laneAhead_r10)))), w ∈ wsX6_laneAhead := in_r qxX6_laneAhead_18
theorem qxX6_laneAhead_21 : ∀ w ∈ wsX6_laneAhead_r6, w ∈ wsX6_laneAhead := in_l qxX6_laneAhead_20
theorem qxX6_laneAhead_22 : ∀ w ∈ (wsX6_laneAhead_r7 ++ (wsX6_laneAhead_r8 ++ (wsX6_laneAhead_r9 ++ wsX6_laneAhead_r10))), w ∈ wsX6_laneAhead := in_r qxX6_laneAhead_20
theorem qxX6_laneAhead_23 : ∀ w ∈ wsX6_laneAhead_r7, w ∈ wsX6_laneAhead := in_l qxX6_laneAhead_22
theorem qxX6_laneAhead_24 : ∀ w ∈ (wsX6_laneAhead_r8 ++ (wsX6_laneAhead_r9 ++ wsX6_laneAhead_r10)), w ∈ wsX6_laneAhead := in_r qxX6_laneAhead_22
theorem qxX6_laneAhead_25 : ∀ w ∈ wsX6_laneAhead_r8, w ∈ wsX6_laneAhead := in_l qxX6_laneAhead_24
theorem qxX6_laneAhead_26 : ∀ w ∈ (wsX6_laneAhead_r9 ++ wsX6_laneAhead_r10), w ∈ wsX6_laneAhead := in_r qxX6_laneAhead_24
theorem qxX6_laneAhead_27 : ∀ w ∈ wsX6_laneAhead_r9, w ∈ wsX6_laneAhead := in_l qxX6_laneAhead_26
theorem qxX6_laneAhead_28 : ∀ w ∈ wsX6_laneAhead_r10, w ∈ wsX6_laneAhead := in_r qxX6_laneAhead_26
def pxX6_laneAhead : List (List Cond) := [wsX6_laneAhead_r1, wsX6_laneAhead_r2, wsX6_laneAhead_r3, wsX6_laneAhead_r4, wsX6_laneAhead_r5, wsX6_laneAhead_r6, wsX6_laneAhead_r7, wsX6_laneAhead_r8, wsX6_laneAhead_r9, wsX6_laneAhead_r10, wsX60, wsX30, wsX20, wsX10, wsX00]
theorem pxX6_laneAhead_in : ∀ q ∈ pxX6_laneAhead, ∀ w ∈ q, w ∈ wsX6_laneAhead := lp_c qxX6_laneAhead_11 (lp_c qxX6_laneAhead_13 (lp_c qxX6_laneAhead_15 (lp_c qxX6_laneAhead_17 (lp_c qxX6_laneAhead_19 (lp_c qxX6_laneAhead_21 (lp_c qxX6_laneAhead_23 (lp_c qxX6_laneAhead_25 (lp_c qxX6_laneAhead_27 (lp_c qxX6_laneAhead_28 (lp_c qxX6_laneAhead_10 (lp_c qxX6_laneAhead_8 (lp_c qxX6_laneAhead_6 (lp_c qxX6_laneAhead_4 (lp_c qxX6_laneAhead_2 (lp_n)))))))))))))))
set_option maxRecDepth 20000 in
theorem ggX6_laneAhead_X6_isLane : GoodIn wsX6_laneAhead wsX6_isLane := goodIn_pp pxX6_laneAhead pxX6_laneAhead_in _ [(0, 5), (0, 6), (0, 7), (0, 8), (0, 4), (0, 9), (0, 10), (0, 11), (0, 12), (0, 13), (0, 14), (0, 15), (0, 16), (0, 17), (10, 0), (10, 1), (10, 2), (10, 3), (10, 4), (10, 5), (10, 6), (10, 7), (10, 8), (11, 0), (11, 1), (11, 2), (11, 3), (11, 4), (11, 5), (11, 6), (11, 7), (11, 8), (11, 9), (11, 10)] rfl (by decide +kernel)
set_option maxRecDepth 20000 in
theorem gX6_laneAhead_X6_isLane : GoodIn wsX6_laneAhead (wsV RX6 167 RX6 yX6_isLane wsX6_isLane) := goodIn_app (goodIn_of _ (by decide +kernel)) ggX6_laneAhead_X6_isLane
set_option maxRecDepth 20000 in
theorem ggX6_laneAhead_X6_outside : GoodIn wsX6_laneAhead wsX6_outside := goodIn_r _ [21] (by decide +kernel) (by decide +kernel)
set_option maxRecDepth 20000 in
theorem gX6_laneAhead_X6_outside : GoodIn wsX6_laneAhead (va_wsS RX6 55 yX6_outside wsX6_outside) := goodIn_app (goodIn_of _ (by decide +kernel)) ggX6_laneAhead_X6_outside
set_option maxRecDepth 20000 in
theorem ggX6_laneAhead_X6_goApart : GoodIn wsX6_laneAhead wsX6_goApart := goodIn_pp pxX6_laneAhead pxX6_laneAhead_in _ [(1, 0), (0, 0), (0, 11), (1, 1), (1, 2), (1, 3), (1, 4), (1, 5), (1, 6), (1, 7), (1, 8), (1, 9), (1, 10), (1, 11), (1, 12), (1, 13), (1, 14), (1, 15), (1, 16), (1, 17), (1, 18), (1, 19), (1, 20), (1, 21), (1, 22), (1, 23), (2, 0), (2, 1), (2, 2), (2, 3), (2, 4), (2, 5), (2, 6), (2, 7), (2, 8), (2, 9), (2, 10), (2, 11), (2, 12), (2, 13), (2, 14), (2, 15), (2, 16), (2, 17), (2, 18), (2, 19), (2, 20), (2, 21), (2, 22), (2, 23), (3, 0), (3, 1), (3, 2), (3, 3), (3, 4), (3, 5), (3, 6), (3, 7), (3, 8), (3, 9), (3, 10), (3, 11), (3, 12), (3, 13), (3, 14), (3, 15), (3, 16), (3, 17), (3, 18), (3, 19), (3, 20), (3, 21), (3, 22), (3, 23), (4, 0), (4, 1), (4, 2), (4, 3), (4, 4), (4, 5), (4, 6), (4, 7), (4, 8), (4, 9), (4, 10), (0, 4), (4, 11), (4, 12), (4, 13), (4, 14), (4, 15), (4, 16), (4, 17), (4, 18), (4, 19), (4, 20), (4, 21), (4, 22), (4, 23), (5, 0), (5, 1), (5, 2), (5, 3), (5, 4), (5, 5), (5, 6), (5, 7), (5, 8), (5, 9), (5, 10), (5, 11), (5, 12), (5, 13), (5, 14), (5, 15), (5, 16), (5, 17), (5, 18), (5, 19), (5, 20), (5, 21), (5, 22), (5, 23), (6, 0), (6, 1), (6, 2), (6, 3), (6, 4), (6, 5), (6, 6), (6, 7), (6, 8), (6, 9), (6, 10), (6, 11), (6, 12), (6, 13), (6, 14), (6, 15), (6, 16), (6, 17), (6, 18), (6, 19), (6, 20), (6, 21), (6, 22), (6, 23), (7, 0), (7, 1), (7, 2), (7, 3), (7, 4), (7, 5), (7, 6), (7, 7), (7, 8), (7, 9), (7, 10), (7, 11), (7, 12), (7, 13), (7, 14), (7, 15), (7, 16), (7, 17), (7, 18), (7, 19), (7, 20), (7, 21), (7, 22), (7, 23), (8, 0), (8, 1), (8, 2), (8, 3), (8, 4), (8, 5), (8, 6), (10, 0), (10, 1), (10, 2), (10, 3), (10, 4), (10, 5), (10, 6), (10, 7), (10, 8), (11, 0), (11, 1), (11, 2), (11, 3), (11, 4), (11, 5), (11, 6), (11, 7), (11, 8), (11, 9), (11, 10), (12, 0), (12, 1), (12, 2), (12, 3), (12, 4), (12, 5), (12, 6), (12, 7), (12, 8), (12, 9), (13, 0), (13, 1), (13, 2), (13, 3), (13, 4), (13, 5), (13, 6), (14, 0), (14, 1), (14, 2), (14, 3), (14, 4), (14, 5), (14, 6), (14, 7)] rfl (by decide +kernel)
set_option maxRecDepth 20000 in
theorem gX6_laneAhead_X6_goApart : GoodIn wsX6_laneAhead (wsV RX6 267 RX6 yX6_goApart wsX6_goApart) := goodIn_app (goodIn_of _ (by decide +kernel)) ggX6_laneAhead_X6_goApart
set_option maxRecDepth 20000 in
theorem ggX6_laneAhead_X6_toldOfLane : GoodIn wsX6_laneAhead wsX6_toldOfLane := goodIn_pp pxX6_laneAhead pxX6_laneAhead_in _ [(8, 9), (8, 10), (8, 11), (8, 12), (8, 13), (8, 14), (8, 15), (8, 16), (8, 17), (8, 18), (8, 19), (6, 16), (6, 17), (2, 16), (6, 18), (2, 18), (2, 20), (8, 20), (8, 21), (8, 22), (8, 23), (2, 21), (9, 0), (7, 17), (7, 14), (7, 18), (9, 1), (9, 2), (9, 3), (9, 4), (2, 0), (9, 5), (2, 8), (11, 0), (11, 1), (11, 2), (11, 3), (11, 4), (11, 5), (11, 6), (11, 7), (11, 8), (11, 9), (11, 10), (12, 0), (12, 1), (12, 2), (12, 3), (12, 4), (12, 5), (12, 6), (12, 7), (12, 8), (12, 9), (13, 0), (13, 1), (13, 2), (13, 3), (13, 4), (13, 5), (13, 6)] rfl (by decide +kernel)
set_option maxRecDepth 20000 in
theorem gX6_laneAhead_X6_toldOfLane : GoodIn wsX6_laneAhead (va_wsS RX6 171 yX6_toldOfLane wsX6_toldOfLane) := goodIn_app (goodIn_of _ (by decide +kernel)) ggX6_laneAhead_X6_toldOfLane
theorem dX6_laneAhead_0 : decode cX6_laneAhead 0 = .ok (.aload_n 0, 1) := by decide +kernel
theorem dX6_laneAhead_1 : decode cX6_laneAhead 1 = .ok (.iload_n 1, 1) := by decide +kernel
theorem dX6_laneAhead_2 : decode cX6_laneAhead 2 = .ok (.iload_n 2, 1) := by decide +kernel
theorem dX6_laneAhead_3 : decode cX6_laneAhead 3 = .ok (.invokevirtual 167, 3) := by decide +kernel
theorem dX6_laneAhead_6 : decode cX6_laneAhead 6 = .ok (.ifCond .eq 25, 3) := by decide +kernel
theorem dX6_laneAhead_9 : decode cX6_laneAhead 9 = .ok (.iload_n 3, 1) := by decide +kernel
theorem dX6_laneAhead_10 : decode cX6_laneAhead 10 = .ok (.iconst 0, 1) := by decide +kernel
theorem dX6_laneAhead_11 : decode cX6_laneAhead 11 = .ok (.bipush 9, 2) := by decide +kernel
theorem dX6_laneAhead_13 : decode cX6_laneAhead 13 = .ok (.invokestatic 55, 3) := by decide +kernel
theorem dX6_laneAhead_16 : decode cX6_laneAhead 16 = .ok (.ifCond .ne 15, 3) := by decide +kernel
theorem dX6_laneAhead_19 : decode cX6_laneAhead 19 = .ok (.iload 4, 2) := by decide +kernel
theorem dX6_laneAhead_21 : decode cX6_laneAhead 21 = .ok (.iconst 0, 1) := by decide +kernel
theorem dX6_laneAhead_22 : decode cX6_laneAhead 22 = .ok (.sipush 200, 3) := by decide +kernel
theorem dX6_laneAhead_25 : decode cX6_laneAhead 25 = .ok (.invokestatic 55, 3) := by decide +kernel
theorem dX6_laneAhead_28 : decode cX6_laneAhead 28 = .ok (.ifCond .eq 5, 3) := by decide +kernel
theorem dX6_laneAhead_31 : decode cX6_laneAhead 31 = .ok (.iconst (-1), 1) := by decide +kernel
theorem dX6_laneAhead_32 : decode cX6_laneAhead 32 = .ok (.ireturn, 1) := by decide +kernel
theorem dX6_laneAhead_33 : decode cX6_laneAhead 33 = .ok (.aload_n 0, 1) := by decide +kernel
theorem dX6_laneAhead_34 : decode cX6_laneAhead 34 = .ok (.iload 4, 2) := by decide +kernel
theorem dX6_laneAhead_36 : decode cX6_laneAhead 36 = .ok (.invokevirtual 267, 3) := by decide +kernel
theorem dX6_laneAhead_39 : decode cX6_laneAhead 39 = .ok (.aload_n 0, 1) := by decide +kernel
theorem dX6_laneAhead_40 : decode cX6_laneAhead 40 = .ok (.getfield 30, 3) := by decide +kernel
theorem dX6_laneAhead_43 : decode cX6_laneAhead 43 = .ok (.iload_n 1, 1) := by decide +kernel
theorem dX6_laneAhead_44 : decode cX6_laneAhead 44 = .ok (.iload_n 2, 1) := by decide +kernel
theorem dX6_laneAhead_45 : decode cX6_laneAhead 45 = .ok (.iload_n 3, 1) := by decide +kernel
theorem dX6_laneAhead_46 : decode cX6_laneAhead 46 = .ok (.invokestatic 171, 3) := by decide +kernel
theorem dX6_laneAhead_49 : decode cX6_laneAhead 49 = .ok (.ireturn, 1) := by decide +kernel
set_option maxRecDepth 20000 in
theorem ggX6_bufferAhead_X6_isNode : GoodIn wsX6_bufferAhead wsX6_isNode := goodIn_r _ [6, 7, 8, 9, 200, 201, 202, 203, 204, 205, 206, 207, 208, 209, 210, 211, 212, 213, 214, 215, 216, 217, 218, 219] (by decide +kernel) (by decide +kernel)
set_option maxRecDepth 20000 in
theorem gX6_bufferAhead_X6_isNode : GoodIn wsX6_bufferAhead (wsV RX6 211 RX6 yX6_isNode wsX6_isNode) := goodIn_app (goodIn_of _ (by decide +kernel)) ggX6_bufferAhead_X6_isNode
set_option maxRecDepth 20000 in
theorem ggX6_bufferAhead_X6_isCircuit : GoodIn wsX6_bufferAhead wsX6_isCircuit := goodIn_r _ [13, 7, 8, 14, 200, 201, 202, 203, 204, 205, 206, 207, 208, 209, 210, 211, 212, 213, 214, 215, 216, 217, 218, 219] (by decide +kernel) (by decide +kernel)
set_option maxRecDepth 20000 in
theorem gX6_bufferAhead_X6_isCircuit : GoodIn wsX6_bufferAhead (wsV RX6 135 RX6 yX6_isCircuit wsX6_isCircuit) := goodIn_app (goodIn_of _ (by decide +kernel)) ggX6_bufferAhead_X6_isCircuit
set_option maxRecDepth 20000 in
theorem ggX6_bufferAhead_X6_outside : GoodIn wsX6_bufferAhead wsX6_outside := goodIn_r _ [17] (by decide +kernel) (by decide +kernel)
set_option maxRecDepth 20000 in
theorem gX6_bufferAhead_X6_outside : GoodIn wsX6_bufferAhead (va_wsS RX6 55 yX6_outside wsX6_outside) := goodIn_app (goodIn_of _ (by decide +kernel)) ggX6_bufferAhead_X6_outside
theorem qxX6_bufferAhead_0 : ∀ w ∈ ((((((wsX6_bufferAhead_r1 ++ (wsX6_bufferAhead_r2 ++ (wsX6_bufferAhead_r3 ++ (wsX6_bufferAhead_r4 ++ (wsX6_bufferAhead_r5 ++ (wsX6_bufferAhead_r6 ++ (wsX6_bufferAhead_r7 ++ (wsX6_bufferAhead_r8 ++ wsX6_bufferAhead_r9)))))))) ++ wsX60) ++ wsX30) ++ wsX20) ++ wsX10) ++ wsX00), w ∈ wsX6_bufferAhead := fun w h => List.mem_cons_of_mem _ h
theorem qxX6_bufferAhead_1 : ∀ w ∈ (((((wsX6_bufferAhead_r1 ++ (wsX6_bufferAhead_r2 ++ (wsX6_bufferAhead_r3 ++ (wsX6_bufferAhead_r4 ++ (wsX6_bufferAhead_r5 ++ (wsX6_bufferAhead_r6 ++ (wsX6_bufferAhead_r7 ++ (wsX6_bufferAhead_r8 ++ wsX6_bufferAhead_r9)))))))) ++ wsX60) ++ wsX30) ++ wsX20) ++ wsX10), w ∈ wsX6_bufferAhead := in_l qxX6_bufferAhead_0
theorem qxX6_bufferAhead_2 : ∀ w ∈ wsX00, w ∈ wsX6_bufferAhead := in_r qxX6_bufferAhead_0
theorem qxX6_bufferAhead_3 : ∀ w ∈ ((((wsX6_bufferAhead_r1 ++ (wsX6_bufferAhead_r2 ++ (wsX6_bufferAhead_r3 ++ (wsX6_bufferAhead_r4 ++ (wsX6_bufferAhead_r5 ++ (wsX6_bufferAhead_r6 ++ (wsX6_bufferAhead_r7 ++ (wsX6_bufferAhead_r8 ++ wsX6_bufferAhead_r9)))))))) ++ wsX60) ++ wsX30) ++ wsX20), w ∈ wsX6_bufferAhead := in_l qxX6_bufferAhead_1
theorem qxX6_bufferAhead_4 : ∀ w ∈ wsX10, w ∈ wsX6_bufferAhead := in_r qxX6_bufferAhead_1
theorem qxX6_bufferAhead_5 : ∀ w ∈ (((wsX6_bufferAhead_r1 ++ (wsX6_bufferAhead_r2 ++ (wsX6_bufferAhead_r3 ++ (wsX6_bufferAhead_r4 ++ (wsX6_bufferAhead_r5 ++ (wsX6_bufferAhead_r6 ++ (wsX6_bufferAhead_r7 ++ (wsX6_bufferAhead_r8 ++ wsX6_bufferAhead_r9)))))))) ++ wsX60) ++ wsX30), w ∈ wsX6_bufferAhead := in_l qxX6_bufferAhead_3
theorem qxX6_bufferAhead_6 : ∀ w ∈ wsX20, w ∈ wsX6_bufferAhead := in_r qxX6_bufferAhead_3
theorem qxX6_bufferAhead_7 : ∀ w ∈ ((wsX6_bufferAhead_r1 ++ (wsX6_bufferAhead_r2 ++ (wsX6_bufferAhead_r3 ++ (wsX6_bufferAhead_r4 ++ (wsX6_bufferAhead_r5 ++ (wsX6_bufferAhead_r6 ++ (wsX6_bufferAhead_r7 ++ (wsX6_bufferAhead_r8 ++ wsX6_bufferAhead_r9)))))))) ++ wsX60), w ∈ wsX6_bufferAhead := in_l qxX6_bufferAhead_5
theorem qxX6_bufferAhead_8 : ∀ w ∈ wsX30, w ∈ wsX6_bufferAhead := in_r qxX6_bufferAhead_5
theorem qxX6_bufferAhead_9 : ∀ w ∈ (wsX6_bufferAhead_r1 ++ (wsX6_bufferAhead_r2 ++ (wsX6_bufferAhead_r3 ++ (wsX6_bufferAhead_r4 ++ (wsX6_bufferAhead_r5 ++ (wsX6_bufferAhead_r6 ++ (wsX6_bufferAhead_r7 ++ (wsX6_bufferAhead_r8 ++ wsX6_bufferAhead_r9)))))))), w ∈ wsX6_bufferAhead := in_l qxX6_bufferAhead_7
theorem qxX6_bufferAhead_10 : ∀ w ∈ wsX60, w ∈ wsX6_bufferAhead := in_r qxX6_bufferAhead_7
theorem qxX6_bufferAhead_11 : ∀ w ∈ wsX6_bufferAhead_r1, w ∈ wsX6_bufferAhead := in_l qxX6_bufferAhead_9
theorem qxX6_bufferAhead_12 : ∀ w ∈ (wsX6_bufferAhead_r2 ++ (wsX6_bufferAhead_r3 ++ (wsX6_bufferAhead_r4 ++ (wsX6_bufferAhead_r5 ++ (wsX6_bufferAhead_r6 ++ (wsX6_bufferAhead_r7 ++ (wsX6_bufferAhead_r8 ++ wsX6_bufferAhead_r9))))))), w ∈ wsX6_bufferAhead := in_r qxX6_bufferAhead_9
theorem qxX6_bufferAhead_13 : ∀ w ∈ wsX6_bufferAhead_r2, w ∈ wsX6_bufferAhead := in_l qxX6_bufferAhead_12
theorem qxX6_bufferAhead_14 : ∀ w ∈ (wsX6_bufferAhead_r3 ++ (wsX6_bufferAhead_r4 ++ (wsX6_bufferAhead_r5 ++ (wsX6_bufferAhead_r6 ++ (wsX6_bufferAhead_r7 ++ (wsX6_bufferAhead_r8 ++ wsX6_bufferAhead_r9)))))), w ∈ wsX6_bufferAhead := in_r qxX6_bufferAhead_12
theorem qxX6_bufferAhead_15 : ∀ w ∈ wsX6_bufferAhead_r3, w ∈ wsX6_bufferAhead := in_l qxX6_bufferAhead_14
theorem qxX6_bufferAhead_16 : ∀ w ∈ (wsX6_bufferAhead_r4 ++ (wsX6_bufferAhead_r5 ++ (wsX6_bufferAhead_r6 ++ (wsX6_bufferAhead_r7 ++ (wsX6_bufferAhead_r8 ++ wsX6_bufferAhead_r9))))), w ∈ wsX6_bufferAhead := in_r qxX6_bufferAhead_14
theorem qxX6_bufferAhead_17 : ∀ w ∈ wsX6_bufferAhead_r4, w ∈ wsX6_bufferAhead := in_l qxX6_bufferAhead_16
theorem qxX6_bufferAhead_18 : ∀ w ∈ (wsX6_bufferAhead_r5 ++ (wsX6_bufferAhead_r6 ++ (wsX6_bufferAhead_r7 ++ (wsX6_bufferAhead_r8 ++ wsX6_bufferAhead_r9)))), w ∈ wsX6_bufferAhead := in_r qxX6_bufferAhead_16
theorem qxX6_bufferAhead_19 : ∀ w ∈ wsX6_bufferAhead_r5, w ∈ wsX6_bufferAhead := in_l qxX6_bufferAhead_18
theorem qxX6_bufferAhead_20 : ∀ w ∈ (wsX6_bufferAhead_r6 ++ (wsX6_bufferAhead_r7 ++ (wsX6_bufferAhead_r8 ++ wsX6_bufferAhead_r9))), w ∈ wsX6_bufferAhead := in_r qxX6_bufferAhead_18
theorem qxX6_bufferAhead_21 : ∀ w ∈ wsX6_bufferAhead_r6, w ∈ wsX6_bufferAhead := in_l qxX6_bufferAhead_20
theorem qxX6_bufferAhead_22 : ∀ w ∈ (wsX6_bufferAhead_r7 ++ (wsX6_bufferAhead_r8 ++ wsX6_bufferAhead_r9)), w ∈ wsX6_bufferAhead := in_r qxX6_bufferAhead_20
theorem qxX6_bufferAhead_23 : ∀ w ∈ wsX6_bufferAhead_r7, w ∈ wsX6_bufferAhead := in_l qxX6_bufferAhead_22
theorem qxX6_bufferAhead_24 : ∀ w ∈ (wsX6_bufferAhead_r8 ++ wsX6_bufferAhead_r9), w ∈ wsX6_bufferAhead := in_r qxX6_bufferAhead_22
theorem qxX6_bufferAhead_25 : ∀ w ∈ wsX6_bufferAhead_r8, w ∈ wsX6_bufferAhead := in_l qxX6_bufferAhead_24
theorem qxX6_bufferAhead_26 : ∀ w ∈ wsX6_bufferAhead_r9, w ∈ wsX6_bufferAhead := in_r qxX6_bufferAhead_24
def pxX6_bufferAhead : List (List Cond) := [wsX6_bufferAhead_r1, wsX6_bufferAhead_r2, wsX6_bufferAhead_r3, wsX6_bufferAhead_r4, wsX6_bufferAhead_r5, wsX6_bufferAhead_r6, wsX6_bufferAhead_r7, wsX6_bufferAhead_r8, wsX6_bufferAhead_r9, wsX60, wsX30, wsX20, wsX10, wsX00]
theorem pxX6_bufferAhead_in : ∀ q ∈ pxX6_bufferAhead, ∀ w ∈ q, w ∈ wsX6_bufferAhead := lp_c qxX6_bufferAhead_11 (lp_c qxX6_bufferAhead_13 (lp_c qxX6_bufferAhead_15 (lp_c qxX6_bufferAhead_17 (lp_c qxX6_bufferAhead_19 (lp_c qxX6_bufferAhead_21 (lp_c qxX6_bufferAhead_23 (lp_c qxX6_bufferAhead_25 (lp_c qxX6_bufferAhead_26 (lp_c qxX6_bufferAhead_10 (lp_c qxX6_bufferAhead_8 (lp_c qxX6_bufferAhead_6 (lp_c qxX6_bufferAhead_4 (lp_c qxX6_bufferAhead_2 (lp_n))))))))))))))
set_option maxRecDepth 20000 in
theorem ggX6_bufferAhead_X6_goApart : GoodIn wsX6_bufferAhead wsX6_goApart := goodIn_pp pxX6_bufferAhead pxX6_bufferAhead_in _ [(0, 20), (0, 0), (0, 7), (0, 21), (0, 22), (0, 23), (1, 0), (1, 1), (1, 2), (1, 3), (1, 4), (1, 5), (1, 6), (1, 7), (1, 8), (1, 9), (1, 10), (1, 11), (1, 12), (1, 13), (1, 14), (1, 15), (1, 16), (1, 17), (1, 18), (1, 19), (1, 20), (1, 21), (1, 22), (1, 23), (2, 0), (2, 1), (2, 2), (2, 3), (2, 4), (2, 5), (2, 6), (2, 7), (2, 8), (2, 9), (2, 10), (2, 11), (2, 12), (2, 13), (2, 14), (2, 15), (2, 16), (2, 17), (2, 18), (2, 19), (2, 20), (2, 21), (2, 22), (2, 23), (3, 0), (3, 1), (3, 2), (3, 3), (3, 4), (3, 5), (3, 6), (3, 7), (3, 8), (3, 9), (3, 10), (3, 11), (3, 12), (3, 13), (3, 14), (3, 15), (3, 16), (3, 17), (3, 18), (3, 19), (3, 20), (3, 21), (3, 22), (3, 23), (4, 0), (4, 1), (4, 2), (4, 3), (4, 4), (4, 5), (4, 6), (0, 4), (4, 7), (4, 8), (4, 9), (4, 10), (4, 11), (4, 12), (4, 13), (4, 14), (4, 15), (4, 16), (4, 17), (4, 18), (4, 19), (4, 20), (4, 21), (4, 22), (4, 23), (5, 0), (5, 1), (5, 2), (5, 3), (5, 4), (5, 5), (5, 6), (5, 7), (5, 8), (5, 9), (5, 10), (5, 11), (5, 12), (5, 13), (5, 14), (5, 15), (5, 16), (5, 17), (5, 18), (5, 19), (5, 20), (5, 21), (5, 22), (5, 23), (6, 0), (6, 1), (6, 2), (6, 3), (6, 4), (6, 5), (6, 6), (6, 7), (6, 8), (6, 9), (6, 10), (6, 11), (6, 12), (6, 13), (6, 14), (6, 15), (6, 16), (6, 17), (6, 18), (6, 19), (6, 20), (6, 21), (6, 22), (6, 23), (7, 0), (7, 1), (7, 2), (7, 3), (7, 4), (7, 5), (7, 6), (7, 7), (7, 8), (7, 9), (7, 10), (7, 11), (7, 12), (7, 13), (7, 14), (7, 15), (7, 16), (7, 17), (7, 18), (7, 19), (7, 20), (7, 21), (7, 22), (7, 23), (8, 0), (8, 1), (8, 2), (9, 0), (9, 1), (9, 2), (9, 3), (9, 4), (9, 5), (9, 6), (9, 7), (9, 8), (10, 0), (10, 1), (10, 2), (10, 3), (10, 4), (10, 5), (10, 6), (10, 7), (10, 8), (10, 9), (10, 10), (11, 0), (11, 1), (11, 2), (11, 3), (11, 4), (11, 5), (11, 6), (11, 7), (11, 8), (11, 9), (12, 0), (12, 1), (12, 2), (12, 3), (12, 4), (12, 5), (12, 6), (13, 0), (13, 1), (13, 2), (13, 3), (13, 4), (13, 5), (13, 6), (13, 7)] rfl (by decide +kernel)
set_option maxRecDepth 20000 in
theorem gX6_bufferAhead_X6_goApart : GoodIn wsX6_bufferAhead (wsV RX6 267 RX6 yX6_goApart wsX6_goApart) := goodIn_app (goodIn_of _ (by decide +kernel)) ggX6_bufferAhead_X6_goApart
set_option maxRecDepth 20000 in
theorem ggX6_bufferAhead_X3_waitingAt : GoodIn wsX6_bufferAhead wsX3_waitingAt := goodIn_r _ [199, 37, 209, 210, 211, 212, 213, 214, 215, 216, 217, 218, 219] (by decide +kernel) (by decide +kernel)
set_option maxRecDepth 20000 in
theorem gX6_bufferAhead_X3_waitingAt : GoodIn wsX6_bufferAhead (wsV RX6 214 RX3 yX3_waitingAt wsX3_waitingAt) := goodIn_app (goodIn_of _ (by decide +kernel)) ggX6_bufferAhead_X3_waitingAt
theorem dX6_bufferAhead_0 : decode cX6_bufferAhead 0 = .ok (.aload_n 0, 1) := by decide +kernel
theorem dX6_bufferAhead_1 : decode cX6_bufferAhead 1 = .ok (.iload_n 1, 1) := by decide +kernel
theorem dX6_bufferAhead_2 : decode cX6_bufferAhead 2 = .ok (.invokevirtual 211, 3) := by decide +kernel
theorem dX6_bufferAhead_5 : decode cX6_bufferAhead 5 = .ok (.ifCond .eq 22, 3) := by decide +kernel
theorem dX6_bufferAhead_8 : decode cX6_bufferAhead 8 = .ok (.aload_n 0, 1) := by decide +kernel
theorem dX6_bufferAhead_9 : decode cX6_bufferAhead 9 = .ok (.iload_n 2, 1) := by decide +kernel
theorem dX6_bufferAhead_10 : decode cX6_bufferAhead 10 = .ok (.invokevirtual 135, 3) := by decide +kernel
theorem dX6_bufferAhead_13 : decode cX6_bufferAhead 13 = .ok (.ifCond .eq 14, 3) := by decide +kernel
theorem dX6_bufferAhead_16 : decode cX6_bufferAhead 16 = .ok (.iload_n 3, 1) := by decide +kernel
theorem dX6_bufferAhead_17 : decode cX6_bufferAhead 17 = .ok (.iconst 0, 1) := by decide +kernel
theorem dX6_bufferAhead_18 : decode cX6_bufferAhead 18 = .ok (.sipush 200, 3) := by decide +kernel
theorem dX6_bufferAhead_21 : decode cX6_bufferAhead 21 = .ok (.invokestatic 55, 3) := by decide +kernel
theorem dX6_bufferAhead_24 : decode cX6_bufferAhead 24 = .ok (.ifCond .eq 5, 3) := by decide +kernel
theorem dX6_bufferAhead_27 : decode cX6_bufferAhead 27 = .ok (.iconst (-1), 1) := by decide +kernel
theorem dX6_bufferAhead_28 : decode cX6_bufferAhead 28 = .ok (.ireturn, 1) := by decide +kernel
theorem dX6_bufferAhead_29 : decode cX6_bufferAhead 29 = .ok (.aload_n 0, 1) := by decide +kernel
theorem dX6_bufferAhead_30 : decode cX6_bufferAhead 30 = .ok (.iload_n 3, 1) := by decide +kernel
theorem dX6_bufferAhead_31 : decode cX6_bufferAhead 31 = .ok (.invokevirtual 267, 3) := by decide +kernel
theorem dX6_bufferAhead_34 : decode cX6_bufferAhead 34 = .ok (.aload_n 0, 1) := by decide +kernel
theorem dX6_bufferAhead_35 : decode cX6_bufferAhead 35 = .ok (.getfield 30, 3) := by decide +kernel
theorem dX6_bufferAhead_38 : decode cX6_bufferAhead 38 = .ok (.iload_n 1, 1) := by decide +kernel
theorem dX6_bufferAhead_39 : decode cX6_bufferAhead 39 = .ok (.iload_n 2, 1) := by decide +kernel
theorem dX6_bufferAhead_40 : decode cX6_bufferAhead 40 = .ok (.invokevirtual 214, 3) := by decide +kernel
theorem dX6_bufferAhead_43 : decode cX6_bufferAhead 43 = .ok (.ireturn, 1) := by decide +kernel
theorem qxX6_goApart_0 : ∀ w ∈ ((((((wsX6_goApart_r1 ++ (wsX6_goApart_r2 ++ (wsX6_goApart_r3 ++ (wsX6_goApart_r4 ++ (wsX6_goApart_r5 ++ (wsX6_goApart_r6 ++ (wsX6_goApart_r7 ++ wsX6_goApart_r8))))))) ++ wsX60) ++ wsX30) ++ wsX20) ++ wsX10) ++ wsX00), w ∈ wsX6_goApart := fun w h => List.mem_cons_of_mem _ h
theorem qxX6_goApart_1 : ∀ w ∈ (((((wsX6_goApart_r1 ++ (wsX6_goApart_r2 ++ (wsX6_goApart_r3 ++ (wsX6_goApart_r4 ++ (wsX6_goApart_r5 ++ (wsX6_goApart_r6 ++ (wsX6_goApart_r7 ++ wsX6_goApart_r8))))))) ++ wsX60) ++ wsX30) ++ wsX20) ++ wsX10), w ∈ wsX6_goApart := in_l qxX6_goApart_0
theorem qxX6_goApart_2 : ∀ w ∈ wsX00, w ∈ wsX6_goApart := in_r qxX6_goApart_0
theorem qxX6_goApart_3 : ∀ w ∈ ((((wsX6_goApart_r1 ++ (wsX6_goApart_r2 ++ (wsX6_goApart_r3 ++ (wsX6_goApart_r4 ++ (wsX6_goApart_r5 ++ (wsX6_goApart_r6 ++ (wsX6_goApart_r7 ++ wsX6_goApart_r8))))))) ++ wsX60) ++ wsX30) ++ wsX20), w ∈ wsX6_goApart := in_l qxX6_goApart_1
theorem qxX6_goApart_4 : ∀ w ∈ wsX10, w ∈ wsX6_goApart := in_r qxX6_goApart_1
theorem qxX6_goApart_5 : ∀ w ∈ (((wsX6_goApart_r1 ++ (wsX6_goApart_r2 ++ (wsX6_goApart_r3 ++ (wsX6_goApart_r4 ++ (wsX6_goApart_r5 ++ (wsX6_goApart_r6 ++ (wsX6_goApart_r7 ++ wsX6_goApart_r8))))))) ++ wsX60) ++ wsX30), w ∈ wsX6_goApart := in_l qxX6_goApart_3
theorem qxX6_goApart_6 : ∀ w ∈ wsX20, w ∈ wsX6_goApart := in_r qxX6_goApart_3
theorem qxX6_goApart_7 : ∀ w ∈ ((wsX6_goApart_r1 ++ (wsX6_goApart_r2 ++ (wsX6_goApart_r3 ++ (wsX6_goApart_r4 ++ (wsX6_goApart_r5 ++ (wsX6_goApart_r6 ++ (wsX6_goApart_r7 ++ wsX6_goApart_r8))))))) ++ wsX60), w ∈ wsX6_goApart := in_l qxX6_goApart_5
theorem qxX6_goApart_8 : ∀ w ∈ wsX30, w ∈ wsX6_goApart := in_r qxX6_goApart_5
theorem qxX6_goApart_9 : ∀ w ∈ (wsX6_goApart_r1 ++ (wsX6_goApart_r2 ++ (wsX6_goApart_r3 ++ (wsX6_goApart_r4 ++ (wsX6_goApart_r5 ++ (wsX6_goApart_r6 ++ (wsX6_goApart_r7 ++ wsX6_goApart_r8))))))), w ∈ wsX6_goApart := in_l qxX6_goApart_7
theorem qxX6_goApart_10 : ∀ w ∈ wsX60, w ∈ wsX6_goApart := in_r qxX6_goApart_7
theorem qxX6_goApart_11 : ∀ w ∈ wsX6_goApart_r1, w ∈ wsX6_goApart := in_l qxX6_goApart_9
theorem qxX6_goApart_12 : ∀ w ∈ (wsX6_goApart_r2 ++ (wsX6_goApart_r3 ++ (wsX6_goApart_r4 ++ (wsX6_goApart_r5 ++ (wsX6_goApart_r6 ++ (wsX6_goApart_r7 ++ wsX6_goApart_r8)))))), w ∈ wsX6_goApart := in_r qxX6_goApart_9
theorem qxX6_goApart_13 : ∀ w ∈ wsX6_goApart_r2, w ∈ wsX6_goApart := in_l qxX6_goApart_12
theorem qxX6_goApart_14 : ∀ w ∈ (wsX6_goApart_r3 ++ (wsX6_goApart_r4 ++ (wsX6_goApart_r5 ++ (wsX6_goApart_r6 ++ (wsX6_goApart_r7 ++ wsX6_goApart_r8))))), w ∈ wsX6_goApart := in_r qxX6_goApart_12
theorem qxX6_goApart_15 : ∀ w ∈ wsX6_goApart_r3, w ∈ wsX6_goApart := in_l qxX6_goApart_14
theorem qxX6_goApart_16 : ∀ w ∈ (wsX6_goApart_r4 ++ (wsX6_goApart_r5 ++ (wsX6_goApart_r6 ++ (wsX6_goApart_r7 ++ wsX6_goApart_r8)))), w ∈ wsX6_goApart := in_r qxX6_goApart_14
theorem qxX6_goApart_17 : ∀ w ∈ wsX6_goApart_r4, w ∈ wsX6_goApart := in_l qxX6_goApart_16
theorem qxX6_goApart_18 : ∀ w ∈ (wsX6_goApart_r5 ++ (wsX6_goApart_r6 ++ (wsX6_goApart_r7 ++ wsX6_goApart_r8))), w ∈ wsX6_goApart := in_r qxX6_goApart_16
theorem qxX6_goApart_19 : ∀ w ∈ wsX6_goApart_r5, w ∈ wsX6_goApart := in_l qxX6_goApart_18
theorem qxX6_goApart_20 : ∀ w ∈ (wsX6_goApart_r6 ++ (wsX6_goApart_r7 ++ wsX6_goApart_r8)), w ∈ wsX6_goApart := in_r qxX6_goApart_18
theorem qxX6_goApart_21 : ∀ w ∈ wsX6_goApart_r6, w ∈ wsX6_goApart := in_l qxX6_goApart_20
theorem qxX6_goApart_22 : ∀ w ∈ (wsX6_goApart_r7 ++ wsX6_goApart_r8), w ∈ wsX6_goApart := in_r qxX6_goApart_20
theorem qxX6_goApart_23 : ∀ w ∈ wsX6_goApart_r7, w ∈ wsX6_goApart := in_l qxX6_goApart_22
theorem qxX6_goApart_24 : ∀ w ∈ wsX6_goApart_r8, w ∈ wsX6_goApart := in_r qxX6_goApart_22
def pxX6_goApart : List (List Cond) := [wsX6_goApart_r1, wsX6_goApart_r2, wsX6_goApart_r3, wsX6_goApart_r4, wsX6_goApart_r5, wsX6_goApart_r6, wsX6_goApart_r7, wsX6_goApart_r8, wsX60, wsX30, wsX20, wsX10, wsX00]
theorem pxX6_goApart_in : ∀ q ∈ pxX6_goApart, ∀ w ∈ q, w ∈ wsX6_goApart := lp_c qxX6_goApart_11 (lp_c qxX6_goApart_13 (lp_c qxX6_goApart_15 (lp_c qxX6_goApart_17 (lp_c qxX6_goApart_19 (lp_c qxX6_goApart_21 (lp_c qxX6_goApart_23 (lp_c qxX6_goApart_24 (lp_c qxX6_goApart_10 (lp_c qxX6_goApart_8 (lp_c qxX6_goApart_6 (lp_c qxX6_goApart_4 (lp_c qxX6_goApart_2 (lp_n)))))))))))))
set_option maxRecDepth 20000 in
theorem ggX6_goApart_X3_copy : GoodIn wsX6_goApart wsX3_copy := goodIn_pp pxX6_goApart pxX6_goApart_in _ [(0, 6), (0, 7), (0, 8), (0, 9), (0, 10), (0, 11), (0, 12), (0, 13), (0, 14), (0, 15), (0, 16), (0, 17), (0, 18), (0, 19), (0, 20), (0, 21), (0, 22), (0, 23), (1, 0), (1, 1), (1, 2), (1, 3), (1, 4), (1, 5), (1, 6), (1, 7), (1, 8), (1, 9), (1, 10), (1, 11), (1, 12), (1, 13), (1, 14), (1, 15), (1, 16), (1, 17), (1, 18), (1, 19), (1, 20), (1, 21), (1, 22), (1, 23), (2, 0), (2, 1), (2, 2), (2, 3), (2, 4), (2, 5), (2, 6), (2, 7), (2, 8), (2, 9), (2, 10), (2, 11), (2, 12), (2, 13), (2, 14), (9, 0), (9, 1), (9, 2), (9, 3), (9, 4), (9, 5), (9, 6), (9, 7), (9, 8), (9, 9), (9, 10), (10, 0), (10, 1), (10, 2), (10, 3), (10, 4), (10, 5), (10, 6), (10, 7), (10, 8), (10, 9), (11, 0), (11, 1), (11, 2), (11, 3), (11, 4), (11, 5), (11, 6), (12, 0), (12, 1), (12, 2), (12, 3), (12, 4), (12, 5), (12, 6), (12, 7)] rfl (by decide +kernel)
set_option maxRecDepth 20000 in
theorem gX6_goApart_X3_copy : GoodIn wsX6_goApart (wsV RX6 270 RX3 yX3_copy wsX3_copy) := goodIn_app (goodIn_of _ (by decide +kernel)) ggX6_goApart_X3_copy
set_option maxRecDepth 20000 in
theorem ggX6_goApart_X3_steps : GoodIn wsX6_goApart wsX3_steps := goodIn_pp pxX6_goApart pxX6_goApart_in _ [(2, 18), (2, 19), (2, 20), (2, 21), (0, 5), (2, 22), (0, 7), (0, 8), (0, 10), (0, 12), (0, 15), (2, 23), (3, 0), (3, 1), (3, 2), (3, 3), (0, 17), (3, 4), (3, 5), (3, 6), (3, 7), (3, 8), (3, 9), (1, 17), (3, 10), (1, 21), (3, 11), (3, 12), (3, 13), (3, 14), (3, 15), (3, 16), (3, 17), (3, 18), (0, 13), (3, 19), (3, 20), (3, 21), (3, 22), (3, 23), (1, 1), (4, 0), (1, 9), (1, 11), (1, 12), (4, 1), (4, 2), (4, 3), (4, 4), (0, 16), (4, 5), (4, 6), (4, 7), (4, 8), (4, 9), (4, 10), (2, 5), (4, 11), (2, 7), (2, 8), (4, 12), (4, 13), (4, 14), (4, 15), (4, 16), (4, 17), (4, 18), (4, 19), (4, 20), (4, 21), (2, 9), (4, 22), (4, 23), (5, 0), (5, 1), (5, 2), (5, 3), (5, 4), (5, 5), (5, 6), (5, 7), (5, 8), (5, 9), (5, 10), (5, 11), (5, 12), (5, 13), (5, 14), (5, 15), (5, 16), (5, 17), (5, 18), (5, 19), (5, 20), (1, 19), (5, 21), (5, 22), (5, 23), (6, 0), (6, 1), (0, 11), (6, 2), (6, 3), (6, 4), (6, 5), (6, 6), (6, 7), (6, 8), (6, 9), (0, 14), (6, 10), (6, 11), (6, 12), (6, 13), (6, 14), (6, 15), (6, 16), (6, 17), (6, 18), (6, 19), (6, 20), (6, 21), (6, 22), (6, 23), (7, 0), (7, 1), (0, 9), (7, 2), (7, 3), (7, 4), (7, 5), (1, 4), (1, 13), (7, 6), (7, 7), (7, 8), (9, 0), (9, 1), (9, 2), (9, 3), (9, 4), (9, 5), (9, 6), (9, 7), (9, 8), (9, 9), (9, 10), (10, 0), (10, 1), (10, 2), (10, 3), (10, 4), (10, 5), (10, 6), (10, 7), (10, 8), (10, 9), (11, 0), (11, 1), (11, 2), (11, 3), (11, 4), (11, 5), (11, 6), (12, 0), (12, 1), (12, 2), (12, 3), (12, 4), (12, 5), (12, 6), (12, 7)] rfl (by decide +kernel)
set_option maxRecDepth 20000 in
theorem gX6_goApart_X3_steps : GoodIn wsX6_goApart (wsV RX6 274 RX3 yX3_steps wsX3_steps) := goodIn_app (goodIn_of _ (by decide +kernel)) ggX6_goApart_X3_steps
theorem dX6_goApart_0 : decode cX6_goApart 0 = .ok (.aload_n 0, 1) := by decide +kernel
theorem dX6_goApart_1 : decode cX6_goApart 1 = .ok (.getfield 30, 3) := by decide +kernel
theorem dX6_goApart_4 : decode cX6_goApart 4 = .ok (.aload_n 0, 1) := by decide +kernel
theorem dX6_goApart_5 : decode cX6_goApart 5 = .ok (.getfield 26, 3) := by decide +kernel
theorem dX6_goApart_8 : decode cX6_goApart 8 = .ok (.invokevirtual 270, 3) := by decide +kernel
theorem dX6_goApart_11 : decode cX6_goApart 11 = .ok (.aload_n 0, 1) := by decide +kernel
theorem dX6_goApart_12 : decode cX6_goApart 12 = .ok (.getfield 30, 3) := by decide +kernel
theorem dX6_goApart_15 : decode cX6_goApart 15 = .ok (.iload_n 1, 1) := by decide +kernel
theorem dX6_goApart_16 : decode cX6_goApart 16 = .ok (.invokevirtual 274, 3) := by decide +kernel
theorem dX6_goApart_19 : decode cX6_goApart 19 = .ok (.return_, 1) := by decide +kernel
set_option maxRecDepth 20000 in
theorem ggX6_delivered_X6_outside : GoodIn wsX6_delivered wsX6_outside := goodIn_r _ [5] (by decide +kernel) (by decide +kernel)
set_option maxRecDepth 20000 in
theorem gX6_delivered_X6_outside : GoodIn wsX6_delivered (va_wsS RX6 55 yX6_outside wsX6_outside) := goodIn_app (goodIn_of _ (by decide +kernel)) ggX6_delivered_X6_outside
set_option maxRecDepth 20000 in
theorem ggX6_delivered_X6_isCircuit : GoodIn wsX6_delivered wsX6_isCircuit := goodIn_r _ [9, 1, 10, 11, 205, 206, 207, 208, 209, 210, 211, 212, 213, 214, 215, 216, 217, 218, 219, 220, 221, 222, 223, 224] (by decide +kernel) (by decide +kernel)
set_option maxRecDepth 20000 in
theorem gX6_delivered_X6_isCircuit : GoodIn wsX6_delivered (wsV RX6 135 RX6 yX6_isCircuit wsX6_isCircuit) := goodIn_app (goodIn_of _ (by decide +kernel)) ggX6_delivered_X6_isCircuit
theorem qxX6_delivered_0 : ∀ w ∈ ((((((wsX6_delivered_r1 ++ (wsX6_delivered_r2 ++ (wsX6_delivered_r3 ++ (wsX6_delivered_r4 ++ (wsX6_delivered_r5 ++ (wsX6_delivered_r6 ++ (wsX6_delivered_r7 ++ (wsX6_delivered_r8 ++ wsX6_delivered_r9)))))))) ++ wsX60) ++ wsX30) ++ wsX20) ++ wsX10) ++ wsX00), w ∈ wsX6_delivered := fun w h => List.mem_cons_of_mem _ h
theorem qxX6_delivered_1 : ∀ w ∈ (((((wsX6_delivered_r1 ++ (wsX6_delivered_r2 ++ (wsX6_delivered_r3 ++ (wsX6_delivered_r4 ++ (wsX6_delivered_r5 ++ (wsX6_delivered_r6 ++ (wsX6_delivered_r7 ++ (wsX6_delivered_r8 ++ wsX6_delivered_r9)))))))) ++ wsX60) ++ wsX30) ++ wsX20) ++ wsX10), w ∈ wsX6_delivered := in_l qxX6_delivered_0
theorem qxX6_delivered_2 : ∀ w ∈ wsX00, w ∈ wsX6_delivered := in_r qxX6_delivered_0
theorem qxX6_delivered_3 : ∀ w ∈ ((((wsX6_delivered_r1 ++ (wsX6_delivered_r2 ++ (wsX6_delivered_r3 ++ (wsX6_delivered_r4 ++ (wsX6_delivered_r5 ++ (wsX6_delivered_r6 ++ (wsX6_delivered_r7 ++ (wsX6_delivered_r8 ++ wsX6_delivered_r9)))))))) ++ wsX60) ++ wsX30) ++ wsX20), w ∈ wsX6_delivered := in_l qxX6_delivered_1
theorem qxX6_delivered_4 : ∀ w ∈ wsX10, w ∈ wsX6_delivered := in_r qxX6_delivered_1
theorem qxX6_delivered_5 : ∀ w ∈ (((wsX6_delivered_r1 ++ (wsX6_delivered_r2 ++ (wsX6_delivered_r3 ++ (wsX6_delivered_r4 ++ (wsX6_delivered_r5 ++ (wsX6_delivered_r6 ++ (wsX6_delivered_r7 ++ (wsX6_delivered_r8 ++ wsX6_delivered_r9)))))))) ++ wsX60) ++ wsX30), w ∈ wsX6_delivered := in_l qxX6_delivered_3
theorem qxX6_delivered_6 : ∀ w ∈ wsX20, w ∈ wsX6_delivered := in_r qxX6_delivered_3
theorem qxX6_delivered_7 : ∀ w ∈ ((wsX6_delivered_r1 ++ (wsX6_delivered_r2 ++ (wsX6_delivered_r3 ++ (wsX6_delivered_r4 ++ (wsX6_delivered_r5 ++ (wsX6_delivered_r6 ++ (wsX6_delivered_r7 ++ (wsX6_delivered_r8 ++ wsX6_delivered_r9)))))))) ++ wsX60), w ∈ wsX6_delivered := in_l qxX6_delivered_5
theorem qxX6_delivered_8 : ∀ w ∈ wsX30, w ∈ wsX6_delivered := in_r qxX6_delivered_5
theorem qxX6_delivered_9 : ∀ w ∈ (wsX6_delivered_r1 ++ (wsX6_delivered_r2 ++ (wsX6_delivered_r3 ++ (wsX6_delivered_r4 ++ (wsX6_delivered_r5 ++ (wsX6_delivered_r6 ++ (wsX6_delivered_r7 ++ (wsX6_delivered_r8 ++ wsX6_delivered_r9)))))))), w ∈ wsX6_delivered := in_l qxX6_delivered_7
theorem qxX6_delivered_10 : ∀ w ∈ wsX60, w ∈ wsX6_delivered := in_r qxX6_delivered_7
theorem qxX6_delivered_11 : ∀ w ∈ wsX6_delivered_r1, w ∈ wsX6_delivered := in_l qxX6_delivered_9
theorem qxX6_delivered_12 : ∀ w ∈ (wsX6_delivered_r2 ++ (wsX6_delivered_r3 ++ (wsX6_delivered_r4 ++ (wsX6_delivered_r5 ++ (wsX6_delivered_r6 ++ (wsX6_delivered_r7 ++ (wsX6_delivered_r8 ++ wsX6_delivered_r9))))))), w ∈ wsX6_delivered := in_r qxX6_delivered_9
theorem qxX6_delivered_13 : ∀ w ∈ wsX6_delivered_r2, w ∈ wsX6_delivered := in_l qxX6_delivered_12
theorem qxX6_delivered_14 : ∀ w ∈ (wsX6_delivered_r3 ++ (wsX6_delivered_r4 ++ (wsX6_delivered_r5 ++ (wsX6_delivered_r6 ++ (wsX6_delivered_r7 ++ (wsX6_delivered_r8 ++ wsX6_delivered_r9)))))), w ∈ wsX6_delivered := in_r qxX6_delivered_12
theorem qxX6_delivered_15 : ∀ w ∈ wsX6_delivered_r3, w ∈ wsX6_delivered := in_l qxX6_delivered_14
theorem qxX6_delivered_16 : ∀ w ∈ (wsX6_delivered_r4 ++ (wsX6_delivered_r5 ++ (wsX6_delivered_r6 ++ (wsX6_delivered_r7 ++ (wsX6_delivered_r8 ++ wsX6_delivered_r9))))), w ∈ wsX6_delivered := in_r qxX6_delivered_14
theorem qxX6_delivered_17 : ∀ w ∈ wsX6_delivered_r4, w ∈ wsX6_delivered := in_l qxX6_delivered_16
theorem qxX6_delivered_18 : ∀ w ∈ (wsX6_delivered_r5 ++ (wsX6_delivered_r6 ++ (wsX6_delivered_r7 ++ (wsX6_delivered_r8 ++ wsX6_delivered_r9)))), w ∈ wsX6_delivered := in_r qxX6_delivered_16
theorem qxX6_delivered_19 : ∀ w ∈ wsX6_delivered_r5, w ∈ wsX6_delivered := in_l qxX6_delivered_18
theorem qxX6_delivered_20 : ∀ w ∈ (wsX6_delivered_r6 ++ (wsX6_delivered_r7 ++ (wsX6_delivered_r8 ++ wsX6_delivered_r9))), w ∈ wsX6_delivered := in_r qxX6_delivered_18
theorem qxX6_delivered_21 : ∀ w ∈ wsX6_delivered_r6, w ∈ wsX6_delivered := in_l qxX6_delivered_20
theorem qxX6_delivered_22 : ∀ w ∈ (wsX6_delivered_r7 ++ (wsX6_delivered_r8 ++ wsX6_delivered_r9)), w ∈ wsX6_delivered := in_r qxX6_delivered_20
theorem qxX6_delivered_23 : ∀ w ∈ wsX6_delivered_r7, w ∈ wsX6_delivered := in_l qxX6_delivered_22
theorem qxX6_delivered_24 : ∀ w ∈ (wsX6_delivered_r8 ++ wsX6_delivered_r9), w ∈ wsX6_delivered := in_r qxX6_delivered_22
theorem qxX6_delivered_25 : ∀ w ∈ wsX6_delivered_r8, w ∈ wsX6_delivered := in_l qxX6_delivered_24
theorem qxX6_delivered_26 : ∀ w ∈ wsX6_delivered_r9, w ∈ wsX6_delivered := in_r qxX6_delivered_24
def pxX6_delivered : List (List Cond) := [wsX6_delivered_r1, wsX6_delivered_r2, wsX6_delivered_r3, wsX6_delivered_r4, wsX6_delivered_r5, wsX6_delivered_r6, wsX6_delivered_r7, wsX6_delivered_r8, wsX6_delivered_r9, wsX60, wsX30, wsX20, wsX10, wsX00]
theorem pxX6_delivered_in : ∀ q ∈ pxX6_delivered, ∀ w ∈ q, w ∈ wsX6_delivered := lp_c qxX6_delivered_11 (lp_c qxX6_delivered_13 (lp_c qxX6_delivered_15 (lp_c qxX6_delivered_17 (lp_c qxX6_delivered_19 (lp_c qxX6_delivered_21 (lp_c qxX6_delivered_23 (lp_c qxX6_delivered_25 (lp_c qxX6_delivered_26 (lp_c qxX6_delivered_10 (lp_c qxX6_delivered_8 (lp_c qxX6_delivered_6 (lp_c qxX6_delivered_4 (lp_c qxX6_delivered_2 (lp_n))))))))))))))
set_option maxRecDepth 20000 in
theorem ggX6_delivered_X6_goApart : GoodIn wsX6_delivered wsX6_goApart := goodIn_pp pxX6_delivered pxX6_delivered_in _ [(0, 14), (0, 15), (0, 9), (0, 16), (0, 17), (0, 18), (0, 19), (0, 20), (0, 21), (0, 22), (0, 23), (1, 0), (1, 1), (1, 2), (1, 3), (1, 4), (1, 5), (1, 6), (1, 7), (1, 8), (1, 9), (1, 10), (1, 11), (1, 12), (1, 13), (1, 14), (1, 15), (1, 16), (1, 17), (1, 18), (1, 19), (1, 20), (1, 21), (1, 22), (1, 23), (2, 0), (2, 1), (2, 2), (2, 3), (2, 4), (2, 5), (2, 6), (2, 7), (2, 8), (2, 9), (2, 10), (2, 11), (2, 12), (2, 13), (2, 14), (2, 15), (2, 16), (2, 17), (2, 18), (2, 19), (2, 20), (2, 21), (2, 22), (2, 23), (3, 0), (3, 1), (3, 2), (3, 3), (3, 4), (3, 5), (3, 6), (3, 7), (3, 8), (3, 9), (3, 10), (3, 11), (3, 12), (3, 13), (3, 14), (3, 15), (3, 16), (3, 17), (3, 18), (3, 19), (3, 20), (3, 21), (3, 22), (3, 23), (4, 0), (4, 1), (0, 3), (4, 2), (4, 3), (4, 4), (4, 5), (4, 6), (4, 7), (4, 8), (4, 9), (4, 10), (4, 11), (4, 12), (4, 13), (4, 14), (4, 15), (4, 16), (4, 17), (4, 18), (4, 19), (4, 20), (4, 21), (4, 22), (4, 23), (5, 0), (5, 1), (5, 2), (5, 3), (5, 4), (5, 5), (5, 6), (5, 7), (5, 8), (5, 9), (5, 10), (5, 11), (5, 12), (5, 13), (5, 14), (5, 15), (5, 16), (5, 17), (5, 18), (5, 19), (5, 20), (5, 21), (5, 22), (5, 23), (6, 0), (6, 1), (6, 2), (6, 3), (6, 4), (6, 5), (6, 6), (6, 7), (6, 8), (6, 9), (6, 10), (6, 11), (6, 12), (6, 13), (6, 14), (6, 15), (6, 16), (6, 17), (6, 18), (6, 19), (6, 20), (6, 21), (6, 22), (6, 23), (7, 0), (7, 1), (7, 2), (7, 3), (7, 4), (7, 5), (7, 6), (7, 7), (7, 8), (7, 9), (7, 10), (7, 11), (7, 12), (7, 13), (7, 14), (7, 15), (7, 16), (7, 17), (7, 18), (7, 19), (7, 20), (7, 21), (9, 0), (9, 1), (9, 2), (9, 3), (9, 4), (9, 5), (9, 6), (9, 7), (9, 8), (10, 0), (10, 1), (10, 2), (10, 3), (10, 4), (10, 5), (10, 6), (10, 7), (10, 8), (10, 9), (10, 10), (11, 0), (11, 1), (11, 2), (11, 3), (11, 4), (11, 5), (11, 6), (11, 7), (11, 8), (11, 9), (12, 0), (12, 1), (12, 2), (12, 3), (12, 4), (12, 5), (12, 6), (13, 0), (13, 1), (13, 2), (13, 3), (13, 4), (13, 5), (13, 6), (13, 7)] rfl (by decide +kernel)
set_option maxRecDepth 20000 in
theorem gX6_delivered_X6_goApart : GoodIn wsX6_delivered (wsV RX6 267 RX6 yX6_goApart wsX6_goApart) := goodIn_app (goodIn_of _ (by decide +kernel)) ggX6_delivered_X6_goApart
set_option maxRecDepth 20000 in
theorem ggX6_delivered_X6_deliveredApart : GoodIn wsX6_delivered wsX6_deliveredApart := goodIn_pp pxX6_delivered pxX6_delivered_in _ [(8, 1), (0, 15), (0, 9), (8, 2), (8, 3), (8, 4), (0, 19), (8, 5), (0, 22), (1, 6), (5, 6), (9, 0), (9, 1), (9, 2), (9, 3), (9, 4), (9, 5), (9, 6), (9, 7), (9, 8), (10, 0), (10, 1), (10, 2), (10, 3), (10, 4), (10, 5), (10, 6), (10, 7), (10, 8), (10, 9), (10, 10), (13, 0), (13, 1), (13, 2), (13, 3), (13, 4), (13, 5), (13, 6), (13, 7)] rfl (by decide +kernel)
set_option maxRecDepth 20000 in
theorem gX6_delivered_X6_deliveredApart : GoodIn wsX6_delivered (wsV RX6 277 RX6 yX6_deliveredApart wsX6_deliveredApart) := goodIn_app (goodIn_of _ (by decide +kernel)) ggX6_delivered_X6_deliveredApart
set_option maxRecDepth 20000 in
theorem ggX6_delivered_X6_deliveredApartOf : GoodIn wsX6_delivered wsX6_deliveredApartOf := goodIn_pp pxX6_delivered pxX6_delivered_in _ [(8, 9), (0, 15), (8, 10), (8, 11), (0, 9), (9, 0), (9, 1), (9, 2), (9, 3), (9, 4), (9, 5), (9, 6), (9, 7), (9, 8), (10, 0), (10, 1), (10, 2), (10, 3), (10, 4), (10, 5), (10, 6), (10, 7), (10, 8), (10, 9), (10, 10), (13, 0), (13, 1), (13, 2), (13, 3), (13, 4), (13, 5), (13, 6), (13, 7)] rfl (by decide +kernel)
set_option maxRecDepth 20000 in
theorem gX6_delivered_X6_deliveredApartOf : GoodIn wsX6_delivered (wsV RX6 280 RX6 yX6_deliveredApartOf wsX6_deliveredApartOf) := goodIn_app (goodIn_of _ (by decide +kernel)) ggX6_delivered_X6_deliveredApartOf
theorem dX6_delivered_0 : decode cX6_delivered 0 = .ok (.aload_n 0, 1) := by decide +kernel
theorem dX6_delivered_1 : decode cX6_delivered 1 = .ok (.getfield 70, 3) := by decide +kernel
theorem dX6_delivered_4 : decode cX6_delivered 4 = .ok (.ifCond .eq 27, 3) := by decide +kernel
theorem dX6_delivered_7 : decode cX6_delivered 7 = .ok (.iload_n 2, 1) := by decide +kernel
theorem dX6_delivered_8 : decode cX6_delivered 8 = .ok (.iconst 0, 1) := by decide +kernel
theorem dX6_delivered_9 : decode cX6_delivered 9 = .ok (.sipush 200, 3) := by decide +kernel
theorem dX6_delivered_12 : decode cX6_delivered 12 = .ok (.invokestatic 55, 3) := by decide +kernel
theorem dX6_delivered_15 : decode cX6_delivered 15 = .ok (.ifCond .ne 16, 3) := by decide +kernel
theorem dX6_delivered_18 : decode cX6_delivered 18 = .ok (.iload_n 1, 1) := by decide +kernel
theorem dX6_delivered_19 : decode cX6_delivered 19 = .ok (.iconst (-1), 1) := by decide +kernel
theorem dX6_delivered_20 : decode cX6_delivered 20 = .ok (.if_icmp .eq 13, 3) := by decide +kernel
theorem dX6_delivered_23 : decode cX6_delivered 23 = .ok (.aload_n 0, 1) := by decide +kernel
theorem dX6_delivered_24 : decode cX6_delivered 24 = .ok (.iload_n 1, 1) := by decide +kernel
theorem dX6_delivered_25 : decode cX6_delivered 25 = .ok (.invokevirtual 135, 3) := by decide +kernel
theorem dX6_delivered_28 : decode cX6_delivered 28 = .ok (.ifCond .ne 5, 3) := by decide +kernel
theorem dX6_delivered_31 : decode cX6_delivered 31 = .ok (.iconst (-1), 1) := by decide +kernel
theorem dX6_delivered_32 : decode cX6_delivered 32 = .ok (.ireturn, 1) := by decide +kernel
theorem dX6_delivered_33 : decode cX6_delivered 33 = .ok (.aload_n 0, 1) := by decide +kernel
theorem dX6_delivered_34 : decode cX6_delivered 34 = .ok (.iload_n 2, 1) := by decide +kernel
theorem dX6_delivered_35 : decode cX6_delivered 35 = .ok (.invokevirtual 267, 3) := by decide +kernel
theorem dX6_delivered_38 : decode cX6_delivered 38 = .ok (.iload_n 1, 1) := by decide +kernel
theorem dX6_delivered_39 : decode cX6_delivered 39 = .ok (.iconst (-1), 1) := by decide +kernel
theorem dX6_delivered_40 : decode cX6_delivered 40 = .ok (.if_icmp .ne 10, 3) := by decide +kernel
theorem dX6_delivered_43 : decode cX6_delivered 43 = .ok (.aload_n 0, 1) := by decide +kernel
theorem dX6_delivered_44 : decode cX6_delivered 44 = .ok (.invokevirtual 277, 3) := by decide +kernel
theorem dX6_delivered_47 : decode cX6_delivered 47 = .ok (.goto 8, 3) := by decide +kernel
theorem dX6_delivered_50 : decode cX6_delivered 50 = .ok (.aload_n 0, 1) := by decide +kernel
theorem dX6_delivered_51 : decode cX6_delivered 51 = .ok (.iload_n 1, 1) := by decide +kernel
theorem dX6_delivered_52 : decode cX6_delivered 52 = .ok (.invokevirtual 280, 3) := by decide +kernel
theorem dX6_delivered_55 : decode cX6_delivered 55 = .ok (.ireturn, 1) := by decide +kernel
set_option maxRecDepth 20000 in
theorem ggX6_deliveredApart_X3_deliveredOfAll : GoodIn wsX6_deliveredApart wsX3_deliveredOfAll := goodIn_r _ [7, 8, 9, 10, 20, 21, 22, 23, 24, 25, 26, 27, 28, 29, 30, 31, 32, 33, 34, 35, 36, 37, 38] (by decide +kernel) (by decide +kernel)
set_option maxRecDepth 20000 in
theorem gX6_deliveredApart_X3_deliveredOfAll : GoodIn wsX6_deliveredApart (wsV RX6 283 RX3 yX3_deliveredOfAll wsX3_deliveredOfAll) := goodIn_app (goodIn_of _ (by decide +kernel)) ggX6_deliveredApart_X3_deliveredOfAll
theorem dX6_deliveredApart_0 : decode cX6_deliveredApart 0 = .ok (.aload_n 0, 1) := by decide +kernel
theorem dX6_deliveredApart_1 : decode cX6_deliveredApart 1 = .ok (.getfield 30, 3) := by decide +kernel
theorem dX6_deliveredApart_4 : decode cX6_deliveredApart 4 = .ok (.invokevirtual 283, 3) := by decide +kernel
theorem dX6_deliveredApart_7 : decode cX6_deliveredApart 7 = .ok (.aload_n 0, 1) := by decide +kernel
theorem dX6_deliveredApart_8 : decode cX6_deliveredApart 8 = .ok (.getfield 26, 3) := by decide +kernel
theorem dX6_deliveredApart_11 : decode cX6_deliveredApart 11 = .ok (.invokevirtual 283, 3) := by decide +kernel
theorem dX6_deliveredApart_14 : decode cX6_deliveredApart 14 = .ok (.isub, 1) := by decide +kernel
theorem dX6_deliveredApart_15 : decode cX6_deliveredApart 15 = .ok (.ireturn, 1) := by decide +kernel
theorem dX6_deliveredApartOf_0 : decode cX6_deliveredApartOf 0 = .ok (.aload_n 0, 1) := by decide +kernel
theorem dX6_deliveredApartOf_1 : decode cX6_deliveredApartOf 1 = .ok (.getfield 30, 3) := by decide +kernel
theorem dX6_deliveredApartOf_4 : decode cX6_deliveredApartOf 4 = .ok (.getfield 140, 3) := by decide +kernel
theorem dX6_deliveredApartOf_7 : decode cX6_deliveredApartOf 7 = .ok (.iload_n 1, 1) := by decide +kernel
theorem dX6_deliveredApartOf_8 : decode cX6_deliveredApartOf 8 = .ok (.aaload, 1) := by decide +kernel
theorem dX6_deliveredApartOf_9 : decode cX6_deliveredApartOf 9 = .ok (.getfield 161, 3) := by decide +kernel
theorem dX6_deliveredApartOf_12 : decode cX6_deliveredApartOf 12 = .ok (.aload_n 0, 1) := by decide +kernel
theorem dX6_deliveredApartOf_13 : decode cX6_deliveredApartOf 13 = .ok (.getfield 26, 3) := by decide +kernel
theorem dX6_deliveredApartOf_16 : decode cX6_deliveredApartOf 16 = .ok (.getfield 140, 3) := by decide +kernel
theorem dX6_deliveredApartOf_19 : decode cX6_deliveredApartOf 19 = .ok (.iload_n 1, 1) := by decide +kernel
theorem dX6_deliveredApartOf_20 : decode cX6_deliveredApartOf 20 = .ok (.aaload, 1) := by decide +kernel
theorem dX6_deliveredApartOf_21 : decode cX6_deliveredApartOf 21 = .ok (.getfield 161, 3) := by decide +kernel
theorem dX6_deliveredApartOf_24 : decode cX6_deliveredApartOf 24 = .ok (.isub, 1) := by decide +kernel
theorem dX6_deliveredApartOf_25 : decode cX6_deliveredApartOf 25 = .ok (.ireturn, 1) := by decide +kernel
theorem qxX6_heldUp_0 : ∀ w ∈ ((((((wsX6_heldUp_r1 ++ (wsX6_heldUp_r2 ++ (wsX6_heldUp_r3 ++ (wsX6_heldUp_r4 ++ (wsX6_heldUp_r5 ++ (wsX6_heldUp_r6 ++ (wsX6_heldUp_r7 ++ wsX6_heldUp_r8))))))) ++ wsX60) ++ wsX30) ++ wsX20) ++ wsX10) ++ wsX00), w ∈ wsX6_heldUp := fun w h => List.mem_cons_of_mem _ h
theorem qxX6_heldUp_1 : ∀ w ∈ (((((wsX6_heldUp_r1 ++ (wsX6_heldUp_r2 ++ (wsX6_heldUp_r3 ++ (wsX6_heldUp_r4 ++ (wsX6_heldUp_r5 ++ (wsX6_heldUp_r6 ++ (wsX6_heldUp_r7 ++ wsX6_heldUp_r8))))))) ++ wsX60) ++ wsX30) ++ wsX20) ++ wsX10), w ∈ wsX6_heldUp := in_l qxX6_heldUp_0
theorem qxX6_heldUp_2 : ∀ w ∈ wsX00, w ∈ wsX6_heldUp := in_r qxX6_heldUp_0
theorem qxX6_heldUp_3 : ∀ w ∈ ((((wsX6_heldUp_r1 ++ (wsX6_heldUp_r2 ++ (wsX6_heldUp_r3 ++ (wsX6_heldUp_r4 ++ (wsX6_heldUp_r5 ++ (wsX6_heldUp_r6 ++ (wsX6_heldUp_r7 ++ wsX6_heldUp_r8))))))) ++ wsX60) ++ wsX30) ++ wsX20), w ∈ wsX6_heldUp := in_l qxX6_heldUp_1
theorem qxX6_heldUp_4 : ∀ w ∈ wsX10, w ∈ wsX6_heldUp := in_r qxX6_heldUp_1
theorem qxX6_heldUp_5 : ∀ w ∈ (((wsX6_heldUp_r1 ++ (wsX6_heldUp_r2 ++ (wsX6_heldUp_r3 ++ (wsX6_heldUp_r4 ++ (wsX6_heldUp_r5 ++ (wsX6_heldUp_r6 ++ (wsX6_heldUp_r7 ++ wsX6_heldUp_r8))))))) ++ wsX60) ++ wsX30), w ∈ wsX6_heldUp := in_l qxX6_heldUp_3
theorem qxX6_heldUp_6 : ∀ w ∈ wsX20, w ∈ wsX6_heldUp := in_r qxX6_heldUp_3
theorem qxX6_heldUp_7 : ∀ w ∈ ((wsX6_heldUp_r1 ++ (wsX6_heldUp_r2 ++ (wsX6_heldUp_r3 ++ (wsX6_heldUp_r4 ++ (wsX6_heldUp_r5 ++ (wsX6_heldUp_r6 ++ (wsX6_heldUp_r7 ++ wsX6_heldUp_r8))))))) ++ wsX60), w ∈ wsX6_heldUp := in_l qxX6_heldUp_5
theorem qxX6_heldUp_8 : ∀ w ∈ wsX30, w ∈ wsX6_heldUp := in_r qxX6_heldUp_5
theorem qxX6_heldUp_9 : ∀ w ∈ (wsX6_heldUp_r1 ++ (wsX6_heldUp_r2 ++ (wsX6_heldUp_r3 ++ (wsX6_heldUp_r4 ++ (wsX6_heldUp_r5 ++ (wsX6_heldUp_r6 ++ (wsX6_heldUp_r7 ++ wsX6_heldUp_r8))))))), w ∈ wsX6_heldUp := in_l qxX6_heldUp_7
theorem qxX6_heldUp_10 : ∀ w ∈ wsX60, w ∈ wsX6_heldUp := in_r qxX6_heldUp_7
theorem qxX6_heldUp_11 : ∀ w ∈ wsX6_heldUp_r1, w ∈ wsX6_heldUp := in_l qxX6_heldUp_9
theorem qxX6_heldUp_12 : ∀ w ∈ (wsX6_heldUp_r2 ++ (wsX6_heldUp_r3 ++ (wsX6_heldUp_r4 ++ (wsX6_heldUp_r5 ++ (wsX6_heldUp_r6 ++ (wsX6_heldUp_r7 ++ wsX6_heldUp_r8)))))), w ∈ wsX6_heldUp := in_r qxX6_heldUp_9
theorem qxX6_heldUp_13 : ∀ w ∈ wsX6_heldUp_r2, w ∈ wsX6_heldUp := in_l qxX6_heldUp_12
theorem qxX6_heldUp_14 : ∀ w ∈ (wsX6_heldUp_r3 ++ (wsX6_heldUp_r4 ++ (wsX6_heldUp_r5 ++ (wsX6_heldUp_r6 ++ (wsX6_heldUp_r7 ++ wsX6_heldUp_r8))))), w ∈ wsX6_heldUp := in_r qxX6_heldUp_12
theorem qxX6_heldUp_15 : ∀ w ∈ wsX6_heldUp_r3, w ∈ wsX6_heldUp := in_l qxX6_heldUp_14
theorem qxX6_heldUp_16 : ∀ w ∈ (wsX6_heldUp_r4 ++ (wsX6_heldUp_r5 ++ (wsX6_heldUp_r6 ++ (wsX6_heldUp_r7 ++ wsX6_heldUp_r8)))), w ∈ wsX6_heldUp := in_r qxX6_heldUp_14
theorem qxX6_heldUp_17 : ∀ w ∈ wsX6_heldUp_r4, w ∈ wsX6_heldUp := in_l qxX6_heldUp_16
theorem qxX6_heldUp_18 : ∀ w ∈ (wsX6_heldUp_r5 ++ (wsX6_heldUp_r6 ++ (wsX6_heldUp_r7 ++ wsX6_heldUp_r8))), w ∈ wsX6_heldUp := in_r qxX6_heldUp_16
theorem qxX6_heldUp_19 : ∀ w ∈ wsX6_heldUp_r5, w ∈ wsX6_heldUp := in_l qxX6_heldUp_18
theorem qxX6_heldUp_20 : ∀ w ∈ (wsX6_heldUp_r6 ++ (wsX6_heldUp_r7 ++ wsX6_heldUp_r8)), w ∈ wsX6_heldUp := in_r qxX6_heldUp_18
theorem qxX6_heldUp_21 : ∀ w ∈ wsX6_heldUp_r6, w ∈ wsX6_heldUp := in_l qxX6_heldUp_20
theorem qxX6_heldUp_22 : ∀ w ∈ (wsX6_heldUp_r7 ++ wsX6_heldUp_r8), w ∈ wsX6_heldUp := in_r qxX6_heldUp_20
theorem qxX6_heldUp_23 : ∀ w ∈ wsX6_heldUp_r7, w ∈ wsX6_heldUp := in_l qxX6_heldUp_22
theorem qxX6_heldUp_24 : ∀ w ∈ wsX6_heldUp_r8, w ∈ wsX6_heldUp := in_r qxX6_heldUp_22
def pxX6_heldUp : List (List Cond) := [wsX6_heldUp_r1, wsX6_heldUp_r2, wsX6_heldUp_r3, wsX6_heldUp_r4, wsX6_heldUp_r5, wsX6_heldUp_r6, wsX6_heldUp_r7, wsX6_heldUp_r8, wsX60, wsX30, wsX20, wsX10, wsX00]
theorem pxX6_heldUp_in : ∀ q ∈ pxX6_heldUp, ∀ w ∈ q, w ∈ wsX6_heldUp := lp_c qxX6_heldUp_11 (lp_c qxX6_heldUp_13 (lp_c qxX6_heldUp_15 (lp_c qxX6_heldUp_17 (lp_c qxX6_heldUp_19 (lp_c qxX6_heldUp_21 (lp_c qxX6_heldUp_23 (lp_c qxX6_heldUp_24 (lp_c qxX6_heldUp_10 (lp_c qxX6_heldUp_8 (lp_c qxX6_heldUp_6 (lp_c qxX6_heldUp_4 (lp_c qxX6_heldUp_2 (lp_n)))))))))))))
set_option maxRecDepth 20000 in
theorem ggX6_heldUp_X6_isLane : GoodIn wsX6_heldUp wsX6_isLane := goodIn_pp pxX6_heldUp pxX6_heldUp_in _ [(0, 8), (0, 9), (0, 10), (0, 11), (0, 7), (0, 12), (0, 13), (0, 1), (0, 14), (0, 15), (0, 16), (0, 17), (0, 18), (0, 19), (8, 0), (8, 1), (8, 2), (8, 3), (8, 4), (8, 5), (8, 6), (8, 7), (8, 8), (9, 0), (9, 1), (9, 2), (9, 3), (9, 4), (9, 5), (9, 6), (9, 7), (9, 8), (9, 9), (9, 10)] rfl (by decide +kernel)
set_option maxRecDepth 20000 in
theorem gX6_heldUp_X6_isLane : GoodIn wsX6_heldUp (wsV RX6 167 RX6 yX6_isLane wsX6_isLane) := goodIn_app (goodIn_of _ (by decide +kernel)) ggX6_heldUp_X6_isLane
set_option maxRecDepth 20000 in
theorem ggX6_heldUp_X3_copy : GoodIn wsX6_heldUp wsX3_copy := goodIn_pp pxX6_heldUp pxX6_heldUp_in _ [(1, 0), (1, 1), (1, 2), (1, 3), (1, 4), (1, 5), (1, 6), (1, 7), (1, 8), (1, 9), (1, 10), (1, 11), (1, 12), (1, 13), (1, 14), (1, 15), (1, 16), (1, 17), (1, 18), (1, 19), (1, 20), (1, 21), (1, 22), (1, 23), (2, 0), (2, 1), (2, 2), (2, 3), (2, 4), (2, 5), (2, 6), (2, 7), (2, 8), (2, 9), (2, 10), (2, 11), (2, 12), (2, 13), (2, 14), (2, 15), (2, 16), (2, 17), (2, 18), (2, 19), (2, 20), (2, 21), (2, 22), (2, 23), (3, 0), (3, 1), (3, 2), (3, 3), (3, 4), (3, 5), (3, 6), (3, 7), (3, 8), (9, 0), (9, 1), (9, 2), (9, 3), (9, 4), (9, 5), (9, 6), (9, 7), (9, 8), (9, 9), (9, 10), (10, 0), (10, 1), (10, 2), (10, 3), (10, 4), (10, 5), (10, 6), (10, 7), (10, 8), (10, 9), (11, 0), (11, 1), (11, 2), (11, 3), (11, 4), (11, 5), (11, 6), (12, 0), (12, 1), (12, 2), (12, 3), (12, 4), (12, 5), (12, 6), (12, 7)] rfl (by decide +kernel)
set_option maxRecDepth 20000 in
theorem gX6_heldUp_X3_copy : GoodIn wsX6_heldUp (wsV RX6 270 RX3 yX3_copy wsX3_copy) := goodIn_app (goodIn_of _ (by decide +kernel)) ggX6_heldUp_X3_copy
set_option maxRecDepth 20000 in
theorem ggX6_heldUp_X3_step : GoodIn wsX6_heldUp wsX3_step := goodIn_pp pxX6_heldUp pxX6_heldUp_in _ [(3, 12), (1, 1), (1, 2), (1, 4), (1, 6), (1, 9), (3, 13), (3, 14), (3, 15), (0, 23), (3, 16), (3, 17), (1, 11), (3, 18), (3, 19), (3, 20), (3, 21), (3, 22), (3, 23), (2, 11), (4, 0), (2, 15), (4, 1), (0, 7), (4, 2), (4, 3), (4, 4), (4, 5), (4, 6), (4, 7), (1, 7), (4, 8), (4, 9), (4, 10), (4, 11), (4, 12), (1, 19), (4, 13), (2, 3), (2, 5), (2, 6), (4, 14), (4, 15), (4, 16), (4, 17), (1, 10), (4, 18), (4, 19), (4, 20), (4, 21), (4, 22), (4, 23), (2, 23), (5, 0), (3, 1), (3, 2), (5, 1), (5, 2), (5, 3), (5, 4), (5, 5), (5, 6), (5, 7), (5, 8), (5, 9), (5, 10), (3, 3), (5, 11), (5, 12), (5, 13), (5, 14), (5, 15), (5, 16), (5, 17), (5, 18), (5, 19), (5, 20), (5, 21), (5, 22), (5, 23), (6, 0), (6, 1), (6, 2), (6, 3), (6, 4), (6, 5), (6, 6), (6, 7), (6, 8), (6, 9), (2, 13), (6, 10), (6, 11), (6, 12), (6, 13), (6, 14), (1, 5), (6, 15), (6, 16), (6, 17), (6, 18), (6, 19), (6, 20), (6, 21), (6, 22), (1, 8), (6, 23), (7, 0), (7, 1), (7, 2), (7, 3), (7, 4), (7, 5), (7, 6), (7, 7), (7, 8), (7, 9), (7, 10), (7, 11), (7, 12), (7, 13), (7, 14), (1, 3), (7, 15), (7, 16), (7, 17), (7, 18), (1, 22), (2, 7), (7, 19), (7, 20), (7, 21), (9, 0), (9, 1), (9, 2), (9, 3), (9, 4), (9, 5), (9, 6), (9, 7), (9, 8), (9, 9), (9, 10), (10, 0), (10, 1), (10, 2), (10, 3), (10, 4), (10, 5), (10, 6), (10, 7), (10, 8), (10, 9), (11, 0), (11, 1), (11, 2), (11, 3), (11, 4), (11, 5), (11, 6), (12, 0), (12, 1), (12, 2), (12, 3), (12, 4), (12, 5), (12, 6), (12, 7)] rfl (by decide +kernel)
set_option maxRecDepth 20000 in
theorem gX6_heldUp_X3_step : GoodIn wsX6_heldUp (wsV RX6 233 RX3 yX3_step wsX3_step) := goodIn_app (goodIn_of _ (by decide +kernel)) ggX6_heldUp_X3_step
theorem dX6_heldUp_0 : decode cX6_heldUp 0 = .ok (.aload_n 0, 1) := by decide +kernel
theorem dX6_heldUp_1 : decode cX6_heldUp 1 = .ok (.iload_n 1, 1) := by decide +kernel
theorem dX6_heldUp_2 : decode cX6_heldUp 2 = .ok (.iload_n 2, 1) := by decide +kernel
theorem dX6_heldUp_3 : decode cX6_heldUp 3 = .ok (.invokevirtual 167, 3) := by decide +kernel
theorem dX6_heldUp_6 : decode cX6_heldUp 6 = .ok (.ifCond .ne 5, 3) := by decide +kernel
theorem dX6_heldUp_9 : decode cX6_heldUp 9 = .ok (.iconst (-1), 1) := by decide +kernel
theorem dX6_heldUp_10 : decode cX6_heldUp 10 = .ok (.ireturn, 1) := by decide +kernel
theorem dX6_heldUp_11 : decode cX6_heldUp 11 = .ok (.aload_n 0, 1) := by decide +kernel
theorem dX6_heldUp_12 : decode cX6_heldUp 12 = .ok (.getfield 30, 3) := by decide +kernel
theorem dX6_heldUp_15 : decode cX6_heldUp 15 = .ok (.aload_n 0, 1) := by decide +kernel
theorem dX6_heldUp_16 : decode cX6_heldUp 16 = .ok (.getfield 26, 3) := by decide +kernel
theorem dX6_heldUp_19 : decode cX6_heldUp 19 = .ok (.invokevirtual 270, 3) := by decide +kernel
theorem dX6_heldUp_22 : decode cX6_heldUp 22 = .ok (.iconst 1, 1) := by decide +kernel
theorem dX6_heldUp_23 : decode cX6_heldUp 23 = .ok (.istore_n 3, 1) := by decide +kernel
theorem dX6_heldUp_24 : decode cX6_heldUp 24 = .ok (.iload_n 3, 1) := by decide +kernel
theorem dX6_heldUp_25 : decode cX6_heldUp 25 = .ok (.sipush 200, 3) := by decide +kernel
theorem dX6_heldUp_28 : decode cX6_heldUp 28 = .ok (.if_icmp .gt 34, 3) := by decide +kernel
theorem dX6_heldUp_31 : decode cX6_heldUp 31 = .ok (.aload_n 0, 1) := by decide +kernel
theorem dX6_heldUp_32 : decode cX6_heldUp 32 = .ok (.getfield 30, 3) := by decide +kernel
theorem dX6_heldUp_35 : decode cX6_heldUp 35 = .ok (.invokevirtual 233, 3) := by decide +kernel
theorem dX6_heldUp_38 : decode cX6_heldUp 38 = .ok (.aload_n 0, 1) := by decide +kernel
theorem dX6_heldUp_39 : decode cX6_heldUp 39 = .ok (.getfield 30, 3) := by decide +kernel
theorem dX6_heldUp_42 : decode cX6_heldUp 42 = .ok (.getfield 104, 3) := by decide +kernel
theorem dX6_heldUp_45 : decode cX6_heldUp 45 = .ok (.iload_n 1, 1) := by decide +kernel
theorem dX6_heldUp_46 : decode cX6_heldUp 46 = .ok (.aaload, 1) := by decide +kernel
theorem dX6_heldUp_47 : decode cX6_heldUp 47 = .ok (.getfield 286, 3) := by decide +kernel
theorem dX6_heldUp_50 : decode cX6_heldUp 50 = .ok (.iload_n 2, 1) := by decide +kernel
theorem dX6_heldUp_51 : decode cX6_heldUp 51 = .ok (.if_icmp .ne 5, 3) := by decide +kernel
theorem dX6_heldUp_54 : decode cX6_heldUp 54 = .ok (.iload_n 3, 1) := by decide +kernel
theorem dX6_heldUp_55 : decode cX6_heldUp 55 = .ok (.ireturn, 1) := by decide +kernel
theorem dX6_heldUp_56 : decode cX6_heldUp 56 = .ok (.iinc 3 1, 3) := by decide +kernel
theorem dX6_heldUp_59 : decode cX6_heldUp 59 = .ok (.goto (-35), 3) := by decide +kernel
theorem dX6_heldUp_62 : decode cX6_heldUp 62 = .ok (.iconst (-1), 1) := by decide +kernel
theorem dX6_heldUp_63 : decode cX6_heldUp 63 = .ok (.ireturn, 1) := by decide +kernel
set_option maxRecDepth 20000 in
theorem ggX6_idle_X6_isHop : GoodIn wsX6_idle wsX6_isHop := goodIn_r _ [6, 7, 8, 9, 194, 195, 196, 197, 198, 199, 200, 201, 202, 203, 204, 205, 206, 207, 208, 209, 210, 211, 212, 213] (by decide +kernel) (by decide +kernel)
set_option maxRecDepth 20000 in
theorem gX6_idle_X6_isHop : GoodIn wsX6_idle (wsV RX6 93 RX6 yX6_isHop wsX6_isHop) := goodIn_app (goodIn_of _ (by decide +kernel)) ggX6_idle_X6_isHop
set_option maxRecDepth 20000 in
theorem ggX6_idle_X6_outside : GoodIn wsX6_idle wsX6_outside := goodIn_r _ [12] (by decide +kernel) (by decide +kernel)
set_option maxRecDepth 20000 in
theorem gX6_idle_X6_outside : GoodIn wsX6_idle (va_wsS RX6 55 yX6_outside wsX6_outside) := goodIn_app (goodIn_of _ (by decide +kernel)) ggX6_idle_X6_outside
theorem qxX6_idle_0 : ∀ w ∈ ((((((wsX6_idle_r1 ++ (wsX6_idle_r2 ++ (wsX6_idle_r3 ++ (wsX6_idle_r4 ++ (wsX6_idle_r5 ++ (wsX6_idle_r6 ++ (wsX6_idle_r7 ++ (wsX6_idle_r8 ++ wsX6_idle_r9)))))))) ++ wsX60) ++ wsX30) ++ wsX20) ++ wsX10) ++ wsX00), w ∈ wsX6_idle := fun w h => List.mem_cons_of_mem _ h
theorem qxX6_idle_1 : ∀ w ∈ (((((wsX6_idle_r1 ++ (wsX6_idle_r2 ++ (wsX6_idle_r3 ++ (wsX6_idle_r4 ++ (wsX6_idle_r5 ++ (wsX6_idle_r6 ++ (wsX6_idle_r7 ++ (wsX6_idle_r8 ++ wsX6_idle_r9)))))))) ++ wsX60) ++ wsX30) ++ wsX20) ++ wsX10), w ∈ wsX6_idle := in_l qxX6_idle_0
theorem qxX6_idle_2 : ∀ w ∈ wsX00, w ∈ wsX6_idle := in_r qxX6_idle_0
theorem qxX6_idle_3 : ∀ w ∈ ((((wsX6_idle_r1 ++ (wsX6_idle_r2 ++ (wsX6_idle_r3 ++ (wsX6_idle_r4 ++ (wsX6_idle_r5 ++ (wsX6_idle_r6 ++ (wsX6_idle_r7 ++ (wsX6_idle_r8 ++ wsX6_idle_r9)))))))) ++ wsX60) ++ wsX30) ++ wsX20), w ∈ wsX6_idle := in_l qxX6_idle_1
theorem qxX6_idle_4 : ∀ w ∈ wsX10, w ∈ wsX6_idle := in_r qxX6_idle_1
theorem qxX6_idle_5 : ∀ w ∈ (((wsX6_idle_r1 ++ (wsX6_idle_r2 ++ (wsX6_idle_r3 ++ (wsX6_idle_r4 ++ (wsX6_idle_r5 ++ (wsX6_idle_r6 ++ (wsX6_idle_r7 ++ (wsX6_idle_r8 ++ wsX6_idle_r9)))))))) ++ wsX60) ++ wsX30), w ∈ wsX6_idle := in_l qxX6_idle_3
theorem qxX6_idle_6 : ∀ w ∈ wsX20, w ∈ wsX6_idle := in_r qxX6_idle_3
theorem qxX6_idle_7 : ∀ w ∈ ((wsX6_idle_r1 ++ (wsX6_idle_r2 ++ (wsX6_idle_r3 ++ (wsX6_idle_r4 ++ (wsX6_idle_r5 ++ (wsX6_idle_r6 ++ (wsX6_idle_r7 ++ (wsX6_idle_r8 ++ wsX6_idle_r9)))))))) ++ wsX60), w ∈ wsX6_idle := in_l qxX6_idle_5
theorem qxX6_idle_8 : ∀ w ∈ wsX30, w ∈ wsX6_idle := in_r qxX6_idle_5
theorem qxX6_idle_9 : ∀ w ∈ (wsX6_idle_r1 ++ (wsX6_idle_r2 ++ (wsX6_idle_r3 ++ (wsX6_idle_r4 ++ (wsX6_idle_r5 ++ (wsX6_idle_r6 ++ (wsX6_idle_r7 ++ (wsX6_idle_r8 ++ wsX6_idle_r9)))))))), w ∈ wsX6_idle := in_l qxX6_idle_7
theorem qxX6_idle_10 : ∀ w ∈ wsX60, w ∈ wsX6_idle := in_r qxX6_idle_7
theorem qxX6_idle_11 : ∀ w ∈ wsX6_idle_r1, w ∈ wsX6_idle := in_l qxX6_idle_9
theorem qxX6_idle_12 : ∀ w ∈ (wsX6_idle_r2 ++ (wsX6_idle_r3 ++ (wsX6_idle_r4 ++ (wsX6_idle_r5 ++ (wsX6_idle_r6 ++ (wsX6_idle_r7 ++ (wsX6_idle_r8 ++ wsX6_idle_r9))))))), w ∈ wsX6_idle := in_r qxX6_idle_9
theorem qxX6_idle_13 : ∀ w ∈ wsX6_idle_r2, w ∈ wsX6_idle := in_l qxX6_idle_12
theorem qxX6_idle_14 : ∀ w ∈ (wsX6_idle_r3 ++ (wsX6_idle_r4 ++ (wsX6_idle_r5 ++ (wsX6_idle_r6 ++ (wsX6_idle_r7 ++ (wsX6_idle_r8 ++ wsX6_idle_r9)))))), w ∈ wsX6_idle := in_r qxX6_idle_12
theorem qxX6_idle_15 : ∀ w ∈ wsX6_idle_r3, w ∈ wsX6_idle := in_l qxX6_idle_14
theorem qxX6_idle_16 : ∀ w ∈ (wsX6_idle_r4 ++ (wsX6_idle_r5 ++ (wsX6_idle_r6 ++ (wsX6_idle_r7 ++ (wsX6_idle_r8 ++ wsX6_idle_r9))))), w ∈ wsX6_idle := in_r qxX6_idle_14
theorem qxX6_idle_17 : ∀ w ∈ wsX6_idle_r4, w ∈ wsX6_idle := in_l qxX6_idle_16
theorem qxX6_idle_18 : ∀ w ∈ (wsX6_idle_r5 ++ (wsX6_idle_r6 ++ (wsX6_idle_r7 ++ (wsX6_idle_r8 ++ wsX6_idle_r9)))), w ∈ wsX6_idle := in_r qxX6_idle_16
theorem qxX6_idle_19 : ∀ w ∈ wsX6_idle_r5, w ∈ wsX6_idle := in_l qxX6_idle_18
theorem qxX6_idle_20 : ∀ w ∈ (wsX6_idle_r6 ++ (wsX6_idle_r7 ++ (wsX6_idle_r8 ++ wsX6_idle_r9))), w ∈ wsX6_idle := in_r qxX6_idle_18
theorem qxX6_idle_21 : ∀ w ∈ wsX6_idle_r6, w ∈ wsX6_idle := in_l qxX6_idle_20
theorem qxX6_idle_22 : ∀ w ∈ (wsX6_idle_r7 ++ (wsX6_idle_r8 ++ wsX6_idle_r9)), w ∈ wsX6_idle := in_r qxX6_idle_20
theorem qxX6_idle_23 : ∀ w ∈ wsX6_idle_r7, w ∈ wsX6_idle := in_l qxX6_idle_22
theorem qxX6_idle_24 : ∀ w ∈ (wsX6_idle_r8 ++ wsX6_idle_r9), w ∈ wsX6_idle := in_r qxX6_idle_22
theorem qxX6_idle_25 : ∀ w ∈ wsX6_idle_r8, w ∈ wsX6_idle := in_l qxX6_idle_24
theorem qxX6_idle_26 : ∀ w ∈ wsX6_idle_r9, w ∈ wsX6_idle := in_r qxX6_idle_24
def pxX6_idle : List (List Cond) := [wsX6_idle_r1, wsX6_idle_r2, wsX6_idle_r3, wsX6_idle_r4, wsX6_idle_r5, wsX6_idle_r6, wsX6_idle_r7, wsX6_idle_r8, wsX6_idle_r9, wsX60, wsX30, wsX20, wsX10, wsX00]
theorem pxX6_idle_in : ∀ q ∈ pxX6_idle, ∀ w ∈ q, w ∈ wsX6_idle := lp_c qxX6_idle_11 (lp_c qxX6_idle_13 (lp_c qxX6_idle_15 (lp_c qxX6_idle_17 (lp_c qxX6_idle_19 (lp_c qxX6_idle_21 (lp_c qxX6_idle_23 (lp_c qxX6_idle_25 (lp_c qxX6_idle_26 (lp_c qxX6_idle_10 (lp_c qxX6_idle_8 (lp_c qxX6_idle_6 (lp_c qxX6_idle_4 (lp_c qxX6_idle_2 (lp_n))))))))))))))
set_option maxRecDepth 20000 in
theorem ggX6_idle_X6_tallyIdle : GoodIn wsX6_idle wsX6_tallyIdle := goodIn_pp pxX6_idle pxX6_idle_in _ [(0, 15), (0, 16), (0, 7), (0, 8), (0, 17), (0, 18), (0, 0), (0, 19), (0, 20), (0, 21), (0, 4), (0, 22), (0, 23), (1, 0), (1, 1), (1, 2), (1, 3), (1, 4), (1, 5), (1, 6), (1, 7), (1, 8), (1, 9), (1, 10), (1, 11), (1, 12), (1, 13), (1, 14), (1, 15), (1, 16), (1, 17), (1, 18), (1, 19), (1, 20), (1, 21), (1, 22), (1, 23), (2, 0), (2, 1), (2, 2), (2, 3), (2, 4), (2, 5), (2, 6), (2, 7), (2, 8), (2, 9), (2, 10), (2, 11), (2, 12), (2, 13), (2, 14), (2, 15), (2, 16), (2, 17), (2, 18), (2, 19), (2, 20), (2, 21), (2, 22), (2, 23), (3, 0), (3, 1), (3, 2), (3, 3), (3, 4), (3, 5), (3, 6), (3, 7), (3, 8), (3, 9), (3, 10), (3, 11), (3, 12), (3, 13), (3, 14), (3, 15), (3, 16), (3, 17), (3, 18), (3, 19), (3, 20), (3, 21), (3, 22), (3, 23), (4, 0), (4, 1), (4, 2), (4, 3), (4, 4), (4, 5), (4, 6), (4, 7), (4, 8), (4, 9), (4, 10), (4, 11), (4, 12), (4, 13), (4, 14), (4, 15), (4, 16), (4, 17), (4, 18), (4, 19), (4, 20), (4, 21), (4, 22), (4, 23), (5, 0), (5, 1), (5, 2), (5, 3), (5, 4), (5, 5), (5, 6), (5, 7), (5, 8), (5, 9), (5, 10), (5, 11), (5, 12), (5, 13), (5, 14), (5, 15), (5, 16), (5, 17), (5, 18), (5, 19), (5, 20), (5, 21), (5, 22), (5, 23), (6, 0), (6, 1), (6, 2), (6, 3), (6, 4), (6, 5), (6, 6), (6, 7), (6, 8), (6, 9), (6, 10), (6, 11), (6, 12), (6, 13), (6, 14), (6, 15), (6, 16), (6, 17), (6, 18), (6, 19), (6, 20), (6, 21), (6, 22), (6, 23), (7, 0), (7, 1), (7, 2), (7, 3), (7, 4), (7, 5), (7, 6), (7, 7), (7, 8), (7, 9), (7, 10), (7, 11), (7, 12), (7, 13), (7, 14), (7, 15), (7, 16), (7, 17), (7, 18), (7, 19), (7, 20), (7, 21), (7, 22), (7, 23), (8, 0), (9, 0), (9, 1), (9, 2), (9, 3), (9, 4), (9, 5), (9, 6), (9, 7), (9, 8), (10, 0), (10, 1), (10, 2), (10, 3), (10, 4), (10, 5), (10, 6), (10, 7), (10, 8), (10, 9), (10, 10), (11, 0), (11, 1), (11, 2), (11, 3), (11, 4), (11, 5), (11, 6), (11, 7), (11, 8), (11, 9), (12, 0), (12, 1), (12, 2), (12, 3), (12, 4), (12, 5), (12, 6), (13, 0), (13, 1), (13, 2), (13, 3), (13, 4), (13, 5), (13, 6), (13, 7)] rfl (by decide +kernel)
set_option maxRecDepth 20000 in
theorem gX6_idle_X6_tallyIdle : GoodIn wsX6_idle (wsV RX6 289 RX6 yX6_tallyIdle wsX6_tallyIdle) := goodIn_app (goodIn_of _ (by decide +kernel)) ggX6_idle_X6_tallyIdle
theorem dX6_idle_0 : decode cX6_idle 0 = .ok (.aload_n 0, 1) := by decide +kernel
theorem dX6_idle_1 : decode cX6_idle 1 = .ok (.iload_n 1, 1) := by decide +kernel
theorem dX6_idle_2 : decode cX6_idle 2 = .ok (.invokevirtual 93, 3) := by decide +kernel
theorem dX6_idle_5 : decode cX6_idle 5 = .ok (.ifCond .eq 14, 3) := by decide +kernel
theorem dX6_idle_8 : decode cX6_idle 8 = .ok (.iload_n 2, 1) := by decide +kernel
theorem dX6_idle_9 : decode cX6_idle 9 = .ok (.iconst 1, 1) := by decide +kernel
theorem dX6_idle_10 : decode cX6_idle 10 = .ok (.sipush 200, 3) := by decide +kernel
theorem dX6_idle_13 : decode cX6_idle 13 = .ok (.invokestatic 55, 3) := by decide +kernel
theorem dX6_idle_16 : decode cX6_idle 16 = .ok (.ifCond .eq 5, 3) := by decide +kernel
theorem dX6_idle_19 : decode cX6_idle 19 = .ok (.iconst (-1), 1) := by decide +kernel
theorem dX6_idle_20 : decode cX6_idle 20 = .ok (.ireturn, 1) := by decide +kernel
theorem dX6_idle_21 : decode cX6_idle 21 = .ok (.aload_n 0, 1) := by decide +kernel
theorem dX6_idle_22 : decode cX6_idle 22 = .ok (.iload_n 2, 1) := by decide +kernel
theorem dX6_idle_23 : decode cX6_idle 23 = .ok (.invokevirtual 289, 3) := by decide +kernel
theorem dX6_idle_26 : decode cX6_idle 26 = .ok (.aload_n 0, 1) := by decide +kernel
theorem dX6_idle_27 : decode cX6_idle 27 = .ok (.getfield 39, 3) := by decide +kernel
theorem dX6_idle_30 : decode cX6_idle 30 = .ok (.iload_n 1, 1) := by decide +kernel
theorem dX6_idle_31 : decode cX6_idle 31 = .ok (.iaload, 1) := by decide +kernel
theorem dX6_idle_32 : decode cX6_idle 32 = .ok (.ireturn, 1) := by decide +kernel
set_option maxRecDepth 20000 in
theorem ggX6_tallyIdle_X6_clearTally : GoodIn wsX6_tallyIdle wsX6_clearTally := goodIn_r _ [11, 6, 182, 183, 184, 185, 186, 187, 188, 189, 190] (by decide +kernel) (by decide +kernel)
set_option maxRecDepth 20000 in
theorem gX6_tallyIdle_X6_clearTally : GoodIn wsX6_tallyIdle (wsV RX6 292 RX6 yX6_clearTally wsX6_clearTally) := goodIn_app (goodIn_of _ (by decide +kernel)) ggX6_tallyIdle_X6_clearTally
theorem qxX6_tallyIdle_0 : ∀ w ∈ ((((((wsX6_tallyIdle_r1 ++ (wsX6_tallyIdle_r2 ++ (wsX6_tallyIdle_r3 ++ (wsX6_tallyIdle_r4 ++ (wsX6_tallyIdle_r5 ++ (wsX6_tallyIdle_r6 ++ (wsX6_tallyIdle_r7 ++ wsX6_tallyIdle_r8))))))) ++ wsX60) ++ wsX30) ++ wsX20) ++ wsX10) ++ wsX00), w ∈ wsX6_tallyIdle := fun w h => List.mem_cons_of_mem _ h
theorem qxX6_tallyIdle_1 : ∀ w ∈ (((((wsX6_tallyIdle_r1 ++ (wsX6_tallyIdle_r2 ++ (wsX6_tallyIdle_r3 ++ (wsX6_tallyIdle_r4 ++ (wsX6_tallyIdle_r5 ++ (wsX6_tallyIdle_r6 ++ (wsX6_tallyIdle_r7 ++ wsX6_tallyIdle_r8))))))) ++ wsX60) ++ wsX30) ++ wsX20) ++ wsX10), w ∈ wsX6_tallyIdle := in_l qxX6_tallyIdle_0
theorem qxX6_tallyIdle_2 : ∀ w ∈ wsX00, w ∈ wsX6_tallyIdle := in_r qxX6_tallyIdle_0
theorem qxX6_tallyIdle_3 : ∀ w ∈ ((((wsX6_tallyIdle_r1 ++ (wsX6_tallyIdle_r2 ++ (wsX6_tallyIdle_r3 ++ (wsX6_tallyIdle_r4 ++ (wsX6_tallyIdle_r5 ++ (wsX6_tallyIdle_r6 ++ (wsX6_tallyIdle_r7 ++ wsX6_tallyIdle_r8))))))) ++ wsX60) ++ wsX30) ++ wsX20), w ∈ wsX6_tallyIdle := in_l qxX6_tallyIdle_1
theorem qxX6_tallyIdle_4 : ∀ w ∈ wsX10, w ∈ wsX6_tallyIdle := in_r qxX6_tallyIdle_1
theorem qxX6_tallyIdle_5 : ∀ w ∈ (((wsX6_tallyIdle_r1 ++ (wsX6_tallyIdle_r2 ++ (wsX6_tallyIdle_r3 ++ (wsX6_tallyIdle_r4 ++ (wsX6_tallyIdle_r5 ++ (wsX6_tallyIdle_r6 ++ (wsX6_tallyIdle_r7 ++ wsX6_tallyIdle_r8))))))) ++ wsX60) ++ wsX30), w ∈ wsX6_tallyIdle := in_l qxX6_tallyIdle_3
theorem qxX6_tallyIdle_6 : ∀ w ∈ wsX20, w ∈ wsX6_tallyIdle := in_r qxX6_tallyIdle_3
theorem qxX6_tallyIdle_7 : ∀ w ∈ ((wsX6_tallyIdle_r1 ++ (wsX6_tallyIdle_r2 ++ (wsX6_tallyIdle_r3 ++ (wsX6_tallyIdle_r4 ++ (wsX6_tallyIdle_r5 ++ (wsX6_tallyIdle_r6 ++ (wsX6_tallyIdle_r7 ++ wsX6_tallyIdle_r8))))))) ++ wsX60), w ∈ wsX6_tallyIdle := in_l qxX6_tallyIdle_5
theorem qxX6_tallyIdle_8 : ∀ w ∈ wsX30, w ∈ wsX6_tallyIdle := in_r qxX6_tallyIdle_5
theorem qxX6_tallyIdle_9 : ∀ w ∈ (wsX6_tallyIdle_r1 ++ (wsX6_tallyIdle_r2 ++ (wsX6_tallyIdle_r3 ++ (wsX6_tallyIdle_r4 ++ (wsX6_tallyIdle_r5 ++ (wsX6_tallyIdle_r6 ++ (wsX6_tallyIdle_r7 ++ wsX6_tallyIdle_r8))))))), w ∈ wsX6_tallyIdle := in_l qxX6_tallyIdle_7
theorem qxX6_tallyIdle_10 : ∀ w ∈ wsX60, w ∈ wsX6_tallyIdle := in_r qxX6_tallyIdle_7
theorem qxX6_tallyIdle_11 : ∀ w ∈ wsX6_tallyIdle_r1, w ∈ wsX6_tallyIdle := in_l qxX6_tallyIdle_9
theorem qxX6_tallyIdle_12 : ∀ w ∈ (wsX6_tallyIdle_r2 ++ (wsX6_tallyIdle_r3 ++ (wsX6_tallyIdle_r4 ++ (wsX6_tallyIdle_r5 ++ (wsX6_tallyIdle_r6 ++ (wsX6_tallyIdle_r7 ++ wsX6_tallyIdle_r8)))))), w ∈ wsX6_tallyIdle := in_r qxX6_tallyIdle_9
theorem qxX6_tallyIdle_13 : ∀ w ∈ wsX6_tallyIdle_r2, w ∈ wsX6_tallyIdle := in_l qxX6_tallyIdle_12
theorem qxX6_tallyIdle_14 : ∀ w ∈ (wsX6_tallyIdle_r3 ++ (wsX6_tallyIdle_r4 ++ (wsX6_tallyIdle_r5 ++ (wsX6_tallyIdle_r6 ++ (wsX6_tallyIdle_r7 ++ wsX6_tallyIdle_r8))))), w ∈ wsX6_tallyIdle := in_r qxX6_tallyIdle_12
theorem qxX6_tallyIdle_15 : ∀ w ∈ wsX6_tallyIdle_r3, w ∈ wsX6_tallyIdle := in_l qxX6_tallyIdle_14
theorem qxX6_tallyIdle_16 : ∀ w ∈ (wsX6_tallyIdle_r4 ++ (wsX6_tallyIdle_r5 ++ (wsX6_tallyIdle_r6 ++ (wsX6_tallyIdle_r7 ++ wsX6_tallyIdle_r8)))), w ∈ wsX6_tallyIdle := in_r qxX6_tallyIdle_14
theorem qxX6_tallyIdle_17 : ∀ w ∈ wsX6_tallyIdle_r4, w ∈ wsX6_tallyIdle := in_l qxX6_tallyIdle_16
theorem qxX6_tallyIdle_18 : ∀ w ∈ (wsX6_tallyIdle_r5 ++ (wsX6_tallyIdle_r6 ++ (wsX6_tallyIdle_r7 ++ wsX6_tallyIdle_r8))), w ∈ wsX6_tallyIdle := in_r qxX6_tallyIdle_16
theorem qxX6_tallyIdle_19 : ∀ w ∈ wsX6_tallyIdle_r5, w ∈ wsX6_tallyIdle := in_l qxX6_tallyIdle_18
theorem qxX6_tallyIdle_20 : ∀ w ∈ (wsX6_tallyIdle_r6 ++ (wsX6_tallyIdle_r7 ++ wsX6_tallyIdle_r8)), w ∈ wsX6_tallyIdle := in_r qxX6_tallyIdle_18
theorem qxX6_tallyIdle_21 : ∀ w ∈ wsX6_tallyIdle_r6, w ∈ wsX6_tallyIdle := in_l qxX6_tallyIdle_20
theorem qxX6_tallyIdle_22 : ∀ w ∈ (wsX6_tallyIdle_r7 ++ wsX6_tallyIdle_r8), w ∈ wsX6_tallyIdle := in_r qxX6_tallyIdle_20
theorem qxX6_tallyIdle_23 : ∀ w ∈ wsX6_tallyIdle_r7, w ∈ wsX6_tallyIdle := in_l qxX6_tallyIdle_22
theorem qxX6_tallyIdle_24 : ∀ w ∈ wsX6_tallyIdle_r8, w ∈ wsX6_tallyIdle := in_r qxX6_tallyIdle_22
def pxX6_tallyIdle : List (List Cond) := [wsX6_tallyIdle_r1, wsX6_tallyIdle_r2, wsX6_tallyIdle_r3, wsX6_tallyIdle_r4, wsX6_tallyIdle_r5, wsX6_tallyIdle_r6, wsX6_tallyIdle_r7, wsX6_tallyIdle_r8, wsX60, wsX30, wsX20, wsX10, wsX00]
theorem pxX6_tallyIdle_in : ∀ q ∈ pxX6_tallyIdle, ∀ w ∈ q, w ∈ wsX6_tallyIdle := lp_c qxX6_tallyIdle_11 (lp_c qxX6_tallyIdle_13 (lp_c qxX6_tallyIdle_15 (lp_c qxX6_tallyIdle_17 (lp_c qxX6_tallyIdle_19 (lp_c qxX6_tallyIdle_21 (lp_c qxX6_tallyIdle_23 (lp_c qxX6_tallyIdle_24 (lp_c qxX6_tallyIdle_10 (lp_c qxX6_tallyIdle_8 (lp_c qxX6_tallyIdle_6 (lp_c qxX6_tallyIdle_4 (lp_c qxX6_tallyIdle_2 (lp_n)))))))))))))
set_option maxRecDepth 20000 in
theorem ggX6_tallyIdle_X3_copy : GoodIn wsX6_tallyIdle wsX3_copy := goodIn_pp pxX6_tallyIdle pxX6_tallyIdle_in _ [(0, 15), (0, 16), (0, 17), (0, 18), (0, 19), (0, 20), (0, 21), (0, 22), (0, 23), (1, 0), (1, 1), (1, 2), (1, 3), (1, 4), (1, 5), (1, 6), (1, 7), (1, 8), (1, 9), (1, 10), (1, 11), (1, 12), (1, 13), (1, 14), (1, 15), (1, 16), (1, 17), (1, 18), (1, 19), (1, 20), (1, 21), (1, 22), (1, 23), (2, 0), (2, 1), (2, 2), (2, 3), (2, 4), (2, 5), (2, 6), (2, 7), (2, 8), (2, 9), (2, 10), (2, 11), (2, 12), (2, 13), (2, 14), (2, 15), (2, 16), (2, 17), (2, 18), (2, 19), (2, 20), (2, 21), (2, 22), (2, 23), (9, 0), (9, 1), (9, 2), (9, 3), (9, 4), (9, 5), (9, 6), (9, 7), (9, 8), (9, 9), (9, 10), (10, 0), (10, 1), (10, 2), (10, 3), (10, 4), (10, 5), (10, 6), (10, 7), (10, 8), (10, 9), (11, 0), (11, 1), (11, 2), (11, 3), (11, 4), (11, 5), (11, 6), (12, 0), (12, 1), (12, 2), (12, 3), (12, 4), (12, 5), (12, 6), (12, 7)] rfl (by decide +kernel)
set_option maxRecDepth 20000 in
theorem gX6_tallyIdle_X3_copy : GoodIn wsX6_tallyIdle (wsV RX6 270 RX3 yX3_copy wsX3_copy) := goodIn_app (goodIn_of _ (by decide +kernel)) ggX6_tallyIdle_X3_copy
set_option maxRecDepth 20000 in
theorem ggX6_tallyIdle_X3_step : GoodIn wsX6_tallyIdle wsX3_step := goodIn_pp pxX6_tallyIdle pxX6_tallyIdle_in _ [(3, 3), (0, 16), (0, 17), (0, 19), (0, 21), (1, 0), (3, 4), (3, 5), (3, 6), (0, 14), (3, 7), (3, 8), (1, 2), (3, 9), (3, 10), (3, 11), (3, 12), (3, 13), (3, 14), (2, 2), (3, 15), (2, 6), (3, 16), (0, 9), (3, 17), (3, 18), (3, 19), (3, 20), (3, 21), (3, 22), (0, 22), (3, 23), (4, 0), (4, 1), (4, 2), (4, 3), (1, 10), (4, 4), (1, 18), (1, 20), (1, 21), (4, 5), (4, 6), (4, 7), (4, 8), (1, 1), (4, 9), (4, 10), (4, 11), (4, 12), (4, 13), (4, 14), (2, 14), (4, 15), (2, 16), (2, 17), (4, 16), (4, 17), (4, 18), (4, 19), (4, 20), (4, 21), (4, 22), (4, 23), (5, 0), (5, 1), (2, 18), (5, 2), (5, 3), (5, 4), (5, 5), (5, 6), (5, 7), (5, 8), (5, 9), (5, 10), (5, 11), (5, 12), (5, 13), (5, 14), (5, 15), (5, 16), (5, 17), (5, 18), (5, 19), (5, 20), (5, 21), (5, 22), (5, 23), (6, 0), (2, 4), (6, 1), (6, 2), (6, 3), (6, 4), (6, 5), (0, 20), (6, 6), (6, 7), (6, 8), (6, 9), (6, 10), (6, 11), (6, 12), (6, 13), (0, 23), (6, 14), (6, 15), (6, 16), (6, 17), (6, 18), (6, 19), (6, 20), (6, 21), (6, 22), (6, 23), (7, 0), (7, 1), (7, 2), (7, 3), (7, 4), (7, 5), (0, 18), (7, 6), (7, 7), (7, 8), (7, 9), (1, 13), (1, 22), (7, 10), (7, 11), (7, 12), (9, 0), (9, 1), (9, 2), (9, 3), (9, 4), (9, 5), (9, 6), (9, 7), (9, 8), (9, 9), (9, 10), (10, 0), (10, 1), (10, 2), (10, 3), (10, 4), (10, 5), (10, 6), (10, 7), (10, 8), (10, 9), (11, 0), (11, 1), (11, 2), (11, 3), (11, 4), (11, 5), (11, 6), (12, 0), (12, 1), (12, 2), (12, 3), (12, 4), (12, 5), (12, 6), (12, 7)] rfl (by decide +kernel)
set_option maxRecDepth 20000 in
theorem gX6_tallyIdle_X3_step : GoodIn wsX6_tallyIdle (wsV RX6 233 RX3 yX3_step wsX3_step) := goodIn_app (goodIn_of _ (by decide +kernel)) ggX6_tallyIdle_X3_step
theorem dX6_tallyIdle_0 : decode cX6_tallyIdle 0 = .ok (.aload_n 0, 1) := by decide +kernel
theorem dX6_tallyIdle_1 : decode cX6_tallyIdle 1 = .ok (.invokevirtual 292, 3) := by decide +kernel
theorem dX6_tallyIdle_4 : decode cX6_tallyIdle 4 = .ok (.aload_n 0, 1) := by decide +kernel
theorem dX6_tallyIdle_5 : decode cX6_tallyIdle 5 = .ok (.getfield 30, 3) := by decide +kernel
theorem dX6_tallyIdle_8 : decode cX6_tallyIdle 8 = .ok (.aload_n 0, 1) := by decide +kernel
theorem dX6_tallyIdle_9 : decode cX6_tallyIdle 9 = .ok (.getfield 26, 3) := by decide +kernel
theorem dX6_tallyIdle_12 : decode cX6_tallyIdle 12 = .ok (.invokevirtual 270, 3) := by decide +kernel
theorem dX6_tallyIdle_15 : decode cX6_tallyIdle 15 = .ok (.iconst 0, 1) := by decide +kernel
theorem dX6_tallyIdle_16 : decode cX6_tallyIdle 16 = .ok (.istore_n 2, 1) := by decide +kernel
theorem dX6_tallyIdle_17 : decode cX6_tallyIdle 17 = .ok (.iload_n 2, 1) := by decide +kernel
theorem dX6_tallyIdle_18 : decode cX6_tallyIdle 18 = .ok (.iload_n 1, 1) := by decide +kernel
theorem dX6_tallyIdle_19 : decode cX6_tallyIdle 19 = .ok (.if_icmp .ge 61, 3) := by decide +kernel
theorem dX6_tallyIdle_22 : decode cX6_tallyIdle 22 = .ok (.aload_n 0, 1) := by decide +kernel
theorem dX6_tallyIdle_23 : decode cX6_tallyIdle 23 = .ok (.getfield 30, 3) := by decide +kernel
theorem dX6_tallyIdle_26 : decode cX6_tallyIdle 26 = .ok (.invokevirtual 233, 3) := by decide +kernel
theorem dX6_tallyIdle_29 : decode cX6_tallyIdle 29 = .ok (.iconst 0, 1) := by decide +kernel
theorem dX6_tallyIdle_30 : decode cX6_tallyIdle 30 = .ok (.istore_n 3, 1) := by decide +kernel
theorem dX6_tallyIdle_31 : decode cX6_tallyIdle 31 = .ok (.iload_n 3, 1) := by decide +kernel
theorem dX6_tallyIdle_32 : decode cX6_tallyIdle 32 = .ok (.aload_n 0, 1) := by decide +kernel
theorem dX6_tallyIdle_33 : decode cX6_tallyIdle 33 = .ok (.getfield 30, 3) := by decide +kernel
theorem dX6_tallyIdle_36 : decode cX6_tallyIdle 36 = .ok (.getfield 78, 3) := by decide +kernel
theorem dX6_tallyIdle_39 : decode cX6_tallyIdle 39 = .ok (.if_icmp .ge 35, 3) := by decide +kernel
theorem dX6_tallyIdle_42 : decode cX6_tallyIdle 42 = .ok (.aload_n 0, 1) := by decide +kernel
theorem dX6_tallyIdle_43 : decode cX6_tallyIdle 43 = .ok (.getfield 30, 3) := by decide +kernel
theorem dX6_tallyIdle_46 : decode cX6_tallyIdle 46 = .ok (.getfield 104, 3) := by decide +kernel
theorem dX6_tallyIdle_49 : decode cX6_tallyIdle 49 = .ok (.iload_n 3, 1) := by decide +kernel
theorem dX6_tallyIdle_50 : decode cX6_tallyIdle 50 = .ok (.aaload, 1) := by decide +kernel
theorem dX6_tallyIdle_51 : decode cX6_tallyIdle 51 = .ok (.getfield 286, 3) := by decide +kernel
theorem dX6_tallyIdle_54 : decode cX6_tallyIdle 54 = .ok (.iconst (-1), 1) := by decide +kernel
theorem dX6_tallyIdle_55 : decode cX6_tallyIdle 55 = .ok (.if_icmp .ne 13, 3) := by decide +kernel
theorem dX6_tallyIdle_58 : decode cX6_tallyIdle 58 = .ok (.aload_n 0, 1) := by decide +kernel
theorem dX6_tallyIdle_59 : decode cX6_tallyIdle 59 = .ok (.getfield 39, 3) := by decide +kernel
theorem dX6_tallyIdle_62 : decode cX6_tallyIdle 62 = .ok (.iload_n 3, 1) := by decide +kernel
theorem dX6_tallyIdle_63 : decode cX6_tallyIdle 63 = .ok (.dup2, 1) := by decide +kernel
theorem dX6_tallyIdle_64 : decode cX6_tallyIdle 64 = .ok (.iaload, 1) := by decide +kernel
theorem dX6_tallyIdle_65 : decode cX6_tallyIdle 65 = .ok (.iconst 1, 1) := by decide +kernel
theorem dX6_tallyIdle_66 : decode cX6_tallyIdle 66 = .ok (.iadd, 1) := by decide +kernel
theorem dX6_tallyIdle_67 : decode cX6_tallyIdle 67 = .ok (.iastore, 1) := by decide +kernel
theorem dX6_tallyIdle_68 : decode cX6_tallyIdle 68 = .ok (.iinc 3 1, 3) := by decide +kernel
theorem dX6_tallyIdle_71 : decode cX6_tallyIdle 71 = .ok (.goto (-40), 3) := by decide +kernel
theorem dX6_tallyIdle_74 : decode cX6_tallyIdle 74 = .ok (.iinc 2 1, 3) := by decide +kernel
theorem dX6_tallyIdle_77 : decode cX6_tallyIdle 77 = .ok (.goto (-60), 3) := by decide +kernel
theorem dX6_tallyIdle_80 : decode cX6_tallyIdle 80 = .ok (.return_, 1) := by decide +kernel
theorem dX6_clearTally_0 : decode cX6_clearTally 0 = .ok (.iconst 0, 1) := by decide +kernel
theorem dX6_clearTally_1 : decode cX6_clearTally 1 = .ok (.istore_n 1, 1) := by decide +kernel
theorem dX6_clearTally_2 : decode cX6_clearTally 2 = .ok (.iload_n 1, 1) := by decide +kernel
theorem dX6_clearTally_3 : decode cX6_clearTally 3 = .ok (.iconst 3, 1) := by decide +kernel
theorem dX6_clearTally_4 : decode cX6_clearTally 4 = .ok (.if_icmp .ge 16, 3) := by decide +kernel
theorem dX6_clearTally_7 : decode cX6_clearTally 7 = .ok (.aload_n 0, 1) := by decide +kernel
theorem dX6_clearTally_8 : decode cX6_clearTally 8 = .ok (.getfield 39, 3) := by decide +kernel
theorem dX6_clearTally_11 : decode cX6_clearTally 11 = .ok (.iload_n 1, 1) := by decide +kernel
theorem dX6_clearTally_12 : decode cX6_clearTally 12 = .ok (.iconst 0, 1) := by decide +kernel
theorem dX6_clearTally_13 : decode cX6_clearTally 13 = .ok (.iastore, 1) := by decide +kernel
theorem dX6_clearTally_14 : decode cX6_clearTally 14 = .ok (.iinc 1 1, 3) := by decide +kernel
theorem dX6_clearTally_17 : decode cX6_clearTally 17 = .ok (.goto (-15), 3) := by decide +kernel
theorem dX6_clearTally_20 : decode cX6_clearTally 20 = .ok (.return_, 1) := by decide +kernel
set_option maxRecDepth 20000 in
theorem ggX6_most_X6_isNode : GoodIn wsX6_most wsX6_isNode := goodIn_r _ [11, 12, 2, 13, 201, 202, 203, 204, 205, 206, 207, 208, 209, 210, 211, 212, 213, 214, 215, 216, 217, 218, 219, 220] (by decide +kernel) (by decide +kernel)
set_option maxRecDepth 20000 in
theorem gX6_most_X6_isNode : GoodIn wsX6_most (wsV RX6 211 RX6 yX6_isNode wsX6_isNode) := goodIn_app (goodIn_of _ (by decide +kernel)) ggX6_most_X6_isNode
set_option maxRecDepth 20000 in
theorem ggX6_most_X6_isCircuit : GoodIn wsX6_most wsX6_isCircuit := goodIn_r _ [17, 12, 2, 18, 201, 202, 203, 204, 205, 206, 207, 208, 209, 210, 211, 212, 213, 214, 215, 216, 217, 218, 219, 220] (by decide +kernel) (by decide +kernel)
set_option maxRecDepth 20000 in
theorem gX6_most_X6_isCircuit : GoodIn wsX6_most (wsV RX6 135 RX6 yX6_isCircuit wsX6_isCircuit) := goodIn_app (goodIn_of _ (by decide +kernel)) ggX6_most_X6_isCircuit
set_option maxRecDepth 20000 in
theorem ggX6_most_X6_outside : GoodIn wsX6_most wsX6_outside := goodIn_r _ [21] (by decide +kernel) (by decide +kernel)
set_option maxRecDepth 20000 in
theorem gX6_most_X6_outside : GoodIn wsX6_most (va_wsS RX6 55 yX6_outside wsX6_outside) := goodIn_app (goodIn_of _ (by decide +kernel)) ggX6_most_X6_outside
theorem qxX6_most_0 : ∀ w ∈ ((((((wsX6_most_r1 ++ (wsX6_most_r2 ++ (wsX6_most_r3 ++ (wsX6_most_r4 ++ (wsX6_most_r5 ++ (wsX6_most_r6 ++ (wsX6_most_r7 ++ (wsX6_most_r8 ++ wsX6_most_r9)))))))) ++ wsX60) ++ wsX30) ++ wsX20) ++ wsX10) ++ wsX00), w ∈ wsX6_most := fun w h => List.mem_cons_of_mem _ h
theorem qxX6_most_1 : ∀ w ∈ (((((wsX6_most_r1 ++ (wsX6_most_r2 ++ (wsX6_most_r3 ++ (wsX6_most_r4 ++ (wsX6_most_r5 ++ (wsX6_most_r6 ++ (wsX6_most_r7 ++ (wsX6_most_r8 ++ wsX6_most_r9)))))))) ++ wsX60) ++ wsX30) ++ wsX20) ++ wsX10), w ∈ wsX6_most := in_l qxX6_most_0
theorem qxX6_most_2 : ∀ w ∈ wsX00, w ∈ wsX6_most := in_r qxX6_most_0
theorem qxX6_most_3 : ∀ w ∈ ((((wsX6_most_r1 ++ (wsX6_most_r2 ++ (wsX6_most_r3 ++ (wsX6_most_r4 ++ (wsX6_most_r5 ++ (wsX6_most_r6 ++ (wsX6_most_r7 ++ (wsX6_most_r8 ++ wsX6_most_r9)))))))) ++ wsX60) ++ wsX30) ++ wsX20), w ∈ wsX6_most := in_l qxX6_most_1
theorem qxX6_most_4 : ∀ w ∈ wsX10, w ∈ wsX6_most := in_r qxX6_most_1
theorem qxX6_most_5 : ∀ w ∈ (((wsX6_most_r1 ++ (wsX6_most_r2 ++ (wsX6_most_r3 ++ (wsX6_most_r4 ++ (wsX6_most_r5 ++ (wsX6_most_r6 ++ (wsX6_most_r7 ++ (wsX6_most_r8 ++ wsX6_most_r9)))))))) ++ wsX60) ++ wsX30), w ∈ wsX6_most := in_l qxX6_most_3
theorem qxX6_most_6 : ∀ w ∈ wsX20, w ∈ wsX6_most := in_r qxX6_most_3
theorem qxX6_most_7 : ∀ w ∈ ((wsX6_most_r1 ++ (wsX6_most_r2 ++ (wsX6_most_r3 ++ (wsX6_most_r4 ++ (wsX6_most_r5 ++ (wsX6_most_r6 ++ (wsX6_most_r7 ++ (wsX6_most_r8 ++ wsX6_most_r9)))))))) ++ wsX60), w ∈ wsX6_most := in_l qxX6_most_5
theorem qxX6_most_8 : ∀ w ∈ wsX30, w ∈ wsX6_most := in_r qxX6_most_5
theorem qxX6_most_9 : ∀ w ∈ (wsX6_most_r1 ++ (wsX6_most_r2 ++ (wsX6_most_r3 ++ (wsX6_most_r4 ++ (wsX6_most_r5 ++ (wsX6_most_r6 ++ (wsX6_most_r7 ++ (wsX6_most_r8 ++ wsX6_most_r9)))))))), w ∈ wsX6_most := in_l qxX6_most_7
theorem qxX6_most_10 : ∀ w ∈ wsX60, w ∈ wsX6_most := in_r qxX6_most_7
theorem qxX6_most_11 : ∀ w ∈ wsX6_most_r1, w ∈ wsX6_most := in_l qxX6_most_9
theorem qxX6_most_12 : ∀ w ∈ (wsX6_most_r2 ++ (wsX6_most_r3 ++ (wsX6_most_r4 ++ (wsX6_most_r5 ++ (wsX6_most_r6 ++ (wsX6_most_r7 ++ (wsX6_most_r8 ++ wsX6_most_r9))))))), w ∈ wsX6_most := in_r qxX6_most_9
theorem qxX6_most_13 : ∀ w ∈ wsX6_most_r2, w ∈ wsX6_most := in_l qxX6_most_12
theorem qxX6_most_14 : ∀ w ∈ (wsX6_most_r3 ++ (wsX6_most_r4 ++ (wsX6_most_r5 ++ (wsX6_most_r6 ++ (wsX6_most_r7 ++ (wsX6_most_r8 ++ wsX6_most_r9)))))), w ∈ wsX6_most := in_r qxX6_most_12
theorem qxX6_most_15 : ∀ w ∈ wsX6_most_r3, w ∈ wsX6_most := in_l qxX6_most_14
theorem qxX6_most_16 : ∀ w ∈ (wsX6_most_r4 ++ (wsX6_most_r5 ++ (wsX6_most_r6 ++ (wsX6_most_r7 ++ (wsX6_most_r8 ++ wsX6_most_r9))))), w ∈ wsX6_most := in_r qxX6_most_14
theorem qxX6_most_17 : ∀ w ∈ wsX6_most_r4, w ∈ wsX6_most := in_l qxX6_most_16
theorem qxX6_most_18 : ∀ w ∈ (wsX6_most_r5 ++ (wsX6_most_r6 ++ (wsX6_most_r7 ++ (wsX6_most_r8 ++ wsX6_most_r9)))), w ∈ wsX6_most := in_r qxX6_most_16
theorem qxX6_most_19 : ∀ w ∈ wsX6_most_r5, w ∈ wsX6_most := in_l qxX6_most_18
theorem qxX6_most_20 : ∀ w ∈ (wsX6_most_r6 ++ (wsX6_most_r7 ++ (wsX6_most_r8 ++ wsX6_most_r9))), w ∈ wsX6_most := in_r qxX6_most_18
theorem qxX6_most_21 : ∀ w ∈ wsX6_most_r6, w ∈ wsX6_most := in_l qxX6_most_20
theorem qxX6_most_22 : ∀ w ∈ (wsX6_most_r7 ++ (wsX6_most_r8 ++ wsX6_most_r9)), w ∈ wsX6_most := in_r qxX6_most_20
theorem qxX6_most_23 : ∀ w ∈ wsX6_most_r7, w ∈ wsX6_most := in_l qxX6_most_22
theorem qxX6_most_24 : ∀ w ∈ (wsX6_most_r8 ++ wsX6_most_r9), w ∈ wsX6_most := in_r qxX6_most_22
theorem qxX6_most_25 : ∀ w ∈ wsX6_most_r8, w ∈ wsX6_most := in_l qxX6_most_24
theorem qxX6_most_26 : ∀ w ∈ wsX6_most_r9, w ∈ wsX6_most := in_r qxX6_most_24
def pxX6_most : List (List Cond) := [wsX6_most_r1, wsX6_most_r2, wsX6_most_r3, wsX6_most_r4, wsX6_most_r5, wsX6_most_r6, wsX6_most_r7, wsX6_most_r8, wsX6_most_r9, wsX60, wsX30, wsX20, wsX10, wsX00]
theorem pxX6_most_in : ∀ q ∈ pxX6_most, ∀ w ∈ q, w ∈ wsX6_most := lp_c qxX6_most_11 (lp_c qxX6_most_13 (lp_c qxX6_most_15 (lp_c qxX6_most_17 (lp_c qxX6_most_19 (lp_c qxX6_most_21 (lp_c qxX6_most_23 (lp_c qxX6_most_25 (lp_c qxX6_most_26 (lp_c qxX6_most_10 (lp_c qxX6_most_8 (lp_c qxX6_most_6 (lp_c qxX6_most_4 (lp_c qxX6_most_2 (lp_n))))))))))))))
set_option maxRecDepth 20000 in
theorem ggX6_most_X3_copy : GoodIn wsX6_most wsX3_copy := goodIn_pp pxX6_most pxX6_most_in _ [(1, 1), (1, 2), (1, 3), (1, 4), (1, 5), (1, 6), (1, 7), (1, 8), (1, 9), (1, 10), (1, 11), (1, 12), (1, 13), (1, 14), (1, 15), (1, 16), (1, 17), (1, 18), (1, 19), (1, 20), (1, 21), (1, 22), (1, 23), (2, 0), (2, 1), (2, 2), (2, 3), (2, 4), (2, 5), (2, 6), (2, 7), (2, 8), (2, 9), (2, 10), (2, 11), (2, 12), (2, 13), (2, 14), (2, 15), (2, 16), (2, 17), (2, 18), (2, 19), (2, 20), (2, 21), (2, 22), (2, 23), (3, 0), (3, 1), (3, 2), (3, 3), (3, 4), (3, 5), (3, 6), (3, 7), (3, 8), (3, 9), (10, 0), (10, 1), (10, 2), (10, 3), (10, 4), (10, 5), (10, 6), (10, 7), (10, 8), (10, 9), (10, 10), (11, 0), (11, 1), (11, 2), (11, 3), (11, 4), (11, 5), (11, 6), (11, 7), (11, 8), (11, 9), (12, 0), (12, 1), (12, 2), (12, 3), (12, 4), (12, 5), (12, 6), (13, 0), (13, 1), (13, 2), (13, 3), (13, 4), (13, 5), (13, 6), (13, 7)] rfl (by decide +kernel)
set_option maxRecDepth 20000 in
theorem gX6_most_X3_copy : GoodIn wsX6_most (wsV RX6 270 RX3 yX3_copy wsX3_copy) := goodIn_app (goodIn_of _ (by decide +kernel)) ggX6_most_X3_copy
set_option maxRecDepth 20000 in
theorem ggX6_most_X3_crowd : GoodIn wsX6_most wsX3_crowd := goodIn_pp pxX6_most pxX6_most_in _ [(3, 13), (1, 3), (1, 10), (3, 14), (3, 15), (3, 16), (1, 0), (3, 17), (1, 12), (3, 18), (3, 19), (3, 20), (1, 20), (3, 21), (2, 4), (10, 0), (10, 1), (10, 2), (10, 3), (10, 4), (10, 5), (10, 6), (10, 7), (10, 8), (10, 9), (10, 10), (11, 0), (11, 1), (11, 2), (11, 3), (11, 4), (11, 5), (11, 6), (11, 7), (11, 8), (11, 9)] rfl (by decide +kernel)
set_option maxRecDepth 20000 in
theorem gX6_most_X3_crowd : GoodIn wsX6_most (wsV RX6 295 RX3 yX3_crowd wsX3_crowd) := goodIn_app (goodIn_of _ (by decide +kernel)) ggX6_most_X3_crowd
set_option maxRecDepth 20000 in
theorem ggX6_most_X3_step : GoodIn wsX6_most wsX3_step := goodIn_pp pxX6_most pxX6_most_in _ [(4, 1), (1, 2), (1, 3), (1, 5), (1, 7), (1, 10), (4, 2), (4, 3), (4, 4), (1, 0), (4, 5), (4, 6), (1, 12), (4, 7), (4, 8), (4, 9), (4, 10), (4, 11), (4, 12), (2, 12), (4, 13), (2, 16), (4, 14), (0, 9), (4, 15), (4, 16), (4, 17), (4, 18), (4, 19), (4, 20), (1, 8), (4, 21), (4, 22), (4, 23), (5, 0), (5, 1), (1, 20), (5, 2), (2, 4), (2, 6), (2, 7), (5, 3), (5, 4), (5, 5), (5, 6), (1, 11), (5, 7), (5, 8), (5, 9), (5, 10), (5, 11), (5, 12), (3, 0), (5, 13), (3, 2), (3, 3), (5, 14), (5, 15), (5, 16), (5, 17), (5, 18), (5, 19), (5, 20), (5, 21), (5, 22), (5, 23), (3, 4), (6, 0), (6, 1), (6, 2), (6, 3), (6, 4), (6, 5), (6, 6), (6, 7), (6, 8), (6, 9), (6, 10), (6, 11), (6, 12), (6, 13), (6, 14), (6, 15), (6, 16), (6, 17), (6, 18), (6, 19), (6, 20), (6, 21), (6, 22), (2, 14), (6, 23), (7, 0), (7, 1), (7, 2), (7, 3), (1, 6), (7, 4), (7, 5), (7, 6), (7, 7), (7, 8), (7, 9), (7, 10), (7, 11), (1, 9), (7, 12), (7, 13), (7, 14), (7, 15), (7, 16), (7, 17), (0, 4), (7, 18), (7, 19), (0, 3), (0, 5), (7, 20), (7, 21), (7, 22), (7, 23), (8, 0), (1, 4), (8, 1), (8, 2), (8, 3), (8, 4), (1, 23), (2, 8), (8, 5), (8, 6), (8, 7), (10, 0), (10, 1), (10, 2), (10, 3), (10, 4), (10, 5), (10, 6), (10, 7), (10, 8), (10, 9), (10, 10), (11, 0), (11, 1), (11, 2), (11, 3), (11, 4), (11, 5), (11, 6), (11, 7), (11, 8), (11, 9), (12, 0), (12, 1), (12, 2), (12, 3), (12, 4), (12, 5), (12, 6), (13, 0), (13, 1), (13, 2), (13, 3), (13, 4), (13, 5), (13, 6), (13, 7)] rfl (by decide +kernel)
set_option maxRecDepth 20000 in
theorem gX6_most_X3_step : GoodIn wsX6_most (wsV RX6 233 RX3 yX3_step wsX3_step) := goodIn_app (goodIn_of _ (by decide +kernel)) ggX6_most_X3_step
theorem dX6_most_0 : decode cX6_most 0 = .ok (.aload_n 0, 1) := by decide +kernel
theorem dX6_most_1 : decode cX6_most 1 = .ok (.iload_n 1, 1) := by decide +kernel
theorem dX6_most_2 : decode cX6_most 2 = .ok (.invokevirtual 211, 3) := by decide +kernel
theorem dX6_most_5 : decode cX6_most 5 = .ok (.ifCond .eq 32, 3) := by decide +kernel
theorem dX6_most_8 : decode cX6_most 8 = .ok (.aload_n 0, 1) := by decide +kernel
theorem dX6_most_9 : decode cX6_most 9 = .ok (.iload_n 2, 1) := by decide +kernel
theorem dX6_most_10 : decode cX6_most 10 = .ok (.invokevirtual 135, 3) := by decide +kernel
theorem dX6_most_13 : decode cX6_most 13 = .ok (.ifCond .eq 24, 3) := by decide +kernel
theorem dX6_most_16 : decode cX6_most 16 = .ok (.iload_n 3, 1) := by decide +kernel
theorem dX6_most_17 : decode cX6_most 17 = .ok (.iconst 0, 1) := by decide +kernel
theorem dX6_most_18 : decode cX6_most 18 = .ok (.iconst 3, 1) := by decide +kernel
theorem dX6_most_19 : decode cX6_most 19 = .ok (.invokestatic 55, 3) := by decide +kernel
theorem dX6_most_22 : decode cX6_most 22 = .ok (.ifCond .ne 15, 3) := by decide +kernel
theorem dX6_most_25 : decode cX6_most 25 = .ok (.iload 4, 2) := by decide +kernel
theorem dX6_most_27 : decode cX6_most 27 = .ok (.iconst 0, 1) := by decide +kernel
theorem dX6_most_28 : decode cX6_most 28 = .ok (.sipush 200, 3) := by decide +kernel
theorem dX6_most_31 : decode cX6_most 31 = .ok (.invokestatic 55, 3) := by decide +kernel
theorem dX6_most_34 : decode cX6_most 34 = .ok (.ifCond .eq 5, 3) := by decide +kernel
theorem dX6_most_37 : decode cX6_most 37 = .ok (.iconst (-1), 1) := by decide +kernel
theorem dX6_most_38 : decode cX6_most 38 = .ok (.ireturn, 1) := by decide +kernel
theorem dX6_most_39 : decode cX6_most 39 = .ok (.iload_n 3, 1) := by decide +kernel
theorem dX6_most_40 : decode cX6_most 40 = .ok (.iconst 2, 1) := by decide +kernel
theorem dX6_most_41 : decode cX6_most 41 = .ok (.if_icmp .lt 9, 3) := by decide +kernel
theorem dX6_most_44 : decode cX6_most 44 = .ok (.iload_n 1, 1) := by decide +kernel
theorem dX6_most_45 : decode cX6_most 45 = .ok (.ifCond .ne 5, 3) := by decide +kernel
theorem dX6_most_48 : decode cX6_most 48 = .ok (.iconst (-1), 1) := by decide +kernel
theorem dX6_most_49 : decode cX6_most 49 = .ok (.ireturn, 1) := by decide +kernel
theorem dX6_most_50 : decode cX6_most 50 = .ok (.aload_n 0, 1) := by decide +kernel
theorem dX6_most_51 : decode cX6_most 51 = .ok (.getfield 30, 3) := by decide +kernel
theorem dX6_most_54 : decode cX6_most 54 = .ok (.aload_n 0, 1) := by decide +kernel
theorem dX6_most_55 : decode cX6_most 55 = .ok (.getfield 26, 3) := by decide +kernel
theorem dX6_most_58 : decode cX6_most 58 = .ok (.invokevirtual 270, 3) := by decide +kernel
theorem dX6_most_61 : decode cX6_most 61 = .ok (.aload_n 0, 1) := by decide +kernel
theorem dX6_most_62 : decode cX6_most 62 = .ok (.getfield 30, 3) := by decide +kernel
theorem dX6_most_65 : decode cX6_most 65 = .ok (.iload_n 1, 1) := by decide +kernel
theorem dX6_most_66 : decode cX6_most 66 = .ok (.iload_n 2, 1) := by decide +kernel
theorem dX6_most_67 : decode cX6_most 67 = .ok (.iload_n 3, 1) := by decide +kernel
theorem dX6_most_68 : decode cX6_most 68 = .ok (.invokevirtual 295, 3) := by decide +kernel
theorem dX6_most_71 : decode cX6_most 71 = .ok (.istore 5, 2) := by decide +kernel
theorem dX6_most_73 : decode cX6_most 73 = .ok (.iconst 0, 1) := by decide +kernel
theorem dX6_most_74 : decode cX6_most 74 = .ok (.istore 6, 2) := by decide +kernel
theorem dX6_most_76 : decode cX6_most 76 = .ok (.iload 6, 2) := by decide +kernel
theorem dX6_most_78 : decode cX6_most 78 = .ok (.iload 4, 2) := by decide +kernel
theorem dX6_most_80 : decode cX6_most 80 = .ok (.if_icmp .ge 33, 3) := by decide +kernel
theorem dX6_most_83 : decode cX6_most 83 = .ok (.aload_n 0, 1) := by decide +kernel
theorem dX6_most_84 : decode cX6_most 84 = .ok (.getfield 30, 3) := by decide +kernel
theorem dX6_most_87 : decode cX6_most 87 = .ok (.invokevirtual 233, 3) := by decide +kernel
theorem dX6_most_90 : decode cX6_most 90 = .ok (.iload 5, 2) := by decide +kernel
theorem dX6_most_92 : decode cX6_most 92 = .ok (.aload_n 0, 1) := by decide +kernel
theorem dX6_most_93 : decode cX6_most 93 = .ok (.getfield 30, 3) := by decide +kernel
theorem dX6_most_96 : decode cX6_most 96 = .ok (.iload_n 1, 1) := by decide +kernel
theorem dX6_most_97 : decode cX6_most 97 = .ok (.iload_n 2, 1) := by decide +kernel
theorem dX6_most_98 : decode cX6_most 98 = .ok (.iload_n 3, 1) := by decide +kernel
theorem dX6_most_99 : decode cX6_most 99 = .ok (.invokevirtual 295, 3) := by decide +kernel
theorem dX6_most_102 : decode cX6_most 102 = .ok (.invokestatic 258, 3) := by decide +kernel
theorem dX6_most_105 : decode cX6_most 105 = .ok (.istore 5, 2) := by decide +kernel
theorem dX6_most_107 : decode cX6_most 107 = .ok (.iinc 6 1, 3) := by decide +kernel
theorem dX6_most_110 : decode cX6_most 110 = .ok (.goto (-34), 3) := by decide +kernel
theorem dX6_most_113 : decode cX6_most 113 = .ok (.iload 5, 2) := by decide +kernel
theorem dX6_most_115 : decode cX6_most 115 = .ok (.ireturn, 1) := by decide +kernel
theorem qxX6_healed_0 : ∀ w ∈ ((((((wsX6_healed_r1 ++ (wsX6_healed_r2 ++ (wsX6_healed_r3 ++ (wsX6_healed_r4 ++ wsX6_healed_r5)))) ++ wsX60) ++ wsX30) ++ wsX20) ++ wsX10) ++ wsX00), w ∈ wsX6_healed := fun w h => List.mem_cons_of_mem _ h
theorem qxX6_healed_1 : ∀ w ∈ (((((wsX6_healed_r1 ++ (wsX6_healed_r2 ++ (wsX6_healed_r3 ++ (wsX6_healed_r4 ++ wsX6_healed_r5)))) ++ wsX60) ++ wsX30) ++ wsX20) ++ wsX10), w ∈ wsX6_healed := in_l qxX6_healed_0
theorem qxX6_healed_2 : ∀ w ∈ wsX00, w ∈ wsX6_healed := in_r qxX6_healed_0
theorem qxX6_healed_3 : ∀ w ∈ ((((wsX6_healed_r1 ++ (wsX6_healed_r2 ++ (wsX6_healed_r3 ++ (wsX6_healed_r4 ++ wsX6_healed_r5)))) ++ wsX60) ++ wsX30) ++ wsX20), w ∈ wsX6_healed := in_l qxX6_healed_1
theorem qxX6_healed_4 : ∀ w ∈ wsX10, w ∈ wsX6_healed := in_r qxX6_healed_1
theorem qxX6_healed_5 : ∀ w ∈ (((wsX6_healed_r1 ++ (wsX6_healed_r2 ++ (wsX6_healed_r3 ++ (wsX6_healed_r4 ++ wsX6_healed_r5)))) ++ wsX60) ++ wsX30), w ∈ wsX6_healed := in_l qxX6_healed_3
theorem qxX6_healed_6 : ∀ w ∈ wsX20, w ∈ wsX6_healed := in_r qxX6_healed_3
theorem qxX6_healed_7 : ∀ w ∈ ((wsX6_healed_r1 ++ (wsX6_healed_r2 ++ (wsX6_healed_r3 ++ (wsX6_healed_r4 ++ wsX6_healed_r5)))) ++ wsX60), w ∈ wsX6_healed := in_l qxX6_healed_5
theorem qxX6_healed_8 : ∀ w ∈ wsX30, w ∈ wsX6_healed := in_r qxX6_healed_5
theorem qxX6_healed_9 : ∀ w ∈ (wsX6_healed_r1 ++ (wsX6_healed_r2 ++ (wsX6_healed_r3 ++ (wsX6_healed_r4 ++ wsX6_healed_r5)))), w ∈ wsX6_healed := in_l qxX6_healed_7
theorem qxX6_healed_10 : ∀ w ∈ wsX60, w ∈ wsX6_healed := in_r qxX6_healed_7
theorem qxX6_healed_11 : ∀ w ∈ wsX6_healed_r1, w ∈ wsX6_healed := in_l qxX6_healed_9
theorem qxX6_healed_12 : ∀ w ∈ (wsX6_healed_r2 ++ (wsX6_healed_r3 ++ (wsX6_healed_r4 ++ wsX6_healed_r5))), w ∈ wsX6_healed := in_r qxX6_healed_9
theorem qxX6_healed_13 : ∀ w ∈ wsX6_healed_r2, w ∈ wsX6_healed := in_l qxX6_healed_12
theorem qxX6_healed_14 : ∀ w ∈ (wsX6_healed_r3 ++ (wsX6_healed_r4 ++ wsX6_healed_r5)), w ∈ wsX6_healed := in_r qxX6_healed_12
theorem qxX6_healed_15 : ∀ w ∈ wsX6_healed_r3, w ∈ wsX6_healed := in_l qxX6_healed_14
theorem qxX6_healed_16 : ∀ w ∈ (wsX6_healed_r4 ++ wsX6_healed_r5), w ∈ wsX6_healed := in_r qxX6_healed_14
theorem qxX6_healed_17 : ∀ w ∈ wsX6_healed_r4, w ∈ wsX6_healed := in_l qxX6_healed_16
theorem qxX6_healed_18 : ∀ w ∈ wsX6_healed_r5, w ∈ wsX6_healed := in_r qxX6_healed_16
def pxX6_healed : List (List Cond) := [wsX6_healed_r1, wsX6_healed_r2, wsX6_healed_r3, wsX6_healed_r4, wsX6_healed_r5, wsX60, wsX30, wsX20, wsX10, wsX00]
theorem pxX6_healed_in : ∀ q ∈ pxX6_healed, ∀ w ∈ q, w ∈ wsX6_healed := lp_c qxX6_healed_11 (lp_c qxX6_healed_13 (lp_c qxX6_healed_15 (lp_c qxX6_healed_17 (lp_c qxX6_healed_18 (lp_c qxX6_healed_10 (lp_c qxX6_healed_8 (lp_c qxX6_healed_6 (lp_c qxX6_healed_4 (lp_c qxX6_healed_2 (lp_n))))))))))
set_option maxRecDepth 20000 in
theorem ggX6_healed_X3_copy : GoodIn wsX6_healed wsX3_copy := goodIn_pp pxX6_healed pxX6_healed_in _ [(0, 7), (0, 8), (0, 9), (0, 10), (0, 11), (0, 12), (0, 13), (0, 14), (0, 15), (0, 16), (0, 17), (0, 18), (0, 19), (0, 20), (0, 21), (0, 22), (0, 23), (1, 0), (1, 1), (1, 2), (1, 3), (1, 4), (1, 5), (1, 6), (1, 7), (1, 8), (1, 9), (1, 10), (1, 11), (1, 12), (1, 13), (1, 14), (1, 15), (1, 16), (1, 17), (1, 18), (1, 19), (1, 20), (1, 21), (1, 22), (1, 23), (2, 0), (2, 1), (2, 2), (2, 3), (2, 4), (2, 5), (2, 6), (2, 7), (2, 8), (2, 9), (2, 10), (2, 11), (2, 12), (2, 13), (2, 14), (2, 15), (6, 0), (6, 1), (6, 2), (6, 3), (6, 4), (6, 5), (6, 6), (6, 7), (6, 8), (6, 9), (6, 10), (7, 0), (7, 1), (7, 2), (7, 3), (7, 4), (7, 5), (7, 6), (7, 7), (7, 8), (7, 9), (8, 0), (8, 1), (8, 2), (8, 3), (8, 4), (8, 5), (8, 6), (9, 0), (9, 1), (9, 2), (9, 3), (9, 4), (9, 5), (9, 6), (9, 7)] rfl (by decide +kernel)
set_option maxRecDepth 20000 in
theorem gX6_healed_X3_copy : GoodIn wsX6_healed (wsV RX6 270 RX3 yX3_copy wsX3_copy) := goodIn_app (goodIn_of _ (by decide +kernel)) ggX6_healed_X3_copy
set_option maxRecDepth 20000 in
theorem ggX6_healed_X3_unknown : GoodIn wsX6_healed wsX3_unknown := goodIn_pp pxX6_healed pxX6_healed_in _ [(2, 19), (0, 8), (0, 9), (0, 16), (2, 20), (2, 21), (2, 22), (6, 0), (6, 1), (6, 2), (6, 3), (6, 4), (6, 5), (6, 6), (6, 7), (6, 8), (6, 9), (6, 10), (7, 0), (7, 1), (7, 2), (7, 3), (7, 4), (7, 5), (7, 6), (7, 7), (7, 8), (7, 9), (8, 0), (8, 1), (8, 2), (8, 3), (8, 4), (8, 5), (8, 6)] rfl (by decide +kernel)
set_option maxRecDepth 20000 in
theorem gX6_healed_X3_unknown : GoodIn wsX6_healed (wsV RX6 298 RX3 yX3_unknown wsX3_unknown) := goodIn_app (goodIn_of _ (by decide +kernel)) ggX6_healed_X3_unknown
set_option maxRecDepth 20000 in
theorem ggX6_healed_X3_restingStep : GoodIn wsX6_healed wsX3_restingStep := goodIn_pp pxX6_healed pxX6_healed_in _ [(3, 2), (0, 8), (0, 13), (3, 3), (3, 4), (3, 5), (0, 6), (3, 6), (0, 16), (3, 7), (0, 18), (0, 9), (3, 8), (2, 20), (3, 9), (3, 10), (3, 11), (3, 12), (1, 18), (3, 13), (1, 22), (3, 14), (3, 15), (3, 16), (3, 17), (3, 18), (3, 19), (3, 20), (3, 21), (0, 14), (3, 22), (2, 22), (3, 23), (4, 0), (4, 1), (1, 2), (4, 2), (1, 10), (1, 12), (1, 13), (4, 3), (4, 4), (4, 5), (4, 6), (4, 7), (0, 12), (4, 8), (4, 9), (4, 10), (4, 11), (4, 12), (4, 13), (4, 14), (4, 15), (4, 16), (1, 20), (4, 17), (4, 18), (4, 19), (4, 20), (0, 15), (6, 0), (6, 1), (6, 2), (6, 3), (6, 4), (6, 5), (6, 6), (6, 7), (6, 8), (6, 9), (6, 10), (7, 0), (7, 1), (7, 2), (7, 3), (7, 4), (7, 5), (7, 6), (7, 7), (7, 8), (7, 9), (8, 0), (8, 1), (8, 2), (8, 3), (8, 4), (8, 5), (8, 6)] rfl (by decide +kernel)
set_option maxRecDepth 20000 in
theorem gX6_healed_X3_restingStep : GoodIn wsX6_healed (wsV RX6 301 RX3 yX3_restingStep wsX3_restingStep) := goodIn_app (goodIn_of _ (by decide +kernel)) ggX6_healed_X3_restingStep
theorem dX6_healed_0 : decode cX6_healed 0 = .ok (.aload_n 0, 1) := by decide +kernel
theorem dX6_healed_1 : decode cX6_healed 1 = .ok (.getfield 70, 3) := by decide +kernel
theorem dX6_healed_4 : decode cX6_healed 4 = .ok (.ifCond .ne 5, 3) := by decide +kernel
theorem dX6_healed_7 : decode cX6_healed 7 = .ok (.iconst (-1), 1) := by decide +kernel
theorem dX6_healed_8 : decode cX6_healed 8 = .ok (.ireturn, 1) := by decide +kernel
theorem dX6_healed_9 : decode cX6_healed 9 = .ok (.aload_n 0, 1) := by decide +kernel
theorem dX6_healed_10 : decode cX6_healed 10 = .ok (.getfield 30, 3) := by decide +kernel
theorem dX6_healed_13 : decode cX6_healed 13 = .ok (.aload_n 0, 1) := by decide +kernel
theorem dX6_healed_14 : decode cX6_healed 14 = .ok (.getfield 26, 3) := by decide +kernel
theorem dX6_healed_17 : decode cX6_healed 17 = .ok (.invokevirtual 270, 3) := by decide +kernel
theorem dX6_healed_20 : decode cX6_healed 20 = .ok (.iconst 0, 1) := by decide +kernel
theorem dX6_healed_21 : decode cX6_healed 21 = .ok (.istore_n 1, 1) := by decide +kernel
theorem dX6_healed_22 : decode cX6_healed 22 = .ok (.iload_n 1, 1) := by decide +kernel
theorem dX6_healed_23 : decode cX6_healed 23 = .ok (.sipush 200, 3) := by decide +kernel
theorem dX6_healed_26 : decode cX6_healed 26 = .ok (.if_icmp .ge 28, 3) := by decide +kernel
theorem dX6_healed_29 : decode cX6_healed 29 = .ok (.aload_n 0, 1) := by decide +kernel
theorem dX6_healed_30 : decode cX6_healed 30 = .ok (.getfield 30, 3) := by decide +kernel
theorem dX6_healed_33 : decode cX6_healed 33 = .ok (.invokevirtual 298, 3) := by decide +kernel
theorem dX6_healed_36 : decode cX6_healed 36 = .ok (.ifCond .ne 5, 3) := by decide +kernel
theorem dX6_healed_39 : decode cX6_healed 39 = .ok (.iload_n 1, 1) := by decide +kernel
theorem dX6_healed_40 : decode cX6_healed 40 = .ok (.ireturn, 1) := by decide +kernel
theorem dX6_healed_41 : decode cX6_healed 41 = .ok (.aload_n 0, 1) := by decide +kernel
theorem dX6_healed_42 : decode cX6_healed 42 = .ok (.getfield 30, 3) := by decide +kernel
theorem dX6_healed_45 : decode cX6_healed 45 = .ok (.invokevirtual 301, 3) := by decide +kernel
theorem dX6_healed_48 : decode cX6_healed 48 = .ok (.iinc 1 1, 3) := by decide +kernel
theorem dX6_healed_51 : decode cX6_healed 51 = .ok (.goto (-29), 3) := by decide +kernel
theorem dX6_healed_54 : decode cX6_healed 54 = .ok (.aload_n 0, 1) := by decide +kernel
theorem dX6_healed_55 : decode cX6_healed 55 = .ok (.getfield 30, 3) := by decide +kernel
theorem dX6_healed_58 : decode cX6_healed 58 = .ok (.invokevirtual 298, 3) := by decide +kernel
theorem dX6_healed_61 : decode cX6_healed 61 = .ok (.ifCond .ne 9, 3) := by decide +kernel
theorem dX6_healed_64 : decode cX6_healed 64 = .ok (.sipush 200, 3) := by decide +kernel
theorem dX6_healed_67 : decode cX6_healed 67 = .ok (.goto 4, 3) := by decide +kernel
theorem dX6_healed_70 : decode cX6_healed 70 = .ok (.iconst (-1), 1) := by decide +kernel
theorem dX6_healed_71 : decode cX6_healed 71 = .ok (.ireturn, 1) := by decide +kernel
set_option maxRecDepth 20000 in
theorem ggX6_loss_X6_outside : GoodIn wsX6_loss wsX6_outside := goodIn_r _ [6] (by decide +kernel) (by decide +kernel)
set_option maxRecDepth 20000 in
theorem gX6_loss_X6_outside : GoodIn wsX6_loss (va_wsS RX6 55 yX6_outside wsX6_outside) := goodIn_app (goodIn_of _ (by decide +kernel)) ggX6_loss_X6_outside
theorem qxX6_loss_0 : ∀ w ∈ ((((((wsX6_loss_r1 ++ (wsX6_loss_r2 ++ (wsX6_loss_r3 ++ (wsX6_loss_r4 ++ (wsX6_loss_r5 ++ (wsX6_loss_r6 ++ (wsX6_loss_r7 ++ (wsX6_loss_r8 ++ wsX6_loss_r9)))))))) ++ wsX60) ++ wsX30) ++ wsX20) ++ wsX10) ++ wsX00), w ∈ wsX6_loss := fun w h => List.mem_cons_of_mem _ h
theorem qxX6_loss_1 : ∀ w ∈ (((((wsX6_loss_r1 ++ (wsX6_loss_r2 ++ (wsX6_loss_r3 ++ (wsX6_loss_r4 ++ (wsX6_loss_r5 ++ (wsX6_loss_r6 ++ (wsX6_loss_r7 ++ (wsX6_loss_r8 ++ wsX6_loss_r9)))))))) ++ wsX60) ++ wsX30) ++ wsX20) ++ wsX10), w ∈ wsX6_loss := in_l qxX6_loss_0
theorem qxX6_loss_2 : ∀ w ∈ wsX00, w ∈ wsX6_loss := in_r qxX6_loss_0
theorem qxX6_loss_3 : ∀ w ∈ ((((wsX6_loss_r1 ++ (wsX6_loss_r2 ++ (wsX6_loss_r3 ++ (wsX6_loss_r4 ++ (wsX6_loss_r5 ++ (wsX6_loss_r6 ++ (wsX6_loss_r7 ++ (wsX6_loss_r8 ++ wsX6_loss_r9)))))))) ++ wsX60) ++ wsX30) ++ wsX20), w ∈ wsX6_loss := in_l qxX6_loss_1
theorem qxX6_loss_4 : ∀ w ∈ wsX10, w ∈ wsX6_loss := in_r qxX6_loss_1
theorem qxX6_loss_5 : ∀ w ∈ (((wsX6_loss_r1 ++ (wsX6_loss_r2 ++ (wsX6_loss_r3 ++ (wsX6_loss_r4 ++ (wsX6_loss_r5 ++ (wsX6_loss_r6 ++ (wsX6_loss_r7 ++ (wsX6_loss_r8 ++ wsX6_loss_r9)))))))) ++ wsX60) ++ wsX30), w ∈ wsX6_loss := in_l qxX6_loss_3
theorem qxX6_loss_6 : ∀ w ∈ wsX20, w ∈ wsX6_loss := in_r qxX6_loss_3
theorem qxX6_loss_7 : ∀ w ∈ ((wsX6_loss_r1 ++ (wsX6_loss_r2 ++ (wsX6_loss_r3 ++ (wsX6_loss_r4 ++ (wsX6_loss_r5 ++ (wsX6_loss_r6 ++ (wsX6_loss_r7 ++ (wsX6_loss_r8 ++ wsX6_loss_r9)))))))) ++ wsX60), w ∈ wsX6_loss := in_l qxX6_loss_5
theorem qxX6_loss_8 : ∀ w ∈ wsX30, w ∈ wsX6_loss := in_r qxX6_loss_5
theorem qxX6_loss_9 : ∀ w ∈ (wsX6_loss_r1 ++ (wsX6_loss_r2 ++ (wsX6_loss_r3 ++ (wsX6_loss_r4 ++ (wsX6_loss_r5 ++ (wsX6_loss_r6 ++ (wsX6_loss_r7 ++ (wsX6_loss_r8 ++ wsX6_loss_r9)))))))), w ∈ wsX6_loss := in_l qxX6_loss_7
theorem qxX6_loss_10 : ∀ w ∈ wsX60, w ∈ wsX6_loss := in_r qxX6_loss_7
theorem qxX6_loss_11 : ∀ w ∈ wsX6_loss_r1, w ∈ wsX6_loss := in_l qxX6_loss_9
theorem qxX6_loss_12 : ∀ w ∈ (wsX6_loss_r2 ++ (wsX6_loss_r3 ++ (wsX6_loss_r4 ++ (wsX6_loss_r5 ++ (wsX6_loss_r6 ++ (wsX6_loss_r7 ++ (wsX6_loss_r8 ++ wsX6_loss_r9))))))), w ∈ wsX6_loss := in_r qxX6_loss_9
theorem qxX6_loss_13 : ∀ w ∈ wsX6_loss_r2, w ∈ wsX6_loss := in_l qxX6_loss_12
theorem qxX6_loss_14 : ∀ w ∈ (wsX6_loss_r3 ++ (wsX6_loss_r4 ++ (wsX6_loss_r5 ++ (wsX6_loss_r6 ++ (wsX6_loss_r7 ++ (wsX6_loss_r8 ++ wsX6_loss_r9)))))), w ∈ wsX6_loss := in_r qxX6_loss_12
theorem qxX6_loss_15 : ∀ w ∈ wsX6_loss_r3, w ∈ wsX6_loss := in_l qxX6_loss_14
theorem qxX6_loss_16 : ∀ w ∈ (wsX6_loss_r4 ++ (wsX6_loss_r5 ++ (wsX6_loss_r6 ++ (wsX6_loss_r7 ++ (wsX6_loss_r8 ++ wsX6_loss_r9))))), w ∈ wsX6_loss := in_r qxX6_loss_14
theorem qxX6_loss_17 : ∀ w ∈ wsX6_loss_r4, w ∈ wsX6_loss := in_l qxX6_loss_16
theorem qxX6_loss_18 : ∀ w ∈ (wsX6_loss_r5 ++ (wsX6_loss_r6 ++ (wsX6_loss_r7 ++ (wsX6_loss_r8 ++ wsX6_loss_r9)))), w ∈ wsX6_loss := in_r qxX6_loss_16
theorem qxX6_loss_19 : ∀ w ∈ wsX6_loss_r5, w ∈ wsX6_loss := in_l qxX6_loss_18
theorem qxX6_loss_20 : ∀ w ∈ (wsX6_loss_r6 ++ (wsX6_loss_r7 ++ (wsX6_loss_r8 ++ wsX6_loss_r9))), w ∈ wsX6_loss := in_r qxX6_loss_18
theorem qxX6_loss_21 : ∀ w ∈ wsX6_loss_r6, w ∈ wsX6_loss := in_l qxX6_loss_20
theorem qxX6_loss_22 : ∀ w ∈ (wsX6_loss_r7 ++ (wsX6_loss_r8 ++ wsX6_loss_r9)), w ∈ wsX6_loss := in_r qxX6_loss_20
theorem qxX6_loss_23 : ∀ w ∈ wsX6_loss_r7, w ∈ wsX6_loss := in_l qxX6_loss_22
theorem qxX6_loss_24 : ∀ w ∈ (wsX6_loss_r8 ++ wsX6_loss_r9), w ∈ wsX6_loss := in_r qxX6_loss_22
theorem qxX6_loss_25 : ∀ w ∈ wsX6_loss_r8, w ∈ wsX6_loss := in_l qxX6_loss_24
theorem qxX6_loss_26 : ∀ w ∈ wsX6_loss_r9, w ∈ wsX6_loss := in_r qxX6_loss_24
def pxX6_loss : List (List Cond) := [wsX6_loss_r1, wsX6_loss_r2, wsX6_loss_r3, wsX6_loss_r4, wsX6_loss_r5, wsX6_loss_r6, wsX6_loss_r7, wsX6_loss_r8, wsX6_loss_r9, wsX60, wsX30, wsX20, wsX10, wsX00]
theorem pxX6_loss_in : ∀ q ∈ pxX6_loss, ∀ w ∈ q, w ∈ wsX6_loss := lp_c qxX6_loss_11 (lp_c qxX6_loss_13 (lp_c qxX6_loss_15 (lp_c qxX6_loss_17 (lp_c qxX6_loss_19 (lp_c qxX6_loss_21 (lp_c qxX6_loss_23 (lp_c qxX6_loss_25 (lp_c qxX6_loss_26 (lp_c qxX6_loss_10 (lp_c qxX6_loss_8 (lp_c qxX6_loss_6 (lp_c qxX6_loss_4 (lp_c qxX6_loss_2 (lp_n))))))))))))))
set_option maxRecDepth 20000 in
theorem ggX6_loss_X6_goApart : GoodIn wsX6_loss wsX6_goApart := goodIn_pp pxX6_loss pxX6_loss_in _ [(0, 9), (0, 10), (0, 11), (0, 12), (0, 13), (0, 14), (0, 15), (0, 16), (0, 17), (0, 18), (0, 19), (0, 20), (0, 21), (0, 22), (0, 23), (1, 0), (1, 1), (1, 2), (1, 3), (1, 4), (1, 5), (1, 6), (1, 7), (1, 8), (1, 9), (1, 10), (1, 11), (1, 12), (1, 13), (1, 14), (1, 15), (1, 16), (1, 17), (1, 18), (1, 19), (1, 20), (1, 21), (1, 22), (1, 23), (2, 0), (2, 1), (2, 2), (2, 3), (2, 4), (2, 5), (2, 6), (2, 7), (2, 8), (2, 9), (2, 10), (2, 11), (2, 12), (2, 13), (2, 14), (2, 15), (2, 16), (2, 17), (2, 18), (2, 19), (2, 20), (2, 21), (2, 22), (2, 23), (3, 0), (3, 1), (3, 2), (3, 3), (3, 4), (3, 5), (3, 6), (3, 7), (3, 8), (3, 9), (3, 10), (3, 11), (3, 12), (3, 13), (3, 14), (3, 15), (3, 16), (3, 17), (3, 18), (3, 19), (3, 20), (3, 21), (0, 4), (3, 22), (3, 23), (4, 0), (4, 1), (4, 2), (4, 3), (4, 4), (4, 5), (4, 6), (4, 7), (4, 8), (4, 9), (4, 10), (4, 11), (4, 12), (4, 13), (4, 14), (4, 15), (4, 16), (4, 17), (4, 18), (4, 19), (4, 20), (4, 21), (4, 22), (4, 23), (5, 0), (5, 1), (5, 2), (5, 3), (5, 4), (5, 5), (5, 6), (5, 7), (5, 8), (5, 9), (5, 10), (5, 11), (5, 12), (5, 13), (5, 14), (5, 15), (5, 16), (5, 17), (5, 18), (5, 19), (5, 20), (5, 21), (5, 22), (5, 23), (6, 0), (6, 1), (6, 2), (6, 3), (6, 4), (6, 5), (6, 6), (6, 7), (6, 8), (6, 9), (6, 10), (6, 11), (6, 12), (6, 13), (6, 14), (6, 15), (6, 16), (6, 17), (6, 18), (6, 19), (6, 20), (6, 21), (6, 22), (6, 23), (7, 0), (7, 1), (7, 2), (7, 3), (7, 4), (7, 5), (7, 6), (7, 7), (7, 8), (7, 9), (7, 10), (7, 11), (7, 12), (7, 13), (7, 14), (7, 15), (7, 16), (7, 17), (9, 0), (9, 1), (9, 2), (9, 3), (9, 4), (9, 5), (9, 6), (9, 7), (9, 8), (10, 0), (10, 1), (10, 2), (10, 3), (10, 4), (10, 5), (10, 6), (10, 7), (10, 8), (10, 9), (10, 10), (11, 0), (11, 1), (11, 2), (11, 3), (11, 4), (11, 5), (11, 6), (11, 7), (11, 8), (11, 9), (12, 0), (12, 1), (12, 2), (12, 3), (12, 4), (12, 5), (12, 6), (13, 0), (13, 1), (13, 2), (13, 3), (13, 4), (13, 5), (13, 6), (13, 7)] rfl (by decide +kernel)
set_option maxRecDepth 20000 in
theorem gX6_loss_X6_goApart : GoodIn wsX6_loss (wsV RX6 267 RX6 yX6_goApart wsX6_goApart) := goodIn_app (goodIn_of _ (by decide +kernel)) ggX6_loss_X6_goApart
set_option maxRecDepth 20000 in
theorem ggX6_loss_X6_deliveredApart : GoodIn wsX6_loss wsX6_deliveredApart := goodIn_pp pxX6_loss pxX6_loss_in _ [(7, 21), (0, 10), (0, 11), (7, 22), (7, 23), (8, 0), (0, 15), (8, 1), (0, 18), (1, 2), (5, 2), (9, 0), (9, 1), (9, 2), (9, 3), (9, 4), (9, 5), (9, 6), (9, 7), (9, 8), (10, 0), (10, 1), (10, 2), (10, 3), (10, 4), (10, 5), (10, 6), (10, 7), (10, 8), (10, 9), (10, 10), (13, 0), (13, 1), (13, 2), (13, 3), (13, 4), (13, 5), (13, 6), (13, 7)] rfl (by decide +kernel)
set_option maxRecDepth 20000 in
theorem gX6_loss_X6_deliveredApart : GoodIn wsX6_loss (wsV RX6 277 RX6 yX6_deliveredApart wsX6_deliveredApart) := goodIn_app (goodIn_of _ (by decide +kernel)) ggX6_loss_X6_deliveredApart
set_option maxRecDepth 20000 in
theorem ggX6_loss_X6_deliveredJammed : GoodIn wsX6_loss wsX6_deliveredJammed := goodIn_pp pxX6_loss pxX6_loss_in _ [(8, 5), (0, 10), (0, 11), (8, 6), (8, 7), (8, 8), (0, 12), (0, 13), (0, 14), (0, 15), (0, 16), (0, 17), (0, 18), (0, 19), (0, 20), (0, 21), (0, 22), (0, 23), (1, 0), (1, 1), (1, 2), (1, 3), (1, 4), (1, 5), (1, 6), (1, 7), (1, 8), (1, 9), (1, 10), (1, 11), (1, 12), (1, 13), (1, 14), (1, 15), (1, 16), (1, 17), (1, 18), (1, 19), (1, 20), (1, 21), (1, 22), (1, 23), (2, 0), (2, 1), (2, 2), (2, 3), (2, 4), (2, 5), (2, 6), (2, 7), (2, 8), (2, 9), (2, 10), (2, 11), (2, 12), (2, 13), (2, 14), (2, 15), (2, 16), (2, 17), (2, 18), (2, 19), (2, 20), (2, 21), (2, 22), (2, 23), (3, 0), (3, 1), (3, 2), (3, 3), (3, 4), (3, 5), (3, 6), (3, 7), (3, 8), (3, 9), (3, 10), (3, 11), (3, 12), (3, 13), (3, 14), (3, 15), (3, 16), (3, 17), (3, 18), (3, 19), (3, 20), (3, 21), (0, 4), (3, 22), (3, 23), (4, 0), (4, 1), (4, 2), (4, 3), (4, 4), (4, 5), (4, 6), (4, 7), (4, 8), (4, 9), (4, 10), (4, 11), (4, 12), (4, 13), (4, 14), (4, 15), (4, 16), (4, 17), (4, 18), (4, 19), (4, 20), (4, 21), (4, 22), (4, 23), (5, 0), (5, 1), (5, 2), (5, 3), (5, 4), (5, 5), (5, 6), (5, 7), (5, 8), (5, 9), (5, 10), (5, 11), (5, 12), (5, 13), (5, 14), (5, 15), (5, 16), (5, 17), (5, 18), (5, 19), (5, 20), (5, 21), (5, 22), (5, 23), (6, 0), (6, 1), (6, 2), (6, 3), (6, 4), (6, 5), (6, 6), (6, 7), (6, 8), (6, 9), (6, 10), (6, 11), (6, 12), (6, 13), (6, 14), (6, 15), (6, 16), (6, 17), (6, 18), (6, 19), (6, 20), (6, 21), (6, 22), (6, 23), (7, 0), (7, 1), (7, 2), (7, 3), (7, 4), (7, 5), (7, 6), (7, 7), (7, 8), (7, 9), (7, 10), (7, 11), (7, 12), (7, 13), (7, 14), (7, 15), (7, 16), (7, 17), (7, 18), (7, 19), (7, 20), (7, 21), (7, 22), (7, 23), (8, 0), (8, 1), (9, 0), (9, 1), (9, 2), (9, 3), (9, 4), (9, 5), (9, 6), (9, 7), (9, 8), (10, 0), (10, 1), (10, 2), (10, 3), (10, 4), (10, 5), (10, 6), (10, 7), (10, 8), (10, 9), (10, 10), (11, 0), (11, 1), (11, 2), (11, 3), (11, 4), (11, 5), (11, 6), (11, 7), (11, 8), (11, 9), (12, 0), (12, 1), (12, 2), (12, 3), (12, 4), (12, 5), (12, 6), (13, 0), (13, 1), (13, 2), (13, 3), (13, 4), (13, 5), (13, 6), (13, 7)] rfl (by decide +kernel)
set_option maxRecDepth 20000 in
theorem gX6_loss_X6_deliveredJammed : GoodIn wsX6_loss (wsV RX6 304 RX6 yX6_deliveredJammed wsX6_deliveredJammed) := goodIn_app (goodIn_of _ (by decide +kernel)) ggX6_loss_X6_deliveredJammed
theorem dX6_loss_0 : decode cX6_loss 0 = .ok (.aload_n 0, 1) := by decide +kernel
theorem dX6_loss_1 : decode cX6_loss 1 = .ok (.getfield 70, 3) := by decide +kernel
theorem dX6_loss_4 : decode cX6_loss 4 = .ok (.ifCond .eq 24, 3) := by decide +kernel
theorem dX6_loss_7 : decode cX6_loss 7 = .ok (.iload_n 1, 1) := by decide +kernel
theorem dX6_loss_8 : decode cX6_loss 8 = .ok (.iconst 1, 1) := by decide +kernel
theorem dX6_loss_9 : decode cX6_loss 9 = .ok (.bipush 9, 2) := by decide +kernel
theorem dX6_loss_11 : decode cX6_loss 11 = .ok (.invokestatic 55, 3) := by decide +kernel
theorem dX6_loss_14 : decode cX6_loss 14 = .ok (.ifCond .ne 14, 3) := by decide +kernel
theorem dX6_loss_17 : decode cX6_loss 17 = .ok (.iload_n 2, 1) := by decide +kernel
theorem dX6_loss_18 : decode cX6_loss 18 = .ok (.iconst 1, 1) := by decide +kernel
theorem dX6_loss_19 : decode cX6_loss 19 = .ok (.sipush 200, 3) := by decide +kernel
theorem dX6_loss_22 : decode cX6_loss 22 = .ok (.invokestatic 55, 3) := by decide +kernel
theorem dX6_loss_25 : decode cX6_loss 25 = .ok (.ifCond .eq 6, 3) := by decide +kernel
theorem dX6_loss_28 : decode cX6_loss 28 = .ok (.ldc 77, 2) := by decide +kernel
theorem dX6_loss_30 : decode cX6_loss 30 = .ok (.ireturn, 1) := by decide +kernel
theorem dX6_loss_31 : decode cX6_loss 31 = .ok (.aload_n 0, 1) := by decide +kernel
theorem dX6_loss_32 : decode cX6_loss 32 = .ok (.iload_n 2, 1) := by decide +kernel
theorem dX6_loss_33 : decode cX6_loss 33 = .ok (.invokevirtual 267, 3) := by decide +kernel
theorem dX6_loss_36 : decode cX6_loss 36 = .ok (.aload_n 0, 1) := by decide +kernel
theorem dX6_loss_37 : decode cX6_loss 37 = .ok (.invokevirtual 277, 3) := by decide +kernel
theorem dX6_loss_40 : decode cX6_loss 40 = .ok (.aload_n 0, 1) := by decide +kernel
theorem dX6_loss_41 : decode cX6_loss 41 = .ok (.iload_n 1, 1) := by decide +kernel
theorem dX6_loss_42 : decode cX6_loss 42 = .ok (.iload_n 2, 1) := by decide +kernel
theorem dX6_loss_43 : decode cX6_loss 43 = .ok (.invokevirtual 304, 3) := by decide +kernel
theorem dX6_loss_46 : decode cX6_loss 46 = .ok (.isub, 1) := by decide +kernel
theorem dX6_loss_47 : decode cX6_loss 47 = .ok (.ireturn, 1) := by decide +kernel
theorem qxX6_deliveredJammed_0 : ∀ w ∈ ((((((wsX6_deliveredJammed_r1 ++ (wsX6_deliveredJammed_r2 ++ (wsX6_deliveredJammed_r3 ++ (wsX6_deliveredJammed_r4 ++ (wsX6_deliveredJammed_r5 ++ (wsX6_deliveredJammed_r6 ++ (wsX6_deliveredJammed_r7 ++ wsX6_deliveredJammed_r8))))))) ++ wsX60) ++ wsX30) ++ wsX20) ++ wsX10) ++ wsX00), w ∈ wsX6_deliveredJammed := fun w h => List.mem_cons_of_mem _ h
theorem qxX6_deliveredJammed_1 : ∀ w ∈ (((((wsX6_deliveredJammed_r1 ++ (wsX6_deliveredJammed_r2 ++ (wsX6_deliveredJammed_r3 ++ (wsX6_deliveredJammed_r4 ++ (wsX6_deliveredJammed_r5 ++ (wsX6_deliveredJammed_r6 ++ (wsX6_deliveredJammed_r7 ++ wsX6_deliveredJammed_r8))))))) ++ wsX60) ++ wsX30) ++ wsX20) ++ wsX10), w ∈ wsX6_deliveredJammed := in_l qxX6_deliveredJammed_0
theorem qxX6_deliveredJammed_2 : ∀ w ∈ wsX00, w ∈ wsX6_deliveredJammed := in_r qxX6_deliveredJammed_0
theorem qxX6_deliveredJammed_3 : ∀ w ∈ ((((wsX6_deliveredJammed_r1 ++ (wsX6_deliveredJammed_r2 ++ (wsX6_deliveredJammed_r3 ++ (wsX6_deliveredJammed_r4 ++ (wsX6_deliveredJammed_r5 ++ (wsX6_deliveredJammed_r6 ++ (wsX6_deliveredJammed_r7 ++ wsX6_deliveredJammed_r8))))))) ++ wsX60) ++ wsX30) ++ wsX20), w ∈ wsX6_deliveredJammed := in_l qxX6_deliveredJammed_1
theorem qxX6_deliveredJammed_4 : ∀ w ∈ wsX10, w ∈ wsX6_deliveredJammed := in_r qxX6_deliveredJammed_1
theorem qxX6_deliveredJammed_5 : ∀ w ∈ (((wsX6_deliveredJammed_r1 ++ (wsX6_deliveredJammed_r2 ++ (wsX6_deliveredJammed_r3 ++ (wsX6_deliveredJammed_r4 ++ (wsX6_deliveredJammed_r5 ++ (wsX6_deliveredJammed_r6 ++ (wsX6_deliveredJammed_r7 ++ wsX6_deliveredJammed_r8))))))) ++ wsX60) ++ wsX30), w ∈ wsX6_deliveredJammed := in_l qxX6_deliveredJammed_3
theorem qxX6_deliveredJammed_6 : ∀ w ∈ wsX20, w ∈ wsX6_deliveredJammed := in_r qxX6_deliveredJammed_3
theorem qxX6_deliveredJammed_7 : ∀ w ∈ ((wsX6_deliveredJammed_r1 ++ (wsX6_deliveredJammed_r2 ++ (wsX6_deliveredJammed_r3 ++ (wsX6_deliveredJammed_r4 ++ (wsX6_deliveredJammed_r5 ++ (wsX6_deliveredJammed_r6 ++ (wsX6_deliveredJammed_r7 ++ wsX6_deliveredJammed_r8))))))) ++ wsX60), w ∈ wsX6_deliveredJammed := in_l qxX6_deliveredJammed_5
theorem qxX6_deliveredJammed_8 : ∀ w ∈ wsX30, w ∈ wsX6_deliveredJammed := in_r qxX6_deliveredJammed_5
theorem qxX6_deliveredJammed_9 : ∀ w ∈ (wsX6_deliveredJammed_r1 ++ (wsX6_deliveredJammed_r2 ++ (wsX6_deliveredJammed_r3 ++ (wsX6_deliveredJammed_r4 ++ (wsX6_deliveredJammed_r5 ++ (wsX6_deliveredJammed_r6 ++ (wsX6_deliveredJammed_r7 ++ wsX6_deliveredJammed_r8))))))), w ∈ wsX6_deliveredJammed := in_l qxX6_deliveredJammed_7
theorem qxX6_deliveredJammed_10 : ∀ w ∈ wsX60, w ∈ wsX6_deliveredJammed := in_r qxX6_deliveredJammed_7
theorem qxX6_deliveredJammed_11 : ∀ w ∈ wsX6_deliveredJammed_r1, w ∈ wsX6_deliveredJammed := in_l qxX6_deliveredJammed_9
theorem qxX6_deliveredJammed_12 : ∀ w ∈ (wsX6_deliveredJammed_r2 ++ (wsX6_deliveredJammed_r3 ++ (wsX6_deliveredJammed_r4 ++ (wsX6_deliveredJammed_r5 ++ (wsX6_deliveredJammed_r6 ++ (wsX6_deliveredJammed_r7 ++ wsX6_deliveredJammed_r8)))))), w ∈ wsX6_deliveredJammed := in_r qxX6_deliveredJammed_9
theorem qxX6_deliveredJammed_13 : ∀ w ∈ wsX6_deliveredJammed_r2, w ∈ wsX6_deliveredJammed := in_l qxX6_deliveredJammed_12
theorem qxX6_deliveredJammed_14 : ∀ w ∈ (wsX6_deliveredJammed_r3 ++ (wsX6_deliveredJammed_r4 ++ (wsX6_deliveredJammed_r5 ++ (wsX6_deliveredJammed_r6 ++ (wsX6_deliveredJammed_r7 ++ wsX6_deliveredJammed_r8))))), w ∈ wsX6_deliveredJammed := in_r qxX6_deliveredJammed_12
theorem qxX6_deliveredJammed_15 : ∀ w ∈ wsX6_deliveredJammed_r3, w ∈ wsX6_deliveredJammed := in_l qxX6_deliveredJammed_14
theorem qxX6_deliveredJammed_16 : ∀ w ∈ (wsX6_deliveredJammed_r4 ++ (wsX6_deliveredJammed_r5 ++ (wsX6_deliveredJammed_r6 ++ (wsX6_deliveredJammed_r7 ++ wsX6_deliveredJammed_r8)))), w ∈ wsX6_deliveredJammed := in_r qxX6_deliveredJammed_14
theorem qxX6_deliveredJammed_17 : ∀ w ∈ wsX6_deliveredJammed_r4, w ∈ wsX6_deliveredJammed := in_l qxX6_deliveredJammed_16
theorem qxX6_deliveredJammed_18 : ∀ w ∈ (wsX6_deliveredJammed_r5 ++ (wsX6_deliveredJammed_r6 ++ (wsX6_deliveredJammed_r7 ++ wsX6_deliveredJammed_r8))), w ∈ wsX6_deliveredJammed := in_r qxX6_deliveredJammed_16
theorem qxX6_deliveredJammed_19 : ∀ w ∈ wsX6_deliveredJammed_r5, w ∈ wsX6_deliveredJammed := in_l qxX6_deliveredJammed_18
theorem qxX6_deliveredJammed_20 : ∀ w ∈ (wsX6_deliveredJammed_r6 ++ (wsX6_deliveredJammed_r7 ++ wsX6_deliveredJammed_r8)), w ∈ wsX6_deliveredJammed := in_r qxX6_deliveredJammed_18
theorem qxX6_deliveredJammed_21 : ∀ w ∈ wsX6_deliveredJammed_r6, w ∈ wsX6_deliveredJammed := in_l qxX6_deliveredJammed_20
theorem qxX6_deliveredJammed_22 : ∀ w ∈ (wsX6_deliveredJammed_r7 ++ wsX6_deliveredJammed_r8), w ∈ wsX6_deliveredJammed := in_r qxX6_deliveredJammed_20
theorem qxX6_deliveredJammed_23 : ∀ w ∈ wsX6_deliveredJammed_r7, w ∈ wsX6_deliveredJammed := in_l qxX6_deliveredJammed_22
theorem qxX6_deliveredJammed_24 : ∀ w ∈ wsX6_deliveredJammed_r8, w ∈ wsX6_deliveredJammed := in_r qxX6_deliveredJammed_22
def pxX6_deliveredJammed : List (List Cond) := [wsX6_deliveredJammed_r1, wsX6_deliveredJammed_r2, wsX6_deliveredJammed_r3, wsX6_deliveredJammed_r4, wsX6_deliveredJammed_r5, wsX6_deliveredJammed_r6, wsX6_deliveredJammed_r7, wsX6_deliveredJammed_r8, wsX60, wsX30, wsX20, wsX10, wsX00]
theorem pxX6_deliveredJammed_in : ∀ q ∈ pxX6_deliveredJammed, ∀ w ∈ q, w ∈ wsX6_deliveredJammed := lp_c qxX6_deliveredJammed_11 (lp_c qxX6_deliveredJammed_13 (lp_c qxX6_deliveredJammed_15 (lp_c qxX6_deliveredJammed_17 (lp_c qxX6_deliveredJammed_19 (lp_c qxX6_deliveredJammed_21 (lp_c qxX6_deliveredJammed_23 (lp_c qxX6_deliveredJammed_24 (lp_c qxX6_deliveredJammed_10 (lp_c qxX6_deliveredJammed_8 (lp_c qxX6_deliveredJammed_6 (lp_c qxX6_deliveredJammed_4 (lp_c qxX6_deliveredJammed_2 (lp_n)))))))))))))
set_option maxRecDepth 20000 in
theorem ggX6_deliveredJammed_X3_copy : GoodIn wsX6_deliveredJammed wsX3_copy := goodIn_pp pxX6_deliveredJammed pxX6_deliveredJammed_in _ [(0, 9), (0, 10), (0, 11), (0, 12), (0, 13), (0, 14), (0, 15), (0, 16), (0, 17), (0, 18), (0, 19), (0, 20), (0, 21), (0, 22), (0, 23), (1, 0), (1, 1), (1, 2), (1, 3), (1, 4), (1, 5), (1, 6), (1, 7), (1, 8), (1, 9), (1, 10), (1, 11), (1, 12), (1, 13), (1, 14), (1, 15), (1, 16), (1, 17), (1, 18), (1, 19), (1, 20), (1, 21), (1, 22), (1, 23), (2, 0), (2, 1), (2, 2), (2, 3), (2, 4), (2, 5), (2, 6), (2, 7), (2, 8), (2, 9), (2, 10), (2, 11), (2, 12), (2, 13), (2, 14), (2, 15), (2, 16), (2, 17), (9, 0), (9, 1), (9, 2), (9, 3), (9, 4), (9, 5), (9, 6), (9, 7), (9, 8), (9, 9), (9, 10), (10, 0), (10, 1), (10, 2), (10, 3), (10, 4), (10, 5), (10, 6), (10, 7), (10, 8), (10, 9), (11, 0), (11, 1), (11, 2), (11, 3), (11, 4), (11, 5), (11, 6), (12, 0), (12, 1), (12, 2), (12, 3), (12, 4), (12, 5), (12, 6), (12, 7)] rfl (by decide +kernel)
set_option maxRecDepth 20000 in
theorem gX6_deliveredJammed_X3_copy : GoodIn wsX6_deliveredJammed (wsV RX6 270 RX3 yX3_copy wsX3_copy) := goodIn_app (goodIn_of _ (by decide +kernel)) ggX6_deliveredJammed_X3_copy
set_option maxRecDepth 20000 in
theorem ggX6_deliveredJammed_X3_steps : GoodIn wsX6_deliveredJammed wsX3_steps := goodIn_pp pxX6_deliveredJammed pxX6_deliveredJammed_in _ [(2, 21), (2, 22), (2, 23), (3, 0), (0, 8), (3, 1), (0, 10), (0, 11), (0, 13), (0, 15), (0, 18), (3, 2), (3, 3), (3, 4), (3, 5), (3, 6), (0, 20), (3, 7), (3, 8), (3, 9), (3, 10), (3, 11), (3, 12), (1, 20), (3, 13), (2, 0), (3, 14), (3, 15), (3, 16), (3, 17), (3, 18), (3, 19), (3, 20), (3, 21), (0, 16), (3, 22), (3, 23), (4, 0), (4, 1), (4, 2), (1, 4), (4, 3), (1, 12), (1, 14), (1, 15), (4, 4), (4, 5), (4, 6), (4, 7), (0, 19), (4, 8), (4, 9), (4, 10), (4, 11), (4, 12), (4, 13), (2, 8), (4, 14), (2, 10), (2, 11), (4, 15), (4, 16), (4, 17), (4, 18), (4, 19), (4, 20), (4, 21), (4, 22), (4, 23), (5, 0), (2, 12), (5, 1), (5, 2), (5, 3), (5, 4), (5, 5), (5, 6), (5, 7), (5, 8), (5, 9), (5, 10), (5, 11), (5, 12), (5, 13), (5, 14), (5, 15), (5, 16), (5, 17), (5, 18), (5, 19), (5, 20), (5, 21), (5, 22), (5, 23), (1, 22), (6, 0), (6, 1), (6, 2), (6, 3), (6, 4), (0, 14), (6, 5), (6, 6), (6, 7), (6, 8), (6, 9), (6, 10), (6, 11), (6, 12), (0, 17), (6, 13), (6, 14), (6, 15), (6, 16), (6, 17), (6, 18), (6, 19), (6, 20), (6, 21), (6, 22), (6, 23), (7, 0), (7, 1), (7, 2), (7, 3), (7, 4), (0, 12), (7, 5), (7, 6), (7, 7), (7, 8), (1, 7), (1, 16), (7, 9), (7, 10), (7, 11), (9, 0), (9, 1), (9, 2), (9, 3), (9, 4), (9, 5), (9, 6), (9, 7), (9, 8), (9, 9), (9, 10), (10, 0), (10, 1), (10, 2), (10, 3), (10, 4), (10, 5), (10, 6), (10, 7), (10, 8), (10, 9), (11, 0), (11, 1), (11, 2), (11, 3), (11, 4), (11, 5), (11, 6), (12, 0), (12, 1), (12, 2), (12, 3), (12, 4), (12, 5), (12, 6), (12, 7)] rfl (by decide +kernel)
set_option maxRecDepth 20000 in
theorem gX6_deliveredJammed_X3_steps : GoodIn wsX6_deliveredJammed (wsV RX6 274 RX3 yX3_steps wsX3_steps) := goodIn_app (goodIn_of _ (by decide +kernel)) ggX6_deliveredJammed_X3_steps
set_option maxRecDepth 20000 in
theorem ggX6_deliveredJammed_X6_deliveredApart : GoodIn wsX6_deliveredJammed wsX6_deliveredApart := goodIn_pp pxX6_deliveredJammed pxX6_deliveredJammed_in _ [(7, 15), (0, 0), (0, 1), (7, 16), (7, 17), (7, 18), (0, 8), (7, 19), (0, 11), (0, 19), (4, 20), (8, 0), (8, 1), (8, 2), (8, 3), (8, 4), (8, 5), (8, 6), (8, 7), (8, 8), (9, 0), (9, 1), (9, 2), (9, 3), (9, 4), (9, 5), (9, 6), (9, 7), (9, 8), (9, 9), (9, 10), (12, 0), (12, 1), (12, 2), (12, 3), (12, 4), (12, 5), (12, 6), (12, 7)] rfl (by decide +kernel)
set_option maxRecDepth 20000 in
theorem gX6_deliveredJammed_X6_deliveredApart : GoodIn wsX6_deliveredJammed (wsV RX6 277 RX6 yX6_deliveredApart wsX6_deliveredApart) := goodIn_app (goodIn_of _ (by decide +kernel)) ggX6_deliveredJammed_X6_deliveredApart
theorem dX6_deliveredJammed_0 : decode cX6_deliveredJammed 0 = .ok (.aload_n 0, 1) := by decide +kernel
theorem dX6_deliveredJammed_1 : decode cX6_deliveredJammed 1 = .ok (.getfield 30, 3) := by decide +kernel
theorem dX6_deliveredJammed_4 : decode cX6_deliveredJammed 4 = .ok (.aload_n 0, 1) := by decide +kernel
theorem dX6_deliveredJammed_5 : decode cX6_deliveredJammed 5 = .ok (.getfield 26, 3) := by decide +kernel
theorem dX6_deliveredJammed_8 : decode cX6_deliveredJammed 8 = .ok (.invokevirtual 270, 3) := by decide +kernel
theorem dX6_deliveredJammed_11 : decode cX6_deliveredJammed 11 = .ok (.iconst 0, 1) := by decide +kernel
theorem dX6_deliveredJammed_12 : decode cX6_deliveredJammed 12 = .ok (.istore_n 3, 1) := by decide +kernel
theorem dX6_deliveredJammed_13 : decode cX6_deliveredJammed 13 = .ok (.iload_n 3, 1) := by decide +kernel
theorem dX6_deliveredJammed_14 : decode cX6_deliveredJammed 14 = .ok (.aload_n 0, 1) := by decide +kernel
theorem dX6_deliveredJammed_15 : decode cX6_deliveredJammed 15 = .ok (.getfield 30, 3) := by decide +kernel
theorem dX6_deliveredJammed_18 : decode cX6_deliveredJammed 18 = .ok (.getfield 78, 3) := by decide +kernel
theorem dX6_deliveredJammed_21 : decode cX6_deliveredJammed 21 = .ok (.if_icmp .ge 22, 3) := by decide +kernel
theorem dX6_deliveredJammed_24 : decode cX6_deliveredJammed 24 = .ok (.aload_n 0, 1) := by decide +kernel
theorem dX6_deliveredJammed_25 : decode cX6_deliveredJammed 25 = .ok (.getfield 30, 3) := by decide +kernel
theorem dX6_deliveredJammed_28 : decode cX6_deliveredJammed 28 = .ok (.getfield 104, 3) := by decide +kernel
theorem dX6_deliveredJammed_31 : decode cX6_deliveredJammed 31 = .ok (.iload_n 3, 1) := by decide +kernel
theorem dX6_deliveredJammed_32 : decode cX6_deliveredJammed 32 = .ok (.aaload, 1) := by decide +kernel
theorem dX6_deliveredJammed_33 : decode cX6_deliveredJammed 33 = .ok (.iload_n 1, 1) := by decide +kernel
theorem dX6_deliveredJammed_34 : decode cX6_deliveredJammed 34 = .ok (.putfield 119, 3) := by decide +kernel
theorem dX6_deliveredJammed_37 : decode cX6_deliveredJammed 37 = .ok (.iinc 3 1, 3) := by decide +kernel
theorem dX6_deliveredJammed_40 : decode cX6_deliveredJammed 40 = .ok (.goto (-27), 3) := by decide +kernel
theorem dX6_deliveredJammed_43 : decode cX6_deliveredJammed 43 = .ok (.aload_n 0, 1) := by decide +kernel
theorem dX6_deliveredJammed_44 : decode cX6_deliveredJammed 44 = .ok (.getfield 30, 3) := by decide +kernel
theorem dX6_deliveredJammed_47 : decode cX6_deliveredJammed 47 = .ok (.iload_n 2, 1) := by decide +kernel
theorem dX6_deliveredJammed_48 : decode cX6_deliveredJammed 48 = .ok (.invokevirtual 274, 3) := by decide +kernel
theorem dX6_deliveredJammed_51 : decode cX6_deliveredJammed 51 = .ok (.aload_n 0, 1) := by decide +kernel
theorem dX6_deliveredJammed_52 : decode cX6_deliveredJammed 52 = .ok (.invokevirtual 277, 3) := by decide +kernel
theorem dX6_deliveredJammed_55 : decode cX6_deliveredJammed 55 = .ok (.ireturn, 1) := by decide +kernel
set_option maxRecDepth 20000 in
theorem ggX6_fair_X6_outside : GoodIn wsX6_fair wsX6_outside := goodIn_r _ [14] (by decide +kernel) (by decide +kernel)
set_option maxRecDepth 20000 in
theorem gX6_fair_X6_outside : GoodIn wsX6_fair (va_wsS RX6 55 yX6_outside wsX6_outside) := goodIn_app (goodIn_of _ (by decide +kernel)) ggX6_fair_X6_outside
theorem qxX6_fair_0 : ∀ w ∈ ((((((wsX6_fair_r1 ++ (wsX6_fair_r2 ++ (wsX6_fair_r3 ++ (wsX6_fair_r4 ++ (wsX6_fair_r5 ++ (wsX6_fair_r6 ++ (wsX6_fair_r7 ++ (wsX6_fair_r8 ++ wsX6_fair_r9)))))))) ++ wsX60) ++ wsX30) ++ wsX20) ++ wsX10) ++ wsX00), w ∈ wsX6_fair := fun w h => List.mem_cons_of_mem _ h
theorem qxX6_fair_1 : ∀ w ∈ (((((wsX6_fair_r1 ++ (wsX6_fair_r2 ++ (wsX6_fair_r3 ++ (wsX6_fair_r4 ++ (wsX6_fair_r5 ++ (wsX6_fair_r6 ++ (wsX6_fair_r7 ++ (wsX6_fair_r8 ++ wsX6_fair_r9)))))))) ++ wsX60) ++ wsX30) ++ wsX20) ++ wsX10), w ∈ wsX6_fair := in_l qxX6_fair_0
theorem qxX6_fair_2 : ∀ w ∈ wsX00, w ∈ wsX6_fair := in_r qxX6_fair_0
theorem qxX6_fair_3 : ∀ w ∈ ((((wsX6_fair_r1 ++ (wsX6_fair_r2 ++ (wsX6_fair_r3 ++ (wsX6_fair_r4 ++ (wsX6_fair_r5 ++ (wsX6_fair_r6 ++ (wsX6_fair_r7 ++ (wsX6_fair_r8 ++ wsX6_fair_r9)))))))) ++ wsX60) ++ wsX30) ++ wsX20), w ∈ wsX6_fair := in_l qxX6_fair_1
theorem qxX6_fair_4 : ∀ w ∈ wsX10, w ∈ wsX6_fair := in_r qxX6_fair_1
theorem qxX6_fair_5 : ∀ w ∈ (((wsX6_fair_r1 ++ (wsX6_fair_r2 ++ (wsX6_fair_r3 ++ (wsX6_fair_r4 ++ (wsX6_fair_r5 ++ (wsX6_fair_r6 ++ (wsX6_fair_r7 ++ (wsX6_fair_r8 ++ wsX6_fair_r9)))))))) ++ wsX60) ++ wsX30), w ∈ wsX6_fair := in_l qxX6_fair_3
theorem qxX6_fair_6 : ∀ w ∈ wsX20, w ∈ wsX6_fair := in_r qxX6_fair_3
theorem qxX6_fair_7 : ∀ w ∈ ((wsX6_fair_r1 ++ (wsX6_fair_r2 ++ (wsX6_fair_r3 ++ (wsX6_fair_r4 ++ (wsX6_fair_r5 ++ (wsX6_fair_r6 ++ (wsX6_fair_r7 ++ (wsX6_fair_r8 ++ wsX6_fair_r9)))))))) ++ wsX60), w ∈ wsX6_fair := in_l qxX6_fair_5
theorem qxX6_fair_8 : ∀ w ∈ wsX30, w ∈ wsX6_fair := in_r qxX6_fair_5
theorem qxX6_fair_9 : ∀ w ∈ (wsX6_fair_r1 ++ (wsX6_fair_r2 ++ (wsX6_fair_r3 ++ (wsX6_fair_r4 ++ (wsX6_fair_r5 ++ (wsX6_fair_r6 ++ (wsX6_fair_r7 ++ (wsX6_fair_r8 ++ wsX6_fair_r9)))))))), w ∈ wsX6_fair := in_l qxX6_fair_7
theorem qxX6_fair_10 : ∀ w ∈ wsX60, w ∈ wsX6_fair := in_r qxX6_fair_7
theorem qxX6_fair_11 : ∀ w ∈ wsX6_fair_r1, w ∈ wsX6_fair := in_l qxX6_fair_9
theorem qxX6_fair_12 : ∀ w ∈ (wsX6_fair_r2 ++ (wsX6_fair_r3 ++ (wsX6_fair_r4 ++ (wsX6_fair_r5 ++ (wsX6_fair_r6 ++ (wsX6_fair_r7 ++ (wsX6_fair_r8 ++ wsX6_fair_r9))))))), w ∈ wsX6_fair := in_r qxX6_fair_9
theorem qxX6_fair_13 : ∀ w ∈ wsX6_fair_r2, w ∈ wsX6_fair := in_l qxX6_fair_12
theorem qxX6_fair_14 : ∀ w ∈ (wsX6_fair_r3 ++ (wsX6_fair_r4 ++ (wsX6_fair_r5 ++ (wsX6_fair_r6 ++ (wsX6_fair_r7 ++ (wsX6_fair_r8 ++ wsX6_fair_r9)))))), w ∈ wsX6_fair := in_r qxX6_fair_12
theorem qxX6_fair_15 : ∀ w ∈ wsX6_fair_r3, w ∈ wsX6_fair := in_l qxX6_fair_14
theorem qxX6_fair_16 : ∀ w ∈ (wsX6_fair_r4 ++ (wsX6_fair_r5 ++ (wsX6_fair_r6 ++ (wsX6_fair_r7 ++ (wsX6_fair_r8 ++ wsX6_fair_r9))))), w ∈ wsX6_fair := in_r qxX6_fair_14
theorem qxX6_fair_17 : ∀ w ∈ wsX6_fair_r4, w ∈ wsX6_fair := in_l qxX6_fair_16
theorem qxX6_fair_18 : ∀ w ∈ (wsX6_fair_r5 ++ (wsX6_fair_r6 ++ (wsX6_fair_r7 ++ (wsX6_fair_r8 ++ wsX6_fair_r9)))), w ∈ wsX6_fair := in_r qxX6_fair_16
theorem qxX6_fair_19 : ∀ w ∈ wsX6_fair_r5, w ∈ wsX6_fair := in_l qxX6_fair_18
theorem qxX6_fair_20 : ∀ w ∈ (wsX6_fair_r6 ++ (wsX6_fair_r7 ++ (wsX6_fair_r8 ++ wsX6_fair_r9))), w ∈ wsX6_fair := in_r qxX6_fair_18
theorem qxX6_fair_21 : ∀ w ∈ wsX6_fair_r6, w ∈ wsX6_fair := in_l qxX6_fair_20
theorem qxX6_fair_22 : ∀ w ∈ (wsX6_fair_r7 ++ (wsX6_fair_r8 ++ wsX6_fair_r9)), w ∈ wsX6_fair := in_r qxX6_fair_20
theorem qxX6_fair_23 : ∀ w ∈ wsX6_fair_r7, w ∈ wsX6_fair := in_l qxX6_fair_22
theorem qxX6_fair_24 : ∀ w ∈ (wsX6_fair_r8 ++ wsX6_fair_r9), w ∈ wsX6_fair := in_r qxX6_fair_22
theorem qxX6_fair_25 : ∀ w ∈ wsX6_fair_r8, w ∈ wsX6_fair := in_l qxX6_fair_24
theorem qxX6_fair_26 : ∀ w ∈ wsX6_fair_r9, w ∈ wsX6_fair := in_r qxX6_fair_24
def pxX6_fair : List (List Cond) := [wsX6_fair_r1, wsX6_fair_r2, wsX6_fair_r3, wsX6_fair_r4, wsX6_fair_r5, wsX6_fair_r6, wsX6_fair_r7, wsX6_fair_r8, wsX6_fair_r9, wsX60, wsX30, wsX20, wsX10, wsX00]
theorem pxX6_fair_in : ∀ q ∈ pxX6_fair, ∀ w ∈ q, w ∈ wsX6_fair := lp_c qxX6_fair_11 (lp_c qxX6_fair_13 (lp_c qxX6_fair_15 (lp_c qxX6_fair_17 (lp_c qxX6_fair_19 (lp_c qxX6_fair_21 (lp_c qxX6_fair_23 (lp_c qxX6_fair_25 (lp_c qxX6_fair_26 (lp_c qxX6_fair_10 (lp_c qxX6_fair_8 (lp_c qxX6_fair_6 (lp_c qxX6_fair_4 (lp_c qxX6_fair_2 (lp_n))))))))))))))
set_option maxRecDepth 20000 in
theorem ggX6_fair_X6_goApart : GoodIn wsX6_fair wsX6_goApart := goodIn_pp pxX6_fair pxX6_fair_in _ [(0, 17), (0, 18), (0, 1), (0, 19), (0, 20), (0, 21), (0, 22), (0, 23), (1, 0), (1, 1), (1, 2), (1, 3), (1, 4), (1, 5), (1, 6), (1, 7), (1, 8), (1, 9), (1, 10), (1, 11), (1, 12), (1, 13), (1, 14), (1, 15), (1, 16), (1, 17), (1, 18), (1, 19), (1, 20), (1, 21), (1, 22), (1, 23), (2, 0), (2, 1), (2, 2), (2, 3), (2, 4), (2, 5), (2, 6), (2, 7), (2, 8), (2, 9), (2, 10), (2, 11), (2, 12), (2, 13), (2, 14), (2, 15), (2, 16), (2, 17), (2, 18), (2, 19), (2, 20), (2, 21), (2, 22), (2, 23), (3, 0), (3, 1), (3, 2), (3, 3), (3, 4), (3, 5), (3, 6), (3, 7), (3, 8), (3, 9), (3, 10), (3, 11), (3, 12), (3, 13), (3, 14), (3, 15), (3, 16), (3, 17), (3, 18), (3, 19), (3, 20), (3, 21), (3, 22), (3, 23), (4, 0), (4, 1), (4, 2), (4, 3), (4, 4), (0, 12), (4, 5), (4, 6), (4, 7), (4, 8), (4, 9), (4, 10), (4, 11), (4, 12), (4, 13), (4, 14), (4, 15), (4, 16), (4, 17), (4, 18), (4, 19), (4, 20), (4, 21), (4, 22), (4, 23), (5, 0), (5, 1), (5, 2), (5, 3), (5, 4), (5, 5), (5, 6), (5, 7), (5, 8), (5, 9), (5, 10), (5, 11), (5, 12), (5, 13), (5, 14), (5, 15), (5, 16), (5, 17), (5, 18), (5, 19), (5, 20), (5, 21), (5, 22), (5, 23), (6, 0), (6, 1), (6, 2), (6, 3), (6, 4), (6, 5), (6, 6), (6, 7), (6, 8), (6, 9), (6, 10), (6, 11), (6, 12), (6, 13), (6, 14), (6, 15), (6, 16), (6, 17), (6, 18), (6, 19), (6, 20), (6, 21), (6, 22), (6, 23), (7, 0), (7, 1), (7, 2), (7, 3), (7, 4), (7, 5), (7, 6), (0, 8), (0, 5), (0, 9), (7, 7), (0, 4), (0, 6), (7, 8), (7, 9), (7, 10), (7, 11), (7, 12), (7, 13), (7, 14), (7, 15), (7, 16), (7, 17), (7, 18), (7, 19), (9, 0), (9, 1), (9, 2), (9, 3), (9, 4), (9, 5), (9, 6), (9, 7), (9, 8), (10, 0), (10, 1), (10, 2), (10, 3), (10, 4), (10, 5), (10, 6), (10, 7), (10, 8), (10, 9), (10, 10), (11, 0), (11, 1), (11, 2), (11, 3), (11, 4), (11, 5), (11, 6), (11, 7), (11, 8), (11, 9), (12, 0), (12, 1), (12, 2), (12, 3), (12, 4), (12, 5), (12, 6), (13, 0), (13, 1), (13, 2), (13, 3), (13, 4), (13, 5), (13, 6), (13, 7)] rfl (by decide +kernel)
set_option maxRecDepth 20000 in
theorem gX6_fair_X6_goApart : GoodIn wsX6_fair (wsV RX6 267 RX6 yX6_goApart wsX6_goApart) := goodIn_app (goodIn_of _ (by decide +kernel)) ggX6_fair_X6_goApart
set_option maxRecDepth 20000 in
theorem ggX6_fair_X6_deliveredApartOf : GoodIn wsX6_fair wsX6_deliveredApartOf := goodIn_pp pxX6_fair pxX6_fair_in _ [(7, 23), (0, 18), (8, 0), (8, 1), (0, 1), (9, 0), (9, 1), (9, 2), (9, 3), (9, 4), (9, 5), (9, 6), (9, 7), (9, 8), (10, 0), (10, 1), (10, 2), (10, 3), (10, 4), (10, 5), (10, 6), (10, 7), (10, 8), (10, 9), (10, 10), (13, 0), (13, 1), (13, 2), (13, 3), (13, 4), (13, 5), (13, 6), (13, 7)] rfl (by decide +kernel)
set_option maxRecDepth 20000 in
theorem gX6_fair_X6_deliveredApartOf : GoodIn wsX6_fair (wsV RX6 280 RX6 yX6_deliveredApartOf wsX6_deliveredApartOf) := goodIn_app (goodIn_of _ (by decide +kernel)) ggX6_fair_X6_deliveredApartOf
theorem dX6_fair_0 : decode cX6_fair 0 = .ok (.aload_n 0, 1) := by decide +kernel
theorem dX6_fair_1 : decode cX6_fair 1 = .ok (.getfield 70, 3) := by decide +kernel
theorem dX6_fair_4 : decode cX6_fair 4 = .ok (.ifCond .eq 14, 3) := by decide +kernel
theorem dX6_fair_7 : decode cX6_fair 7 = .ok (.iload_n 1, 1) := by decide +kernel
theorem dX6_fair_8 : decode cX6_fair 8 = .ok (.iconst 1, 1) := by decide +kernel
theorem dX6_fair_9 : decode cX6_fair 9 = .ok (.sipush 200, 3) := by decide +kernel
theorem dX6_fair_12 : decode cX6_fair 12 = .ok (.invokestatic 55, 3) := by decide +kernel
theorem dX6_fair_15 : decode cX6_fair 15 = .ok (.ifCond .eq 5, 3) := by decide +kernel
theorem dX6_fair_18 : decode cX6_fair 18 = .ok (.iconst (-1), 1) := by decide +kernel
theorem dX6_fair_19 : decode cX6_fair 19 = .ok (.ireturn, 1) := by decide +kernel
theorem dX6_fair_20 : decode cX6_fair 20 = .ok (.aload_n 0, 1) := by decide +kernel
theorem dX6_fair_21 : decode cX6_fair 21 = .ok (.iload_n 1, 1) := by decide +kernel
theorem dX6_fair_22 : decode cX6_fair 22 = .ok (.invokevirtual 267, 3) := by decide +kernel
theorem dX6_fair_25 : decode cX6_fair 25 = .ok (.aload_n 0, 1) := by decide +kernel
theorem dX6_fair_26 : decode cX6_fair 26 = .ok (.iconst 0, 1) := by decide +kernel
theorem dX6_fair_27 : decode cX6_fair 27 = .ok (.invokevirtual 280, 3) := by decide +kernel
theorem dX6_fair_30 : decode cX6_fair 30 = .ok (.istore_n 2, 1) := by decide +kernel
theorem dX6_fair_31 : decode cX6_fair 31 = .ok (.iload_n 2, 1) := by decide +kernel
theorem dX6_fair_32 : decode cX6_fair 32 = .ok (.istore_n 3, 1) := by decide +kernel
theorem dX6_fair_33 : decode cX6_fair 33 = .ok (.iconst 1, 1) := by decide +kernel
theorem dX6_fair_34 : decode cX6_fair 34 = .ok (.istore 4, 2) := by decide +kernel
theorem dX6_fair_36 : decode cX6_fair 36 = .ok (.iload 4, 2) := by decide +kernel
theorem dX6_fair_38 : decode cX6_fair 38 = .ok (.aload_n 0, 1) := by decide +kernel
theorem dX6_fair_39 : decode cX6_fair 39 = .ok (.getfield 26, 3) := by decide +kernel
theorem dX6_fair_42 : decode cX6_fair 42 = .ok (.getfield 74, 3) := by decide +kernel
theorem dX6_fair_45 : decode cX6_fair 45 = .ok (.if_icmp .ge 31, 3) := by decide +kernel
theorem dX6_fair_48 : decode cX6_fair 48 = .ok (.aload_n 0, 1) := by decide +kernel
theorem dX6_fair_49 : decode cX6_fair 49 = .ok (.iload 4, 2) := by decide +kernel
theorem dX6_fair_51 : decode cX6_fair 51 = .ok (.invokevirtual 280, 3) := by decide +kernel
theorem dX6_fair_54 : decode cX6_fair 54 = .ok (.istore 5, 2) := by decide +kernel
theorem dX6_fair_56 : decode cX6_fair 56 = .ok (.iload_n 2, 1) := by decide +kernel
theorem dX6_fair_57 : decode cX6_fair 57 = .ok (.iload 5, 2) := by decide +kernel
theorem dX6_fair_59 : decode cX6_fair 59 = .ok (.invokestatic 258, 3) := by decide +kernel
theorem dX6_fair_62 : decode cX6_fair 62 = .ok (.istore_n 2, 1) := by decide +kernel
theorem dX6_fair_63 : decode cX6_fair 63 = .ok (.iload_n 3, 1) := by decide +kernel
theorem dX6_fair_64 : decode cX6_fair 64 = .ok (.iload 5, 2) := by decide +kernel
theorem dX6_fair_66 : decode cX6_fair 66 = .ok (.invokestatic 307, 3) := by decide +kernel
theorem dX6_fair_69 : decode cX6_fair 69 = .ok (.istore_n 3, 1) := by decide +kernel
theorem dX6_fair_70 : decode cX6_fair 70 = .ok (.iinc 4 1, 3) := by decide +kernel
theorem dX6_fair_73 : decode cX6_fair 73 = .ok (.goto (-37), 3) := by decide +kernel
theorem dX6_fair_76 : decode cX6_fair 76 = .ok (.iload_n 2, 1) := by decide +kernel
theorem dX6_fair_77 : decode cX6_fair 77 = .ok (.iload_n 3, 1) := by decide +kernel
theorem dX6_fair_78 : decode cX6_fair 78 = .ok (.isub, 1) := by decide +kernel
theorem dX6_fair_79 : decode cX6_fair 79 = .ok (.ireturn, 1) := by decide +kernel
theorem qxX6_learns_0 : ∀ w ∈ ((((((wsX6_learns_r1 ++ (wsX6_learns_r2 ++ (wsX6_learns_r3 ++ (wsX6_learns_r4 ++ (wsX6_learns_r5 ++ (wsX6_learns_r6 ++ (wsX6_learns_r7 ++ (wsX6_learns_r8 ++ wsX6_learns_r9)))))))) ++ wsX60) ++ wsX30) ++ wsX20) ++ wsX10) ++ wsX00), w ∈ wsX6_learns := fun w h => List.mem_cons_of_mem _ h
theorem qxX6_learns_1 : ∀ w ∈ (((((wsX6_learns_r1 ++ (wsX6_learns_r2 ++ (wsX6_learns_r3 ++ (wsX6_learns_r4 ++ (wsX6_learns_r5 ++ (wsX6_learns_r6 ++ (wsX6_learns_r7 ++ (wsX6_learns_r8 ++ wsX6_learns_r9)))))))) ++ wsX60) ++ wsX30) ++ wsX20) ++ wsX10), w ∈ wsX6_learns := in_l qxX6_learns_0
theorem qxX6_learns_2 : ∀ w ∈ wsX00, w ∈ wsX6_learns := in_r qxX6_learns_0
theorem qxX6_learns_3 : ∀ w ∈ ((((wsX6_learns_r1 ++ (wsX6_learns_r2 ++ (wsX6_learns_r3 ++ (wsX6_learns_r4 ++ (wsX6_learns_r5 ++ (wsX6_learns_r6 ++ (wsX6_learns_r7 ++ (wsX6_learns_r8 ++ wsX6_learns_r9)))))))) ++ wsX60) ++ wsX30) ++ wsX20), w ∈ wsX6_learns := in_l qxX6_learns_1
theorem qxX6_learns_4 : ∀ w ∈ wsX10, w ∈ wsX6_learns := in_r qxX6_learns_1
theorem qxX6_learns_5 : ∀ w ∈ (((wsX6_learns_r1 ++ (wsX6_learns_r2 ++ (wsX6_learns_r3 ++ (wsX6_learns_r4 ++ (wsX6_learns_r5 ++ (wsX6_learns_r6 ++ (wsX6_learns_r7 ++ (wsX6_learns_r8 ++ wsX6_learns_r9)))))))) ++ wsX60) ++ wsX30), w ∈ wsX6_learns := in_l qxX6_learns_3
theorem qxX6_learns_6 : ∀ w ∈ wsX20, w ∈ wsX6_learns := in_r qxX6_learns_3
theorem qxX6_learns_7 : ∀ w ∈ ((wsX6_learns_r1 ++ (wsX6_learns_r2 ++ (wsX6_learns_r3 ++ (wsX6_learns_r4 ++ (wsX6_learns_r5 ++ (wsX6_learns_r6 ++ (wsX6_learns_r7 ++ (wsX6_learns_r8 ++ wsX6_learns_r9)))))))) ++ wsX60), w ∈ wsX6_learns := in_l qxX6_learns_5
theorem qxX6_learns_8 : ∀ w ∈ wsX30, w ∈ wsX6_learns := in_r qxX6_learns_5
theorem qxX6_learns_9 : ∀ w ∈ (wsX6_learns_r1 ++ (wsX6_learns_r2 ++ (wsX6_learns_r3 ++ (wsX6_learns_r4 ++ (wsX6_learns_r5 ++ (wsX6_learns_r6 ++ (wsX6_learns_r7 ++ (wsX6_learns_r8 ++ wsX6_learns_r9)))))))), w ∈ wsX6_learns := in_l qxX6_learns_7
theorem qxX6_learns_10 : ∀ w ∈ wsX60, w ∈ wsX6_learns := in_r qxX6_learns_7
theorem qxX6_learns_11 : ∀ w ∈ wsX6_learns_r1, w ∈ wsX6_learns := in_l qxX6_learns_9
theorem qxX6_learns_12 : ∀ w ∈ (wsX6_learns_r2 ++ (wsX6_learns_r3 ++ (wsX6_learns_r4 ++ (wsX6_learns_r5 ++ (wsX6_learns_r6 ++ (wsX6_learns_r7 ++ (wsX6_learns_r8 ++ wsX6_learns_r9))))))), w ∈ wsX6_learns := in_r qxX6_learns_9
theorem qxX6_learns_13 : ∀ w ∈ wsX6_learns_r2, w ∈ wsX6_learns := in_l qxX6_learns_12
theorem qxX6_learns_14 : ∀ w ∈ (wsX6_learns_r3 ++ (wsX6_learns_r4 ++ (wsX6_learns_r5 ++ (wsX6_learns_r6 ++ (wsX6_learns_r7 ++ (wsX6_learns_r8 ++ wsX6_learns_r9)))))), w ∈ wsX6_learns := in_r qxX6_learns_12
theorem qxX6_learns_15 : ∀ w ∈ wsX6_learns_r3, w ∈ wsX6_learns := in_l qxX6_learns_14
theorem qxX6_learns_16 : ∀ w ∈ (wsX6_learns_r4 ++ (wsX6_learns_r5 ++ (wsX6_learns_r6 ++ (wsX6_learns_r7 ++ (wsX6_learns_r8 ++ wsX6_learns_r9))))), w ∈ wsX6_learns := in_r qxX6_learns_14
theorem qxX6_learns_17 : ∀ w ∈ wsX6_learns_r4, w ∈ wsX6_learns := in_l qxX6_learns_16
theorem qxX6_learns_18 : ∀ w ∈ (wsX6_learns_r5 ++ (wsX6_learns_r6 ++ (wsX6_learns_r7 ++ (wsX6_learns_r8 ++ wsX6_learns_r9)))), w ∈ wsX6_learns := in_r qxX6_learns_16
theorem qxX6_learns_19 : ∀ w ∈ wsX6_learns_r5, w ∈ wsX6_learns := in_l qxX6_learns_18
theorem qxX6_learns_20 : ∀ w ∈ (wsX6_learns_r6 ++ (wsX6_learns_r7 ++ (wsX6_learns_r8 ++ wsX6_learns_r9))), w ∈ wsX6_learns := in_r qxX6_learns_18
theorem qxX6_learns_21 : ∀ w ∈ wsX6_learns_r6, w ∈ wsX6_learns := in_l qxX6_learns_20
theorem qxX6_learns_22 : ∀ w ∈ (wsX6_learns_r7 ++ (wsX6_learns_r8 ++ wsX6_learns_r9)), w ∈ wsX6_learns := in_r qxX6_learns_20
theorem qxX6_learns_23 : ∀ w ∈ wsX6_learns_r7, w ∈ wsX6_learns := in_l qxX6_learns_22
theorem qxX6_learns_24 : ∀ w ∈ (wsX6_learns_r8 ++ wsX6_learns_r9), w ∈ wsX6_learns := in_r qxX6_learns_22
theorem qxX6_learns_25 : ∀ w ∈ wsX6_learns_r8, w ∈ wsX6_learns := in_l qxX6_learns_24
theorem qxX6_learns_26 : ∀ w ∈ wsX6_learns_r9, w ∈ wsX6_learns := in_r qxX6_learns_24
def pxX6_learns : List (List Cond) := [wsX6_learns_r1, wsX6_learns_r2, wsX6_learns_r3, wsX6_learns_r4, wsX6_learns_r5, wsX6_learns_r6, wsX6_learns_r7, wsX6_learns_r8, wsX6_learns_r9, wsX60, wsX30, wsX20, wsX10, wsX00]
theorem pxX6_learns_in : ∀ q ∈ pxX6_learns, ∀ w ∈ q, w ∈ wsX6_learns := lp_c qxX6_learns_11 (lp_c qxX6_learns_13 (lp_c qxX6_learns_15 (lp_c qxX6_learns_17 (lp_c qxX6_learns_19 (lp_c qxX6_learns_21 (lp_c qxX6_learns_23 (lp_c qxX6_learns_25 (lp_c qxX6_learns_26 (lp_c qxX6_learns_10 (lp_c qxX6_learns_8 (lp_c qxX6_learns_6 (lp_c qxX6_learns_4 (lp_c qxX6_learns_2 (lp_n))))))))))))))
set_option maxRecDepth 20000 in
theorem ggX6_learns_X6_isLane : GoodIn wsX6_learns wsX6_isLane := goodIn_pp pxX6_learns pxX6_learns_in _ [(0, 10), (0, 11), (0, 12), (0, 13), (0, 9), (0, 14), (0, 15), (0, 0), (0, 16), (0, 17), (0, 18), (0, 19), (0, 20), (0, 21), (9, 0), (9, 1), (9, 2), (9, 3), (9, 4), (9, 5), (9, 6), (9, 7), (9, 8), (10, 0), (10, 1), (10, 2), (10, 3), (10, 4), (10, 5), (10, 6), (10, 7), (10, 8), (10, 9), (10, 10)] rfl (by decide +kernel)
set_option maxRecDepth 20000 in
theorem gX6_learns_X6_isLane : GoodIn wsX6_learns (wsV RX6 167 RX6 yX6_isLane wsX6_isLane) := goodIn_app (goodIn_of _ (by decide +kernel)) ggX6_learns_X6_isLane
set_option maxRecDepth 20000 in
theorem ggX6_learns_X3_copy : GoodIn wsX6_learns wsX3_copy := goodIn_pp pxX6_learns pxX6_learns_in _ [(1, 2), (1, 3), (1, 4), (1, 5), (1, 6), (1, 7), (1, 8), (1, 9), (1, 10), (1, 11), (1, 12), (1, 13), (1, 14), (1, 15), (1, 16), (1, 17), (1, 18), (1, 19), (1, 20), (1, 21), (1, 22), (1, 23), (2, 0), (2, 1), (2, 2), (2, 3), (2, 4), (2, 5), (2, 6), (2, 7), (2, 8), (2, 9), (2, 10), (2, 11), (2, 12), (2, 13), (2, 14), (2, 15), (2, 16), (2, 17), (2, 18), (2, 19), (2, 20), (2, 21), (2, 22), (2, 23), (3, 0), (3, 1), (3, 2), (3, 3), (3, 4), (3, 5), (3, 6), (3, 7), (3, 8), (3, 9), (3, 10), (10, 0), (10, 1), (10, 2), (10, 3), (10, 4), (10, 5), (10, 6), (10, 7), (10, 8), (10, 9), (10, 10), (11, 0), (11, 1), (11, 2), (11, 3), (11, 4), (11, 5), (11, 6), (11, 7), (11, 8), (11, 9), (12, 0), (12, 1), (12, 2), (12, 3), (12, 4), (12, 5), (12, 6), (13, 0), (13, 1), (13, 2), (13, 3), (13, 4), (13, 5), (13, 6), (13, 7)] rfl (by decide +kernel)
set_option maxRecDepth 20000 in
theorem gX6_learns_X3_copy : GoodIn wsX6_learns (wsV RX6 270 RX3 yX3_copy wsX3_copy) := goodIn_app (goodIn_of _ (by decide +kernel)) ggX6_learns_X3_copy
set_option maxRecDepth 20000 in
theorem ggX6_learns_X6_reaches : GoodIn wsX6_learns wsX6_reaches := goodIn_r _ [86] (by decide +kernel) (by decide +kernel)
set_option maxRecDepth 20000 in
theorem gX6_learns_X6_reaches : GoodIn wsX6_learns (va_wsS RX6 310 yX6_reaches wsX6_reaches) := goodIn_app (goodIn_of _ (by decide +kernel)) ggX6_learns_X6_reaches
set_option maxRecDepth 20000 in
theorem ggX6_learns_X3_step : GoodIn wsX6_learns wsX3_step := goodIn_pp pxX6_learns pxX6_learns_in _ [(3, 17), (1, 3), (1, 4), (1, 6), (1, 8), (1, 11), (3, 18), (3, 19), (3, 20), (1, 1), (3, 21), (3, 22), (1, 13), (3, 23), (4, 0), (4, 1), (4, 2), (4, 3), (4, 4), (2, 13), (4, 5), (2, 17), (3, 12), (0, 9), (3, 13), (4, 6), (4, 7), (4, 8), (4, 9), (4, 10), (1, 9), (4, 11), (4, 12), (4, 13), (4, 14), (4, 15), (1, 21), (4, 16), (2, 5), (2, 7), (2, 8), (4, 17), (4, 18), (4, 19), (4, 20), (1, 12), (4, 21), (4, 22), (4, 23), (5, 0), (5, 1), (5, 2), (3, 1), (5, 3), (3, 3), (3, 4), (5, 4), (5, 5), (5, 6), (5, 7), (5, 8), (5, 9), (5, 10), (5, 11), (5, 12), (5, 13), (3, 5), (5, 14), (5, 15), (5, 16), (5, 17), (5, 18), (5, 19), (5, 20), (5, 21), (5, 22), (5, 23), (6, 0), (6, 1), (6, 2), (6, 3), (6, 4), (6, 5), (6, 6), (6, 7), (6, 8), (6, 9), (6, 10), (6, 11), (6, 12), (2, 15), (6, 13), (6, 14), (6, 15), (6, 16), (6, 17), (1, 7), (6, 18), (6, 19), (6, 20), (6, 21), (6, 22), (6, 23), (7, 0), (7, 1), (1, 10), (7, 2), (7, 3), (7, 4), (7, 5), (7, 6), (7, 7), (7, 8), (7, 9), (7, 10), (7, 11), (7, 12), (7, 13), (7, 14), (7, 15), (7, 16), (7, 17), (1, 5), (7, 18), (7, 19), (7, 20), (7, 21), (2, 0), (2, 9), (7, 22), (7, 23), (8, 0), (10, 0), (10, 1), (10, 2), (10, 3), (10, 4), (10, 5), (10, 6), (10, 7), (10, 8), (10, 9), (10, 10), (11, 0), (11, 1), (11, 2), (11, 3), (11, 4), (11, 5), (11, 6), (11, 7), (11, 8), (11, 9), (12, 0), (12, 1), (12, 2), (12, 3), (12, 4), (12, 5), (12, 6), (13, 0), (13, 1), (13, 2), (13, 3), (13, 4), (13, 5), (13, 6), (13, 7)] rfl (by decide +kernel)
set_option maxRecDepth 20000 in
theorem gX6_learns_X3_step : GoodIn wsX6_learns (wsV RX6 233 RX3 yX3_step wsX3_step) := goodIn_app (goodIn_of _ (by decide +kernel)) ggX6_learns_X3_step
theorem dX6_learns_0 : decode cX6_learns 0 = .ok (.aload_n 0, 1) := by decide +kernel
theorem dX6_learns_1 : decode cX6_learns 1 = .ok (.iload_n 1, 1) := by decide +kernel
theorem dX6_learns_2 : decode cX6_learns 2 = .ok (.iload_n 2, 1) := by decide +kernel
theorem dX6_learns_3 : decode cX6_learns 3 = .ok (.invokevirtual 167, 3) := by decide +kernel
theorem dX6_learns_6 : decode cX6_learns 6 = .ok (.ifCond .ne 5, 3) := by decide +kernel
theorem dX6_learns_9 : decode cX6_learns 9 = .ok (.iconst (-1), 1) := by decide +kernel
theorem dX6_learns_10 : decode cX6_learns 10 = .ok (.ireturn, 1) := by decide +kernel
theorem dX6_learns_11 : decode cX6_learns 11 = .ok (.aload_n 0, 1) := by decide +kernel
theorem dX6_learns_12 : decode cX6_learns 12 = .ok (.getfield 26, 3) := by decide +kernel
theorem dX6_learns_15 : decode cX6_learns 15 = .ok (.getfield 104, 3) := by decide +kernel
theorem dX6_learns_18 : decode cX6_learns 18 = .ok (.iload_n 1, 1) := by decide +kernel
theorem dX6_learns_19 : decode cX6_learns 19 = .ok (.aaload, 1) := by decide +kernel
theorem dX6_learns_20 : decode cX6_learns 20 = .ok (.getfield 175, 3) := by decide +kernel
theorem dX6_learns_23 : decode cX6_learns 23 = .ok (.iload_n 2, 1) := by decide +kernel
theorem dX6_learns_24 : decode cX6_learns 24 = .ok (.aaload, 1) := by decide +kernel
theorem dX6_learns_25 : decode cX6_learns 25 = .ok (.getfield 184, 3) := by decide +kernel
theorem dX6_learns_28 : decode cX6_learns 28 = .ok (.istore_n 3, 1) := by decide +kernel
theorem dX6_learns_29 : decode cX6_learns 29 = .ok (.aload_n 0, 1) := by decide +kernel
theorem dX6_learns_30 : decode cX6_learns 30 = .ok (.getfield 30, 3) := by decide +kernel
theorem dX6_learns_33 : decode cX6_learns 33 = .ok (.aload_n 0, 1) := by decide +kernel
theorem dX6_learns_34 : decode cX6_learns 34 = .ok (.getfield 26, 3) := by decide +kernel
theorem dX6_learns_37 : decode cX6_learns 37 = .ok (.invokevirtual 270, 3) := by decide +kernel
theorem dX6_learns_40 : decode cX6_learns 40 = .ok (.aload_n 0, 1) := by decide +kernel
theorem dX6_learns_41 : decode cX6_learns 41 = .ok (.getfield 30, 3) := by decide +kernel
theorem dX6_learns_44 : decode cX6_learns 44 = .ok (.getfield 104, 3) := by decide +kernel
theorem dX6_learns_47 : decode cX6_learns 47 = .ok (.iload_n 1, 1) := by decide +kernel
theorem dX6_learns_48 : decode cX6_learns 48 = .ok (.aaload, 1) := by decide +kernel
theorem dX6_learns_49 : decode cX6_learns 49 = .ok (.getfield 175, 3) := by decide +kernel
theorem dX6_learns_52 : decode cX6_learns 52 = .ok (.iload_n 2, 1) := by decide +kernel
theorem dX6_learns_53 : decode cX6_learns 53 = .ok (.aaload, 1) := by decide +kernel
theorem dX6_learns_54 : decode cX6_learns 54 = .ok (.astore 4, 2) := by decide +kernel
theorem dX6_learns_56 : decode cX6_learns 56 = .ok (.iconst 0, 1) := by decide +kernel
theorem dX6_learns_57 : decode cX6_learns 57 = .ok (.istore 5, 2) := by decide +kernel
theorem dX6_learns_59 : decode cX6_learns 59 = .ok (.iload 5, 2) := by decide +kernel
theorem dX6_learns_61 : decode cX6_learns 61 = .ok (.sipush 200, 3) := by decide +kernel
theorem dX6_learns_64 : decode cX6_learns 64 = .ok (.if_icmp .ge 31, 3) := by decide +kernel
theorem dX6_learns_67 : decode cX6_learns 67 = .ok (.aload 4, 2) := by decide +kernel
theorem dX6_learns_69 : decode cX6_learns 69 = .ok (.getfield 187, 3) := by decide +kernel
theorem dX6_learns_72 : decode cX6_learns 72 = .ok (.iload_n 3, 1) := by decide +kernel
theorem dX6_learns_73 : decode cX6_learns 73 = .ok (.invokestatic 310, 3) := by decide +kernel
theorem dX6_learns_76 : decode cX6_learns 76 = .ok (.ifCond .eq 6, 3) := by decide +kernel
theorem dX6_learns_79 : decode cX6_learns 79 = .ok (.iload 5, 2) := by decide +kernel
theorem dX6_learns_81 : decode cX6_learns 81 = .ok (.ireturn, 1) := by decide +kernel
theorem dX6_learns_82 : decode cX6_learns 82 = .ok (.aload_n 0, 1) := by decide +kernel
theorem dX6_learns_83 : decode cX6_learns 83 = .ok (.getfield 30, 3) := by decide +kernel
theorem dX6_learns_86 : decode cX6_learns 86 = .ok (.invokevirtual 233, 3) := by decide +kernel
theorem dX6_learns_89 : decode cX6_learns 89 = .ok (.iinc 5 1, 3) := by decide +kernel
theorem dX6_learns_92 : decode cX6_learns 92 = .ok (.goto (-33), 3) := by decide +kernel
theorem dX6_learns_95 : decode cX6_learns 95 = .ok (.aload 4, 2) := by decide +kernel
theorem dX6_learns_97 : decode cX6_learns 97 = .ok (.getfield 187, 3) := by decide +kernel
theorem dX6_learns_100 : decode cX6_learns 100 = .ok (.iload_n 3, 1) := by decide +kernel
theorem dX6_learns_101 : decode cX6_learns 101 = .ok (.invokestatic 310, 3) := by decide +kernel
theorem dX6_learns_104 : decode cX6_learns 104 = .ok (.ifCond .eq 9, 3) := by decide +kernel
theorem dX6_learns_107 : decode cX6_learns 107 = .ok (.sipush 200, 3) := by decide +kernel
theorem dX6_learns_110 : decode cX6_learns 110 = .ok (.goto 4, 3) := by decide +kernel
theorem dX6_learns_113 : decode cX6_learns 113 = .ok (.iconst (-1), 1) := by decide +kernel
theorem dX6_learns_114 : decode cX6_learns 114 = .ok (.ireturn, 1) := by decide +kernel
theorem qxX6_stuck_0 : ∀ w ∈ ((((((wsX6_stuck_r1 ++ (wsX6_stuck_r2 ++ (wsX6_stuck_r3 ++ (wsX6_stuck_r4 ++ (wsX6_stuck_r5 ++ (wsX6_stuck_r6 ++ (wsX6_stuck_r7 ++ (wsX6_stuck_r8 ++ wsX6_stuck_r9)))))))) ++ wsX60) ++ wsX30) ++ wsX20) ++ wsX10) ++ wsX00), w ∈ wsX6_stuck := fun w h => List.mem_cons_of_mem _ h
theorem qxX6_stuck_1 : ∀ w ∈ (((((wsX6_stuck_r1 ++ (wsX6_stuck_r2 ++ (wsX6_stuck_r3 ++ (wsX6_stuck_r4 ++ (wsX6_stuck_r5 ++ (wsX6_stuck_r6 ++ (wsX6_stuck_r7 ++ (wsX6_stuck_r8 ++ wsX6_stuck_r9)))))))) ++ wsX60) ++ wsX30) ++ wsX20) ++ wsX10), w ∈ wsX6_stuck := in_l qxX6_stuck_0
theorem qxX6_stuck_2 : ∀ w ∈ wsX00, w ∈ wsX6_stuck := in_r qxX6_stuck_0
theorem qxX6_stuck_3 : ∀ w ∈ ((((wsX6_stuck_r1 ++ (wsX6_stuck_r2 ++ (wsX6_stuck_r3 ++ (wsX6_stuck_r4 ++ (wsX6_stuck_r5 ++ (wsX6_stuck_r6 ++ (wsX6_stuck_r7 ++ (wsX6_stuck_r8 ++ wsX6_stuck_r9)))))))) ++ wsX60) ++ wsX30) ++ wsX20), w ∈ wsX6_stuck := in_l qxX6_stuck_1
theorem qxX6_stuck_4 : ∀ w ∈ wsX10, w ∈ wsX6_stuck := in_r qxX6_stuck_1
theorem qxX6_stuck_5 : ∀ w ∈ (((wsX6_stuck_r1 ++ (wsX6_stuck_r2 ++ (wsX6_stuck_r3 ++ (wsX6_stuck_r4 ++ (wsX6_stuck_r5 ++ (wsX6_stuck_r6 ++ (wsX6_stuck_r7 ++ (wsX6_stuck_r8 ++ wsX6_stuck_r9)))))))) ++ wsX60) ++ wsX30), w ∈ wsX6_stuck := in_l qxX6_stuck_3
theorem qxX6_stuck_6 : ∀ w ∈ wsX20, w ∈ wsX6_stuck := in_r qxX6_stuck_3
theorem qxX6_stuck_7 : ∀ w ∈ ((wsX6_stuck_r1 ++ (wsX6_stuck_r2 ++ (wsX6_stuck_r3 ++ (wsX6_stuck_r4 ++ (wsX6_stuck_r5 ++ (wsX6_stuck_r6 ++ (wsX6_stuck_r7 ++ (wsX6_stuck_r8 ++ wsX6_stuck_r9)))))))) ++ wsX60), w ∈ wsX6_stuck := in_l qxX6_stuck_5
theorem qxX6_stuck_8 : ∀ w ∈ wsX30, w ∈ wsX6_stuck := in_r qxX6_stuck_5
theorem qxX6_stuck_9 : ∀ w ∈ (wsX6_stuck_r1 ++ (wsX6_stuck_r2 ++ (wsX6_stuck_r3 ++ (wsX6_stuck_r4 ++ (wsX6_stuck_r5 ++ (wsX6_stuck_r6 ++ (wsX6_stuck_r7 ++ (wsX6_stuck_r8 ++ wsX6_stuck_r9)))))))), w ∈ wsX6_stuck := in_l qxX6_stuck_7
theorem qxX6_stuck_10 : ∀ w ∈ wsX60, w ∈ wsX6_stuck := in_r qxX6_stuck_7
theorem qxX6_stuck_11 : ∀ w ∈ wsX6_stuck_r1, w ∈ wsX6_stuck := in_l qxX6_stuck_9
theorem qxX6_stuck_12 : ∀ w ∈ (wsX6_stuck_r2 ++ (wsX6_stuck_r3 ++ (wsX6_stuck_r4 ++ (wsX6_stuck_r5 ++ (wsX6_stuck_r6 ++ (wsX6_stuck_r7 ++ (wsX6_stuck_r8 ++ wsX6_stuck_r9))))))), w ∈ wsX6_stuck := in_r qxX6_stuck_9
theorem qxX6_stuck_13 : ∀ w ∈ wsX6_stuck_r2, w ∈ wsX6_stuck := in_l qxX6_stuck_12
theorem qxX6_stuck_14 : ∀ w ∈ (wsX6_stuck_r3 ++ (wsX6_stuck_r4 ++ (wsX6_stuck_r5 ++ (wsX6_stuck_r6 ++ (wsX6_stuck_r7 ++ (wsX6_stuck_r8 ++ wsX6_stuck_r9)))))), w ∈ wsX6_stuck := in_r qxX6_stuck_12
theorem qxX6_stuck_15 : ∀ w ∈ wsX6_stuck_r3, w ∈ wsX6_stuck := in_l qxX6_stuck_14
theorem qxX6_stuck_16 : ∀ w ∈ (wsX6_stuck_r4 ++ (wsX6_stuck_r5 ++ (wsX6_stuck_r6 ++ (wsX6_stuck_r7 ++ (wsX6_stuck_r8 ++ wsX6_stuck_r9))))), w ∈ wsX6_stuck := in_r qxX6_stuck_14
theorem qxX6_stuck_17 : ∀ w ∈ wsX6_stuck_r4, w ∈ wsX6_stuck := in_l qxX6_stuck_16
theorem qxX6_stuck_18 : ∀ w ∈ (wsX6_stuck_r5 ++ (wsX6_stuck_r6 ++ (wsX6_stuck_r7 ++ (wsX6_stuck_r8 ++ wsX6_stuck_r9)))), w ∈ wsX6_stuck := in_r qxX6_stuck_16
theorem qxX6_stuck_19 : ∀ w ∈ wsX6_stuck_r5, w ∈ wsX6_stuck := in_l qxX6_stuck_18
theorem qxX6_stuck_20 : ∀ w ∈ (wsX6_stuck_r6 ++ (wsX6_stuck_r7 ++ (wsX6_stuck_r8 ++ wsX6_stuck_r9))), w ∈ wsX6_stuck := in_r qxX6_stuck_18
theorem qxX6_stuck_21 : ∀ w ∈ wsX6_stuck_r6, w ∈ wsX6_stuck := in_l qxX6_stuck_20
theorem qxX6_stuck_22 : ∀ w ∈ (wsX6_stuck_r7 ++ (wsX6_stuck_r8 ++ wsX6_stuck_r9)), w ∈ wsX6_stuck := in_r qxX6_stuck_20
theorem qxX6_stuck_23 : ∀ w ∈ wsX6_stuck_r7, w ∈ wsX6_stuck := in_l qxX6_stuck_22
theorem qxX6_stuck_24 : ∀ w ∈ (wsX6_stuck_r8 ++ wsX6_stuck_r9), w ∈ wsX6_stuck := in_r qxX6_stuck_22
theorem qxX6_stuck_25 : ∀ w ∈ wsX6_stuck_r8, w ∈ wsX6_stuck := in_l qxX6_stuck_24
theorem qxX6_stuck_26 : ∀ w ∈ wsX6_stuck_r9, w ∈ wsX6_stuck := in_r qxX6_stuck_24
def pxX6_stuck : List (List Cond) := [wsX6_stuck_r1, wsX6_stuck_r2, wsX6_stuck_r3, wsX6_stuck_r4, wsX6_stuck_r5, wsX6_stuck_r6, wsX6_stuck_r7, wsX6_stuck_r8, wsX6_stuck_r9, wsX60, wsX30, wsX20, wsX10, wsX00]
theorem pxX6_stuck_in : ∀ q ∈ pxX6_stuck, ∀ w ∈ q, w ∈ wsX6_stuck := lp_c qxX6_stuck_11 (lp_c qxX6_stuck_13 (lp_c qxX6_stuck_15 (lp_c qxX6_stuck_17 (lp_c qxX6_stuck_19 (lp_c qxX6_stuck_21 (lp_c qxX6_stuck_23 (lp_c qxX6_stuck_25 (lp_c qxX6_stuck_26 (lp_c qxX6_stuck_10 (lp_c qxX6_stuck_8 (lp_c qxX6_stuck_6 (lp_c qxX6_stuck_4 (lp_c qxX6_stuck_2 (lp_n))))))))))))))
set_option maxRecDepth 20000 in
theorem ggX6_stuck_X3_cellsOfAll : GoodIn wsX6_stuck wsX3_cellsOfAll := goodIn_pp pxX6_stuck pxX6_stuck_in _ [(0, 7), (0, 8), (0, 9), (0, 10), (0, 11), (0, 6), (0, 12), (0, 13), (0, 14), (0, 15), (0, 16), (0, 17), (0, 18), (0, 19), (0, 20), (0, 21), (0, 22), (0, 23), (1, 0), (1, 1), (10, 0), (10, 1), (10, 2), (10, 3), (10, 4), (10, 5), (10, 6), (10, 7), (10, 8), (10, 9), (10, 10), (11, 0), (11, 1), (11, 2), (11, 3), (11, 4), (11, 5), (11, 6), (11, 7), (11, 8), (11, 9)] rfl (by decide +kernel)
set_option maxRecDepth 20000 in
theorem gX6_stuck_X3_cellsOfAll : GoodIn wsX6_stuck (wsV RX6 313 RX3 yX3_cellsOfAll wsX3_cellsOfAll) := goodIn_app (goodIn_of _ (by decide +kernel)) ggX6_stuck_X3_cellsOfAll
set_option maxRecDepth 20000 in
theorem ggX6_stuck_X3_copy : GoodIn wsX6_stuck wsX3_copy := goodIn_pp pxX6_stuck pxX6_stuck_in _ [(1, 5), (0, 13), (0, 8), (1, 6), (1, 7), (1, 8), (1, 9), (1, 10), (1, 11), (0, 14), (1, 12), (0, 19), (1, 13), (1, 14), (1, 15), (1, 16), (1, 17), (1, 18), (1, 19), (0, 23), (1, 20), (1, 21), (1, 22), (1, 23), (2, 0), (2, 1), (2, 2), (1, 1), (2, 3), (2, 4), (2, 5), (2, 6), (2, 7), (2, 8), (2, 9), (2, 10), (2, 11), (2, 12), (2, 13), (2, 14), (2, 15), (2, 16), (2, 17), (2, 18), (2, 19), (2, 20), (2, 21), (2, 22), (2, 23), (3, 0), (3, 1), (3, 2), (3, 3), (3, 4), (3, 5), (3, 6), (3, 7), (10, 0), (10, 1), (10, 2), (10, 3), (10, 4), (10, 5), (10, 6), (10, 7), (10, 8), (10, 9), (10, 10), (11, 0), (11, 1), (11, 2), (11, 3), (11, 4), (11, 5), (11, 6), (11, 7), (11, 8), (11, 9), (12, 0), (12, 1), (12, 2), (12, 3), (12, 4), (12, 5), (12, 6), (13, 0), (13, 1), (13, 2), (13, 3), (13, 4), (13, 5), (13, 6), (13, 7)] rfl (by decide +kernel)
set_option maxRecDepth 20000 in
theorem gX6_stuck_X3_copy : GoodIn wsX6_stuck (wsV RX6 270 RX3 yX3_copy wsX3_copy) := goodIn_app (goodIn_of _ (by decide +kernel)) ggX6_stuck_X3_copy
set_option maxRecDepth 20000 in
theorem ggX6_stuck_X3_step : GoodIn wsX6_stuck wsX3_step := goodIn_pp pxX6_stuck pxX6_stuck_in _ [(3, 11), (0, 13), (0, 8), (1, 7), (1, 9), (0, 14), (3, 12), (3, 13), (3, 14), (0, 6), (3, 15), (3, 16), (0, 19), (3, 17), (3, 18), (3, 19), (3, 20), (3, 21), (3, 22), (2, 10), (3, 23), (2, 14), (4, 0), (4, 1), (4, 2), (4, 3), (4, 4), (4, 5), (4, 6), (4, 7), (1, 10), (4, 8), (4, 9), (4, 10), (4, 11), (4, 12), (0, 23), (4, 13), (1, 1), (2, 4), (2, 5), (4, 14), (4, 15), (4, 16), (4, 17), (1, 12), (4, 18), (4, 19), (4, 20), (4, 21), (4, 22), (4, 23), (2, 22), (5, 0), (3, 0), (3, 1), (5, 1), (5, 2), (5, 3), (5, 4), (5, 5), (5, 6), (5, 7), (5, 8), (5, 9), (5, 10), (3, 2), (5, 11), (5, 12), (5, 13), (5, 14), (5, 15), (5, 16), (5, 17), (5, 18), (5, 19), (5, 20), (5, 21), (5, 22), (5, 23), (6, 0), (6, 1), (6, 2), (6, 3), (6, 4), (6, 5), (6, 6), (6, 7), (6, 8), (6, 9), (2, 12), (6, 10), (6, 11), (6, 12), (6, 13), (6, 14), (1, 8), (6, 15), (6, 16), (6, 17), (6, 18), (6, 19), (6, 20), (6, 21), (6, 22), (1, 11), (6, 23), (7, 0), (7, 1), (7, 2), (7, 3), (7, 4), (7, 5), (7, 6), (7, 7), (7, 8), (7, 9), (7, 10), (7, 11), (7, 12), (7, 13), (7, 14), (1, 6), (7, 15), (7, 16), (7, 17), (7, 18), (1, 22), (2, 6), (7, 19), (7, 20), (7, 21), (10, 0), (10, 1), (10, 2), (10, 3), (10, 4), (10, 5), (10, 6), (10, 7), (10, 8), (10, 9), (10, 10), (11, 0), (11, 1), (11, 2), (11, 3), (11, 4), (11, 5), (11, 6), (11, 7), (11, 8), (11, 9), (12, 0), (12, 1), (12, 2), (12, 3), (12, 4), (12, 5), (12, 6), (13, 0), (13, 1), (13, 2), (13, 3), (13, 4), (13, 5), (13, 6), (13, 7)] rfl (by decide +kernel)
set_option maxRecDepth 20000 in
theorem gX6_stuck_X3_step : GoodIn wsX6_stuck (wsV RX6 233 RX3 yX3_step wsX3_step) := goodIn_app (goodIn_of _ (by decide +kernel)) ggX6_stuck_X3_step
set_option maxRecDepth 20000 in
theorem ggX6_stuck_X3_movedNow : GoodIn wsX6_stuck wsX3_movedNow := goodIn_pp pxX6_stuck pxX6_stuck_in _ [(8, 1), (0, 13), (0, 14), (5, 21), (0, 8), (1, 12), (5, 5), (10, 0), (10, 1), (10, 2), (10, 3), (10, 4), (10, 5), (10, 6), (10, 7), (10, 8), (10, 9), (10, 10), (11, 0), (11, 1), (11, 2), (11, 3), (11, 4), (11, 5), (11, 6), (11, 7), (11, 8), (11, 9), (13, 0), (13, 1), (13, 2), (13, 3), (13, 4), (13, 5), (13, 6), (13, 7)] rfl (by decide +kernel)
set_option maxRecDepth 20000 in
theorem gX6_stuck_X3_movedNow : GoodIn wsX6_stuck (wsV RX6 316 RX3 yX3_movedNow wsX3_movedNow) := goodIn_app (goodIn_of _ (by decide +kernel)) ggX6_stuck_X3_movedNow
theorem dX6_stuck_0 : decode cX6_stuck 0 = .ok (.aload_n 0, 1) := by decide +kernel
theorem dX6_stuck_1 : decode cX6_stuck 1 = .ok (.getfield 70, 3) := by decide +kernel
theorem dX6_stuck_4 : decode cX6_stuck 4 = .ok (.ifCond .eq 13, 3) := by decide +kernel
theorem dX6_stuck_7 : decode cX6_stuck 7 = .ok (.aload_n 0, 1) := by decide +kernel
theorem dX6_stuck_8 : decode cX6_stuck 8 = .ok (.getfield 26, 3) := by decide +kernel
theorem dX6_stuck_11 : decode cX6_stuck 11 = .ok (.invokevirtual 313, 3) := by decide +kernel
theorem dX6_stuck_14 : decode cX6_stuck 14 = .ok (.ifCond .ne 5, 3) := by decide +kernel
theorem dX6_stuck_17 : decode cX6_stuck 17 = .ok (.iconst 0, 1) := by decide +kernel
theorem dX6_stuck_18 : decode cX6_stuck 18 = .ok (.ireturn, 1) := by decide +kernel
theorem dX6_stuck_19 : decode cX6_stuck 19 = .ok (.aload_n 0, 1) := by decide +kernel
theorem dX6_stuck_20 : decode cX6_stuck 20 = .ok (.getfield 30, 3) := by decide +kernel
theorem dX6_stuck_23 : decode cX6_stuck 23 = .ok (.aload_n 0, 1) := by decide +kernel
theorem dX6_stuck_24 : decode cX6_stuck 24 = .ok (.getfield 26, 3) := by decide +kernel
theorem dX6_stuck_27 : decode cX6_stuck 27 = .ok (.invokevirtual 270, 3) := by decide +kernel
theorem dX6_stuck_30 : decode cX6_stuck 30 = .ok (.iconst 0, 1) := by decide +kernel
theorem dX6_stuck_31 : decode cX6_stuck 31 = .ok (.istore_n 1, 1) := by decide +kernel
theorem dX6_stuck_32 : decode cX6_stuck 32 = .ok (.iload_n 1, 1) := by decide +kernel
theorem dX6_stuck_33 : decode cX6_stuck 33 = .ok (.sipush 200, 3) := by decide +kernel
theorem dX6_stuck_36 : decode cX6_stuck 36 = .ok (.if_icmp .ge 28, 3) := by decide +kernel
theorem dX6_stuck_39 : decode cX6_stuck 39 = .ok (.aload_n 0, 1) := by decide +kernel
theorem dX6_stuck_40 : decode cX6_stuck 40 = .ok (.getfield 30, 3) := by decide +kernel
theorem dX6_stuck_43 : decode cX6_stuck 43 = .ok (.invokevirtual 233, 3) := by decide +kernel
theorem dX6_stuck_46 : decode cX6_stuck 46 = .ok (.aload_n 0, 1) := by decide +kernel
theorem dX6_stuck_47 : decode cX6_stuck 47 = .ok (.getfield 30, 3) := by decide +kernel
theorem dX6_stuck_50 : decode cX6_stuck 50 = .ok (.invokevirtual 316, 3) := by decide +kernel
theorem dX6_stuck_53 : decode cX6_stuck 53 = .ok (.ifCond .eq 5, 3) := by decide +kernel
theorem dX6_stuck_56 : decode cX6_stuck 56 = .ok (.iconst 0, 1) := by decide +kernel
theorem dX6_stuck_57 : decode cX6_stuck 57 = .ok (.ireturn, 1) := by decide +kernel
theorem dX6_stuck_58 : decode cX6_stuck 58 = .ok (.iinc 1 1, 3) := by decide +kernel
theorem dX6_stuck_61 : decode cX6_stuck 61 = .ok (.goto (-29), 3) := by decide +kernel
theorem dX6_stuck_64 : decode cX6_stuck 64 = .ok (.iconst 1, 1) := by decide +kernel
theorem dX6_stuck_65 : decode cX6_stuck 65 = .ok (.ireturn, 1) := by decide +kernel
theorem qxX6_would_0 : ∀ w ∈ ((((((wsX6_would_r1 ++ (wsX6_would_r2 ++ (wsX6_would_r3 ++ (wsX6_would_r4 ++ (wsX6_would_r5 ++ (wsX6_would_r6 ++ (wsX6_would_r7 ++ (wsX6_would_r8 ++ (wsX6_would_r9 ++ wsX6_would_r10))))))))) ++ wsX60) ++ wsX30) ++ wsX20) ++ wsX10) ++ wsX00), w ∈ wsX6_would := fun w h => List.mem_cons_of_mem _ h
theorem qxX6_would_1 : ∀ w ∈ (((((wsX6_would_r1 ++ (wsX6_would_r2 ++ (wsX6_would_r3 ++ (wsX6_would_r4 ++ (wsX6_would_r5 ++ (wsX6_would_r6 ++ (wsX6_would_r7 ++ (wsX6_would_r8 ++ (wsX6_would_r9 ++ wsX6_would_r10))))))))) ++ wsX60) ++ wsX30) ++ wsX20) ++ wsX10), w ∈ wsX6_would := in_l qxX6_would_0
theorem qxX6_would_2 : ∀ w ∈ wsX00, w ∈ wsX6_would := in_r qxX6_would_0
theorem qxX6_would_3 : ∀ w ∈ ((((wsX6_would_r1 ++ (wsX6_would_r2 ++ (wsX6_would_r3 ++ (wsX6_would_r4 ++ (wsX6_would_r5 ++ (wsX6_would_r6 ++ (wsX6_would_r7 ++ (wsX6_would_r8 ++ (wsX6_would_r9 ++ wsX6_would_r10))))))))) ++ wsX60) ++ wsX30) ++ wsX20), w ∈ wsX6_would := in_l qxX6_would_1
theorem qxX6_would_4 : ∀ w ∈ wsX10, w ∈ wsX6_would := in_r qxX6_would_1
theorem qxX6_would_5 : ∀ w ∈ (((wsX6_would_r1 ++ (wsX6_would_r2 ++ (wsX6_would_r3 ++ (wsX6_would_r4 ++ (wsX6_would_r5 ++ (wsX6_would_r6 ++ (wsX6_would_r7 ++ (wsX6_would_r8 ++ (wsX6_would_r9 ++ wsX6_would_r10))))))))) ++ wsX60) ++ wsX30), w ∈ wsX6_would := in_l qxX6_would_3
theorem qxX6_would_6 : ∀ w ∈ wsX20, w ∈ wsX6_would := in_r qxX6_would_3
theorem qxX6_would_7 : ∀ w ∈ ((wsX6_would_r1 ++ (wsX6_would_r2 ++ (wsX6_would_r3 ++ (wsX6_would_r4 ++ (wsX6_would_r5 ++ (wsX6_would_r6 ++ (wsX6_would_r7 ++ (wsX6_would_r8 ++ (wsX6_would_r9 ++ wsX6_would_r10))))))))) ++ wsX60), w ∈ wsX6_would := in_l qxX6_would_5
theorem qxX6_would_8 : ∀ w ∈ wsX30, w ∈ wsX6_would := in_r qxX6_would_5
theorem qxX6_would_9 : ∀ w ∈ (wsX6_would_r1 ++ (wsX6_would_r2 ++ (wsX6_would_r3 ++ (wsX6_would_r4 ++ (wsX6_would_r5 ++ (wsX6_would_r6 ++ (wsX6_would_r7 ++ (wsX6_would_r8 ++ (wsX6_would_r9 ++ wsX6_would_r10))))))))), w ∈ wsX6_would := in_l qxX6_would_7
theorem qxX6_would_10 : ∀ w ∈ wsX60, w ∈ wsX6_would := in_r qxX6_would_7
theorem qxX6_would_11 : ∀ w ∈ wsX6_would_r1, w ∈ wsX6_would := in_l qxX6_would_9
theorem qxX6_would_12 : ∀ w ∈ (wsX6_would_r2 ++ (wsX6_would_r3 ++ (wsX6_would_r4 ++ (wsX6_would_r5 ++ (wsX6_would_r6 ++ (wsX6_would_r7 ++ (wsX6_would_r8 ++ (wsX6_would_r9 ++ wsX6_would_r10)))))))), w ∈ wsX6_would := in_r qxX6_would_9
theorem qxX6_would_13 : ∀ w ∈ wsX6_would_r2, w ∈ wsX6_would := in_l qxX6_would_12
theorem qxX6_would_14 : ∀ w ∈ (wsX6_would_r3 ++ (wsX6_would_r4 ++ (wsX6_would_r5 ++ (wsX6_would_r6 ++ (wsX6_would_r7 ++ (wsX6_would_r8 ++ (wsX6_would_r9 ++ wsX6_would_r10))))))), w ∈ wsX6_would := in_r qxX6_would_12
theorem qxX6_would_15 : ∀ w ∈ wsX6_would_r3, w ∈ wsX6_would := in_l qxX6_would_14
theorem qxX6_would_16 : ∀ w ∈ (wsX6_would_r4 ++ (wsX6_would_r5 ++ (wsX6_would_r6 ++ (wsX6_would_r7 ++ (wsX6_would_r8 ++ (wsX6_would_r9 ++ wsX6_would_r10)))))), w ∈ wsX6_would := in_r qxX6_would_14
theorem qxX6_would_17 : ∀ w ∈ wsX6_would_r4, w ∈ wsX6_would := in_l qxX6_would_16
theorem qxX6_would_18 : ∀ w ∈ (wsX6_would_r5 ++ (wsX6_would_r6 ++ (wsX6_would_r7 ++ (wsX6_would_r8 ++ (wsX6_would_r9 ++ wsX6_would_r10))))), w ∈ wsX6_would := in_r qxX6_would_16
theorem qxX6_would_19 : ∀ w ∈ wsX6_would_r5, w ∈ wsX6_would := in_l qxX6_would_18
theorem qxX6_would_20 : ∀ w ∈ (wsX6_would_r6 ++ (wsX6_would_r7 ++ (wsX6_would_r8 ++ (wsX6_would_r9 ++ wsX6_would_r10)))), w ∈ wsX6_would := in_r qxX6_would_18
theorem qxX6_would_21 : ∀ w ∈ wsX6_would_r6, w ∈ wsX6_would := in_l qxX6_would_20
theorem qxX6_would_22 : ∀ w ∈ (wsX6_would_r7 ++ (wsX6_would_r8 ++ (wsX6_would_r9 ++ wsX6_would_r10))), w ∈ wsX6_would := in_r qxX6_would_20
theorem qxX6_would_23 : ∀ w ∈ wsX6_would_r7, w ∈ wsX6_would := in_l qxX6_would_22
theorem qxX6_would_24 : ∀ w ∈ (wsX6_would_r8 ++ (wsX6_would_r9 ++ wsX6_would_r10)), w ∈ wsX6_would := in_r qxX6_would_22
theorem qxX6_would_25 : ∀ w ∈ wsX6_would_r8, w ∈ wsX6_would := in_l qxX6_would_24
theorem qxX6_would_26 : ∀ w ∈ (wsX6_would_r9 ++ wsX6_would_r10), w ∈ wsX6_would := in_r qxX6_would_24
theorem qxX6_would_27 : ∀ w ∈ wsX6_would_r9, w ∈ wsX6_would := in_l qxX6_would_26
theorem qxX6_would_28 : ∀ w ∈ wsX6_would_r10, w ∈ wsX6_would := in_r qxX6_would_26
def pxX6_would : List (List Cond) := [wsX6_would_r1, wsX6_would_r2, wsX6_would_r3, wsX6_would_r4, wsX6_would_r5, wsX6_would_r6, wsX6_would_r7, wsX6_would_r8, wsX6_would_r9, wsX6_would_r10, wsX60, wsX30, wsX20, wsX10, wsX00]
theorem pxX6_would_in : ∀ q ∈ pxX6_would, ∀ w ∈ q, w ∈ wsX6_would := lp_c qxX6_would_11 (lp_c qxX6_would_13 (lp_c qxX6_would_15 (lp_c qxX6_would_17 (lp_c qxX6_would_19 (lp_c qxX6_would_21 (lp_c qxX6_would_23 (lp_c qxX6_would_25 (lp_c qxX6_would_27 (lp_c qxX6_would_28 (lp_c qxX6_would_10 (lp_c qxX6_would_8 (lp_c qxX6_would_6 (lp_c qxX6_would_4 (lp_c qxX6_would_2 (lp_n)))))))))))))))
set_option maxRecDepth 20000 in
theorem ggX6_would_X6_zoneRefusal : GoodIn wsX6_would wsX6_zoneRefusal := goodIn_pp pxX6_would pxX6_would_in _ [(0, 4), (0, 5), (0, 6), (0, 7), (0, 8), (0, 9), (0, 10), (0, 11), (0, 12), (0, 13), (0, 3), (0, 14), (0, 15), (0, 16), (0, 17), (0, 18), (0, 19), (0, 20), (0, 21), (0, 22), (0, 23), (1, 0), (1, 1), (1, 2), (1, 3), (1, 4), (1, 5), (1, 6), (1, 7), (1, 8), (1, 9), (1, 10), (1, 11), (1, 12), (1, 13), (1, 14), (1, 15), (1, 16), (1, 17), (1, 18), (1, 19), (1, 20), (1, 21), (1, 22), (1, 23), (2, 0), (2, 1), (2, 2), (2, 3), (2, 4), (10, 0), (10, 1), (10, 2), (10, 3), (10, 4), (10, 5), (10, 6), (10, 7), (10, 8), (11, 0), (11, 1), (11, 2), (11, 3), (11, 4), (11, 5), (11, 6), (11, 7), (11, 8), (11, 9), (11, 10), (12, 0), (12, 1), (12, 2), (12, 3), (12, 4), (12, 5), (12, 6), (12, 7), (12, 8), (12, 9), (13, 0), (13, 1), (13, 2), (13, 3), (13, 4), (13, 5), (13, 6)] rfl (by decide +kernel)
set_option maxRecDepth 20000 in
theorem gX6_would_X6_zoneRefusal : GoodIn wsX6_would (wsV RX6 248 RX6 yX6_zoneRefusal wsX6_zoneRefusal) := goodIn_app (goodIn_of _ (by decide +kernel)) ggX6_would_X6_zoneRefusal
set_option maxRecDepth 20000 in
theorem ggX6_would_X6_outside : GoodIn wsX6_would wsX6_outside := goodIn_r _ [29] (by decide +kernel) (by decide +kernel)
set_option maxRecDepth 20000 in
theorem gX6_would_X6_outside : GoodIn wsX6_would (va_wsS RX6 55 yX6_outside wsX6_outside) := goodIn_app (goodIn_of _ (by decide +kernel)) ggX6_would_X6_outside
set_option maxRecDepth 20000 in
theorem ggX6_would_X6_deliveredByZone : GoodIn wsX6_would wsX6_deliveredByZone := goodIn_pp pxX6_would pxX6_would_in _ [(2, 8), (2, 9), (0, 5), (0, 6), (0, 9), (0, 10), (2, 10), (2, 11), (2, 12), (2, 13), (2, 14), (2, 15), (2, 16), (2, 17), (2, 18), (2, 19), (2, 20), (2, 21), (2, 22), (2, 23), (3, 0), (3, 1), (3, 2), (3, 3), (3, 4), (3, 5), (3, 6), (3, 7), (3, 8), (1, 16), (3, 9), (3, 10), (1, 18), (3, 11), (3, 12), (3, 13), (3, 14), (3, 15), (3, 16), (3, 17), (3, 18), (1, 19), (3, 19), (3, 20), (3, 21), (2, 1), (3, 22), (2, 3), (3, 23), (2, 4), (4, 0), (4, 1), (4, 2), (4, 3), (4, 4), (4, 5), (4, 6), (4, 7), (4, 8), (4, 9), (4, 10), (4, 11), (4, 12), (4, 13), (4, 14), (4, 15), (4, 16), (4, 17), (4, 18), (4, 19), (4, 20), (4, 21), (4, 22), (4, 23), (5, 0), (5, 1), (5, 2), (5, 3), (5, 4), (5, 5), (5, 6), (5, 7), (5, 8), (5, 9), (5, 10), (5, 11), (5, 12), (5, 13), (0, 3), (5, 14), (5, 15), (5, 16), (5, 17), (5, 18), (5, 19), (5, 20), (5, 21), (5, 22), (5, 23), (6, 0), (6, 1), (6, 2), (6, 3), (6, 4), (6, 5), (6, 6), (6, 7), (6, 8), (6, 9), (6, 10), (6, 11), (6, 12), (6, 13), (6, 14), (6, 15), (6, 16), (6, 17), (6, 18), (6, 19), (6, 20), (6, 21), (6, 22), (6, 23), (7, 0), (7, 1), (7, 2), (7, 3), (7, 4), (7, 5), (7, 6), (7, 7), (7, 8), (7, 9), (7, 10), (7, 11), (7, 12), (7, 13), (7, 14), (7, 15), (7, 16), (7, 17), (7, 18), (1, 23), (2, 0), (2, 2), (7, 19), (7, 20), (7, 21), (7, 22), (7, 23), (8, 0), (8, 1), (8, 2), (8, 3), (8, 4), (8, 5), (8, 6), (8, 7), (8, 8), (8, 9), (8, 10), (8, 11), (8, 12), (8, 13), (1, 11), (8, 14), (8, 15), (1, 10), (1, 12), (8, 16), (8, 17), (8, 18), (8, 19), (8, 20), (8, 21), (1, 14), (1, 15), (1, 17), (1, 20), (1, 21), (1, 22), (8, 22), (8, 23), (9, 0), (9, 1), (9, 2), (9, 3), (9, 4), (9, 5), (10, 0), (10, 1), (10, 2), (10, 3), (10, 4), (10, 5), (10, 6), (10, 7), (10, 8), (11, 0), (11, 1), (11, 2), (11, 3), (11, 4), (11, 5), (11, 6), (11, 7), (11, 8), (11, 9), (11, 10), (12, 0), (12, 1), (12, 2), (12, 3), (12, 4), (12, 5), (12, 6), (12, 7), (12, 8), (12, 9), (13, 0), (13, 1), (13, 2), (13, 3), (13, 4), (13, 5), (13, 6), (14, 0), (14, 1), (14, 2), (14, 3), (14, 4), (14, 5), (14, 6), (14, 7)] rfl (by decide +kernel)
set_option maxRecDepth 20000 in
theorem gX6_would_X6_deliveredByZone : GoodIn wsX6_would (wsV RX6 320 RX6 yX6_deliveredByZone wsX6_deliveredByZone) := goodIn_app (goodIn_of _ (by decide +kernel)) ggX6_would_X6_deliveredByZone
theorem dX6_would_0 : decode cX6_would 0 = .ok (.aload_n 0, 1) := by decide +kernel
theorem dX6_would_1 : decode cX6_would 1 = .ok (.iload_n 1, 1) := by decide +kernel
theorem dX6_would_2 : decode cX6_would 2 = .ok (.iload_n 2, 1) := by decide +kernel
theorem dX6_would_3 : decode cX6_would 3 = .ok (.iload_n 3, 1) := by decide +kernel
theorem dX6_would_4 : decode cX6_would 4 = .ok (.invokevirtual 248, 3) := by decide +kernel
theorem dX6_would_7 : decode cX6_would 7 = .ok (.iconst (-1), 1) := by decide +kernel
theorem dX6_would_8 : decode cX6_would 8 = .ok (.if_icmp .ne 15, 3) := by decide +kernel
theorem dX6_would_11 : decode cX6_would 11 = .ok (.iload 4, 2) := by decide +kernel
theorem dX6_would_13 : decode cX6_would 13 = .ok (.iconst 0, 1) := by decide +kernel
theorem dX6_would_14 : decode cX6_would 14 = .ok (.sipush 200, 3) := by decide +kernel
theorem dX6_would_17 : decode cX6_would 17 = .ok (.invokestatic 55, 3) := by decide +kernel
theorem dX6_would_20 : decode cX6_would 20 = .ok (.ifCond .eq 5, 3) := by decide +kernel
theorem dX6_would_23 : decode cX6_would 23 = .ok (.iconst (-1), 1) := by decide +kernel
theorem dX6_would_24 : decode cX6_would 24 = .ok (.ireturn, 1) := by decide +kernel
theorem dX6_would_25 : decode cX6_would 25 = .ok (.aload_n 0, 1) := by decide +kernel
theorem dX6_would_26 : decode cX6_would 26 = .ok (.iload_n 1, 1) := by decide +kernel
theorem dX6_would_27 : decode cX6_would 27 = .ok (.iload_n 2, 1) := by decide +kernel
theorem dX6_would_28 : decode cX6_would 28 = .ok (.iload_n 3, 1) := by decide +kernel
theorem dX6_would_29 : decode cX6_would 29 = .ok (.iload 4, 2) := by decide +kernel
theorem dX6_would_31 : decode cX6_would 31 = .ok (.invokevirtual 320, 3) := by decide +kernel
theorem dX6_would_34 : decode cX6_would 34 = .ok (.ireturn, 1) := by decide +kernel
theorem qxX6_deliveredByZone_0 : ∀ w ∈ ((((((wsX6_deliveredByZone_r1 ++ (wsX6_deliveredByZone_r2 ++ (wsX6_deliveredByZone_r3 ++ (wsX6_deliveredByZone_r4 ++ (wsX6_deliveredByZone_r5 ++ (wsX6_deliveredByZone_r6 ++ (wsX6_deliveredByZone_r7 ++ wsX6_deliveredByZone_r8))))))) ++ wsX60) ++ wsX30) ++ wsX20) ++ wsX10) ++ wsX00), w ∈ wsX6_deliveredByZone := fun w h => List.mem_cons_of_mem _ h
theorem qxX6_deliveredByZone_1 : ∀ w ∈ (((((wsX6_deliveredByZone_r1 ++ (wsX6_deliveredByZone_r2 ++ (wsX6_deliveredByZone_r3 ++ (wsX6_deliveredByZone_r4 ++ (wsX6_deliveredByZone_r5 ++ (wsX6_deliveredByZone_r6 ++ (wsX6_deliveredByZone_r7 ++ wsX6_deliveredByZone_r8))))))) ++ wsX60) ++ wsX30) ++ wsX20) ++ wsX10), w ∈ wsX6_deliveredByZone := in_l qxX6_deliveredByZone_0
theorem qxX6_deliveredByZone_2 : ∀ w ∈ wsX00, w ∈ wsX6_deliveredByZone := in_r qxX6_deliveredByZone_0
theorem qxX6_deliveredByZone_3 : ∀ w ∈ ((((wsX6_deliveredByZone_r1 ++ (wsX6_deliveredByZone_r2 ++ (wsX6_deliveredByZone_r3 ++ (wsX6_deliveredByZone_r4 ++ (wsX6_deliveredByZone_r5 ++ (wsX6_deliveredByZone_r6 ++ (wsX6_deliveredByZone_r7 ++ wsX6_deliveredByZone_r8))))))) ++ wsX60) ++ wsX30) ++ wsX20), w ∈ wsX6_deliveredByZone := in_l qxX6_deliveredByZone_1
theorem qxX6_deliveredByZone_4 : ∀ w ∈ wsX10, w ∈ wsX6_deliveredByZone := in_r qxX6_deliveredByZone_1
theorem qxX6_deliveredByZone_5 : ∀ w ∈ (((wsX6_deliveredByZone_r1 ++ (wsX6_deliveredByZone_r2 ++ (wsX6_deliveredByZone_r3 ++ (wsX6_deliveredByZone_r4 ++ (wsX6_deliveredByZone_r5 ++ (wsX6_deliveredByZone_r6 ++ (wsX6_deliveredByZone_r7 ++ wsX6_deliveredByZone_r8))))))) ++ wsX60) ++ wsX30), w ∈ wsX6_deliveredByZone := in_l qxX6_deliveredByZone_3
theorem qxX6_deliveredByZone_6 : ∀ w ∈ wsX20, w ∈ wsX6_deliveredByZone := in_r qxX6_deliveredByZone_3
theorem qxX6_deliveredByZone_7 : ∀ w ∈ ((wsX6_deliveredByZone_r1 ++ (wsX6_deliveredByZone_r2 ++ (wsX6_deliveredByZone_r3 ++ (wsX6_deliveredByZone_r4 ++ (wsX6_deliveredByZone_r5 ++ (wsX6_deliveredByZone_r6 ++ (wsX6_deliveredByZone_r7 ++ wsX6_deliveredByZone_r8))))))) ++ wsX60), w ∈ wsX6_deliveredByZone := in_l qxX6_deliveredByZone_5
theorem qxX6_deliveredByZone_8 : ∀ w ∈ wsX30, w ∈ wsX6_deliveredByZone := in_r qxX6_deliveredByZone_5
theorem qxX6_deliveredByZone_9 : ∀ w ∈ (wsX6_deliveredByZone_r1 ++ (wsX6_deliveredByZone_r2 ++ (wsX6_deliveredByZone_r3 ++ (wsX6_deliveredByZone_r4 ++ (wsX6_deliveredByZone_r5 ++ (wsX6_deliveredByZone_r6 ++ (wsX6_deliveredByZone_r7 ++ wsX6_deliveredByZone_r8))))))), w ∈ wsX6_deliveredByZone := in_l qxX6_deliveredByZone_7
theorem qxX6_deliveredByZone_10 : ∀ w ∈ wsX60, w ∈ wsX6_deliveredByZone := in_r qxX6_deliveredByZone_7
theorem qxX6_deliveredByZone_11 : ∀ w ∈ wsX6_deliveredByZone_r1, w ∈ wsX6_deliveredByZone := in_l qxX6_deliveredByZone_9
theorem qxX6_deliveredByZone_12 : ∀ w ∈ (wsX6_deliveredByZone_r2 ++ (wsX6_deliveredByZone_r3 ++ (wsX6_deliveredByZone_r4 ++ (wsX6_deliveredByZone_r5 ++ (wsX6_deliveredByZone_r6 ++ (wsX6_deliveredByZone_r7 ++ wsX6_deliveredByZone_r8)))))), w ∈ wsX6_deliveredByZone := in_r qxX6_deliveredByZone_9
theorem qxX6_deliveredByZone_13 : ∀ w ∈ wsX6_deliveredByZone_r2, w ∈ wsX6_deliveredByZone := in_l qxX6_deliveredByZone_12
theorem qxX6_deliveredByZone_14 : ∀ w ∈ (wsX6_deliveredByZone_r3 ++ (wsX6_deliveredByZone_r4 ++ (wsX6_deliveredByZone_r5 ++ (wsX6_deliveredByZone_r6 ++ (wsX6_deliveredByZone_r7 ++ wsX6_deliveredByZone_r8))))), w ∈ wsX6_deliveredByZone := in_r qxX6_deliveredByZone_12
theorem qxX6_deliveredByZone_15 : ∀ w ∈ wsX6_deliveredByZone_r3, w ∈ wsX6_deliveredByZone := in_l qxX6_deliveredByZone_14
theorem qxX6_deliveredByZone_16 : ∀ w ∈ (wsX6_deliveredByZone_r4 ++ (wsX6_deliveredByZone_r5 ++ (wsX6_deliveredByZone_r6 ++ (wsX6_deliveredByZone_r7 ++ wsX6_deliveredByZone_r8)))), w ∈ wsX6_deliveredByZone := in_r qxX6_deliveredByZone_14
theorem qxX6_deliveredByZone_17 : ∀ w ∈ wsX6_deliveredByZone_r4, w ∈ wsX6_deliveredByZone := in_l qxX6_deliveredByZone_16
theorem qxX6_deliveredByZone_18 : ∀ w ∈ (wsX6_deliveredByZone_r5 ++ (wsX6_deliveredByZone_r6 ++ (wsX6_deliveredByZone_r7 ++ wsX6_deliveredByZone_r8))), w ∈ wsX6_deliveredByZone := in_r qxX6_deliveredByZone_16
theorem qxX6_deliveredByZone_19 : ∀ w ∈ wsX6_deliveredByZone_r5, w ∈ wsX6_deliveredByZone := in_l qxX6_deliveredByZone_18
theorem qxX6_deliveredByZone_20 : ∀ w ∈ (wsX6_deliveredByZone_r6 ++ (wsX6_deliveredByZone_r7 ++ wsX6_deliveredByZone_r8)), w ∈ wsX6_deliveredByZone := in_r qxX6_deliveredByZone_18
theorem qxX6_deliveredByZone_21 : ∀ w ∈ wsX6_deliveredByZone_r6, w ∈ wsX6_deliveredByZone := in_l qxX6_deliveredByZone_20
theorem qxX6_deliveredByZone_22 : ∀ w ∈ (wsX6_deliveredByZone_r7 ++ wsX6_deliveredByZone_r8), w ∈ wsX6_deliveredByZone := in_r qxX6_deliveredByZone_20
theorem qxX6_deliveredByZone_23 : ∀ w ∈ wsX6_deliveredByZone_r7, w ∈ wsX6_deliveredByZone := in_l qxX6_deliveredByZone_22
theorem qxX6_deliveredByZone_24 : ∀ w ∈ wsX6_deliveredByZone_r8, w ∈ wsX6_deliveredByZone := in_r qxX6_deliveredByZone_22
def pxX6_deliveredByZone : List (List Cond) := [wsX6_deliveredByZone_r1, wsX6_deliveredByZone_r2, wsX6_deliveredByZone_r3, wsX6_deliveredByZone_r4, wsX6_deliveredByZone_r5, wsX6_deliveredByZone_r6, wsX6_deliveredByZone_r7, wsX6_deliveredByZone_r8, wsX60, wsX30, wsX20, wsX10, wsX00]
theorem pxX6_deliveredByZone_in : ∀ q ∈ pxX6_deliveredByZone, ∀ w ∈ q, w ∈ wsX6_deliveredByZone := lp_c qxX6_deliveredByZone_11 (lp_c qxX6_deliveredByZone_13 (lp_c qxX6_deliveredByZone_15 (lp_c qxX6_deliveredByZone_17 (lp_c qxX6_deliveredByZone_19 (lp_c qxX6_deliveredByZone_21 (lp_c qxX6_deliveredByZone_23 (lp_c qxX6_deliveredByZone_24 (lp_c qxX6_deliveredByZone_10 (lp_c qxX6_deliveredByZone_8 (lp_c qxX6_deliveredByZone_6 (lp_c qxX6_deliveredByZone_4 (lp_c qxX6_deliveredByZone_2 (lp_n)))))))))))))
set_option maxRecDepth 20000 in
theorem ggX6_deliveredByZone_X3_copy : GoodIn wsX6_deliveredByZone wsX3_copy := goodIn_pp pxX6_deliveredByZone pxX6_deliveredByZone_in _ [(0, 9), (0, 10), (0, 11), (0, 12), (0, 13), (0, 14), (0, 15), (0, 16), (0, 17), (0, 18), (0, 19), (0, 20), (0, 21), (0, 22), (0, 23), (1, 0), (1, 1), (1, 2), (1, 3), (1, 4), (1, 5), (1, 6), (1, 7), (1, 8), (1, 9), (1, 10), (1, 11), (1, 12), (1, 13), (1, 14), (1, 15), (1, 16), (1, 17), (1, 18), (1, 19), (1, 20), (1, 21), (1, 22), (1, 23), (2, 0), (2, 1), (2, 2), (2, 3), (2, 4), (2, 5), (2, 6), (2, 7), (2, 8), (2, 9), (2, 10), (2, 11), (2, 12), (2, 13), (2, 14), (2, 15), (2, 16), (2, 17), (9, 0), (9, 1), (9, 2), (9, 3), (9, 4), (9, 5), (9, 6), (9, 7), (9, 8), (9, 9), (9, 10), (10, 0), (10, 1), (10, 2), (10, 3), (10, 4), (10, 5), (10, 6), (10, 7), (10, 8), (10, 9), (11, 0), (11, 1), (11, 2), (11, 3), (11, 4), (11, 5), (11, 6), (12, 0), (12, 1), (12, 2), (12, 3), (12, 4), (12, 5), (12, 6), (12, 7)] rfl (by decide +kernel)
set_option maxRecDepth 20000 in
theorem gX6_deliveredByZone_X3_copy : GoodIn wsX6_deliveredByZone (wsV RX6 270 RX3 yX3_copy wsX3_copy) := goodIn_app (goodIn_of _ (by decide +kernel)) ggX6_deliveredByZone_X3_copy
set_option maxRecDepth 20000 in
theorem ggX6_deliveredByZone_X3_steps : GoodIn wsX6_deliveredByZone wsX3_steps := goodIn_pp pxX6_deliveredByZone pxX6_deliveredByZone_in _ [(2, 21), (2, 22), (2, 23), (3, 0), (0, 8), (3, 1), (0, 10), (0, 11), (0, 13), (0, 15), (0, 18), (3, 2), (3, 3), (3, 4), (3, 5), (3, 6), (0, 20), (3, 7), (3, 8), (3, 9), (3, 10), (3, 11), (3, 12), (1, 20), (3, 13), (2, 0), (3, 14), (3, 15), (3, 16), (3, 17), (3, 18), (3, 19), (3, 20), (3, 21), (0, 16), (3, 22), (3, 23), (4, 0), (4, 1), (4, 2), (1, 4), (4, 3), (1, 12), (1, 14), (1, 15), (4, 4), (4, 5), (4, 6), (4, 7), (0, 19), (4, 8), (4, 9), (4, 10), (4, 11), (4, 12), (4, 13), (2, 8), (4, 14), (2, 10), (2, 11), (4, 15), (4, 16), (4, 17), (4, 18), (4, 19), (4, 20), (4, 21), (4, 22), (4, 23), (5, 0), (2, 12), (5, 1), (5, 2), (5, 3), (5, 4), (5, 5), (5, 6), (5, 7), (5, 8), (5, 9), (5, 10), (5, 11), (5, 12), (5, 13), (5, 14), (5, 15), (5, 16), (5, 17), (5, 18), (5, 19), (5, 20), (5, 21), (5, 22), (5, 23), (1, 22), (6, 0), (6, 1), (6, 2), (6, 3), (6, 4), (0, 14), (6, 5), (6, 6), (6, 7), (6, 8), (6, 9), (6, 10), (6, 11), (6, 12), (0, 17), (6, 13), (6, 14), (6, 15), (6, 16), (6, 17), (6, 18), (6, 19), (6, 20), (6, 21), (6, 22), (6, 23), (7, 0), (7, 1), (7, 2), (7, 3), (7, 4), (0, 12), (7, 5), (7, 6), (7, 7), (7, 8), (1, 7), (1, 16), (7, 9), (7, 10), (7, 11), (9, 0), (9, 1), (9, 2), (9, 3), (9, 4), (9, 5), (9, 6), (9, 7), (9, 8), (9, 9), (9, 10), (10, 0), (10, 1), (10, 2), (10, 3), (10, 4), (10, 5), (10, 6), (10, 7), (10, 8), (10, 9), (11, 0), (11, 1), (11, 2), (11, 3), (11, 4), (11, 5), (11, 6), (12, 0), (12, 1), (12, 2), (12, 3), (12, 4), (12, 5), (12, 6), (12, 7)] rfl (by decide +kernel)
set_option maxRecDepth 20000 in
theorem gX6_deliveredByZone_X3_steps : GoodIn wsX6_deliveredByZone (wsV RX6 274 RX3 yX3_steps wsX3_steps) := goodIn_app (goodIn_of _ (by decide +kernel)) ggX6_deliveredByZone_X3_steps
set_option maxRecDepth 20000 in
theorem ggX6_deliveredByZone_X6_deliveredApart : GoodIn wsX6_deliveredByZone wsX6_deliveredApart := goodIn_pp pxX6_deliveredByZone pxX6_deliveredByZone_in _ [(7, 15), (0, 0), (0, 1), (7, 16), (7, 17), (7, 18), (0, 8), (7, 19), (0, 11), (0, 19), (4, 20), (8, 0), (8, 1), (8, 2), (8, 3), (8, 4), (8, 5), (8, 6), (8, 7), (8, 8), (9, 0), (9, 1), (9, 2), (9, 3), (9, 4), (9, 5), (9, 6), (9, 7), (9, 8), (9, 9), (9, 10), (12, 0), (12, 1), (12, 2), (12, 3), (12, 4), (12, 5), (12, 6), (12, 7)] rfl (by decide +kernel)
set_option maxRecDepth 20000 in
theorem gX6_deliveredByZone_X6_deliveredApart : GoodIn wsX6_deliveredByZone (wsV RX6 277 RX6 yX6_deliveredApart wsX6_deliveredApart) := goodIn_app (goodIn_of _ (by decide +kernel)) ggX6_deliveredByZone_X6_deliveredApart
theorem dX6_deliveredByZone_0 : decode cX6_deliveredByZone 0 = .ok (.aload_n 0, 1) := by decide +kernel
theorem dX6_deliveredByZone_1 : decode cX6_deliveredByZone 1 = .ok (.getfield 30, 3) := by decide +kernel
theorem dX6_deliveredByZone_4 : decode cX6_deliveredByZone 4 = .ok (.aload_n 0, 1) := by decide +kernel
theorem dX6_deliveredByZone_5 : decode cX6_deliveredByZone 5 = .ok (.getfield 26, 3) := by decide +kernel
theorem dX6_deliveredByZone_8 : decode cX6_deliveredByZone 8 = .ok (.invokevirtual 270, 3) := by decide +kernel
theorem dX6_deliveredByZone_11 : decode cX6_deliveredByZone 11 = .ok (.aload_n 0, 1) := by decide +kernel
theorem dX6_deliveredByZone_12 : decode cX6_deliveredByZone 12 = .ok (.getfield 30, 3) := by decide +kernel
theorem dX6_deliveredByZone_15 : decode cX6_deliveredByZone 15 = .ok (.getfield 104, 3) := by decide +kernel
theorem dX6_deliveredByZone_18 : decode cX6_deliveredByZone 18 = .ok (.iload_n 1, 1) := by decide +kernel
theorem dX6_deliveredByZone_19 : decode cX6_deliveredByZone 19 = .ok (.aaload, 1) := by decide +kernel
theorem dX6_deliveredByZone_20 : decode cX6_deliveredByZone 20 = .ok (.getfield 175, 3) := by decide +kernel
theorem dX6_deliveredByZone_23 : decode cX6_deliveredByZone 23 = .ok (.iload_n 2, 1) := by decide +kernel
theorem dX6_deliveredByZone_24 : decode cX6_deliveredByZone 24 = .ok (.aaload, 1) := by decide +kernel
theorem dX6_deliveredByZone_25 : decode cX6_deliveredByZone 25 = .ok (.iload_n 3, 1) := by decide +kernel
theorem dX6_deliveredByZone_26 : decode cX6_deliveredByZone 26 = .ok (.putfield 190, 3) := by decide +kernel
theorem dX6_deliveredByZone_29 : decode cX6_deliveredByZone 29 = .ok (.aload_n 0, 1) := by decide +kernel
theorem dX6_deliveredByZone_30 : decode cX6_deliveredByZone 30 = .ok (.getfield 30, 3) := by decide +kernel
theorem dX6_deliveredByZone_33 : decode cX6_deliveredByZone 33 = .ok (.iload 4, 2) := by decide +kernel
theorem dX6_deliveredByZone_35 : decode cX6_deliveredByZone 35 = .ok (.invokevirtual 274, 3) := by decide +kernel
theorem dX6_deliveredByZone_38 : decode cX6_deliveredByZone 38 = .ok (.aload_n 0, 1) := by decide +kernel
theorem dX6_deliveredByZone_39 : decode cX6_deliveredByZone 39 = .ok (.invokevirtual 277, 3) := by decide +kernel
theorem dX6_deliveredByZone_42 : decode cX6_deliveredByZone 42 = .ok (.ireturn, 1) := by decide +kernel
theorem qxX6_bestZone_0 : ∀ w ∈ ((((((wsX6_bestZone_r1 ++ (wsX6_bestZone_r2 ++ (wsX6_bestZone_r3 ++ (wsX6_bestZone_r4 ++ (wsX6_bestZone_r5 ++ (wsX6_bestZone_r6 ++ (wsX6_bestZone_r7 ++ (wsX6_bestZone_r8 ++ (wsX6_bestZone_r9 ++ wsX6_bestZone_r10))))))))) ++ wsX60) ++ wsX30) ++ wsX20) ++ wsX10) ++ wsX00), w ∈ wsX6_bestZone := fun w h => List.mem_cons_of_mem _ h
theorem qxX6_bestZone_1 : ∀ w ∈ (((((wsX6_bestZone_r1 ++ (wsX6_bestZone_r2 ++ (wsX6_bestZone_r3 ++ (wsX6_bestZone_r4 ++ (wsX6_bestZone_r5 ++ (wsX6_bestZone_r6 ++ (wsX6_bestZone_r7 ++ (wsX6_bestZone_r8 ++ (wsX6_bestZone_r9 ++ wsX6_bestZone_r10))))))))) ++ wsX60) ++ wsX30) ++ wsX20) ++ wsX10), w ∈ wsX6_bestZone := in_l qxX6_bestZone_0
theorem qxX6_bestZone_2 : ∀ w ∈ wsX00, w ∈ wsX6_bestZone := in_r qxX6_bestZone_0
theorem qxX6_bestZone_3 : ∀ w ∈ ((((wsX6_bestZone_r1 ++ (wsX6_bestZone_r2 ++ (wsX6_bestZone_r3 ++ (wsX6_bestZone_r4 ++ (wsX6_bestZone_r5 ++ (wsX6_bestZone_r6 ++ (wsX6_bestZone_r7 ++ (wsX6_bestZone_r8 ++ (wsX6_bestZone_r9 ++ wsX6_bestZone_r10))))))))) ++ wsX60) ++ wsX30) ++ wsX20), w ∈ wsX6_bestZone := in_l qxX6_bestZone_1
theorem qxX6_bestZone_4 : ∀ w ∈ wsX10, w ∈ wsX6_bestZone := in_r qxX6_bestZone_1
theorem qxX6_bestZone_5 : ∀ w ∈ (((wsX6_bestZone_r1 ++ (wsX6_bestZone_r2 ++ (wsX6_bestZone_r3 ++ (wsX6_bestZone_r4 ++ (wsX6_bestZone_r5 ++ (wsX6_bestZone_r6 ++ (wsX6_bestZone_r7 ++ (wsX6_bestZone_r8 ++ (wsX6_bestZone_r9 ++ wsX6_bestZone_r10))))))))) ++ wsX60) ++ wsX30), w ∈ wsX6_bestZone := in_l qxX6_bestZone_3
theorem qxX6_bestZone_6 : ∀ w ∈ wsX20, w ∈ wsX6_bestZone := in_r qxX6_bestZone_3
theorem qxX6_bestZone_7 : ∀ w ∈ ((wsX6_bestZone_r1 ++ (wsX6_bestZone_r2 ++ (wsX6_bestZone_r3 ++ (wsX6_bestZone_r4 ++ (wsX6_bestZone_r5 ++ (wsX6_bestZone_r6 ++ (wsX6_bestZone_r7 ++ (wsX6_bestZone_r8 ++ (wsX6_bestZone_r9 ++ wsX6_bestZone_r10))))))))) ++ wsX60), w ∈ wsX6_bestZone := in_l qxX6_bestZone_5
theorem qxX6_bestZone_8 : ∀ w ∈ wsX30, w ∈ wsX6_bestZone := in_r qxX6_bestZone_5
theorem qxX6_bestZone_9 : ∀ w ∈ (wsX6_bestZone_r1 ++ (wsX6_bestZone_r2 ++ (wsX6_bestZone_r3 ++ (wsX6_bestZone_r4 ++ (wsX6_bestZone_r5 ++ (wsX6_bestZone_r6 ++ (wsX6_bestZone_r7 ++ (wsX6_bestZone_r8 ++ (wsX6_bestZone_r9 ++ wsX6_bestZone_r10))))))))), w ∈ wsX6_bestZone := in_l qxX6_bestZone_7
theorem qxX6_bestZone_10 : ∀ w ∈ wsX60, w ∈ wsX6_bestZone := in_r qxX6_bestZone_7
theorem qxX6_bestZone_11 : ∀ w ∈ wsX6_bestZone_r1, w ∈ wsX6_bestZone := in_l qxX6_bestZone_9
theorem qxX6_bestZone_12 : ∀ w ∈ (wsX6_bestZone_r2 ++ (wsX6_bestZone_r3 ++ (wsX6_bestZone_r4 ++ (wsX6_bestZone_r5 ++ (wsX6_bestZone_r6 ++ (wsX6_bestZone_r7 ++ (wsX6_bestZone_r8 ++ (wsX6_bestZone_r9 ++ wsX6_bestZone_r10)))))))), w ∈ wsX6_bestZone := in_r qxX6_bestZone_9
theorem qxX6_bestZone_13 : ∀ w ∈ wsX6_bestZone_r2, w ∈ wsX6_bestZone := in_l qxX6_bestZone_12
theorem qxX6_bestZone_14 : ∀ w ∈ (wsX6_bestZone_r3 ++ (wsX6_bestZone_r4 ++ (wsX6_bestZone_r5 ++ (wsX6_bestZone_r6 ++ (wsX6_bestZone_r7 ++ (wsX6_bestZone_r8 ++ (wsX6_bestZone_r9 ++ wsX6_bestZone_r10))))))), w ∈ wsX6_bestZone := in_r qxX6_bestZone_12
theorem qxX6_bestZone_15 : ∀ w ∈ wsX6_bestZone_r3, w ∈ wsX6_bestZone := in_l qxX6_bestZone_14
theorem qxX6_bestZone_16 : ∀ w ∈ (wsX6_bestZone_r4 ++ (wsX6_bestZone_r5 ++ (wsX6_bestZone_r6 ++ (wsX6_bestZone_r7 ++ (wsX6_bestZone_r8 ++ (wsX6_bestZone_r9 ++ wsX6_bestZone_r10)))))), w ∈ wsX6_bestZone := in_r qxX6_bestZone_14
theorem qxX6_bestZone_17 : ∀ w ∈ wsX6_bestZone_r4, w ∈ wsX6_bestZone := in_l qxX6_bestZone_16
theorem qxX6_bestZone_18 : ∀ w ∈ (wsX6_bestZone_r5 ++ (wsX6_bestZone_r6 ++ (wsX6_bestZone_r7 ++ (wsX6_bestZone_r8 ++ (wsX6_bestZone_r9 ++ wsX6_bestZone_r10))))), w ∈ wsX6_bestZone := in_r qxX6_bestZone_16
theorem qxX6_bestZone_19 : ∀ w ∈ wsX6_bestZone_r5, w ∈ wsX6_bestZone := in_l qxX6_bestZone_18
theorem qxX6_bestZone_20 : ∀ w ∈ (wsX6_bestZone_r6 ++ (wsX6_bestZone_r7 ++ (wsX6_bestZone_r8 ++ (wsX6_bestZone_r9 ++ wsX6_bestZone_r10)))), w ∈ wsX6_bestZone := in_r qxX6_bestZone_18
theorem qxX6_bestZone_21 : ∀ w ∈ wsX6_bestZone_r6, w ∈ wsX6_bestZone := in_l qxX6_bestZone_20
theorem qxX6_bestZone_22 : ∀ w ∈ (wsX6_bestZone_r7 ++ (wsX6_bestZone_r8 ++ (wsX6_bestZone_r9 ++ wsX6_bestZone_r10))), w ∈ wsX6_bestZone := in_r qxX6_bestZone_20
theorem qxX6_bestZone_23 : ∀ w ∈ wsX6_bestZone_r7, w ∈ wsX6_bestZone := in_l qxX6_bestZone_22
theorem qxX6_bestZone_24 : ∀ w ∈ (wsX6_bestZone_r8 ++ (wsX6_bestZone_r9 ++ wsX6_bestZone_r10)), w ∈ wsX6_bestZone := in_r qxX6_bestZone_22
theorem qxX6_bestZone_25 : ∀ w ∈ wsX6_bestZone_r8, w ∈ wsX6_bestZone := in_l qxX6_bestZone_24
theorem qxX6_bestZone_26 : ∀ w ∈ (wsX6_bestZone_r9 ++ wsX6_bestZone_r10), w ∈ wsX6_bestZone := in_r qxX6_bestZone_24
theorem qxX6_bestZone_27 : ∀ w ∈ wsX6_bestZone_r9, w ∈ wsX6_bestZone := in_l qxX6_bestZone_26
theorem qxX6_bestZone_28 : ∀ w ∈ wsX6_bestZone_r10, w ∈ wsX6_bestZone := in_r qxX6_bestZone_26
def pxX6_bestZone : List (List Cond) := [wsX6_bestZone_r1, wsX6_bestZone_r2, wsX6_bestZone_r3, wsX6_bestZone_r4, wsX6_bestZone_r5, wsX6_bestZone_r6, wsX6_bestZone_r7, wsX6_bestZone_r8, wsX6_bestZone_r9, wsX6_bestZone_r10, wsX60, wsX30, wsX20, wsX10, wsX00]
theorem pxX6_bestZone_in : ∀ q ∈ pxX6_bestZone, ∀ w ∈ q, w ∈ wsX6_bestZone := lp_c qxX6_bestZone_11 (lp_c qxX6_bestZone_13 (lp_c qxX6_bestZone_15 (lp_c qxX6_bestZone_17 (lp_c qxX6_bestZone_19 (lp_c qxX6_bestZone_21 (lp_c qxX6_bestZone_23 (lp_c qxX6_bestZone_25 (lp_c qxX6_bestZone_27 (lp_c qxX6_bestZone_28 (lp_c qxX6_bestZone_10 (lp_c qxX6_bestZone_8 (lp_c qxX6_bestZone_6 (lp_c qxX6_bestZone_4 (lp_c qxX6_bestZone_2 (lp_n)))))))))))))))
set_option maxRecDepth 20000 in
theorem ggX6_bestZone_X6_isLane : GoodIn wsX6_bestZone wsX6_isLane := goodIn_pp pxX6_bestZone pxX6_bestZone_in _ [(0, 6), (0, 7), (0, 8), (0, 9), (0, 5), (0, 10), (0, 11), (0, 0), (0, 12), (0, 13), (0, 14), (0, 15), (0, 16), (0, 17), (10, 0), (10, 1), (10, 2), (10, 3), (10, 4), (10, 5), (10, 6), (10, 7), (10, 8), (11, 0), (11, 1), (11, 2), (11, 3), (11, 4), (11, 5), (11, 6), (11, 7), (11, 8), (11, 9), (11, 10)] rfl (by decide +kernel)
set_option maxRecDepth 20000 in
theorem gX6_bestZone_X6_isLane : GoodIn wsX6_bestZone (wsV RX6 167 RX6 yX6_isLane wsX6_isLane) := goodIn_app (goodIn_of _ (by decide +kernel)) ggX6_bestZone_X6_isLane
set_option maxRecDepth 20000 in
theorem ggX6_bestZone_X6_outside : GoodIn wsX6_bestZone wsX6_outside := goodIn_r _ [21] (by decide +kernel) (by decide +kernel)
set_option maxRecDepth 20000 in
theorem gX6_bestZone_X6_outside : GoodIn wsX6_bestZone (va_wsS RX6 55 yX6_outside wsX6_outside) := goodIn_app (goodIn_of _ (by decide +kernel)) ggX6_bestZone_X6_outside
set_option maxRecDepth 20000 in
theorem ggX6_bestZone_X6_largestZone : GoodIn wsX6_bestZone wsX6_largestZone := goodIn_pp pxX6_bestZone pxX6_bestZone_in _ [(1, 0), (0, 0), (1, 1), (1, 2), (1, 3), (0, 17), (1, 4), (1, 5), (1, 6), (1, 7), (1, 8), (1, 9), (1, 10), (1, 11), (1, 12), (1, 13), (1, 14), (1, 15), (1, 16), (1, 17), (1, 18), (1, 19), (1, 20), (1, 21), (1, 22), (1, 23), (10, 0), (10, 1), (10, 2), (10, 3), (10, 4), (10, 5), (10, 6), (10, 7), (10, 8), (11, 0), (11, 1), (11, 2), (11, 3), (11, 4), (11, 5), (11, 6), (11, 7), (11, 8), (11, 9), (11, 10), (12, 0), (12, 1), (12, 2), (12, 3), (12, 4), (12, 5), (12, 6), (12, 7), (12, 8), (12, 9), (13, 0), (13, 1), (13, 2), (13, 3), (13, 4), (13, 5), (13, 6)] rfl (by decide +kernel)
set_option maxRecDepth 20000 in
theorem gX6_bestZone_X6_largestZone : GoodIn wsX6_bestZone (wsV RX6 252 RX6 yX6_largestZone wsX6_largestZone) := goodIn_app (goodIn_of _ (by decide +kernel)) ggX6_bestZone_X6_largestZone
set_option maxRecDepth 20000 in
theorem ggX6_bestZone_X6_deliveredByZone : GoodIn wsX6_bestZone wsX6_deliveredByZone := goodIn_pp pxX6_bestZone pxX6_bestZone_in _ [(2, 3), (2, 4), (0, 0), (1, 1), (1, 2), (1, 3), (2, 5), (2, 6), (2, 7), (2, 8), (2, 9), (2, 10), (2, 11), (2, 12), (2, 13), (2, 14), (2, 15), (2, 16), (2, 17), (2, 18), (2, 19), (2, 20), (2, 21), (2, 22), (2, 23), (3, 0), (3, 1), (3, 2), (3, 3), (1, 11), (3, 4), (3, 5), (1, 13), (3, 6), (3, 7), (3, 8), (3, 9), (3, 10), (3, 11), (3, 12), (3, 13), (1, 14), (3, 14), (3, 15), (3, 16), (1, 20), (3, 17), (1, 22), (3, 18), (1, 23), (3, 19), (3, 20), (3, 21), (3, 22), (3, 23), (4, 0), (4, 1), (4, 2), (4, 3), (4, 4), (4, 5), (4, 6), (4, 7), (4, 8), (4, 9), (4, 10), (4, 11), (4, 12), (4, 13), (4, 14), (4, 15), (4, 16), (4, 17), (4, 18), (4, 19), (4, 20), (4, 21), (4, 22), (4, 23), (5, 0), (5, 1), (5, 2), (5, 3), (5, 4), (5, 5), (5, 6), (5, 7), (5, 8), (0, 5), (5, 9), (5, 10), (5, 11), (5, 12), (5, 13), (5, 14), (5, 15), (5, 16), (5, 17), (5, 18), (5, 19), (5, 20), (5, 21), (5, 22), (5, 23), (6, 0), (6, 1), (6, 2), (6, 3), (6, 4), (6, 5), (6, 6), (6, 7), (6, 8), (6, 9), (6, 10), (6, 11), (6, 12), (6, 13), (6, 14), (6, 15), (6, 16), (6, 17), (6, 18), (6, 19), (6, 20), (6, 21), (6, 22), (6, 23), (7, 0), (7, 1), (7, 2), (7, 3), (7, 4), (7, 5), (7, 6), (7, 7), (7, 8), (7, 9), (7, 10), (7, 11), (7, 12), (7, 13), (1, 18), (1, 19), (1, 21), (7, 14), (7, 15), (7, 16), (7, 17), (7, 18), (7, 19), (7, 20), (7, 21), (7, 22), (7, 23), (8, 0), (8, 1), (8, 2), (8, 3), (8, 4), (8, 5), (8, 6), (8, 7), (8, 8), (1, 6), (8, 9), (8, 10), (1, 5), (1, 7), (8, 11), (8, 12), (8, 13), (8, 14), (8, 15), (8, 16), (1, 9), (1, 10), (1, 12), (1, 15), (1, 16), (1, 17), (8, 17), (8, 18), (8, 19), (8, 20), (8, 21), (8, 22), (8, 23), (9, 0), (10, 0), (10, 1), (10, 2), (10, 3), (10, 4), (10, 5), (10, 6), (10, 7), (10, 8), (11, 0), (11, 1), (11, 2), (11, 3), (11, 4), (11, 5), (11, 6), (11, 7), (11, 8), (11, 9), (11, 10), (12, 0), (12, 1), (12, 2), (12, 3), (12, 4), (12, 5), (12, 6), (12, 7), (12, 8), (12, 9), (13, 0), (13, 1), (13, 2), (13, 3), (13, 4), (13, 5), (13, 6), (14, 0), (14, 1), (14, 2), (14, 3), (14, 4), (14, 5), (14, 6), (14, 7)] rfl (by decide +kernel)
set_option maxRecDepth 20000 in
theorem gX6_bestZone_X6_deliveredByZone : GoodIn wsX6_bestZone (wsV RX6 320 RX6 yX6_deliveredByZone wsX6_deliveredByZone) := goodIn_app (goodIn_of _ (by decide +kernel)) ggX6_bestZone_X6_deliveredByZone
theorem dX6_bestZone_0 : decode cX6_bestZone 0 = .ok (.aload_n 0, 1) := by decide +kernel
theorem dX6_bestZone_1 : decode cX6_bestZone 1 = .ok (.iload_n 1, 1) := by decide +kernel
theorem dX6_bestZone_2 : decode cX6_bestZone 2 = .ok (.iload_n 2, 1) := by decide +kernel
theorem dX6_bestZone_3 : decode cX6_bestZone 3 = .ok (.invokevirtual 167, 3) := by decide +kernel
theorem dX6_bestZone_6 : decode cX6_bestZone 6 = .ok (.ifCond .eq 13, 3) := by decide +kernel
theorem dX6_bestZone_9 : decode cX6_bestZone 9 = .ok (.iload_n 3, 1) := by decide +kernel
theorem dX6_bestZone_10 : decode cX6_bestZone 10 = .ok (.iconst 1, 1) := by decide +kernel
theorem dX6_bestZone_11 : decode cX6_bestZone 11 = .ok (.bipush 60, 2) := by decide +kernel
theorem dX6_bestZone_13 : decode cX6_bestZone 13 = .ok (.invokestatic 55, 3) := by decide +kernel
theorem dX6_bestZone_16 : decode cX6_bestZone 16 = .ok (.ifCond .eq 5, 3) := by decide +kernel
theorem dX6_bestZone_19 : decode cX6_bestZone 19 = .ok (.iconst (-1), 1) := by decide +kernel
theorem dX6_bestZone_20 : decode cX6_bestZone 20 = .ok (.ireturn, 1) := by decide +kernel
theorem dX6_bestZone_21 : decode cX6_bestZone 21 = .ok (.aload_n 0, 1) := by decide +kernel
theorem dX6_bestZone_22 : decode cX6_bestZone 22 = .ok (.iload_n 1, 1) := by decide +kernel
theorem dX6_bestZone_23 : decode cX6_bestZone 23 = .ok (.iload_n 2, 1) := by decide +kernel
theorem dX6_bestZone_24 : decode cX6_bestZone 24 = .ok (.invokevirtual 252, 3) := by decide +kernel
theorem dX6_bestZone_27 : decode cX6_bestZone 27 = .ok (.istore 4, 2) := by decide +kernel
theorem dX6_bestZone_29 : decode cX6_bestZone 29 = .ok (.iconst (-1), 1) := by decide +kernel
theorem dX6_bestZone_30 : decode cX6_bestZone 30 = .ok (.istore 5, 2) := by decide +kernel
theorem dX6_bestZone_32 : decode cX6_bestZone 32 = .ok (.iconst (-1), 1) := by decide +kernel
theorem dX6_bestZone_33 : decode cX6_bestZone 33 = .ok (.istore 6, 2) := by decide +kernel
theorem dX6_bestZone_35 : decode cX6_bestZone 35 = .ok (.aload_n 0, 1) := by decide +kernel
theorem dX6_bestZone_36 : decode cX6_bestZone 36 = .ok (.getfield 26, 3) := by decide +kernel
theorem dX6_bestZone_39 : decode cX6_bestZone 39 = .ok (.getfield 81, 3) := by decide +kernel
theorem dX6_bestZone_42 : decode cX6_bestZone 42 = .ok (.istore 7, 2) := by decide +kernel
theorem dX6_bestZone_44 : decode cX6_bestZone 44 = .ok (.iload 7, 2) := by decide +kernel
theorem dX6_bestZone_46 : decode cX6_bestZone 46 = .ok (.iload 4, 2) := by decide +kernel
theorem dX6_bestZone_48 : decode cX6_bestZone 48 = .ok (.if_icmp .gt 35, 3) := by decide +kernel
theorem dX6_bestZone_51 : decode cX6_bestZone 51 = .ok (.aload_n 0, 1) := by decide +kernel
theorem dX6_bestZone_52 : decode cX6_bestZone 52 = .ok (.iload_n 1, 1) := by decide +kernel
theorem dX6_bestZone_53 : decode cX6_bestZone 53 = .ok (.iload_n 2, 1) := by decide +kernel
theorem dX6_bestZone_54 : decode cX6_bestZone 54 = .ok (.iload 7, 2) := by decide +kernel
theorem dX6_bestZone_56 : decode cX6_bestZone 56 = .ok (.iload_n 3, 1) := by decide +kernel
theorem dX6_bestZone_57 : decode cX6_bestZone 57 = .ok (.invokevirtual 320, 3) := by decide +kernel
theorem dX6_bestZone_60 : decode cX6_bestZone 60 = .ok (.istore 8, 2) := by decide +kernel
theorem dX6_bestZone_62 : decode cX6_bestZone 62 = .ok (.iload 8, 2) := by decide +kernel
theorem dX6_bestZone_64 : decode cX6_bestZone 64 = .ok (.iload 6, 2) := by decide +kernel
theorem dX6_bestZone_66 : decode cX6_bestZone 66 = .ok (.if_icmp .le 11, 3) := by decide +kernel
theorem dX6_bestZone_69 : decode cX6_bestZone 69 = .ok (.iload 8, 2) := by decide +kernel
theorem dX6_bestZone_71 : decode cX6_bestZone 71 = .ok (.istore 6, 2) := by decide +kernel
theorem dX6_bestZone_73 : decode cX6_bestZone 73 = .ok (.iload 7, 2) := by decide +kernel
theorem dX6_bestZone_75 : decode cX6_bestZone 75 = .ok (.istore 5, 2) := by decide +kernel
theorem dX6_bestZone_77 : decode cX6_bestZone 77 = .ok (.iinc 7 1, 3) := by decide +kernel
theorem dX6_bestZone_80 : decode cX6_bestZone 80 = .ok (.goto (-36), 3) := by decide +kernel
theorem dX6_bestZone_83 : decode cX6_bestZone 83 = .ok (.iload 5, 2) := by decide +kernel
theorem dX6_bestZone_85 : decode cX6_bestZone 85 = .ok (.ireturn, 1) := by decide +kernel
set_option maxRecDepth 20000 in
theorem ggX6_bears_X6_outside : GoodIn wsX6_bears wsX6_outside := goodIn_r _ [5] (by decide +kernel) (by decide +kernel)
set_option maxRecDepth 20000 in
theorem gX6_bears_X6_outside : GoodIn wsX6_bears (va_wsS RX6 55 yX6_outside wsX6_outside) := goodIn_app (goodIn_of _ (by decide +kernel)) ggX6_bears_X6_outside
theorem qxX6_bears_0 : ∀ w ∈ ((((((wsX6_bears_r1 ++ (wsX6_bears_r2 ++ (wsX6_bears_r3 ++ (wsX6_bears_r4 ++ (wsX6_bears_r5 ++ (wsX6_bears_r6 ++ (wsX6_bears_r7 ++ (wsX6_bears_r8 ++ wsX6_bears_r9)))))))) ++ wsX60) ++ wsX30) ++ wsX20) ++ wsX10) ++ wsX00), w ∈ wsX6_bears := fun w h => List.mem_cons_of_mem _ h
theorem qxX6_bears_1 : ∀ w ∈ (((((wsX6_bears_r1 ++ (wsX6_bears_r2 ++ (wsX6_bears_r3 ++ (wsX6_bears_r4 ++ (wsX6_bears_r5 ++ (wsX6_bears_r6 ++ (wsX6_bears_r7 ++ (wsX6_bears_r8 ++ wsX6_bears_r9)))))))) ++ wsX60) ++ wsX30) ++ wsX20) ++ wsX10), w ∈ wsX6_bears := in_l qxX6_bears_0
theorem qxX6_bears_2 : ∀ w ∈ wsX00, w ∈ wsX6_bears := in_r qxX6_bears_0
theorem qxX6_bears_3 : ∀ w ∈ ((((wsX6_bears_r1 ++ (wsX6_bears_r2 ++ (wsX6_bears_r3 ++ (wsX6_bears_r4 ++ (wsX6_bears_r5 ++ (wsX6_bears_r6 ++ (wsX6_bears_r7 ++ (wsX6_bears_r8 ++ wsX6_bears_r9)))))))) ++ wsX60) ++ wsX30) ++ wsX20), w ∈ wsX6_bears := in_l qxX6_bears_1
theorem qxX6_bears_4 : ∀ w ∈ wsX10, w ∈ wsX6_bears := in_r qxX6_bears_1
theorem qxX6_bears_5 : ∀ w ∈ (((wsX6_bears_r1 ++ (wsX6_bears_r2 ++ (wsX6_bears_r3 ++ (wsX6_bears_r4 ++ (wsX6_bears_r5 ++ (wsX6_bears_r6 ++ (wsX6_bears_r7 ++ (wsX6_bears_r8 ++ wsX6_bears_r9)))))))) ++ wsX60) ++ wsX30), w ∈ wsX6_bears := in_l qxX6_bears_3
theorem qxX6_bears_6 : ∀ w ∈ wsX20, w ∈ wsX6_bears := in_r qxX6_bears_3
theorem qxX6_bears_7 : ∀ w ∈ ((wsX6_bears_r1 ++ (wsX6_bears_r2 ++ (wsX6_bears_r3 ++ (wsX6_bears_r4 ++ (wsX6_bears_r5 ++ (wsX6_bears_r6 ++ (wsX6_bears_r7 ++ (wsX6_bears_r8 ++ wsX6_bears_r9)))))))) ++ wsX60), w ∈ wsX6_bears := in_l qxX6_bears_5
theorem qxX6_bears_8 : ∀ w ∈ wsX30, w ∈ wsX6_bears := in_r qxX6_bears_5
theorem qxX6_bears_9 : ∀ w ∈ (wsX6_bears_r1 ++ (wsX6_bears_r2 ++ (wsX6_bears_r3 ++ (wsX6_bears_r4 ++ (wsX6_bears_r5 ++ (wsX6_bears_r6 ++ (wsX6_bears_r7 ++ (wsX6_bears_r8 ++ wsX6_bears_r9)))))))), w ∈ wsX6_bears := in_l qxX6_bears_7
theorem qxX6_bears_10 : ∀ w ∈ wsX60, w ∈ wsX6_bears := in_r qxX6_bears_7
theorem qxX6_bears_11 : ∀ w ∈ wsX6_bears_r1, w ∈ wsX6_bears := in_l qxX6_bears_9
theorem qxX6_bears_12 : ∀ w ∈ (wsX6_bears_r2 ++ (wsX6_bears_r3 ++ (wsX6_bears_r4 ++ (wsX6_bears_r5 ++ (wsX6_bears_r6 ++ (wsX6_bears_r7 ++ (wsX6_bears_r8 ++ wsX6_bears_r9))))))), w ∈ wsX6_bears := in_r qxX6_bears_9
theorem qxX6_bears_13 : ∀ w ∈ wsX6_bears_r2, w ∈ wsX6_bears := in_l qxX6_bears_12
theorem qxX6_bears_14 : ∀ w ∈ (wsX6_bears_r3 ++ (wsX6_bears_r4 ++ (wsX6_bears_r5 ++ (wsX6_bears_r6 ++ (wsX6_bears_r7 ++ (wsX6_bears_r8 ++ wsX6_bears_r9)))))), w ∈ wsX6_bears := in_r qxX6_bears_12
theorem qxX6_bears_15 : ∀ w ∈ wsX6_bears_r3, w ∈ wsX6_bears := in_l qxX6_bears_14
theorem qxX6_bears_16 : ∀ w ∈ (wsX6_bears_r4 ++ (wsX6_bears_r5 ++ (wsX6_bears_r6 ++ (wsX6_bears_r7 ++ (wsX6_bears_r8 ++ wsX6_bears_r9))))), w ∈ wsX6_bears := in_r qxX6_bears_14
theorem qxX6_bears_17 : ∀ w ∈ wsX6_bears_r4, w ∈ wsX6_bears := in_l qxX6_bears_16
theorem qxX6_bears_18 : ∀ w ∈ (wsX6_bears_r5 ++ (wsX6_bears_r6 ++ (wsX6_bears_r7 ++ (wsX6_bears_r8 ++ wsX6_bears_r9)))), w ∈ wsX6_bears := in_r qxX6_bears_16
theorem qxX6_bears_19 : ∀ w ∈ wsX6_bears_r5, w ∈ wsX6_bears := in_l qxX6_bears_18
theorem qxX6_bears_20 : ∀ w ∈ (wsX6_bears_r6 ++ (wsX6_bears_r7 ++ (wsX6_bears_r8 ++ wsX6_bears_r9))), w ∈ wsX6_bears := in_r qxX6_bears_18
theorem qxX6_bears_21 : ∀ w ∈ wsX6_bears_r6, w ∈ wsX6_bears := in_l qxX6_bears_20
theorem qxX6_bears_22 : ∀ w ∈ (wsX6_bears_r7 ++ (wsX6_bears_r8 ++ wsX6_bears_r9)), w ∈ wsX6_bears := in_r qxX6_bears_20
theorem qxX6_bears_23 : ∀ w ∈ wsX6_bears_r7, w ∈ wsX6_bears := in_l qxX6_bears_22
theorem qxX6_bears_24 : ∀ w ∈ (wsX6_bears_r8 ++ wsX6_bears_r9), w ∈ wsX6_bears := in_r qxX6_bears_22
theorem qxX6_bears_25 : ∀ w ∈ wsX6_bears_r8, w ∈ wsX6_bears := in_l qxX6_bears_24
theorem qxX6_bears_26 : ∀ w ∈ wsX6_bears_r9, w ∈ wsX6_bears := in_r qxX6_bears_24
def pxX6_bears : List (List Cond) := [wsX6_bears_r1, wsX6_bears_r2, wsX6_bears_r3, wsX6_bears_r4, wsX6_bears_r5, wsX6_bears_r6, wsX6_bears_r7, wsX6_bears_r8, wsX6_bears_r9, wsX60, wsX30, wsX20, wsX10, wsX00]
theorem pxX6_bears_in : ∀ q ∈ pxX6_bears, ∀ w ∈ q, w ∈ wsX6_bears := lp_c qxX6_bears_11 (lp_c qxX6_bears_13 (lp_c qxX6_bears_15 (lp_c qxX6_bears_17 (lp_c qxX6_bears_19 (lp_c qxX6_bears_21 (lp_c qxX6_bears_23 (lp_c qxX6_bears_25 (lp_c qxX6_bears_26 (lp_c qxX6_bears_10 (lp_c qxX6_bears_8 (lp_c qxX6_bears_6 (lp_c qxX6_bears_4 (lp_c qxX6_bears_2 (lp_n))))))))))))))
set_option maxRecDepth 20000 in
theorem ggX6_bears_X6_goApart : GoodIn wsX6_bears wsX6_goApart := goodIn_pp pxX6_bears pxX6_bears_in _ [(0, 8), (0, 9), (0, 10), (0, 11), (0, 12), (0, 13), (0, 14), (0, 15), (0, 16), (0, 17), (0, 18), (0, 19), (0, 20), (0, 21), (0, 22), (0, 23), (1, 0), (1, 1), (1, 2), (1, 3), (1, 4), (1, 5), (1, 6), (1, 7), (1, 8), (1, 9), (1, 10), (1, 11), (1, 12), (1, 13), (1, 14), (1, 15), (1, 16), (1, 17), (1, 18), (1, 19), (1, 20), (1, 21), (1, 22), (1, 23), (2, 0), (2, 1), (2, 2), (2, 3), (2, 4), (2, 5), (2, 6), (2, 7), (2, 8), (2, 9), (2, 10), (2, 11), (2, 12), (2, 13), (2, 14), (2, 15), (2, 16), (2, 17), (2, 18), (2, 19), (2, 20), (2, 21), (2, 22), (2, 23), (3, 0), (3, 1), (3, 2), (3, 3), (3, 4), (3, 5), (3, 6), (3, 7), (3, 8), (3, 9), (3, 10), (3, 11), (3, 12), (3, 13), (3, 14), (3, 15), (3, 16), (3, 17), (3, 18), (3, 19), (3, 20), (0, 3), (3, 21), (3, 22), (3, 23), (4, 0), (4, 1), (4, 2), (4, 3), (4, 4), (4, 5), (4, 6), (4, 7), (4, 8), (4, 9), (4, 10), (4, 11), (4, 12), (4, 13), (4, 14), (4, 15), (4, 16), (4, 17), (4, 18), (4, 19), (4, 20), (4, 21), (4, 22), (4, 23), (5, 0), (5, 1), (5, 2), (5, 3), (5, 4), (5, 5), (5, 6), (5, 7), (5, 8), (5, 9), (5, 10), (5, 11), (5, 12), (5, 13), (5, 14), (5, 15), (5, 16), (5, 17), (5, 18), (5, 19), (5, 20), (5, 21), (5, 22), (5, 23), (6, 0), (6, 1), (6, 2), (6, 3), (6, 4), (6, 5), (6, 6), (6, 7), (6, 8), (6, 9), (6, 10), (6, 11), (6, 12), (6, 13), (6, 14), (6, 15), (6, 16), (6, 17), (6, 18), (6, 19), (6, 20), (6, 21), (6, 22), (6, 23), (7, 0), (7, 1), (7, 2), (7, 3), (7, 4), (7, 5), (7, 6), (7, 7), (7, 8), (7, 9), (7, 10), (7, 11), (7, 12), (7, 13), (7, 14), (7, 15), (7, 16), (9, 0), (9, 1), (9, 2), (9, 3), (9, 4), (9, 5), (9, 6), (9, 7), (9, 8), (10, 0), (10, 1), (10, 2), (10, 3), (10, 4), (10, 5), (10, 6), (10, 7), (10, 8), (10, 9), (10, 10), (11, 0), (11, 1), (11, 2), (11, 3), (11, 4), (11, 5), (11, 6), (11, 7), (11, 8), (11, 9), (12, 0), (12, 1), (12, 2), (12, 3), (12, 4), (12, 5), (12, 6), (13, 0), (13, 1), (13, 2), (13, 3), (13, 4), (13, 5), (13, 6), (13, 7)] rfl (by decide +kernel)
set_option maxRecDepth 20000 in
theorem gX6_bears_X6_goApart : GoodIn wsX6_bears (wsV RX6 267 RX6 yX6_goApart wsX6_goApart) := goodIn_app (goodIn_of _ (by decide +kernel)) ggX6_bears_X6_goApart
set_option maxRecDepth 20000 in
theorem ggX6_bears_X6_deliveredApart : GoodIn wsX6_bears wsX6_deliveredApart := goodIn_pp pxX6_bears pxX6_bears_in _ [(7, 20), (0, 9), (0, 10), (7, 21), (7, 22), (7, 23), (0, 14), (8, 0), (0, 17), (1, 1), (5, 1), (9, 0), (9, 1), (9, 2), (9, 3), (9, 4), (9, 5), (9, 6), (9, 7), (9, 8), (10, 0), (10, 1), (10, 2), (10, 3), (10, 4), (10, 5), (10, 6), (10, 7), (10, 8), (10, 9), (10, 10), (13, 0), (13, 1), (13, 2), (13, 3), (13, 4), (13, 5), (13, 6), (13, 7)] rfl (by decide +kernel)
set_option maxRecDepth 20000 in
theorem gX6_bears_X6_deliveredApart : GoodIn wsX6_bears (wsV RX6 277 RX6 yX6_deliveredApart wsX6_deliveredApart) := goodIn_app (goodIn_of _ (by decide +kernel)) ggX6_bears_X6_deliveredApart
set_option maxRecDepth 20000 in
theorem ggX6_bears_X6_deliveredJammed : GoodIn wsX6_bears wsX6_deliveredJammed := goodIn_pp pxX6_bears pxX6_bears_in _ [(8, 4), (0, 9), (0, 10), (8, 5), (8, 6), (8, 7), (0, 11), (0, 12), (0, 13), (0, 14), (0, 15), (0, 16), (0, 17), (0, 18), (0, 19), (0, 20), (0, 21), (0, 22), (0, 23), (1, 0), (1, 1), (1, 2), (1, 3), (1, 4), (1, 5), (1, 6), (1, 7), (1, 8), (1, 9), (1, 10), (1, 11), (1, 12), (1, 13), (1, 14), (1, 15), (1, 16), (1, 17), (1, 18), (1, 19), (1, 20), (1, 21), (1, 22), (1, 23), (2, 0), (2, 1), (2, 2), (2, 3), (2, 4), (2, 5), (2, 6), (2, 7), (2, 8), (2, 9), (2, 10), (2, 11), (2, 12), (2, 13), (2, 14), (2, 15), (2, 16), (2, 17), (2, 18), (2, 19), (2, 20), (2, 21), (2, 22), (2, 23), (3, 0), (3, 1), (3, 2), (3, 3), (3, 4), (3, 5), (3, 6), (3, 7), (3, 8), (3, 9), (3, 10), (3, 11), (3, 12), (3, 13), (3, 14), (3, 15), (3, 16), (3, 17), (3, 18), (3, 19), (3, 20), (0, 3), (3, 21), (3, 22), (3, 23), (4, 0), (4, 1), (4, 2), (4, 3), (4, 4), (4, 5), (4, 6), (4, 7), (4, 8), (4, 9), (4, 10), (4, 11), (4, 12), (4, 13), (4, 14), (4, 15), (4, 16), (4, 17), (4, 18), (4, 19), (4, 20), (4, 21), (4, 22), (4, 23), (5, 0), (5, 1), (5, 2), (5, 3), (5, 4), (5, 5), (5, 6), (5, 7), (5, 8), (5, 9), (5, 10), (5, 11), (5, 12), (5, 13), (5, 14), (5, 15), (5, 16), (5, 17), (5, 18), (5, 19), (5, 20), (5, 21), (5, 22), (5, 23), (6, 0), (6, 1), (6, 2), (6, 3), (6, 4), (6, 5), (6, 6), (6, 7), (6, 8), (6, 9), (6, 10), (6, 11), (6, 12), (6, 13), (6, 14), (6, 15), (6, 16), (6, 17), (6, 18), (6, 19), (6, 20), (6, 21), (6, 22), (6, 23), (7, 0), (7, 1), (7, 2), (7, 3), (7, 4), (7, 5), (7, 6), (7, 7), (7, 8), (7, 9), (7, 10), (7, 11), (7, 12), (7, 13), (7, 14), (7, 15), (7, 16), (7, 17), (7, 18), (7, 19), (7, 20), (7, 21), (7, 22), (7, 23), (8, 0), (9, 0), (9, 1), (9, 2), (9, 3), (9, 4), (9, 5), (9, 6), (9, 7), (9, 8), (10, 0), (10, 1), (10, 2), (10, 3), (10, 4), (10, 5), (10, 6), (10, 7), (10, 8), (10, 9), (10, 10), (11, 0), (11, 1), (11, 2), (11, 3), (11, 4), (11, 5), (11, 6), (11, 7), (11, 8), (11, 9), (12, 0), (12, 1), (12, 2), (12, 3), (12, 4), (12, 5), (12, 6), (13, 0), (13, 1), (13, 2), (13, 3), (13, 4), (13, 5), (13, 6), (13, 7)] rfl (by decide +kernel)
set_option maxRecDepth 20000 in
theorem gX6_bears_X6_deliveredJammed : GoodIn wsX6_bears (wsV RX6 304 RX6 yX6_deliveredJammed wsX6_deliveredJammed) := goodIn_app (goodIn_of _ (by decide +kernel)) ggX6_bears_X6_deliveredJammed
theorem dX6_bears_0 : decode cX6_bears 0 = .ok (.aload_n 0, 1) := by decide +kernel
theorem dX6_bears_1 : decode cX6_bears 1 = .ok (.getfield 70, 3) := by decide +kernel
theorem dX6_bears_4 : decode cX6_bears 4 = .ok (.ifCond .eq 14, 3) := by decide +kernel
theorem dX6_bears_7 : decode cX6_bears 7 = .ok (.iload_n 1, 1) := by decide +kernel
theorem dX6_bears_8 : decode cX6_bears 8 = .ok (.iconst 1, 1) := by decide +kernel
theorem dX6_bears_9 : decode cX6_bears 9 = .ok (.sipush 200, 3) := by decide +kernel
theorem dX6_bears_12 : decode cX6_bears 12 = .ok (.invokestatic 55, 3) := by decide +kernel
theorem dX6_bears_15 : decode cX6_bears 15 = .ok (.ifCond .eq 5, 3) := by decide +kernel
theorem dX6_bears_18 : decode cX6_bears 18 = .ok (.iconst (-1), 1) := by decide +kernel
theorem dX6_bears_19 : decode cX6_bears 19 = .ok (.ireturn, 1) := by decide +kernel
theorem dX6_bears_20 : decode cX6_bears 20 = .ok (.aload_n 0, 1) := by decide +kernel
theorem dX6_bears_21 : decode cX6_bears 21 = .ok (.iload_n 1, 1) := by decide +kernel
theorem dX6_bears_22 : decode cX6_bears 22 = .ok (.invokevirtual 267, 3) := by decide +kernel
theorem dX6_bears_25 : decode cX6_bears 25 = .ok (.aload_n 0, 1) := by decide +kernel
theorem dX6_bears_26 : decode cX6_bears 26 = .ok (.invokevirtual 277, 3) := by decide +kernel
theorem dX6_bears_29 : decode cX6_bears 29 = .ok (.istore_n 2, 1) := by decide +kernel
theorem dX6_bears_30 : decode cX6_bears 30 = .ok (.bipush 9, 2) := by decide +kernel
theorem dX6_bears_32 : decode cX6_bears 32 = .ok (.istore_n 3, 1) := by decide +kernel
theorem dX6_bears_33 : decode cX6_bears 33 = .ok (.iload_n 3, 1) := by decide +kernel
theorem dX6_bears_34 : decode cX6_bears 34 = .ok (.iconst 1, 1) := by decide +kernel
theorem dX6_bears_35 : decode cX6_bears 35 = .ok (.if_icmp .lt 21, 3) := by decide +kernel
theorem dX6_bears_38 : decode cX6_bears 38 = .ok (.aload_n 0, 1) := by decide +kernel
theorem dX6_bears_39 : decode cX6_bears 39 = .ok (.iload_n 3, 1) := by decide +kernel
theorem dX6_bears_40 : decode cX6_bears 40 = .ok (.iload_n 1, 1) := by decide +kernel
theorem dX6_bears_41 : decode cX6_bears 41 = .ok (.invokevirtual 304, 3) := by decide +kernel
theorem dX6_bears_44 : decode cX6_bears 44 = .ok (.iload_n 2, 1) := by decide +kernel
theorem dX6_bears_45 : decode cX6_bears 45 = .ok (.if_icmp .lt 5, 3) := by decide +kernel
theorem dX6_bears_48 : decode cX6_bears 48 = .ok (.iload_n 3, 1) := by decide +kernel
theorem dX6_bears_49 : decode cX6_bears 49 = .ok (.ireturn, 1) := by decide +kernel
theorem dX6_bears_50 : decode cX6_bears 50 = .ok (.iinc 3 (-1), 3) := by decide +kernel
theorem dX6_bears_53 : decode cX6_bears 53 = .ok (.goto (-20), 3) := by decide +kernel
theorem dX6_bears_56 : decode cX6_bears 56 = .ok (.iconst 0, 1) := by decide +kernel
theorem dX6_bears_57 : decode cX6_bears 57 = .ok (.ireturn, 1) := by decide +kernel
theorem qxX6_waits_0 : ∀ w ∈ ((((((wsX6_waits_r1 ++ (wsX6_waits_r2 ++ (wsX6_waits_r3 ++ (wsX6_waits_r4 ++ (wsX6_waits_r5 ++ (wsX6_waits_r6 ++ (wsX6_waits_r7 ++ (wsX6_waits_r8 ++ wsX6_waits_r9)))))))) ++ wsX60) ++ wsX30) ++ wsX20) ++ wsX10) ++ wsX00), w ∈ wsX6_waits := fun w h => List.mem_cons_of_mem _ h
theorem qxX6_waits_1 : ∀ w ∈ (((((wsX6_waits_r1 ++ (wsX6_waits_r2 ++ (wsX6_waits_r3 ++ (wsX6_waits_r4 ++ (wsX6_waits_r5 ++ (wsX6_waits_r6 ++ (wsX6_waits_r7 ++ (wsX6_waits_r8 ++ wsX6_waits_r9)))))))) ++ wsX60) ++ wsX30) ++ wsX20) ++ wsX10), w ∈ wsX6_waits := in_l qxX6_waits_0
theorem qxX6_waits_2 : ∀ w ∈ wsX00, w ∈ wsX6_waits := in_r qxX6_waits_0
theorem qxX6_waits_3 : ∀ w ∈ ((((wsX6_waits_r1 ++ (wsX6_waits_r2 ++ (wsX6_waits_r3 ++ (wsX6_waits_r4 ++ (wsX6_waits_r5 ++ (wsX6_waits_r6 ++ (wsX6_waits_r7 ++ (wsX6_waits_r8 ++ wsX6_waits_r9)))))))) ++ wsX60) ++ wsX30) ++ wsX20), w ∈ wsX6_waits := in_l qxX6_waits_1
theorem qxX6_waits_4 : ∀ w ∈ wsX10, w ∈ wsX6_waits := in_r qxX6_waits_1
theorem qxX6_waits_5 : ∀ w ∈ (((wsX6_waits_r1 ++ (wsX6_waits_r2 ++ (wsX6_waits_r3 ++ (wsX6_waits_r4 ++ (wsX6_waits_r5 ++ (wsX6_waits_r6 ++ (wsX6_waits_r7 ++ (wsX6_waits_r8 ++ wsX6_waits_r9)))))))) ++ wsX60) ++ wsX30), w ∈ wsX6_waits := in_l qxX6_waits_3
theorem qxX6_waits_6 : ∀ w ∈ wsX20, w ∈ wsX6_waits := in_r qxX6_waits_3
theorem qxX6_waits_7 : ∀ w ∈ ((wsX6_waits_r1 ++ (wsX6_waits_r2 ++ (wsX6_waits_r3 ++ (wsX6_waits_r4 ++ (wsX6_waits_r5 ++ (wsX6_waits_r6 ++ (wsX6_waits_r7 ++ (wsX6_waits_r8 ++ wsX6_waits_r9)))))))) ++ wsX60), w ∈ wsX6_waits := in_l qxX6_waits_5
theorem qxX6_waits_8 : ∀ w ∈ wsX30, w ∈ wsX6_waits := in_r qxX6_waits_5
theorem qxX6_waits_9 : ∀ w ∈ (wsX6_waits_r1 ++ (wsX6_waits_r2 ++ (wsX6_waits_r3 ++ (wsX6_waits_r4 ++ (wsX6_waits_r5 ++ (wsX6_waits_r6 ++ (wsX6_waits_r7 ++ (wsX6_waits_r8 ++ wsX6_waits_r9)))))))), w ∈ wsX6_waits := in_l qxX6_waits_7
theorem qxX6_waits_10 : ∀ w ∈ wsX60, w ∈ wsX6_waits := in_r qxX6_waits_7
theorem qxX6_waits_11 : ∀ w ∈ wsX6_waits_r1, w ∈ wsX6_waits := in_l qxX6_waits_9
theorem qxX6_waits_12 : ∀ w ∈ (wsX6_waits_r2 ++ (wsX6_waits_r3 ++ (wsX6_waits_r4 ++ (wsX6_waits_r5 ++ (wsX6_waits_r6 ++ (wsX6_waits_r7 ++ (wsX6_waits_r8 ++ wsX6_waits_r9))))))), w ∈ wsX6_waits := in_r qxX6_waits_9
theorem qxX6_waits_13 : ∀ w ∈ wsX6_waits_r2, w ∈ wsX6_waits := in_l qxX6_waits_12
theorem qxX6_waits_14 : ∀ w ∈ (wsX6_waits_r3 ++ (wsX6_waits_r4 ++ (wsX6_waits_r5 ++ (wsX6_waits_r6 ++ (wsX6_waits_r7 ++ (wsX6_waits_r8 ++ wsX6_waits_r9)))))), w ∈ wsX6_waits := in_r qxX6_waits_12
theorem qxX6_waits_15 : ∀ w ∈ wsX6_waits_r3, w ∈ wsX6_waits := in_l qxX6_waits_14
theorem qxX6_waits_16 : ∀ w ∈ (wsX6_waits_r4 ++ (wsX6_waits_r5 ++ (wsX6_waits_r6 ++ (wsX6_waits_r7 ++ (wsX6_waits_r8 ++ wsX6_waits_r9))))), w ∈ wsX6_waits := in_r qxX6_waits_14
theorem qxX6_waits_17 : ∀ w ∈ wsX6_waits_r4, w ∈ wsX6_waits := in_l qxX6_waits_16
theorem qxX6_waits_18 : ∀ w ∈ (wsX6_waits_r5 ++ (wsX6_waits_r6 ++ (wsX6_waits_r7 ++ (wsX6_waits_r8 ++ wsX6_waits_r9)))), w ∈ wsX6_waits := in_r qxX6_waits_16
theorem qxX6_waits_19 : ∀ w ∈ wsX6_waits_r5, w ∈ wsX6_waits := in_l qxX6_waits_18
theorem qxX6_waits_20 : ∀ w ∈ (wsX6_waits_r6 ++ (wsX6_waits_r7 ++ (wsX6_waits_r8 ++ wsX6_waits_r9))), w ∈ wsX6_waits := in_r qxX6_waits_18
theorem qxX6_waits_21 : ∀ w ∈ wsX6_waits_r6, w ∈ wsX6_waits := in_l qxX6_waits_20
theorem qxX6_waits_22 : ∀ w ∈ (wsX6_waits_r7 ++ (wsX6_waits_r8 ++ wsX6_waits_r9)), w ∈ wsX6_waits := in_r qxX6_waits_20
theorem qxX6_waits_23 : ∀ w ∈ wsX6_waits_r7, w ∈ wsX6_waits := in_l qxX6_waits_22
theorem qxX6_waits_24 : ∀ w ∈ (wsX6_waits_r8 ++ wsX6_waits_r9), w ∈ wsX6_waits := in_r qxX6_waits_22
theorem qxX6_waits_25 : ∀ w ∈ wsX6_waits_r8, w ∈ wsX6_waits := in_l qxX6_waits_24
theorem qxX6_waits_26 : ∀ w ∈ wsX6_waits_r9, w ∈ wsX6_waits := in_r qxX6_waits_24
def pxX6_waits : List (List Cond) := [wsX6_waits_r1, wsX6_waits_r2, wsX6_waits_r3, wsX6_waits_r4, wsX6_waits_r5, wsX6_waits_r6, wsX6_waits_r7, wsX6_waits_r8, wsX6_waits_r9, wsX60, wsX30, wsX20, wsX10, wsX00]
theorem pxX6_waits_in : ∀ q ∈ pxX6_waits, ∀ w ∈ q, w ∈ wsX6_waits := lp_c qxX6_waits_11 (lp_c qxX6_waits_13 (lp_c qxX6_waits_15 (lp_c qxX6_waits_17 (lp_c qxX6_waits_19 (lp_c qxX6_waits_21 (lp_c qxX6_waits_23 (lp_c qxX6_waits_25 (lp_c qxX6_waits_26 (lp_c qxX6_waits_10 (lp_c qxX6_waits_8 (lp_c qxX6_waits_6 (lp_c qxX6_waits_4 (lp_c qxX6_waits_2 (lp_n))))))))))))))
set_option maxRecDepth 20000 in
theorem ggX6_waits_X6_isLane : GoodIn wsX6_waits wsX6_isLane := goodIn_pp pxX6_waits pxX6_waits_in _ [(0, 5), (0, 6), (0, 7), (0, 8), (0, 4), (0, 9), (0, 10), (0, 11), (0, 12), (0, 13), (0, 14), (0, 15), (0, 16), (0, 17), (9, 0), (9, 1), (9, 2), (9, 3), (9, 4), (9, 5), (9, 6), (9, 7), (9, 8), (10, 0), (10, 1), (10, 2), (10, 3), (10, 4), (10, 5), (10, 6), (10, 7), (10, 8), (10, 9), (10, 10)] rfl (by decide +kernel)
set_option maxRecDepth 20000 in
theorem gX6_waits_X6_isLane : GoodIn wsX6_waits (wsV RX6 167 RX6 yX6_isLane wsX6_isLane) := goodIn_app (goodIn_of _ (by decide +kernel)) ggX6_waits_X6_isLane
set_option maxRecDepth 20000 in
theorem ggX6_waits_X6_outside : GoodIn wsX6_waits wsX6_outside := goodIn_r _ [21] (by decide +kernel) (by decide +kernel)
set_option maxRecDepth 20000 in
theorem gX6_waits_X6_outside : GoodIn wsX6_waits (va_wsS RX6 55 yX6_outside wsX6_outside) := goodIn_app (goodIn_of _ (by decide +kernel)) ggX6_waits_X6_outside
set_option maxRecDepth 20000 in
theorem ggX6_waits_X6_tallyWaits : GoodIn wsX6_waits wsX6_tallyWaits := goodIn_pp pxX6_waits pxX6_waits_in _ [(1, 0), (1, 1), (0, 11), (0, 12), (0, 0), (1, 2), (1, 3), (1, 4), (0, 4), (1, 5), (1, 6), (1, 7), (1, 8), (1, 9), (1, 10), (1, 11), (1, 12), (1, 13), (1, 14), (1, 15), (1, 16), (1, 17), (1, 18), (1, 19), (1, 20), (1, 21), (1, 22), (1, 23), (2, 0), (2, 1), (2, 2), (2, 3), (2, 4), (2, 5), (2, 6), (2, 7), (2, 8), (2, 9), (2, 10), (2, 11), (2, 12), (2, 13), (2, 14), (2, 15), (2, 16), (2, 17), (2, 18), (2, 19), (2, 20), (2, 21), (2, 22), (2, 23), (3, 0), (3, 1), (3, 2), (3, 3), (3, 4), (3, 5), (3, 6), (3, 7), (3, 8), (3, 9), (3, 10), (3, 11), (3, 12), (3, 13), (3, 14), (3, 15), (3, 16), (3, 17), (3, 18), (3, 19), (3, 20), (3, 21), (3, 22), (3, 23), (4, 0), (4, 1), (4, 2), (4, 3), (4, 4), (4, 5), (4, 6), (4, 7), (4, 8), (4, 9), (4, 10), (4, 11), (4, 12), (4, 13), (4, 14), (4, 15), (4, 16), (4, 17), (4, 18), (4, 19), (4, 20), (4, 21), (4, 22), (4, 23), (5, 0), (5, 1), (5, 2), (5, 3), (5, 4), (5, 5), (5, 6), (5, 7), (5, 8), (5, 9), (5, 10), (5, 11), (5, 12), (5, 13), (5, 14), (5, 15), (5, 16), (5, 17), (5, 18), (5, 19), (5, 20), (5, 21), (5, 22), (5, 23), (6, 0), (6, 1), (6, 2), (6, 3), (6, 4), (6, 5), (6, 6), (6, 7), (6, 8), (6, 9), (6, 10), (6, 11), (6, 12), (6, 13), (6, 14), (6, 15), (6, 16), (6, 17), (6, 18), (6, 19), (6, 20), (6, 21), (6, 22), (6, 23), (7, 0), (7, 1), (7, 2), (7, 3), (7, 4), (7, 5), (7, 6), (7, 7), (7, 8), (7, 9), (7, 10), (7, 11), (7, 12), (7, 13), (7, 14), (7, 15), (7, 16), (7, 17), (7, 18), (7, 19), (7, 20), (7, 21), (7, 22), (7, 23), (8, 0), (8, 1), (8, 2), (8, 3), (8, 4), (8, 5), (8, 6), (8, 7), (8, 8), (9, 0), (9, 1), (9, 2), (9, 3), (9, 4), (9, 5), (9, 6), (9, 7), (9, 8), (10, 0), (10, 1), (10, 2), (10, 3), (10, 4), (10, 5), (10, 6), (10, 7), (10, 8), (10, 9), (10, 10), (11, 0), (11, 1), (11, 2), (11, 3), (11, 4), (11, 5), (11, 6), (11, 7), (11, 8), (11, 9), (12, 0), (12, 1), (12, 2), (12, 3), (12, 4), (12, 5), (12, 6), (13, 0), (13, 1), (13, 2), (13, 3), (13, 4), (13, 5), (13, 6), (13, 7)] rfl (by decide +kernel)
set_option maxRecDepth 20000 in
theorem gX6_waits_X6_tallyWaits : GoodIn wsX6_waits (wsV RX6 324 RX6 yX6_tallyWaits wsX6_tallyWaits) := goodIn_app (goodIn_of _ (by decide +kernel)) ggX6_waits_X6_tallyWaits
theorem dX6_waits_0 : decode cX6_waits 0 = .ok (.aload_n 0, 1) := by decide +kernel
theorem dX6_waits_1 : decode cX6_waits 1 = .ok (.iload_n 1, 1) := by decide +kernel
theorem dX6_waits_2 : decode cX6_waits 2 = .ok (.iload_n 2, 1) := by decide +kernel
theorem dX6_waits_3 : decode cX6_waits 3 = .ok (.invokevirtual 167, 3) := by decide +kernel
theorem dX6_waits_6 : decode cX6_waits 6 = .ok (.ifCond .eq 14, 3) := by decide +kernel
theorem dX6_waits_9 : decode cX6_waits 9 = .ok (.iload_n 3, 1) := by decide +kernel
theorem dX6_waits_10 : decode cX6_waits 10 = .ok (.iconst 1, 1) := by decide +kernel
theorem dX6_waits_11 : decode cX6_waits 11 = .ok (.sipush 200, 3) := by decide +kernel
theorem dX6_waits_14 : decode cX6_waits 14 = .ok (.invokestatic 55, 3) := by decide +kernel
theorem dX6_waits_17 : decode cX6_waits 17 = .ok (.ifCond .eq 5, 3) := by decide +kernel
theorem dX6_waits_20 : decode cX6_waits 20 = .ok (.iconst (-1), 1) := by decide +kernel
theorem dX6_waits_21 : decode cX6_waits 21 = .ok (.ireturn, 1) := by decide +kernel
theorem dX6_waits_22 : decode cX6_waits 22 = .ok (.aload_n 0, 1) := by decide +kernel
theorem dX6_waits_23 : decode cX6_waits 23 = .ok (.iload_n 2, 1) := by decide +kernel
theorem dX6_waits_24 : decode cX6_waits 24 = .ok (.iload_n 3, 1) := by decide +kernel
theorem dX6_waits_25 : decode cX6_waits 25 = .ok (.invokevirtual 324, 3) := by decide +kernel
theorem dX6_waits_28 : decode cX6_waits 28 = .ok (.aload_n 0, 1) := by decide +kernel
theorem dX6_waits_29 : decode cX6_waits 29 = .ok (.getfield 39, 3) := by decide +kernel
theorem dX6_waits_32 : decode cX6_waits 32 = .ok (.iload_n 1, 1) := by decide +kernel
theorem dX6_waits_33 : decode cX6_waits 33 = .ok (.iaload, 1) := by decide +kernel
theorem dX6_waits_34 : decode cX6_waits 34 = .ok (.ireturn, 1) := by decide +kernel
set_option maxRecDepth 20000 in
theorem ggX6_tallyWaits_X6_clearTally : GoodIn wsX6_tallyWaits wsX6_clearTally := goodIn_r _ [9, 4, 181, 182, 183, 184, 185, 186, 187, 188, 189] (by decide +kernel) (by decide +kernel)
set_option maxRecDepth 20000 in
theorem gX6_tallyWaits_X6_clearTally : GoodIn wsX6_tallyWaits (wsV RX6 292 RX6 yX6_clearTally wsX6_clearTally) := goodIn_app (goodIn_of _ (by decide +kernel)) ggX6_tallyWaits_X6_clearTally
theorem qxX6_tallyWaits_0 : ∀ w ∈ ((((((wsX6_tallyWaits_r1 ++ (wsX6_tallyWaits_r2 ++ (wsX6_tallyWaits_r3 ++ (wsX6_tallyWaits_r4 ++ (wsX6_tallyWaits_r5 ++ (wsX6_tallyWaits_r6 ++ (wsX6_tallyWaits_r7 ++ wsX6_tallyWaits_r8))))))) ++ wsX60) ++ wsX30) ++ wsX20) ++ wsX10) ++ wsX00), w ∈ wsX6_tallyWaits := fun w h => List.mem_cons_of_mem _ h
theorem qxX6_tallyWaits_1 : ∀ w ∈ (((((wsX6_tallyWaits_r1 ++ (wsX6_tallyWaits_r2 ++ (wsX6_tallyWaits_r3 ++ (wsX6_tallyWaits_r4 ++ (wsX6_tallyWaits_r5 ++ (wsX6_tallyWaits_r6 ++ (wsX6_tallyWaits_r7 ++ wsX6_tallyWaits_r8))))))) ++ wsX60) ++ wsX30) ++ wsX20) ++ wsX10), w ∈ wsX6_tallyWaits := in_l qxX6_tallyWaits_0
theorem qxX6_tallyWaits_2 : ∀ w ∈ wsX00, w ∈ wsX6_tallyWaits := in_r qxX6_tallyWaits_0
theorem qxX6_tallyWaits_3 : ∀ w ∈ ((((wsX6_tallyWaits_r1 ++ (wsX6_tallyWaits_r2 ++ (wsX6_tallyWaits_r3 ++ (wsX6_tallyWaits_r4 ++ (wsX6_tallyWaits_r5 ++ (wsX6_tallyWaits_r6 ++ (wsX6_tallyWaits_r7 ++ wsX6_tallyWaits_r8))))))) ++ wsX60) ++ wsX30) ++ wsX20), w ∈ wsX6_tallyWaits := in_l qxX6_tallyWaits_1
theorem qxX6_tallyWaits_4 : ∀ w ∈ wsX10, w ∈ wsX6_tallyWaits := in_r qxX6_tallyWaits_1
theorem qxX6_tallyWaits_5 : ∀ w ∈ (((wsX6_tallyWaits_r1 ++ (wsX6_tallyWaits_r2 ++ (wsX6_tallyWaits_r3 ++ (wsX6_tallyWaits_r4 ++ (wsX6_tallyWaits_r5 ++ (wsX6_tallyWaits_r6 ++ (wsX6_tallyWaits_r7 ++ wsX6_tallyWaits_r8))))))) ++ wsX60) ++ wsX30), w ∈ wsX6_tallyWaits := in_l qxX6_tallyWaits_3
theorem qxX6_tallyWaits_6 : ∀ w ∈ wsX20, w ∈ wsX6_tallyWaits := in_r qxX6_tallyWaits_3
theorem qxX6_tallyWaits_7 : ∀ w ∈ ((wsX6_tallyWaits_r1 ++ (wsX6_tallyWaits_r2 ++ (wsX6_tallyWaits_r3 ++ (wsX6_tallyWaits_r4 ++ (wsX6_tallyWaits_r5 ++ (wsX6_tallyWaits_r6 ++ (wsX6_tallyWaits_r7 ++ wsX6_tallyWaits_r8))))))) ++ wsX60), w ∈ wsX6_tallyWaits := in_l qxX6_tallyWaits_5
theorem qxX6_tallyWaits_8 : ∀ w ∈ wsX30, w ∈ wsX6_tallyWaits := in_r qxX6_tallyWaits_5
theorem qxX6_tallyWaits_9 : ∀ w ∈ (wsX6_tallyWaits_r1 ++ (wsX6_tallyWaits_r2 ++ (wsX6_tallyWaits_r3 ++ (wsX6_tallyWaits_r4 ++ (wsX6_tallyWaits_r5 ++ (wsX6_tallyWaits_r6 ++ (wsX6_tallyWaits_r7 ++ wsX6_tallyWaits_r8))))))), w ∈ wsX6_tallyWaits := in_l qxX6_tallyWaits_7
theorem qxX6_tallyWaits_10 : ∀ w ∈ wsX60, w ∈ wsX6_tallyWaits := in_r qxX6_tallyWaits_7
theorem qxX6_tallyWaits_11 : ∀ w ∈ wsX6_tallyWaits_r1, w ∈ wsX6_tallyWaits := in_l qxX6_tallyWaits_9
theorem qxX6_tallyWaits_12 : ∀ w ∈ (wsX6_tallyWaits_r2 ++ (wsX6_tallyWaits_r3 ++ (wsX6_tallyWaits_r4 ++ (wsX6_tallyWaits_r5 ++ (wsX6_tallyWaits_r6 ++ (wsX6_tallyWaits_r7 ++ wsX6_tallyWaits_r8)))))), w ∈ wsX6_tallyWaits := in_r qxX6_tallyWaits_9
theorem qxX6_tallyWaits_13 : ∀ w ∈ wsX6_tallyWaits_r2, w ∈ wsX6_tallyWaits := in_l qxX6_tallyWaits_12
theorem qxX6_tallyWaits_14 : ∀ w ∈ (wsX6_tallyWaits_r3 ++ (wsX6_tallyWaits_r4 ++ (wsX6_tallyWaits_r5 ++ (wsX6_tallyWaits_r6 ++ (wsX6_tallyWaits_r7 ++ wsX6_tallyWaits_r8))))), w ∈ wsX6_tallyWaits := in_r qxX6_tallyWaits_12
theorem qxX6_tallyWaits_15 : ∀ w ∈ wsX6_tallyWaits_r3, w ∈ wsX6_tallyWaits := in_l qxX6_tallyWaits_14
theorem qxX6_tallyWaits_16 : ∀ w ∈ (wsX6_tallyWaits_r4 ++ (wsX6_tallyWaits_r5 ++ (wsX6_tallyWaits_r6 ++ (wsX6_tallyWaits_r7 ++ wsX6_tallyWaits_r8)))), w ∈ wsX6_tallyWaits := in_r qxX6_tallyWaits_14
theorem qxX6_tallyWaits_17 : ∀ w ∈ wsX6_tallyWaits_r4, w ∈ wsX6_tallyWaits := in_l qxX6_tallyWaits_16
theorem qxX6_tallyWaits_18 : ∀ w ∈ (wsX6_tallyWaits_r5 ++ (wsX6_tallyWaits_r6 ++ (wsX6_tallyWaits_r7 ++ wsX6_tallyWaits_r8))), w ∈ wsX6_tallyWaits := in_r qxX6_tallyWaits_16
theorem qxX6_tallyWaits_19 : ∀ w ∈ wsX6_tallyWaits_r5, w ∈ wsX6_tallyWaits := in_l qxX6_tallyWaits_18
theorem qxX6_tallyWaits_20 : ∀ w ∈ (wsX6_tallyWaits_r6 ++ (wsX6_tallyWaits_r7 ++ wsX6_tallyWaits_r8)), w ∈ wsX6_tallyWaits := in_r qxX6_tallyWaits_18
theorem qxX6_tallyWaits_21 : ∀ w ∈ wsX6_tallyWaits_r6, w ∈ wsX6_tallyWaits := in_l qxX6_tallyWaits_20
theorem qxX6_tallyWaits_22 : ∀ w ∈ (wsX6_tallyWaits_r7 ++ wsX6_tallyWaits_r8), w ∈ wsX6_tallyWaits := in_r qxX6_tallyWaits_20
theorem qxX6_tallyWaits_23 : ∀ w ∈ wsX6_tallyWaits_r7, w ∈ wsX6_tallyWaits := in_l qxX6_tallyWaits_22
theorem qxX6_tallyWaits_24 : ∀ w ∈ wsX6_tallyWaits_r8, w ∈ wsX6_tallyWaits := in_r qxX6_tallyWaits_22
def pxX6_tallyWaits : List (List Cond) := [wsX6_tallyWaits_r1, wsX6_tallyWaits_r2, wsX6_tallyWaits_r3, wsX6_tallyWaits_r4, wsX6_tallyWaits_r5, wsX6_tallyWaits_r6, wsX6_tallyWaits_r7, wsX6_tallyWaits_r8, wsX60, wsX30, wsX20, wsX10, wsX00]
theorem pxX6_tallyWaits_in : ∀ q ∈ pxX6_tallyWaits, ∀ w ∈ q, w ∈ wsX6_tallyWaits := lp_c qxX6_tallyWaits_11 (lp_c qxX6_tallyWaits_13 (lp_c qxX6_tallyWaits_15 (lp_c qxX6_tallyWaits_17 (lp_c qxX6_tallyWaits_19 (lp_c qxX6_tallyWaits_21 (lp_c qxX6_tallyWaits_23 (lp_c qxX6_tallyWaits_24 (lp_c qxX6_tallyWaits_10 (lp_c qxX6_tallyWaits_8 (lp_c qxX6_tallyWaits_6 (lp_c qxX6_tallyWaits_4 (lp_c qxX6_tallyWaits_2 (lp_n)))))))))))))
set_option maxRecDepth 20000 in
theorem ggX6_tallyWaits_X3_copy : GoodIn wsX6_tallyWaits wsX3_copy := goodIn_pp pxX6_tallyWaits pxX6_tallyWaits_in _ [(0, 13), (0, 14), (0, 15), (0, 16), (0, 17), (0, 18), (0, 19), (0, 20), (0, 21), (0, 22), (0, 23), (1, 0), (1, 1), (1, 2), (1, 3), (1, 4), (1, 5), (1, 6), (1, 7), (1, 8), (1, 9), (1, 10), (1, 11), (1, 12), (1, 13), (1, 14), (1, 15), (1, 16), (1, 17), (1, 18), (1, 19), (1, 20), (1, 21), (1, 22), (1, 23), (2, 0), (2, 1), (2, 2), (2, 3), (2, 4), (2, 5), (2, 6), (2, 7), (2, 8), (2, 9), (2, 10), (2, 11), (2, 12), (2, 13), (2, 14), (2, 15), (2, 16), (2, 17), (2, 18), (2, 19), (2, 20), (2, 21), (9, 0), (9, 1), (9, 2), (9, 3), (9, 4), (9, 5), (9, 6), (9, 7), (9, 8), (9, 9), (9, 10), (10, 0), (10, 1), (10, 2), (10, 3), (10, 4), (10, 5), (10, 6), (10, 7), (10, 8), (10, 9), (11, 0), (11, 1), (11, 2), (11, 3), (11, 4), (11, 5), (11, 6), (12, 0), (12, 1), (12, 2), (12, 3), (12, 4), (12, 5), (12, 6), (12, 7)] rfl (by decide +kernel)
set_option maxRecDepth 20000 in
theorem gX6_tallyWaits_X3_copy : GoodIn wsX6_tallyWaits (wsV RX6 270 RX3 yX3_copy wsX3_copy) := goodIn_app (goodIn_of _ (by decide +kernel)) ggX6_tallyWaits_X3_copy
set_option maxRecDepth 20000 in
theorem ggX6_tallyWaits_X3_step : GoodIn wsX6_tallyWaits wsX3_step := goodIn_pp pxX6_tallyWaits pxX6_tallyWaits_in _ [(3, 1), (0, 14), (0, 15), (0, 17), (0, 19), (0, 22), (3, 2), (3, 3), (3, 4), (0, 12), (3, 5), (3, 6), (1, 0), (3, 7), (3, 8), (3, 9), (3, 10), (3, 11), (3, 12), (2, 0), (3, 13), (2, 4), (3, 14), (0, 7), (3, 15), (3, 16), (3, 17), (3, 18), (3, 19), (3, 20), (0, 20), (3, 21), (3, 22), (3, 23), (4, 0), (4, 1), (1, 8), (4, 2), (1, 16), (1, 18), (1, 19), (4, 3), (4, 4), (4, 5), (4, 6), (0, 23), (4, 7), (4, 8), (4, 9), (4, 10), (4, 11), (4, 12), (2, 12), (4, 13), (2, 14), (2, 15), (4, 14), (4, 15), (4, 16), (4, 17), (4, 18), (4, 19), (4, 20), (4, 21), (4, 22), (4, 23), (2, 16), (5, 0), (5, 1), (5, 2), (5, 3), (5, 4), (5, 5), (5, 6), (5, 7), (5, 8), (5, 9), (5, 10), (5, 11), (5, 12), (5, 13), (5, 14), (5, 15), (5, 16), (5, 17), (5, 18), (5, 19), (5, 20), (5, 21), (5, 22), (2, 2), (5, 23), (6, 0), (6, 1), (6, 2), (6, 3), (0, 18), (6, 4), (6, 5), (6, 6), (6, 7), (6, 8), (6, 9), (6, 10), (6, 11), (0, 21), (6, 12), (6, 13), (6, 14), (6, 15), (6, 16), (6, 17), (6, 18), (6, 19), (6, 20), (6, 21), (6, 22), (6, 23), (7, 0), (7, 1), (7, 2), (7, 3), (0, 16), (7, 4), (7, 5), (7, 6), (7, 7), (1, 11), (1, 20), (7, 8), (7, 9), (7, 10), (9, 0), (9, 1), (9, 2), (9, 3), (9, 4), (9, 5), (9, 6), (9, 7), (9, 8), (9, 9), (9, 10), (10, 0), (10, 1), (10, 2), (10, 3), (10, 4), (10, 5), (10, 6), (10, 7), (10, 8), (10, 9), (11, 0), (11, 1), (11, 2), (11, 3), (11, 4), (11, 5), (11, 6), (12, 0), (12, 1), (12, 2), (12, 3), (12, 4), (12, 5), (12, 6), (12, 7)] rfl (by decide +kernel)
set_option maxRecDepth 20000 in
theorem gX6_tallyWaits_X3_step : GoodIn wsX6_tallyWaits (wsV RX6 233 RX3 yX3_step wsX3_step) := goodIn_app (goodIn_of _ (by decide +kernel)) ggX6_tallyWaits_X3_step
set_option maxRecDepth 20000 in
theorem ggX6_tallyWaits_X3_lacksCredit : GoodIn wsX6_tallyWaits wsX3_lacksCredit := goodIn_pp pxX6_tallyWaits pxX6_tallyWaits_in _ [(6, 7), (1, 0), (0, 22), (3, 8), (5, 18), (5, 19), (5, 20), (5, 21), (2, 0), (5, 22), (2, 2), (2, 4), (9, 0), (9, 1), (9, 2), (9, 3), (9, 4), (9, 5), (9, 6), (9, 7), (9, 8), (9, 9), (9, 10), (10, 0), (10, 1), (10, 2), (10, 3), (10, 4), (10, 5), (10, 6), (10, 7), (10, 8), (10, 9), (11, 0), (11, 1), (11, 2), (11, 3), (11, 4), (11, 5), (11, 6)] rfl (by decide +kernel)
set_option maxRecDepth 20000 in
theorem gX6_tallyWaits_X3_lacksCredit : GoodIn wsX6_tallyWaits (wsV RX6 328 RX3 yX3_lacksCredit wsX3_lacksCredit) := goodIn_app (goodIn_of _ (by decide +kernel)) ggX6_tallyWaits_X3_lacksCredit
theorem dX6_tallyWaits_0 : decode cX6_tallyWaits 0 = .ok (.aload_n 0, 1) := by decide +kernel
theorem dX6_tallyWaits_1 : decode cX6_tallyWaits 1 = .ok (.invokevirtual 292, 3) := by decide +kernel
theorem dX6_tallyWaits_4 : decode cX6_tallyWaits 4 = .ok (.aload_n 0, 1) := by decide +kernel
theorem dX6_tallyWaits_5 : decode cX6_tallyWaits 5 = .ok (.getfield 30, 3) := by decide +kernel
theorem dX6_tallyWaits_8 : decode cX6_tallyWaits 8 = .ok (.aload_n 0, 1) := by decide +kernel
theorem dX6_tallyWaits_9 : decode cX6_tallyWaits 9 = .ok (.getfield 26, 3) := by decide +kernel
theorem dX6_tallyWaits_12 : decode cX6_tallyWaits 12 = .ok (.invokevirtual 270, 3) := by decide +kernel
theorem dX6_tallyWaits_15 : decode cX6_tallyWaits 15 = .ok (.iconst 0, 1) := by decide +kernel
theorem dX6_tallyWaits_16 : decode cX6_tallyWaits 16 = .ok (.istore_n 3, 1) := by decide +kernel
theorem dX6_tallyWaits_17 : decode cX6_tallyWaits 17 = .ok (.iload_n 3, 1) := by decide +kernel
theorem dX6_tallyWaits_18 : decode cX6_tallyWaits 18 = .ok (.iload_n 2, 1) := by decide +kernel
theorem dX6_tallyWaits_19 : decode cX6_tallyWaits 19 = .ok (.if_icmp .ge 61, 3) := by decide +kernel
theorem dX6_tallyWaits_22 : decode cX6_tallyWaits 22 = .ok (.aload_n 0, 1) := by decide +kernel
theorem dX6_tallyWaits_23 : decode cX6_tallyWaits 23 = .ok (.getfield 30, 3) := by decide +kernel
theorem dX6_tallyWaits_26 : decode cX6_tallyWaits 26 = .ok (.invokevirtual 233, 3) := by decide +kernel
theorem dX6_tallyWaits_29 : decode cX6_tallyWaits 29 = .ok (.iconst 0, 1) := by decide +kernel
theorem dX6_tallyWaits_30 : decode cX6_tallyWaits 30 = .ok (.istore 4, 2) := by decide +kernel
theorem dX6_tallyWaits_32 : decode cX6_tallyWaits 32 = .ok (.iload 4, 2) := by decide +kernel
theorem dX6_tallyWaits_34 : decode cX6_tallyWaits 34 = .ok (.aload_n 0, 1) := by decide +kernel
theorem dX6_tallyWaits_35 : decode cX6_tallyWaits 35 = .ok (.getfield 30, 3) := by decide +kernel
theorem dX6_tallyWaits_38 : decode cX6_tallyWaits 38 = .ok (.getfield 78, 3) := by decide +kernel
theorem dX6_tallyWaits_41 : decode cX6_tallyWaits 41 = .ok (.if_icmp .ge 33, 3) := by decide +kernel
theorem dX6_tallyWaits_44 : decode cX6_tallyWaits 44 = .ok (.aload_n 0, 1) := by decide +kernel
theorem dX6_tallyWaits_45 : decode cX6_tallyWaits 45 = .ok (.getfield 30, 3) := by decide +kernel
theorem dX6_tallyWaits_48 : decode cX6_tallyWaits 48 = .ok (.iload 4, 2) := by decide +kernel
theorem dX6_tallyWaits_50 : decode cX6_tallyWaits 50 = .ok (.iload_n 1, 1) := by decide +kernel
theorem dX6_tallyWaits_51 : decode cX6_tallyWaits 51 = .ok (.invokevirtual 328, 3) := by decide +kernel
theorem dX6_tallyWaits_54 : decode cX6_tallyWaits 54 = .ok (.ifCond .eq 14, 3) := by decide +kernel
theorem dX6_tallyWaits_57 : decode cX6_tallyWaits 57 = .ok (.aload_n 0, 1) := by decide +kernel
theorem dX6_tallyWaits_58 : decode cX6_tallyWaits 58 = .ok (.getfield 39, 3) := by decide +kernel
theorem dX6_tallyWaits_61 : decode cX6_tallyWaits 61 = .ok (.iload 4, 2) := by decide +kernel
theorem dX6_tallyWaits_63 : decode cX6_tallyWaits 63 = .ok (.dup2, 1) := by decide +kernel
theorem dX6_tallyWaits_64 : decode cX6_tallyWaits 64 = .ok (.iaload, 1) := by decide +kernel
theorem dX6_tallyWaits_65 : decode cX6_tallyWaits 65 = .ok (.iconst 1, 1) := by decide +kernel
theorem dX6_tallyWaits_66 : decode cX6_tallyWaits 66 = .ok (.iadd, 1) := by decide +kernel
theorem dX6_tallyWaits_67 : decode cX6_tallyWaits 67 = .ok (.iastore, 1) := by decide +kernel
theorem dX6_tallyWaits_68 : decode cX6_tallyWaits 68 = .ok (.iinc 4 1, 3) := by decide +kernel
theorem dX6_tallyWaits_71 : decode cX6_tallyWaits 71 = .ok (.goto (-39), 3) := by decide +kernel
theorem dX6_tallyWaits_74 : decode cX6_tallyWaits 74 = .ok (.iinc 3 1, 3) := by decide +kernel
theorem dX6_tallyWaits_77 : decode cX6_tallyWaits 77 = .ok (.goto (-60), 3) := by decide +kernel
theorem dX6_tallyWaits_80 : decode cX6_tallyWaits 80 = .ok (.return_, 1) := by decide +kernel
set_option maxRecDepth 20000 in
theorem ggX6_worst_X6_isCircuit : GoodIn wsX6_worst wsX6_isCircuit := goodIn_r _ [8, 9, 1, 10, 194, 195, 196, 197, 198, 199, 200, 201, 202, 203, 204, 205, 206, 207, 208, 209, 210, 211, 212, 213] (by decide +kernel) (by decide +kernel)
set_option maxRecDepth 20000 in
theorem gX6_worst_X6_isCircuit : GoodIn wsX6_worst (wsV RX6 135 RX6 yX6_isCircuit wsX6_isCircuit) := goodIn_app (goodIn_of _ (by decide +kernel)) ggX6_worst_X6_isCircuit
set_option maxRecDepth 20000 in
theorem ggX6_worst_X6_outside : GoodIn wsX6_worst wsX6_outside := goodIn_r _ [13] (by decide +kernel) (by decide +kernel)
set_option maxRecDepth 20000 in
theorem gX6_worst_X6_outside : GoodIn wsX6_worst (va_wsS RX6 55 yX6_outside wsX6_outside) := goodIn_app (goodIn_of _ (by decide +kernel)) ggX6_worst_X6_outside
theorem qxX6_worst_0 : ∀ w ∈ ((((((wsX6_worst_r1 ++ (wsX6_worst_r2 ++ (wsX6_worst_r3 ++ (wsX6_worst_r4 ++ (wsX6_worst_r5 ++ (wsX6_worst_r6 ++ (wsX6_worst_r7 ++ (wsX6_worst_r8 ++ wsX6_worst_r9)))))))) ++ wsX60) ++ wsX30) ++ wsX20) ++ wsX10) ++ wsX00), w ∈ wsX6_worst := fun w h => List.mem_cons_of_mem _ h
theorem qxX6_worst_1 : ∀ w ∈ (((((wsX6_worst_r1 ++ (wsX6_worst_r2 ++ (wsX6_worst_r3 ++ (wsX6_worst_r4 ++ (wsX6_worst_r5 ++ (wsX6_worst_r6 ++ (wsX6_worst_r7 ++ (wsX6_worst_r8 ++ wsX6_worst_r9)))))))) ++ wsX60) ++ wsX30) ++ wsX20) ++ wsX10), w ∈ wsX6_worst := in_l qxX6_worst_0
theorem qxX6_worst_2 : ∀ w ∈ wsX00, w ∈ wsX6_worst := in_r qxX6_worst_0
theorem qxX6_worst_3 : ∀ w ∈ ((((wsX6_worst_r1 ++ (wsX6_worst_r2 ++ (wsX6_worst_r3 ++ (wsX6_worst_r4 ++ (wsX6_worst_r5 ++ (wsX6_worst_r6 ++ (wsX6_worst_r7 ++ (wsX6_worst_r8 ++ wsX6_worst_r9)))))))) ++ wsX60) ++ wsX30) ++ wsX20), w ∈ wsX6_worst := in_l qxX6_worst_1
theorem qxX6_worst_4 : ∀ w ∈ wsX10, w ∈ wsX6_worst := in_r qxX6_worst_1
theorem qxX6_worst_5 : ∀ w ∈ (((wsX6_worst_r1 ++ (wsX6_worst_r2 ++ (wsX6_worst_r3 ++ (wsX6_worst_r4 ++ (wsX6_worst_r5 ++ (wsX6_worst_r6 ++ (wsX6_worst_r7 ++ (wsX6_worst_r8 ++ wsX6_worst_r9)))))))) ++ wsX60) ++ wsX30), w ∈ wsX6_worst := in_l qxX6_worst_3
theorem qxX6_worst_6 : ∀ w ∈ wsX20, w ∈ wsX6_worst := in_r qxX6_worst_3
theorem qxX6_worst_7 : ∀ w ∈ ((wsX6_worst_r1 ++ (wsX6_worst_r2 ++ (wsX6_worst_r3 ++ (wsX6_worst_r4 ++ (wsX6_worst_r5 ++ (wsX6_worst_r6 ++ (wsX6_worst_r7 ++ (wsX6_worst_r8 ++ wsX6_worst_r9)))))))) ++ wsX60), w ∈ wsX6_worst := in_l qxX6_worst_5
theorem qxX6_worst_8 : ∀ w ∈ wsX30, w ∈ wsX6_worst := in_r qxX6_worst_5
theorem qxX6_worst_9 : ∀ w ∈ (wsX6_worst_r1 ++ (wsX6_worst_r2 ++ (wsX6_worst_r3 ++ (wsX6_worst_r4 ++ (wsX6_worst_r5 ++ (wsX6_worst_r6 ++ (wsX6_worst_r7 ++ (wsX6_worst_r8 ++ wsX6_worst_r9)))))))), w ∈ wsX6_worst := in_l qxX6_worst_7
theorem qxX6_worst_10 : ∀ w ∈ wsX60, w ∈ wsX6_worst := in_r qxX6_worst_7
theorem qxX6_worst_11 : ∀ w ∈ wsX6_worst_r1, w ∈ wsX6_worst := in_l qxX6_worst_9
theorem qxX6_worst_12 : ∀ w ∈ (wsX6_worst_r2 ++ (wsX6_worst_r3 ++ (wsX6_worst_r4 ++ (wsX6_worst_r5 ++ (wsX6_worst_r6 ++ (wsX6_worst_r7 ++ (wsX6_worst_r8 ++ wsX6_worst_r9))))))), w ∈ wsX6_worst := in_r qxX6_worst_9
theorem qxX6_worst_13 : ∀ w ∈ wsX6_worst_r2, w ∈ wsX6_worst := in_l qxX6_worst_12
theorem qxX6_worst_14 : ∀ w ∈ (wsX6_worst_r3 ++ (wsX6_worst_r4 ++ (wsX6_worst_r5 ++ (wsX6_worst_r6 ++ (wsX6_worst_r7 ++ (wsX6_worst_r8 ++ wsX6_worst_r9)))))), w ∈ wsX6_worst := in_r qxX6_worst_12
theorem qxX6_worst_15 : ∀ w ∈ wsX6_worst_r3, w ∈ wsX6_worst := in_l qxX6_worst_14
theorem qxX6_worst_16 : ∀ w ∈ (wsX6_worst_r4 ++ (wsX6_worst_r5 ++ (wsX6_worst_r6 ++ (wsX6_worst_r7 ++ (wsX6_worst_r8 ++ wsX6_worst_r9))))), w ∈ wsX6_worst := in_r qxX6_worst_14
theorem qxX6_worst_17 : ∀ w ∈ wsX6_worst_r4, w ∈ wsX6_worst := in_l qxX6_worst_16
theorem qxX6_worst_18 : ∀ w ∈ (wsX6_worst_r5 ++ (wsX6_worst_r6 ++ (wsX6_worst_r7 ++ (wsX6_worst_r8 ++ wsX6_worst_r9)))), w ∈ wsX6_worst := in_r qxX6_worst_16
theorem qxX6_worst_19 : ∀ w ∈ wsX6_worst_r5, w ∈ wsX6_worst := in_l qxX6_worst_18
theorem qxX6_worst_20 : ∀ w ∈ (wsX6_worst_r6 ++ (wsX6_worst_r7 ++ (wsX6_worst_r8 ++ wsX6_worst_r9))), w ∈ wsX6_worst := in_r qxX6_worst_18
theorem qxX6_worst_21 : ∀ w ∈ wsX6_worst_r6, w ∈ wsX6_worst := in_l qxX6_worst_20
theorem qxX6_worst_22 : ∀ w ∈ (wsX6_worst_r7 ++ (wsX6_worst_r8 ++ wsX6_worst_r9)), w ∈ wsX6_worst := in_r qxX6_worst_20
theorem qxX6_worst_23 : ∀ w ∈ wsX6_worst_r7, w ∈ wsX6_worst := in_l qxX6_worst_22
theorem qxX6_worst_24 : ∀ w ∈ (wsX6_worst_r8 ++ wsX6_worst_r9), w ∈ wsX6_worst := in_r qxX6_worst_22
theorem qxX6_worst_25 : ∀ w ∈ wsX6_worst_r8, w ∈ wsX6_worst := in_l qxX6_worst_24
theorem qxX6_worst_26 : ∀ w ∈ wsX6_worst_r9, w ∈ wsX6_worst := in_r qxX6_worst_24
def pxX6_worst : List (List Cond) := [wsX6_worst_r1, wsX6_worst_r2, wsX6_worst_r3, wsX6_worst_r4, wsX6_worst_r5, wsX6_worst_r6, wsX6_worst_r7, wsX6_worst_r8, wsX6_worst_r9, wsX60, wsX30, wsX20, wsX10, wsX00]
theorem pxX6_worst_in : ∀ q ∈ pxX6_worst, ∀ w ∈ q, w ∈ wsX6_worst := lp_c qxX6_worst_11 (lp_c qxX6_worst_13 (lp_c qxX6_worst_15 (lp_c qxX6_worst_17 (lp_c qxX6_worst_19 (lp_c qxX6_worst_21 (lp_c qxX6_worst_23 (lp_c qxX6_worst_25 (lp_c qxX6_worst_26 (lp_c qxX6_worst_10 (lp_c qxX6_worst_8 (lp_c qxX6_worst_6 (lp_c qxX6_worst_4 (lp_c qxX6_worst_2 (lp_n))))))))))))))
set_option maxRecDepth 20000 in
theorem ggX6_worst_X6_tallyWaits : GoodIn wsX6_worst wsX6_tallyWaits := goodIn_pp pxX6_worst pxX6_worst_in _ [(0, 16), (0, 17), (0, 0), (0, 1), (0, 2), (0, 18), (0, 19), (0, 20), (0, 6), (0, 21), (0, 22), (0, 23), (1, 0), (1, 1), (1, 2), (1, 3), (1, 4), (1, 5), (1, 6), (1, 7), (1, 8), (1, 9), (1, 10), (1, 11), (1, 12), (1, 13), (1, 14), (1, 15), (1, 16), (1, 17), (1, 18), (1, 19), (1, 20), (1, 21), (1, 22), (1, 23), (2, 0), (2, 1), (2, 2), (2, 3), (2, 4), (2, 5), (2, 6), (2, 7), (2, 8), (2, 9), (2, 10), (2, 11), (2, 12), (2, 13), (2, 14), (2, 15), (2, 16), (2, 17), (2, 18), (2, 19), (2, 20), (2, 21), (2, 22), (2, 23), (3, 0), (3, 1), (3, 2), (3, 3), (3, 4), (3, 5), (3, 6), (3, 7), (3, 8), (3, 9), (3, 10), (3, 11), (3, 12), (3, 13), (3, 14), (3, 15), (3, 16), (3, 17), (3, 18), (3, 19), (3, 20), (3, 21), (3, 22), (3, 23), (4, 0), (4, 1), (4, 2), (4, 3), (4, 4), (4, 5), (4, 6), (4, 7), (4, 8), (4, 9), (4, 10), (4, 11), (4, 12), (4, 13), (4, 14), (4, 15), (4, 16), (4, 17), (4, 18), (4, 19), (4, 20), (4, 21), (4, 22), (4, 23), (5, 0), (5, 1), (5, 2), (5, 3), (5, 4), (5, 5), (5, 6), (5, 7), (5, 8), (5, 9), (5, 10), (5, 11), (5, 12), (5, 13), (5, 14), (5, 15), (5, 16), (5, 17), (5, 18), (5, 19), (5, 20), (5, 21), (5, 22), (5, 23), (6, 0), (6, 1), (6, 2), (6, 3), (6, 4), (6, 5), (6, 6), (6, 7), (6, 8), (6, 9), (6, 10), (6, 11), (6, 12), (6, 13), (6, 14), (6, 15), (6, 16), (6, 17), (6, 18), (6, 19), (6, 20), (6, 21), (6, 22), (6, 23), (7, 0), (7, 1), (7, 2), (7, 3), (7, 4), (7, 5), (7, 6), (7, 7), (7, 8), (7, 9), (7, 10), (7, 11), (7, 12), (7, 13), (7, 14), (7, 15), (7, 16), (7, 17), (7, 18), (7, 19), (7, 20), (7, 21), (7, 22), (7, 23), (8, 0), (9, 0), (9, 1), (9, 2), (9, 3), (9, 4), (9, 5), (9, 6), (9, 7), (9, 8), (10, 0), (10, 1), (10, 2), (10, 3), (10, 4), (10, 5), (10, 6), (10, 7), (10, 8), (10, 9), (10, 10), (11, 0), (11, 1), (11, 2), (11, 3), (11, 4), (11, 5), (11, 6), (11, 7), (11, 8), (11, 9), (12, 0), (12, 1), (12, 2), (12, 3), (12, 4), (12, 5), (12, 6), (13, 0), (13, 1), (13, 2), (13, 3), (13, 4), (13, 5), (13, 6), (13, 7)] rfl (by decide +kernel)
set_option maxRecDepth 20000 in
theorem gX6_worst_X6_tallyWaits : GoodIn wsX6_worst (wsV RX6 324 RX6 yX6_tallyWaits wsX6_tallyWaits) := goodIn_app (goodIn_of _ (by decide +kernel)) ggX6_worst_X6_tallyWaits
theorem dX6_worst_0 : decode cX6_worst 0 = .ok (.aload_n 0, 1) := by decide +kernel
theorem dX6_worst_1 : decode cX6_worst 1 = .ok (.iload_n 1, 1) := by decide +kernel
theorem dX6_worst_2 : decode cX6_worst 2 = .ok (.invokevirtual 135, 3) := by decide +kernel
theorem dX6_worst_5 : decode cX6_worst 5 = .ok (.ifCond .eq 14, 3) := by decide +kernel
theorem dX6_worst_8 : decode cX6_worst 8 = .ok (.iload_n 2, 1) := by decide +kernel
theorem dX6_worst_9 : decode cX6_worst 9 = .ok (.iconst 1, 1) := by decide +kernel
theorem dX6_worst_10 : decode cX6_worst 10 = .ok (.sipush 200, 3) := by decide +kernel
theorem dX6_worst_13 : decode cX6_worst 13 = .ok (.invokestatic 55, 3) := by decide +kernel
theorem dX6_worst_16 : decode cX6_worst 16 = .ok (.ifCond .eq 5, 3) := by decide +kernel
theorem dX6_worst_19 : decode cX6_worst 19 = .ok (.iconst (-1), 1) := by decide +kernel
theorem dX6_worst_20 : decode cX6_worst 20 = .ok (.ireturn, 1) := by decide +kernel
theorem dX6_worst_21 : decode cX6_worst 21 = .ok (.aload_n 0, 1) := by decide +kernel
theorem dX6_worst_22 : decode cX6_worst 22 = .ok (.iload_n 1, 1) := by decide +kernel
theorem dX6_worst_23 : decode cX6_worst 23 = .ok (.iload_n 2, 1) := by decide +kernel
theorem dX6_worst_24 : decode cX6_worst 24 = .ok (.invokevirtual 324, 3) := by decide +kernel
theorem dX6_worst_27 : decode cX6_worst 27 = .ok (.iconst (-1), 1) := by decide +kernel
theorem dX6_worst_28 : decode cX6_worst 28 = .ok (.istore_n 3, 1) := by decide +kernel
theorem dX6_worst_29 : decode cX6_worst 29 = .ok (.iconst 0, 1) := by decide +kernel
theorem dX6_worst_30 : decode cX6_worst 30 = .ok (.istore 4, 2) := by decide +kernel
theorem dX6_worst_32 : decode cX6_worst 32 = .ok (.iconst 0, 1) := by decide +kernel
theorem dX6_worst_33 : decode cX6_worst 33 = .ok (.istore 5, 2) := by decide +kernel
theorem dX6_worst_35 : decode cX6_worst 35 = .ok (.iload 5, 2) := by decide +kernel
theorem dX6_worst_37 : decode cX6_worst 37 = .ok (.aload_n 0, 1) := by decide +kernel
theorem dX6_worst_38 : decode cX6_worst 38 = .ok (.getfield 26, 3) := by decide +kernel
theorem dX6_worst_41 : decode cX6_worst 41 = .ok (.getfield 78, 3) := by decide +kernel
theorem dX6_worst_44 : decode cX6_worst 44 = .ok (.if_icmp .ge 33, 3) := by decide +kernel
theorem dX6_worst_47 : decode cX6_worst 47 = .ok (.aload_n 0, 1) := by decide +kernel
theorem dX6_worst_48 : decode cX6_worst 48 = .ok (.getfield 39, 3) := by decide +kernel
theorem dX6_worst_51 : decode cX6_worst 51 = .ok (.iload 5, 2) := by decide +kernel
theorem dX6_worst_53 : decode cX6_worst 53 = .ok (.iaload, 1) := by decide +kernel
theorem dX6_worst_54 : decode cX6_worst 54 = .ok (.iload 4, 2) := by decide +kernel
theorem dX6_worst_56 : decode cX6_worst 56 = .ok (.if_icmp .le 15, 3) := by decide +kernel
theorem dX6_worst_59 : decode cX6_worst 59 = .ok (.aload_n 0, 1) := by decide +kernel
theorem dX6_worst_60 : decode cX6_worst 60 = .ok (.getfield 39, 3) := by decide +kernel
theorem dX6_worst_63 : decode cX6_worst 63 = .ok (.iload 5, 2) := by decide +kernel
theorem dX6_worst_65 : decode cX6_worst 65 = .ok (.iaload, 1) := by decide +kernel
theorem dX6_worst_66 : decode cX6_worst 66 = .ok (.istore 4, 2) := by decide +kernel
theorem dX6_worst_68 : decode cX6_worst 68 = .ok (.iload 5, 2) := by decide +kernel
theorem dX6_worst_70 : decode cX6_worst 70 = .ok (.istore_n 3, 1) := by decide +kernel
theorem dX6_worst_71 : decode cX6_worst 71 = .ok (.iinc 5 1, 3) := by decide +kernel
theorem dX6_worst_74 : decode cX6_worst 74 = .ok (.goto (-39), 3) := by decide +kernel
theorem dX6_worst_77 : decode cX6_worst 77 = .ok (.iload_n 3, 1) := by decide +kernel
theorem dX6_worst_78 : decode cX6_worst 78 = .ok (.ireturn, 1) := by decide +kernel
set_option maxRecDepth 20000 in
theorem ggX6_busiest_X6_outside : GoodIn wsX6_busiest wsX6_outside := goodIn_r _ [8] (by decide +kernel) (by decide +kernel)
set_option maxRecDepth 20000 in
theorem gX6_busiest_X6_outside : GoodIn wsX6_busiest (va_wsS RX6 55 yX6_outside wsX6_outside) := goodIn_app (goodIn_of _ (by decide +kernel)) ggX6_busiest_X6_outside
theorem qxX6_busiest_0 : ∀ w ∈ ((((((wsX6_busiest_r1 ++ (wsX6_busiest_r2 ++ (wsX6_busiest_r3 ++ (wsX6_busiest_r4 ++ (wsX6_busiest_r5 ++ (wsX6_busiest_r6 ++ (wsX6_busiest_r7 ++ wsX6_busiest_r8))))))) ++ wsX60) ++ wsX30) ++ wsX20) ++ wsX10) ++ wsX00), w ∈ wsX6_busiest := fun w h => List.mem_cons_of_mem _ h
theorem qxX6_busiest_1 : ∀ w ∈ (((((wsX6_busiest_r1 ++ (wsX6_busiest_r2 ++ (wsX6_busiest_r3 ++ (wsX6_busiest_r4 ++ (wsX6_busiest_r5 ++ (wsX6_busiest_r6 ++ (wsX6_busiest_r7 ++ wsX6_busiest_r8))))))) ++ wsX60) ++ wsX30) ++ wsX20) ++ wsX10), w ∈ wsX6_busiest := in_l qxX6_busiest_0
theorem qxX6_busiest_2 : ∀ w ∈ wsX00, w ∈ wsX6_busiest := in_r qxX6_busiest_0
theorem qxX6_busiest_3 : ∀ w ∈ ((((wsX6_busiest_r1 ++ (wsX6_busiest_r2 ++ (wsX6_busiest_r3 ++ (wsX6_busiest_r4 ++ (wsX6_busiest_r5 ++ (wsX6_busiest_r6 ++ (wsX6_busiest_r7 ++ wsX6_busiest_r8))))))) ++ wsX60) ++ wsX30) ++ wsX20), w ∈ wsX6_busiest := in_l qxX6_busiest_1
theorem qxX6_busiest_4 : ∀ w ∈ wsX10, w ∈ wsX6_busiest := in_r qxX6_busiest_1
theorem qxX6_busiest_5 : ∀ w ∈ (((wsX6_busiest_r1 ++ (wsX6_busiest_r2 ++ (wsX6_busiest_r3 ++ (wsX6_busiest_r4 ++ (wsX6_busiest_r5 ++ (wsX6_busiest_r6 ++ (wsX6_busiest_r7 ++ wsX6_busiest_r8))))))) ++ wsX60) ++ wsX30), w ∈ wsX6_busiest := in_l qxX6_busiest_3
theorem qxX6_busiest_6 : ∀ w ∈ wsX20, w ∈ wsX6_busiest := in_r qxX6_busiest_3
theorem qxX6_busiest_7 : ∀ w ∈ ((wsX6_busiest_r1 ++ (wsX6_busiest_r2 ++ (wsX6_busiest_r3 ++ (wsX6_busiest_r4 ++ (wsX6_busiest_r5 ++ (wsX6_busiest_r6 ++ (wsX6_busiest_r7 ++ wsX6_busiest_r8))))))) ++ wsX60), w ∈ wsX6_busiest := in_l qxX6_busiest_5
theorem qxX6_busiest_8 : ∀ w ∈ wsX30, w ∈ wsX6_busiest := in_r qxX6_busiest_5
theorem qxX6_busiest_9 : ∀ w ∈ (wsX6_busiest_r1 ++ (wsX6_busiest_r2 ++ (wsX6_busiest_r3 ++ (wsX6_busiest_r4 ++ (wsX6_busiest_r5 ++ (wsX6_busiest_r6 ++ (wsX6_busiest_r7 ++ wsX6_busiest_r8))))))), w ∈ wsX6_busiest := in_l qxX6_busiest_7
theorem qxX6_busiest_10 : ∀ w ∈ wsX60, w ∈ wsX6_busiest := in_r qxX6_busiest_7
theorem qxX6_busiest_11 : ∀ w ∈ wsX6_busiest_r1, w ∈ wsX6_busiest := in_l qxX6_busiest_9
theorem qxX6_busiest_12 : ∀ w ∈ (wsX6_busiest_r2 ++ (wsX6_busiest_r3 ++ (wsX6_busiest_r4 ++ (wsX6_busiest_r5 ++ (wsX6_busiest_r6 ++ (wsX6_busiest_r7 ++ wsX6_busiest_r8)))))), w ∈ wsX6_busiest := in_r qxX6_busiest_9
theorem qxX6_busiest_13 : ∀ w ∈ wsX6_busiest_r2, w ∈ wsX6_busiest := in_l qxX6_busiest_12
theorem qxX6_busiest_14 : ∀ w ∈ (wsX6_busiest_r3 ++ (wsX6_busiest_r4 ++ (wsX6_busiest_r5 ++ (wsX6_busiest_r6 ++ (wsX6_busiest_r7 ++ wsX6_busiest_r8))))), w ∈ wsX6_busiest := in_r qxX6_busiest_12
theorem qxX6_busiest_15 : ∀ w ∈ wsX6_busiest_r3, w ∈ wsX6_busiest := in_l qxX6_busiest_14
theorem qxX6_busiest_16 : ∀ w ∈ (wsX6_busiest_r4 ++ (wsX6_busiest_r5 ++ (wsX6_busiest_r6 ++ (wsX6_busiest_r7 ++ wsX6_busiest_r8)))), w ∈ wsX6_busiest := in_r qxX6_busiest_14
theorem qxX6_busiest_17 : ∀ w ∈ wsX6_busiest_r4, w ∈ wsX6_busiest := in_l qxX6_busiest_16
theorem qxX6_busiest_18 : ∀ w ∈ (wsX6_busiest_r5 ++ (wsX6_busiest_r6 ++ (wsX6_busiest_r7 ++ wsX6_busiest_r8))), w ∈ wsX6_busiest := in_r qxX6_busiest_16
theorem qxX6_busiest_19 : ∀ w ∈ wsX6_busiest_r5, w ∈ wsX6_busiest := in_l qxX6_busiest_18
theorem qxX6_busiest_20 : ∀ w ∈ (wsX6_busiest_r6 ++ (wsX6_busiest_r7 ++ wsX6_busiest_r8)), w ∈ wsX6_busiest := in_r qxX6_busiest_18
theorem qxX6_busiest_21 : ∀ w ∈ wsX6_busiest_r6, w ∈ wsX6_busiest := in_l qxX6_busiest_20
theorem qxX6_busiest_22 : ∀ w ∈ (wsX6_busiest_r7 ++ wsX6_busiest_r8), w ∈ wsX6_busiest := in_r qxX6_busiest_20
theorem qxX6_busiest_23 : ∀ w ∈ wsX6_busiest_r7, w ∈ wsX6_busiest := in_l qxX6_busiest_22
theorem qxX6_busiest_24 : ∀ w ∈ wsX6_busiest_r8, w ∈ wsX6_busiest := in_r qxX6_busiest_22
def pxX6_busiest : List (List Cond) := [wsX6_busiest_r1, wsX6_busiest_r2, wsX6_busiest_r3, wsX6_busiest_r4, wsX6_busiest_r5, wsX6_busiest_r6, wsX6_busiest_r7, wsX6_busiest_r8, wsX60, wsX30, wsX20, wsX10, wsX00]
theorem pxX6_busiest_in : ∀ q ∈ pxX6_busiest, ∀ w ∈ q, w ∈ wsX6_busiest := lp_c qxX6_busiest_11 (lp_c qxX6_busiest_13 (lp_c qxX6_busiest_15 (lp_c qxX6_busiest_17 (lp_c qxX6_busiest_19 (lp_c qxX6_busiest_21 (lp_c qxX6_busiest_23 (lp_c qxX6_busiest_24 (lp_c qxX6_busiest_10 (lp_c qxX6_busiest_8 (lp_c qxX6_busiest_6 (lp_c qxX6_busiest_4 (lp_c qxX6_busiest_2 (lp_n)))))))))))))
set_option maxRecDepth 20000 in
theorem ggX6_busiest_X6_tallyIdle : GoodIn wsX6_busiest wsX6_tallyIdle := goodIn_pp pxX6_busiest pxX6_busiest_in _ [(0, 11), (0, 12), (0, 1), (0, 2), (0, 13), (0, 14), (0, 3), (0, 15), (0, 16), (0, 17), (0, 6), (0, 18), (0, 19), (0, 20), (0, 21), (0, 22), (0, 23), (1, 0), (1, 1), (1, 2), (1, 3), (1, 4), (1, 5), (1, 6), (1, 7), (1, 8), (1, 9), (1, 10), (1, 11), (1, 12), (1, 13), (1, 14), (1, 15), (1, 16), (1, 17), (1, 18), (1, 19), (1, 20), (1, 21), (1, 22), (1, 23), (2, 0), (2, 1), (2, 2), (2, 3), (2, 4), (2, 5), (2, 6), (2, 7), (2, 8), (2, 9), (2, 10), (2, 11), (2, 12), (2, 13), (2, 14), (2, 15), (2, 16), (2, 17), (2, 18), (2, 19), (2, 20), (2, 21), (2, 22), (2, 23), (3, 0), (3, 1), (3, 2), (3, 3), (3, 4), (3, 5), (3, 6), (3, 7), (3, 8), (3, 9), (3, 10), (3, 11), (3, 12), (3, 13), (3, 14), (3, 15), (3, 16), (3, 17), (3, 18), (3, 19), (3, 20), (3, 21), (3, 22), (3, 23), (4, 0), (4, 1), (4, 2), (4, 3), (4, 4), (4, 5), (4, 6), (4, 7), (4, 8), (4, 9), (4, 10), (4, 11), (4, 12), (4, 13), (4, 14), (4, 15), (4, 16), (4, 17), (4, 18), (4, 19), (4, 20), (4, 21), (4, 22), (4, 23), (5, 0), (5, 1), (5, 2), (5, 3), (5, 4), (5, 5), (5, 6), (5, 7), (5, 8), (5, 9), (5, 10), (5, 11), (5, 12), (5, 13), (5, 14), (5, 15), (5, 16), (5, 17), (5, 18), (5, 19), (5, 20), (5, 21), (5, 22), (5, 23), (6, 0), (6, 1), (6, 2), (6, 3), (6, 4), (6, 5), (6, 6), (6, 7), (6, 8), (6, 9), (6, 10), (6, 11), (6, 12), (6, 13), (6, 14), (6, 15), (6, 16), (6, 17), (6, 18), (6, 19), (6, 20), (6, 21), (6, 22), (6, 23), (7, 0), (7, 1), (7, 2), (7, 3), (7, 4), (7, 5), (7, 6), (7, 7), (7, 8), (7, 9), (7, 10), (7, 11), (7, 12), (7, 13), (7, 14), (7, 15), (7, 16), (7, 17), (7, 18), (7, 19), (7, 20), (8, 0), (8, 1), (8, 2), (8, 3), (8, 4), (8, 5), (8, 6), (8, 7), (8, 8), (9, 0), (9, 1), (9, 2), (9, 3), (9, 4), (9, 5), (9, 6), (9, 7), (9, 8), (9, 9), (9, 10), (10, 0), (10, 1), (10, 2), (10, 3), (10, 4), (10, 5), (10, 6), (10, 7), (10, 8), (10, 9), (11, 0), (11, 1), (11, 2), (11, 3), (11, 4), (11, 5), (11, 6), (12, 0), (12, 1), (12, 2), (12, 3), (12, 4), (12, 5), (12, 6), (12, 7)] rfl (by decide +kernel)
set_option maxRecDepth 20000 in
theorem gX6_busiest_X6_tallyIdle : GoodIn wsX6_busiest (wsV RX6 289 RX6 yX6_tallyIdle wsX6_tallyIdle) := goodIn_app (goodIn_of _ (by decide +kernel)) ggX6_busiest_X6_tallyIdle
theorem dX6_busiest_0 : decode cX6_busiest 0 = .ok (.aload_n 0, 1) := by decide +kernel
theorem dX6_busiest_1 : decode cX6_busiest 1 = .ok (.getfield 70, 3) := by decide +kernel
theorem dX6_busiest_4 : decode cX6_busiest 4 = .ok (.ifCond .eq 14, 3) := by decide +kernel
theorem dX6_busiest_7 : decode cX6_busiest 7 = .ok (.iload_n 1, 1) := by decide +kernel
theorem dX6_busiest_8 : decode cX6_busiest 8 = .ok (.iconst 1, 1) := by decide +kernel
theorem dX6_busiest_9 : decode cX6_busiest 9 = .ok (.sipush 200, 3) := by decide +kernel
theorem dX6_busiest_12 : decode cX6_busiest 12 = .ok (.invokestatic 55, 3) := by decide +kernel
theorem dX6_busiest_15 : decode cX6_busiest 15 = .ok (.ifCond .eq 5, 3) := by decide +kernel
theorem dX6_busiest_18 : decode cX6_busiest 18 = .ok (.iconst (-1), 1) := by decide +kernel
theorem dX6_busiest_19 : decode cX6_busiest 19 = .ok (.ireturn, 1) := by decide +kernel
theorem dX6_busiest_20 : decode cX6_busiest 20 = .ok (.aload_n 0, 1) := by decide +kernel
theorem dX6_busiest_21 : decode cX6_busiest 21 = .ok (.iload_n 1, 1) := by decide +kernel
theorem dX6_busiest_22 : decode cX6_busiest 22 = .ok (.invokevirtual 289, 3) := by decide +kernel
theorem dX6_busiest_25 : decode cX6_busiest 25 = .ok (.iconst 0, 1) := by decide +kernel
theorem dX6_busiest_26 : decode cX6_busiest 26 = .ok (.istore_n 2, 1) := by decide +kernel
theorem dX6_busiest_27 : decode cX6_busiest 27 = .ok (.iconst 1, 1) := by decide +kernel
theorem dX6_busiest_28 : decode cX6_busiest 28 = .ok (.istore_n 3, 1) := by decide +kernel
theorem dX6_busiest_29 : decode cX6_busiest 29 = .ok (.iload_n 3, 1) := by decide +kernel
theorem dX6_busiest_30 : decode cX6_busiest 30 = .ok (.aload_n 0, 1) := by decide +kernel
theorem dX6_busiest_31 : decode cX6_busiest 31 = .ok (.getfield 26, 3) := by decide +kernel
theorem dX6_busiest_34 : decode cX6_busiest 34 = .ok (.getfield 78, 3) := by decide +kernel
theorem dX6_busiest_37 : decode cX6_busiest 37 = .ok (.if_icmp .ge 26, 3) := by decide +kernel
theorem dX6_busiest_40 : decode cX6_busiest 40 = .ok (.aload_n 0, 1) := by decide +kernel
theorem dX6_busiest_41 : decode cX6_busiest 41 = .ok (.getfield 39, 3) := by decide +kernel
theorem dX6_busiest_44 : decode cX6_busiest 44 = .ok (.iload_n 3, 1) := by decide +kernel
theorem dX6_busiest_45 : decode cX6_busiest 45 = .ok (.iaload, 1) := by decide +kernel
theorem dX6_busiest_46 : decode cX6_busiest 46 = .ok (.aload_n 0, 1) := by decide +kernel
theorem dX6_busiest_47 : decode cX6_busiest 47 = .ok (.getfield 39, 3) := by decide +kernel
theorem dX6_busiest_50 : decode cX6_busiest 50 = .ok (.iload_n 2, 1) := by decide +kernel
theorem dX6_busiest_51 : decode cX6_busiest 51 = .ok (.iaload, 1) := by decide +kernel
theorem dX6_busiest_52 : decode cX6_busiest 52 = .ok (.if_icmp .ge 5, 3) := by decide +kernel
theorem dX6_busiest_55 : decode cX6_busiest 55 = .ok (.iload_n 3, 1) := by decide +kernel
theorem dX6_busiest_56 : decode cX6_busiest 56 = .ok (.istore_n 2, 1) := by decide +kernel
theorem dX6_busiest_57 : decode cX6_busiest 57 = .ok (.iinc 3 1, 3) := by decide +kernel
theorem dX6_busiest_60 : decode cX6_busiest 60 = .ok (.goto (-31), 3) := by decide +kernel
theorem dX6_busiest_63 : decode cX6_busiest 63 = .ok (.iload_n 2, 1) := by decide +kernel
theorem dX6_busiest_64 : decode cX6_busiest 64 = .ok (.ireturn, 1) := by decide +kernel
set_option maxRecDepth 20000 in
theorem ggX6_alone_X6_outside : GoodIn wsX6_alone wsX6_outside := goodIn_r _ [4] (by decide +kernel) (by decide +kernel)
set_option maxRecDepth 20000 in
theorem gX6_alone_X6_outside : GoodIn wsX6_alone (va_wsS RX6 55 yX6_outside wsX6_outside) := goodIn_app (goodIn_of _ (by decide +kernel)) ggX6_alone_X6_outside
set_option maxRecDepth 20000 in
theorem ggX6_alone_X6_isNoLink : GoodIn wsX6_alone wsX6_isNoLink := goodIn_r _ [7, 1, 2, 3, 4] (by decide +kernel) (by decide +kernel)
set_option maxRecDepth 20000 in
theorem gX6_alone_X6_isNoLink : GoodIn wsX6_alone (va_wsS RX6 331 yX6_isNoLink wsX6_isNoLink) := goodIn_app (goodIn_of _ (by decide +kernel)) ggX6_alone_X6_isNoLink
theorem qxX6_alone_0 : ∀ w ∈ ((((((wsX6_alone_r1 ++ (wsX6_alone_r2 ++ (wsX6_alone_r3 ++ (wsX6_alone_r4 ++ (wsX6_alone_r5 ++ (wsX6_alone_r6 ++ (wsX6_alone_r7 ++ wsX6_alone_r8))))))) ++ wsX60) ++ wsX30) ++ wsX20) ++ wsX10) ++ wsX00), w ∈ wsX6_alone := fun w h => List.mem_cons_of_mem _ h
theorem qxX6_alone_1 : ∀ w ∈ (((((wsX6_alone_r1 ++ (wsX6_alone_r2 ++ (wsX6_alone_r3 ++ (wsX6_alone_r4 ++ (wsX6_alone_r5 ++ (wsX6_alone_r6 ++ (wsX6_alone_r7 ++ wsX6_alone_r8))))))) ++ wsX60) ++ wsX30) ++ wsX20) ++ wsX10), w ∈ wsX6_alone := in_l qxX6_alone_0
theorem qxX6_alone_2 : ∀ w ∈ wsX00, w ∈ wsX6_alone := in_r qxX6_alone_0
theorem qxX6_alone_3 : ∀ w ∈ ((((wsX6_alone_r1 ++ (wsX6_alone_r2 ++ (wsX6_alone_r3 ++ (wsX6_alone_r4 ++ (wsX6_alone_r5 ++ (wsX6_alone_r6 ++ (wsX6_alone_r7 ++ wsX6_alone_r8))))))) ++ wsX60) ++ wsX30) ++ wsX20), w ∈ wsX6_alone := in_l qxX6_alone_1
theorem qxX6_alone_4 : ∀ w ∈ wsX10, w ∈ wsX6_alone := in_r qxX6_alone_1
theorem qxX6_alone_5 : ∀ w ∈ (((wsX6_alone_r1 ++ (wsX6_alone_r2 ++ (wsX6_alone_r3 ++ (wsX6_alone_r4 ++ (wsX6_alone_r5 ++ (wsX6_alone_r6 ++ (wsX6_alone_r7 ++ wsX6_alone_r8))))))) ++ wsX60) ++ wsX30), w ∈ wsX6_alone := in_l qxX6_alone_3
theorem qxX6_alone_6 : ∀ w ∈ wsX20, w ∈ wsX6_alone := in_r qxX6_alone_3
theorem qxX6_alone_7 : ∀ w ∈ ((wsX6_alone_r1 ++ (wsX6_alone_r2 ++ (wsX6_alone_r3 ++ (wsX6_alone_r4 ++ (wsX6_alone_r5 ++ (wsX6_alone_r6 ++ (wsX6_alone_r7 ++ wsX6_alone_r8))))))) ++ wsX60), w ∈ wsX6_alone := in_l qxX6_alone_5
theorem qxX6_alone_8 : ∀ w ∈ wsX30, w ∈ wsX6_alone := in_r qxX6_alone_5
theorem qxX6_alone_9 : ∀ w ∈ (wsX6_alone_r1 ++ (wsX6_alone_r2 ++ (wsX6_alone_r3 ++ (wsX6_alone_r4 ++ (wsX6_alone_r5 ++ (wsX6_alone_r6 ++ (wsX6_alone_r7 ++ wsX6_alone_r8))))))), w ∈ wsX6_alone := in_l qxX6_alone_7
theorem qxX6_alone_10 : ∀ w ∈ wsX60, w ∈ wsX6_alone := in_r qxX6_alone_7
theorem qxX6_alone_11 : ∀ w ∈ wsX6_alone_r1, w ∈ wsX6_alone := in_l qxX6_alone_9
theorem qxX6_alone_12 : ∀ w ∈ (wsX6_alone_r2 ++ (wsX6_alone_r3 ++ (wsX6_alone_r4 ++ (wsX6_alone_r5 ++ (wsX6_alone_r6 ++ (wsX6_alone_r7 ++ wsX6_alone_r8)))))), w ∈ wsX6_alone := in_r qxX6_alone_9
theorem qxX6_alone_13 : ∀ w ∈ wsX6_alone_r2, w ∈ wsX6_alone := in_l qxX6_alone_12
theorem qxX6_alone_14 : ∀ w ∈ (wsX6_alone_r3 ++ (wsX6_alone_r4 ++ (wsX6_alone_r5 ++ (wsX6_alone_r6 ++ (wsX6_alone_r7 ++ wsX6_alone_r8))))), w ∈ wsX6_alone := in_r qxX6_alone_12
theorem qxX6_alone_15 : ∀ w ∈ wsX6_alone_r3, w ∈ wsX6_alone := in_l qxX6_alone_14
theorem qxX6_alone_16 : ∀ w ∈ (wsX6_alone_r4 ++ (wsX6_alone_r5 ++ (wsX6_alone_r6 ++ (wsX6_alone_r7 ++ wsX6_alone_r8)))), w ∈ wsX6_alone := in_r qxX6_alone_14
theorem qxX6_alone_17 : ∀ w ∈ wsX6_alone_r4, w ∈ wsX6_alone := in_l qxX6_alone_16
theorem qxX6_alone_18 : ∀ w ∈ (wsX6_alone_r5 ++ (wsX6_alone_r6 ++ (wsX6_alone_r7 ++ wsX6_alone_r8))), w ∈ wsX6_alone := in_r qxX6_alone_16
theorem qxX6_alone_19 : ∀ w ∈ wsX6_alone_r5, w ∈ wsX6_alone := in_l qxX6_alone_18
theorem qxX6_alone_20 : ∀ w ∈ (wsX6_alone_r6 ++ (wsX6_alone_r7 ++ wsX6_alone_r8)), w ∈ wsX6_alone := in_r qxX6_alone_18
theorem qxX6_alone_21 : ∀ w ∈ wsX6_alone_r6, w ∈ wsX6_alone := in_l qxX6_alone_20
theorem qxX6_alone_22 : ∀ w ∈ (wsX6_alone_r7 ++ wsX6_alone_r8), w ∈ wsX6_alone := in_r qxX6_alone_20
theorem qxX6_alone_23 : ∀ w ∈ wsX6_alone_r7, w ∈ wsX6_alone := in_l qxX6_alone_22
theorem qxX6_alone_24 : ∀ w ∈ wsX6_alone_r8, w ∈ wsX6_alone := in_r qxX6_alone_22
def pxX6_alone : List (List Cond) := [wsX6_alone_r1, wsX6_alone_r2, wsX6_alone_r3, wsX6_alone_r4, wsX6_alone_r5, wsX6_alone_r6, wsX6_alone_r7, wsX6_alone_r8, wsX60, wsX30, wsX20, wsX10, wsX00]
theorem pxX6_alone_in : ∀ q ∈ pxX6_alone, ∀ w ∈ q, w ∈ wsX6_alone := lp_c qxX6_alone_11 (lp_c qxX6_alone_13 (lp_c qxX6_alone_15 (lp_c qxX6_alone_17 (lp_c qxX6_alone_19 (lp_c qxX6_alone_21 (lp_c qxX6_alone_23 (lp_c qxX6_alone_24 (lp_c qxX6_alone_10 (lp_c qxX6_alone_8 (lp_c qxX6_alone_6 (lp_c qxX6_alone_4 (lp_c qxX6_alone_2 (lp_n)))))))))))))
set_option maxRecDepth 20000 in
theorem ggX6_alone_X6_sentAlone : GoodIn wsX6_alone wsX6_sentAlone := goodIn_pp pxX6_alone pxX6_alone_in _ [(0, 10), (0, 11), (0, 12), (0, 13), (0, 14), (0, 15), (0, 16), (0, 17), (0, 18), (0, 19), (0, 20), (0, 21), (0, 22), (0, 23), (1, 0), (1, 1), (1, 2), (1, 3), (1, 4), (1, 5), (1, 6), (1, 7), (1, 8), (1, 9), (1, 10), (1, 11), (1, 12), (1, 13), (1, 14), (1, 15), (1, 16), (1, 17), (1, 18), (1, 19), (1, 20), (1, 21), (1, 22), (1, 23), (2, 0), (2, 1), (2, 2), (2, 3), (2, 4), (2, 5), (2, 6), (2, 7), (2, 8), (2, 9), (2, 10), (2, 11), (2, 12), (2, 13), (2, 14), (2, 15), (2, 16), (2, 17), (2, 18), (2, 19), (2, 20), (2, 21), (2, 22), (2, 23), (3, 0), (3, 1), (3, 2), (3, 3), (3, 4), (3, 5), (3, 6), (3, 7), (3, 8), (3, 9), (3, 10), (3, 11), (3, 12), (3, 13), (3, 14), (3, 15), (3, 16), (3, 17), (3, 18), (3, 19), (3, 20), (3, 21), (3, 22), (3, 23), (4, 0), (4, 1), (4, 2), (4, 3), (0, 2), (4, 4), (4, 5), (4, 6), (4, 7), (4, 8), (4, 9), (4, 10), (4, 11), (4, 12), (4, 13), (4, 14), (4, 15), (4, 16), (4, 17), (4, 18), (4, 19), (4, 20), (4, 21), (4, 22), (4, 23), (5, 0), (5, 1), (5, 2), (5, 3), (5, 4), (5, 5), (5, 6), (5, 7), (5, 8), (5, 9), (5, 10), (5, 11), (5, 12), (5, 13), (5, 14), (5, 15), (5, 16), (5, 17), (5, 18), (5, 19), (5, 20), (5, 21), (5, 22), (5, 23), (6, 0), (6, 1), (6, 2), (6, 3), (6, 4), (6, 5), (6, 6), (6, 7), (6, 8), (6, 9), (6, 10), (6, 11), (6, 12), (6, 13), (6, 14), (6, 15), (6, 16), (6, 17), (6, 18), (6, 19), (6, 20), (6, 21), (6, 22), (6, 23), (7, 0), (7, 1), (7, 2), (7, 3), (7, 4), (7, 5), (7, 6), (7, 7), (7, 8), (7, 9), (7, 10), (7, 11), (7, 12), (7, 13), (7, 14), (7, 15), (7, 16), (7, 17), (7, 18), (7, 19), (7, 20), (8, 0), (8, 1), (8, 2), (8, 3), (8, 4), (8, 5), (8, 6), (8, 7), (8, 8), (9, 0), (9, 1), (9, 2), (9, 3), (9, 4), (9, 5), (9, 6), (9, 7), (9, 8), (9, 9), (9, 10), (10, 0), (10, 1), (10, 2), (10, 3), (10, 4), (10, 5), (10, 6), (10, 7), (10, 8), (10, 9), (11, 0), (11, 1), (11, 2), (11, 3), (11, 4), (11, 5), (11, 6), (12, 0), (12, 1), (12, 2), (12, 3), (12, 4), (12, 5), (12, 6), (12, 7)] rfl (by decide +kernel)
set_option maxRecDepth 20000 in
theorem gX6_alone_X6_sentAlone : GoodIn wsX6_alone (wsV RX6 335 RX6 yX6_sentAlone wsX6_sentAlone) := goodIn_app (goodIn_of _ (by decide +kernel)) ggX6_alone_X6_sentAlone
theorem dX6_alone_0 : decode cX6_alone 0 = .ok (.iload_n 3, 1) := by decide +kernel
theorem dX6_alone_1 : decode cX6_alone 1 = .ok (.iconst 1, 1) := by decide +kernel
theorem dX6_alone_2 : decode cX6_alone 2 = .ok (.bipush 30, 2) := by decide +kernel
theorem dX6_alone_4 : decode cX6_alone 4 = .ok (.invokestatic 55, 3) := by decide +kernel
theorem dX6_alone_7 : decode cX6_alone 7 = .ok (.ifCond .ne 15, 3) := by decide +kernel
theorem dX6_alone_10 : decode cX6_alone 10 = .ok (.iload_n 1, 1) := by decide +kernel
theorem dX6_alone_11 : decode cX6_alone 11 = .ok (.iload_n 2, 1) := by decide +kernel
theorem dX6_alone_12 : decode cX6_alone 12 = .ok (.iload 4, 2) := by decide +kernel
theorem dX6_alone_14 : decode cX6_alone 14 = .ok (.iload 5, 2) := by decide +kernel
theorem dX6_alone_16 : decode cX6_alone 16 = .ok (.invokestatic 331, 3) := by decide +kernel
theorem dX6_alone_19 : decode cX6_alone 19 = .ok (.ifCond .eq 5, 3) := by decide +kernel
theorem dX6_alone_22 : decode cX6_alone 22 = .ok (.iconst (-1), 1) := by decide +kernel
theorem dX6_alone_23 : decode cX6_alone 23 = .ok (.ireturn, 1) := by decide +kernel
theorem dX6_alone_24 : decode cX6_alone 24 = .ok (.aload_n 0, 1) := by decide +kernel
theorem dX6_alone_25 : decode cX6_alone 25 = .ok (.iload_n 1, 1) := by decide +kernel
theorem dX6_alone_26 : decode cX6_alone 26 = .ok (.iload_n 2, 1) := by decide +kernel
theorem dX6_alone_27 : decode cX6_alone 27 = .ok (.iload_n 3, 1) := by decide +kernel
theorem dX6_alone_28 : decode cX6_alone 28 = .ok (.iload 4, 2) := by decide +kernel
theorem dX6_alone_30 : decode cX6_alone 30 = .ok (.iload 5, 2) := by decide +kernel
theorem dX6_alone_32 : decode cX6_alone 32 = .ok (.invokevirtual 335, 3) := by decide +kernel
theorem dX6_alone_35 : decode cX6_alone 35 = .ok (.ireturn, 1) := by decide +kernel
set_option maxRecDepth 20000 in
theorem ggX6_isNoLink_X6_outside : GoodIn wsX6_isNoLink wsX6_outside := goodIn_r _ [4] (by decide +kernel) (by decide +kernel)
set_option maxRecDepth 20000 in
theorem gX6_isNoLink_X6_outside : GoodIn wsX6_isNoLink (va_wsS RX6 55 yX6_outside wsX6_outside) := goodIn_app (goodIn_of _ (by decide +kernel)) ggX6_isNoLink_X6_outside
theorem dX6_isNoLink_0 : decode cX6_isNoLink 0 = .ok (.iload_n 0, 1) := by decide +kernel
theorem dX6_isNoLink_1 : decode cX6_isNoLink 1 = .ok (.iconst 1, 1) := by decide +kernel
theorem dX6_isNoLink_2 : decode cX6_isNoLink 2 = .ok (.iconst 4, 1) := by decide +kernel
theorem dX6_isNoLink_3 : decode cX6_isNoLink 3 = .ok (.invokestatic 55, 3) := by decide +kernel
theorem dX6_isNoLink_6 : decode cX6_isNoLink 6 = .ok (.ifCond .ne 33, 3) := by decide +kernel
theorem dX6_isNoLink_9 : decode cX6_isNoLink 9 = .ok (.iload_n 1, 1) := by decide +kernel
theorem dX6_isNoLink_10 : decode cX6_isNoLink 10 = .ok (.iconst 1, 1) := by decide +kernel
theorem dX6_isNoLink_11 : decode cX6_isNoLink 11 = .ok (.iconst 4, 1) := by decide +kernel
theorem dX6_isNoLink_12 : decode cX6_isNoLink 12 = .ok (.invokestatic 55, 3) := by decide +kernel
theorem dX6_isNoLink_15 : decode cX6_isNoLink 15 = .ok (.ifCond .ne 24, 3) := by decide +kernel
theorem dX6_isNoLink_18 : decode cX6_isNoLink 18 = .ok (.iload_n 2, 1) := by decide +kernel
theorem dX6_isNoLink_19 : decode cX6_isNoLink 19 = .ok (.iconst 1, 1) := by decide +kernel
theorem dX6_isNoLink_20 : decode cX6_isNoLink 20 = .ok (.bipush 9, 2) := by decide +kernel
theorem dX6_isNoLink_22 : decode cX6_isNoLink 22 = .ok (.invokestatic 55, 3) := by decide +kernel
theorem dX6_isNoLink_25 : decode cX6_isNoLink 25 = .ok (.ifCond .ne 14, 3) := by decide +kernel
theorem dX6_isNoLink_28 : decode cX6_isNoLink 28 = .ok (.iload_n 3, 1) := by decide +kernel
theorem dX6_isNoLink_29 : decode cX6_isNoLink 29 = .ok (.iconst 1, 1) := by decide +kernel
theorem dX6_isNoLink_30 : decode cX6_isNoLink 30 = .ok (.sipush 200, 3) := by decide +kernel
theorem dX6_isNoLink_33 : decode cX6_isNoLink 33 = .ok (.invokestatic 55, 3) := by decide +kernel
theorem dX6_isNoLink_36 : decode cX6_isNoLink 36 = .ok (.ifCond .eq 7, 3) := by decide +kernel
theorem dX6_isNoLink_39 : decode cX6_isNoLink 39 = .ok (.iconst 1, 1) := by decide +kernel
theorem dX6_isNoLink_40 : decode cX6_isNoLink 40 = .ok (.goto 4, 3) := by decide +kernel
theorem dX6_isNoLink_43 : decode cX6_isNoLink 43 = .ok (.iconst 0, 1) := by decide +kernel
theorem dX6_isNoLink_44 : decode cX6_isNoLink 44 = .ok (.ireturn, 1) := by decide +kernel
theorem qxX6_sentAlone_0 : ∀ w ∈ ((((((wsX6_sentAlone_r1 ++ (wsX6_sentAlone_r2 ++ (wsX6_sentAlone_r3 ++ (wsX6_sentAlone_r4 ++ (wsX6_sentAlone_r5 ++ (wsX6_sentAlone_r6 ++ (wsX6_sentAlone_r7 ++ wsX6_sentAlone_r8))))))) ++ wsX60) ++ wsX30) ++ wsX20) ++ wsX10) ++ wsX00), w ∈ wsX6_sentAlone := fun w h => List.mem_cons_of_mem _ h
theorem qxX6_sentAlone_1 : ∀ w ∈ (((((wsX6_sentAlone_r1 ++ (wsX6_sentAlone_r2 ++ (wsX6_sentAlone_r3 ++ (wsX6_sentAlone_r4 ++ (wsX6_sentAlone_r5 ++ (wsX6_sentAlone_r6 ++ (wsX6_sentAlone_r7 ++ wsX6_sentAlone_r8))))))) ++ wsX60) ++ wsX30) ++ wsX20) ++ wsX10), w ∈ wsX6_sentAlone := in_l qxX6_sentAlone_0
theorem qxX6_sentAlone_2 : ∀ w ∈ wsX00, w ∈ wsX6_sentAlone := in_r qxX6_sentAlone_0
theorem qxX6_sentAlone_3 : ∀ w ∈ ((((wsX6_sentAlone_r1 ++ (wsX6_sentAlone_r2 ++ (wsX6_sentAlone_r3 ++ (wsX6_sentAlone_r4 ++ (wsX6_sentAlone_r5 ++ (wsX6_sentAlone_r6 ++ (wsX6_sentAlone_r7 ++ wsX6_sentAlone_r8))))))) ++ wsX60) ++ wsX30) ++ wsX20), w ∈ wsX6_sentAlone := in_l qxX6_sentAlone_1
theorem qxX6_sentAlone_4 : ∀ w ∈ wsX10, w ∈ wsX6_sentAlone := in_r qxX6_sentAlone_1
theorem qxX6_sentAlone_5 : ∀ w ∈ (((wsX6_sentAlone_r1 ++ (wsX6_sentAlone_r2 ++ (wsX6_sentAlone_r3 ++ (wsX6_sentAlone_r4 ++ (wsX6_sentAlone_r5 ++ (wsX6_sentAlone_r6 ++ (wsX6_sentAlone_r7 ++ wsX6_sentAlone_r8))))))) ++ wsX60) ++ wsX30), w ∈ wsX6_sentAlone := in_l qxX6_sentAlone_3
theorem qxX6_sentAlone_6 : ∀ w ∈ wsX20, w ∈ wsX6_sentAlone := in_r qxX6_sentAlone_3
theorem qxX6_sentAlone_7 : ∀ w ∈ ((wsX6_sentAlone_r1 ++ (wsX6_sentAlone_r2 ++ (wsX6_sentAlone_r3 ++ (wsX6_sentAlone_r4 ++ (wsX6_sentAlone_r5 ++ (wsX6_sentAlone_r6 ++ (wsX6_sentAlone_r7 ++ wsX6_sentAlone_r8))))))) ++ wsX60), w ∈ wsX6_sentAlone := in_l qxX6_sentAlone_5
theorem qxX6_sentAlone_8 : ∀ w ∈ wsX30, w ∈ wsX6_sentAlone := in_r qxX6_sentAlone_5
theorem qxX6_sentAlone_9 : ∀ w ∈ (wsX6_sentAlone_r1 ++ (wsX6_sentAlone_r2 ++ (wsX6_sentAlone_r3 ++ (wsX6_sentAlone_r4 ++ (wsX6_sentAlone_r5 ++ (wsX6_sentAlone_r6 ++ (wsX6_sentAlone_r7 ++ wsX6_sentAlone_r8))))))), w ∈ wsX6_sentAlone := in_l qxX6_sentAlone_7
theorem qxX6_sentAlone_10 : ∀ w ∈ wsX60, w ∈ wsX6_sentAlone := in_r qxX6_sentAlone_7
theorem qxX6_sentAlone_11 : ∀ w ∈ wsX6_sentAlone_r1, w ∈ wsX6_sentAlone := in_l qxX6_sentAlone_9
theorem qxX6_sentAlone_12 : ∀ w ∈ (wsX6_sentAlone_r2 ++ (wsX6_sentAlone_r3 ++ (wsX6_sentAlone_r4 ++ (wsX6_sentAlone_r5 ++ (wsX6_sentAlone_r6 ++ (wsX6_sentAlone_r7 ++ wsX6_sentAlone_r8)))))), w ∈ wsX6_sentAlone := in_r qxX6_sentAlone_9
theorem qxX6_sentAlone_13 : ∀ w ∈ wsX6_sentAlone_r2, w ∈ wsX6_sentAlone := in_l qxX6_sentAlone_12
theorem qxX6_sentAlone_14 : ∀ w ∈ (wsX6_sentAlone_r3 ++ (wsX6_sentAlone_r4 ++ (wsX6_sentAlone_r5 ++ (wsX6_sentAlone_r6 ++ (wsX6_sentAlone_r7 ++ wsX6_sentAlone_r8))))), w ∈ wsX6_sentAlone := in_r qxX6_sentAlone_12
theorem qxX6_sentAlone_15 : ∀ w ∈ wsX6_sentAlone_r3, w ∈ wsX6_sentAlone := in_l qxX6_sentAlone_14
theorem qxX6_sentAlone_16 : ∀ w ∈ (wsX6_sentAlone_r4 ++ (wsX6_sentAlone_r5 ++ (wsX6_sentAlone_r6 ++ (wsX6_sentAlone_r7 ++ wsX6_sentAlone_r8)))), w ∈ wsX6_sentAlone := in_r qxX6_sentAlone_14
theorem qxX6_sentAlone_17 : ∀ w ∈ wsX6_sentAlone_r4, w ∈ wsX6_sentAlone := in_l qxX6_sentAlone_16
theorem qxX6_sentAlone_18 : ∀ w ∈ (wsX6_sentAlone_r5 ++ (wsX6_sentAlone_r6 ++ (wsX6_sentAlone_r7 ++ wsX6_sentAlone_r8))), w ∈ wsX6_sentAlone := in_r qxX6_sentAlone_16
theorem qxX6_sentAlone_19 : ∀ w ∈ wsX6_sentAlone_r5, w ∈ wsX6_sentAlone := in_l qxX6_sentAlone_18
theorem qxX6_sentAlone_20 : ∀ w ∈ (wsX6_sentAlone_r6 ++ (wsX6_sentAlone_r7 ++ wsX6_sentAlone_r8)), w ∈ wsX6_sentAlone := in_r qxX6_sentAlone_18
theorem qxX6_sentAlone_21 : ∀ w ∈ wsX6_sentAlone_r6, w ∈ wsX6_sentAlone := in_l qxX6_sentAlone_20
theorem qxX6_sentAlone_22 : ∀ w ∈ (wsX6_sentAlone_r7 ++ wsX6_sentAlone_r8), w ∈ wsX6_sentAlone := in_r qxX6_sentAlone_20
theorem qxX6_sentAlone_23 : ∀ w ∈ wsX6_sentAlone_r7, w ∈ wsX6_sentAlone := in_l qxX6_sentAlone_22
theorem qxX6_sentAlone_24 : ∀ w ∈ wsX6_sentAlone_r8, w ∈ wsX6_sentAlone := in_r qxX6_sentAlone_22
def pxX6_sentAlone : List (List Cond) := [wsX6_sentAlone_r1, wsX6_sentAlone_r2, wsX6_sentAlone_r3, wsX6_sentAlone_r4, wsX6_sentAlone_r5, wsX6_sentAlone_r6, wsX6_sentAlone_r7, wsX6_sentAlone_r8, wsX60, wsX30, wsX20, wsX10, wsX00]
theorem pxX6_sentAlone_in : ∀ q ∈ pxX6_sentAlone, ∀ w ∈ q, w ∈ wsX6_sentAlone := lp_c qxX6_sentAlone_11 (lp_c qxX6_sentAlone_13 (lp_c qxX6_sentAlone_15 (lp_c qxX6_sentAlone_17 (lp_c qxX6_sentAlone_19 (lp_c qxX6_sentAlone_21 (lp_c qxX6_sentAlone_23 (lp_c qxX6_sentAlone_24 (lp_c qxX6_sentAlone_10 (lp_c qxX6_sentAlone_8 (lp_c qxX6_sentAlone_6 (lp_c qxX6_sentAlone_4 (lp_c qxX6_sentAlone_2 (lp_n)))))))))))))
set_option maxRecDepth 20000 in
theorem ggX6_sentAlone_X3_layAlone : GoodIn wsX6_sentAlone wsX3_layAlone := goodIn_pp pxX6_sentAlone pxX6_sentAlone_in _ [(0, 8), (0, 9), (0, 10), (0, 11), (0, 12), (0, 13), (0, 14), (0, 7), (0, 15), (0, 16), (0, 17), (0, 18), (0, 19), (0, 20), (0, 21), (0, 22), (0, 23), (1, 0), (1, 1), (1, 2), (1, 3), (1, 4), (1, 5), (1, 6), (1, 7), (1, 8), (1, 9), (1, 10), (1, 11), (1, 12), (1, 13), (1, 14), (1, 15), (1, 16), (1, 17), (1, 18), (1, 19), (1, 20), (1, 21), (1, 22), (1, 23), (2, 0), (2, 1), (2, 2), (2, 3), (2, 4), (2, 5), (2, 6), (2, 7), (2, 8), (2, 9), (2, 10), (2, 11), (2, 12), (2, 13), (2, 14), (2, 15), (2, 16), (2, 17), (2, 18), (2, 19), (9, 0), (9, 1), (9, 2), (9, 3), (9, 4), (9, 5), (9, 6), (9, 7), (9, 8), (9, 9), (9, 10), (10, 0), (10, 1), (10, 2), (10, 3), (10, 4), (10, 5), (10, 6), (10, 7), (10, 8), (10, 9), (11, 0), (11, 1), (11, 2), (11, 3), (11, 4), (11, 5), (11, 6), (12, 0), (12, 1), (12, 2), (12, 3), (12, 4), (12, 5), (12, 6), (12, 7)] rfl (by decide +kernel)
set_option maxRecDepth 20000 in
theorem gX6_sentAlone_X3_layAlone : GoodIn wsX6_sentAlone (wsV RX6 339 RX3 yX3_layAlone wsX3_layAlone) := goodIn_app (goodIn_of _ (by decide +kernel)) ggX6_sentAlone_X3_layAlone
set_option maxRecDepth 20000 in
theorem ggX6_sentAlone_X3_steps : GoodIn wsX6_sentAlone wsX3_steps := goodIn_pp pxX6_sentAlone pxX6_sentAlone_in _ [(2, 23), (3, 0), (3, 1), (3, 2), (0, 7), (3, 3), (0, 16), (0, 17), (0, 19), (0, 21), (0, 9), (3, 4), (3, 5), (3, 6), (3, 7), (3, 8), (0, 11), (3, 9), (3, 10), (3, 11), (3, 12), (3, 13), (3, 14), (1, 22), (3, 15), (2, 2), (3, 16), (3, 17), (3, 18), (3, 19), (3, 20), (3, 21), (3, 22), (3, 23), (0, 22), (4, 0), (4, 1), (4, 2), (1, 13), (1, 14), (1, 3), (1, 15), (1, 16), (1, 17), (1, 18), (4, 3), (4, 4), (4, 5), (4, 6), (0, 10), (4, 7), (4, 8), (4, 9), (4, 10), (4, 11), (4, 12), (2, 10), (4, 13), (2, 12), (2, 13), (4, 14), (4, 15), (4, 16), (4, 17), (4, 18), (4, 19), (4, 20), (4, 21), (4, 22), (4, 23), (2, 14), (5, 0), (5, 1), (5, 2), (5, 3), (5, 4), (5, 5), (5, 6), (5, 7), (5, 8), (5, 9), (5, 10), (5, 11), (5, 12), (5, 13), (5, 14), (5, 15), (5, 16), (5, 17), (5, 18), (5, 19), (5, 20), (5, 21), (5, 22), (2, 0), (5, 23), (6, 0), (6, 1), (6, 2), (6, 3), (0, 20), (6, 4), (6, 5), (6, 6), (6, 7), (6, 8), (6, 9), (6, 10), (6, 11), (0, 23), (6, 12), (6, 13), (6, 14), (6, 15), (6, 16), (6, 17), (6, 18), (6, 19), (6, 20), (6, 21), (6, 22), (6, 23), (7, 0), (7, 1), (7, 2), (7, 3), (0, 18), (7, 4), (7, 5), (7, 6), (7, 7), (1, 6), (1, 11), (7, 8), (7, 9), (7, 10), (9, 0), (9, 1), (9, 2), (9, 3), (9, 4), (9, 5), (9, 6), (9, 7), (9, 8), (9, 9), (9, 10), (10, 0), (10, 1), (10, 2), (10, 3), (10, 4), (10, 5), (10, 6), (10, 7), (10, 8), (10, 9), (11, 0), (11, 1), (11, 2), (11, 3), (11, 4), (11, 5), (11, 6), (12, 0), (12, 1), (12, 2), (12, 3), (12, 4), (12, 5), (12, 6), (12, 7)] rfl (by decide +kernel)
set_option maxRecDepth 20000 in
theorem gX6_sentAlone_X3_steps : GoodIn wsX6_sentAlone (wsV RX6 274 RX3 yX3_steps wsX3_steps) := goodIn_app (goodIn_of _ (by decide +kernel)) ggX6_sentAlone_X3_steps
theorem dX6_sentAlone_0 : decode cX6_sentAlone 0 = .ok (.aload_n 0, 1) := by decide +kernel
theorem dX6_sentAlone_1 : decode cX6_sentAlone 1 = .ok (.getfield 30, 3) := by decide +kernel
theorem dX6_sentAlone_4 : decode cX6_sentAlone 4 = .ok (.iload_n 1, 1) := by decide +kernel
theorem dX6_sentAlone_5 : decode cX6_sentAlone 5 = .ok (.iload_n 2, 1) := by decide +kernel
theorem dX6_sentAlone_6 : decode cX6_sentAlone 6 = .ok (.iload_n 3, 1) := by decide +kernel
theorem dX6_sentAlone_7 : decode cX6_sentAlone 7 = .ok (.iload 4, 2) := by decide +kernel
theorem dX6_sentAlone_9 : decode cX6_sentAlone 9 = .ok (.invokevirtual 339, 3) := by decide +kernel
theorem dX6_sentAlone_12 : decode cX6_sentAlone 12 = .ok (.aload_n 0, 1) := by decide +kernel
theorem dX6_sentAlone_13 : decode cX6_sentAlone 13 = .ok (.getfield 30, 3) := by decide +kernel
theorem dX6_sentAlone_16 : decode cX6_sentAlone 16 = .ok (.iload 5, 2) := by decide +kernel
theorem dX6_sentAlone_18 : decode cX6_sentAlone 18 = .ok (.invokevirtual 274, 3) := by decide +kernel
theorem dX6_sentAlone_21 : decode cX6_sentAlone 21 = .ok (.aload_n 0, 1) := by decide +kernel
theorem dX6_sentAlone_22 : decode cX6_sentAlone 22 = .ok (.getfield 30, 3) := by decide +kernel
theorem dX6_sentAlone_25 : decode cX6_sentAlone 25 = .ok (.getfield 104, 3) := by decide +kernel
theorem dX6_sentAlone_28 : decode cX6_sentAlone 28 = .ok (.iconst 0, 1) := by decide +kernel
theorem dX6_sentAlone_29 : decode cX6_sentAlone 29 = .ok (.aaload, 1) := by decide +kernel
theorem dX6_sentAlone_30 : decode cX6_sentAlone 30 = .ok (.getfield 175, 3) := by decide +kernel
theorem dX6_sentAlone_33 : decode cX6_sentAlone 33 = .ok (.iconst 0, 1) := by decide +kernel
theorem dX6_sentAlone_34 : decode cX6_sentAlone 34 = .ok (.aaload, 1) := by decide +kernel
theorem dX6_sentAlone_35 : decode cX6_sentAlone 35 = .ok (.getfield 205, 3) := by decide +kernel
theorem dX6_sentAlone_38 : decode cX6_sentAlone 38 = .ok (.ireturn, 1) := by decide +kernel
set_option maxRecDepth 20000 in
theorem ggX6_full_X6_isNoLink : GoodIn wsX6_full wsX6_isNoLink := goodIn_r _ [4, 5, 6, 3, 7] (by decide +kernel) (by decide +kernel)
set_option maxRecDepth 20000 in
theorem gX6_full_X6_isNoLink : GoodIn wsX6_full (va_wsS RX6 331 yX6_isNoLink wsX6_isNoLink) := goodIn_app (goodIn_of _ (by decide +kernel)) ggX6_full_X6_isNoLink
theorem qxX6_full_0 : ∀ w ∈ ((((((wsX6_full_r1 ++ (wsX6_full_r2 ++ (wsX6_full_r3 ++ (wsX6_full_r4 ++ (wsX6_full_r5 ++ (wsX6_full_r6 ++ (wsX6_full_r7 ++ wsX6_full_r8))))))) ++ wsX60) ++ wsX30) ++ wsX20) ++ wsX10) ++ wsX00), w ∈ wsX6_full := fun w h => List.mem_cons_of_mem _ h
theorem qxX6_full_1 : ∀ w ∈ (((((wsX6_full_r1 ++ (wsX6_full_r2 ++ (wsX6_full_r3 ++ (wsX6_full_r4 ++ (wsX6_full_r5 ++ (wsX6_full_r6 ++ (wsX6_full_r7 ++ wsX6_full_r8))))))) ++ wsX60) ++ wsX30) ++ wsX20) ++ wsX10), w ∈ wsX6_full := in_l qxX6_full_0
theorem qxX6_full_2 : ∀ w ∈ wsX00, w ∈ wsX6_full := in_r qxX6_full_0
theorem qxX6_full_3 : ∀ w ∈ ((((wsX6_full_r1 ++ (wsX6_full_r2 ++ (wsX6_full_r3 ++ (wsX6_full_r4 ++ (wsX6_full_r5 ++ (wsX6_full_r6 ++ (wsX6_full_r7 ++ wsX6_full_r8))))))) ++ wsX60) ++ wsX30) ++ wsX20), w ∈ wsX6_full := in_l qxX6_full_1
theorem qxX6_full_4 : ∀ w ∈ wsX10, w ∈ wsX6_full := in_r qxX6_full_1
theorem qxX6_full_5 : ∀ w ∈ (((wsX6_full_r1 ++ (wsX6_full_r2 ++ (wsX6_full_r3 ++ (wsX6_full_r4 ++ (wsX6_full_r5 ++ (wsX6_full_r6 ++ (wsX6_full_r7 ++ wsX6_full_r8))))))) ++ wsX60) ++ wsX30), w ∈ wsX6_full := in_l qxX6_full_3
theorem qxX6_full_6 : ∀ w ∈ wsX20, w ∈ wsX6_full := in_r qxX6_full_3
theorem qxX6_full_7 : ∀ w ∈ ((wsX6_full_r1 ++ (wsX6_full_r2 ++ (wsX6_full_r3 ++ (wsX6_full_r4 ++ (wsX6_full_r5 ++ (wsX6_full_r6 ++ (wsX6_full_r7 ++ wsX6_full_r8))))))) ++ wsX60), w ∈ wsX6_full := in_l qxX6_full_5
theorem qxX6_full_8 : ∀ w ∈ wsX30, w ∈ wsX6_full := in_r qxX6_full_5
theorem qxX6_full_9 : ∀ w ∈ (wsX6_full_r1 ++ (wsX6_full_r2 ++ (wsX6_full_r3 ++ (wsX6_full_r4 ++ (wsX6_full_r5 ++ (wsX6_full_r6 ++ (wsX6_full_r7 ++ wsX6_full_r8))))))), w ∈ wsX6_full := in_l qxX6_full_7
theorem qxX6_full_10 : ∀ w ∈ wsX60, w ∈ wsX6_full := in_r qxX6_full_7
theorem qxX6_full_11 : ∀ w ∈ wsX6_full_r1, w ∈ wsX6_full := in_l qxX6_full_9
theorem qxX6_full_12 : ∀ w ∈ (wsX6_full_r2 ++ (wsX6_full_r3 ++ (wsX6_full_r4 ++ (wsX6_full_r5 ++ (wsX6_full_r6 ++ (wsX6_full_r7 ++ wsX6_full_r8)))))), w ∈ wsX6_full := in_r qxX6_full_9
theorem qxX6_full_13 : ∀ w ∈ wsX6_full_r2, w ∈ wsX6_full := in_l qxX6_full_12
theorem qxX6_full_14 : ∀ w ∈ (wsX6_full_r3 ++ (wsX6_full_r4 ++ (wsX6_full_r5 ++ (wsX6_full_r6 ++ (wsX6_full_r7 ++ wsX6_full_r8))))), w ∈ wsX6_full := in_r qxX6_full_12
theorem qxX6_full_15 : ∀ w ∈ wsX6_full_r3, w ∈ wsX6_full := in_l qxX6_full_14
theorem qxX6_full_16 : ∀ w ∈ (wsX6_full_r4 ++ (wsX6_full_r5 ++ (wsX6_full_r6 ++ (wsX6_full_r7 ++ wsX6_full_r8)))), w ∈ wsX6_full := in_r qxX6_full_14
theorem qxX6_full_17 : ∀ w ∈ wsX6_full_r4, w ∈ wsX6_full := in_l qxX6_full_16
theorem qxX6_full_18 : ∀ w ∈ (wsX6_full_r5 ++ (wsX6_full_r6 ++ (wsX6_full_r7 ++ wsX6_full_r8))), w ∈ wsX6_full := in_r qxX6_full_16
theorem qxX6_full_19 : ∀ w ∈ wsX6_full_r5, w ∈ wsX6_full := in_l qxX6_full_18
theorem qxX6_full_20 : ∀ w ∈ (wsX6_full_r6 ++ (wsX6_full_r7 ++ wsX6_full_r8)), w ∈ wsX6_full := in_r qxX6_full_18
theorem qxX6_full_21 : ∀ w ∈ wsX6_full_r6, w ∈ wsX6_full := in_l qxX6_full_20
theorem qxX6_full_22 : ∀ w ∈ (wsX6_full_r7 ++ wsX6_full_r8), w ∈ wsX6_full := in_r qxX6_full_20
theorem qxX6_full_23 : ∀ w ∈ wsX6_full_r7, w ∈ wsX6_full := in_l qxX6_full_22
theorem qxX6_full_24 : ∀ w ∈ wsX6_full_r8, w ∈ wsX6_full := in_r qxX6_full_22
def pxX6_full : List (List Cond) := [wsX6_full_r1, wsX6_full_r2, wsX6_full_r3, wsX6_full_r4, wsX6_full_r5, wsX6_full_r6, wsX6_full_r7, wsX6_full_r8, wsX60, wsX30, wsX20, wsX10, wsX00]
theorem pxX6_full_in : ∀ q ∈ pxX6_full, ∀ w ∈ q, w ∈ wsX6_full := lp_c qxX6_full_11 (lp_c qxX6_full_13 (lp_c qxX6_full_15 (lp_c qxX6_full_17 (lp_c qxX6_full_19 (lp_c qxX6_full_21 (lp_c qxX6_full_23 (lp_c qxX6_full_24 (lp_c qxX6_full_10 (lp_c qxX6_full_8 (lp_c qxX6_full_6 (lp_c qxX6_full_4 (lp_c qxX6_full_2 (lp_n)))))))))))))
set_option maxRecDepth 20000 in
theorem ggX6_full_X6_sentAlone : GoodIn wsX6_full wsX6_sentAlone := goodIn_pp pxX6_full pxX6_full_in _ [(0, 10), (0, 11), (0, 12), (0, 13), (0, 14), (0, 15), (0, 16), (0, 17), (0, 18), (0, 19), (0, 20), (0, 21), (0, 22), (0, 23), (1, 0), (1, 1), (1, 2), (1, 3), (1, 4), (1, 5), (1, 6), (1, 7), (1, 8), (1, 9), (1, 10), (1, 11), (1, 12), (1, 13), (1, 14), (1, 15), (1, 16), (1, 17), (1, 18), (1, 19), (1, 20), (1, 21), (1, 22), (1, 23), (2, 0), (2, 1), (2, 2), (2, 3), (2, 4), (2, 5), (2, 6), (2, 7), (2, 8), (2, 9), (2, 10), (2, 11), (2, 12), (2, 13), (2, 14), (2, 15), (2, 16), (2, 17), (2, 18), (2, 19), (2, 20), (2, 21), (2, 22), (2, 23), (3, 0), (3, 1), (3, 2), (3, 3), (3, 4), (3, 5), (3, 6), (3, 7), (3, 8), (3, 9), (3, 10), (3, 11), (3, 12), (3, 13), (3, 14), (3, 15), (3, 16), (3, 17), (3, 18), (3, 19), (3, 20), (3, 21), (3, 22), (3, 23), (4, 0), (4, 1), (4, 2), (4, 3), (0, 2), (4, 4), (4, 5), (4, 6), (4, 7), (4, 8), (4, 9), (4, 10), (4, 11), (4, 12), (4, 13), (4, 14), (4, 15), (4, 16), (4, 17), (4, 18), (4, 19), (4, 20), (4, 21), (4, 22), (4, 23), (5, 0), (5, 1), (5, 2), (5, 3), (5, 4), (5, 5), (5, 6), (5, 7), (5, 8), (5, 9), (5, 10), (5, 11), (5, 12), (5, 13), (5, 14), (5, 15), (5, 16), (5, 17), (5, 18), (5, 19), (5, 20), (5, 21), (5, 22), (5, 23), (6, 0), (6, 1), (6, 2), (6, 3), (6, 4), (6, 5), (6, 6), (6, 7), (6, 8), (6, 9), (6, 10), (6, 11), (6, 12), (6, 13), (6, 14), (6, 15), (6, 16), (6, 17), (6, 18), (6, 19), (6, 20), (6, 21), (6, 22), (6, 23), (7, 0), (7, 1), (7, 2), (7, 3), (7, 4), (7, 5), (7, 6), (7, 7), (7, 8), (7, 9), (7, 10), (7, 11), (7, 12), (7, 13), (7, 14), (7, 15), (7, 16), (7, 17), (7, 18), (7, 19), (7, 20), (8, 0), (8, 1), (8, 2), (8, 3), (8, 4), (8, 5), (8, 6), (8, 7), (8, 8), (9, 0), (9, 1), (9, 2), (9, 3), (9, 4), (9, 5), (9, 6), (9, 7), (9, 8), (9, 9), (9, 10), (10, 0), (10, 1), (10, 2), (10, 3), (10, 4), (10, 5), (10, 6), (10, 7), (10, 8), (10, 9), (11, 0), (11, 1), (11, 2), (11, 3), (11, 4), (11, 5), (11, 6), (12, 0), (12, 1), (12, 2), (12, 3), (12, 4), (12, 5), (12, 6), (12, 7)] rfl (by decide +kernel)
set_option maxRecDepth 20000 in
theorem gX6_full_X6_sentAlone : GoodIn wsX6_full (wsV RX6 335 RX6 yX6_sentAlone wsX6_sentAlone) := goodIn_app (goodIn_of _ (by decide +kernel)) ggX6_full_X6_sentAlone
theorem dX6_full_0 : decode cX6_full 0 = .ok (.iload_n 1, 1) := by decide +kernel
theorem dX6_full_1 : decode cX6_full 1 = .ok (.iload_n 2, 1) := by decide +kernel
theorem dX6_full_2 : decode cX6_full 2 = .ok (.iload_n 3, 1) := by decide +kernel
theorem dX6_full_3 : decode cX6_full 3 = .ok (.iload 4, 2) := by decide +kernel
theorem dX6_full_5 : decode cX6_full 5 = .ok (.invokestatic 331, 3) := by decide +kernel
theorem dX6_full_8 : decode cX6_full 8 = .ok (.ifCond .eq 5, 3) := by decide +kernel
theorem dX6_full_11 : decode cX6_full 11 = .ok (.iconst (-1), 1) := by decide +kernel
theorem dX6_full_12 : decode cX6_full 12 = .ok (.ireturn, 1) := by decide +kernel
theorem dX6_full_13 : decode cX6_full 13 = .ok (.aload_n 0, 1) := by decide +kernel
theorem dX6_full_14 : decode cX6_full 14 = .ok (.iload_n 1, 1) := by decide +kernel
theorem dX6_full_15 : decode cX6_full 15 = .ok (.iload_n 2, 1) := by decide +kernel
theorem dX6_full_16 : decode cX6_full 16 = .ok (.bipush 30, 2) := by decide +kernel
theorem dX6_full_18 : decode cX6_full 18 = .ok (.iload_n 3, 1) := by decide +kernel
theorem dX6_full_19 : decode cX6_full 19 = .ok (.iload 4, 2) := by decide +kernel
theorem dX6_full_21 : decode cX6_full 21 = .ok (.invokevirtual 335, 3) := by decide +kernel
theorem dX6_full_24 : decode cX6_full 24 = .ok (.istore 5, 2) := by decide +kernel
theorem dX6_full_26 : decode cX6_full 26 = .ok (.iconst 1, 1) := by decide +kernel
theorem dX6_full_27 : decode cX6_full 27 = .ok (.istore 6, 2) := by decide +kernel
theorem dX6_full_29 : decode cX6_full 29 = .ok (.iload 6, 2) := by decide +kernel
theorem dX6_full_31 : decode cX6_full 31 = .ok (.bipush 30, 2) := by decide +kernel
theorem dX6_full_33 : decode cX6_full 33 = .ok (.if_icmp .ge 28, 3) := by decide +kernel
theorem dX6_full_36 : decode cX6_full 36 = .ok (.aload_n 0, 1) := by decide +kernel
theorem dX6_full_37 : decode cX6_full 37 = .ok (.iload_n 1, 1) := by decide +kernel
theorem dX6_full_38 : decode cX6_full 38 = .ok (.iload_n 2, 1) := by decide +kernel
theorem dX6_full_39 : decode cX6_full 39 = .ok (.iload 6, 2) := by decide +kernel
theorem dX6_full_41 : decode cX6_full 41 = .ok (.iload_n 3, 1) := by decide +kernel
theorem dX6_full_42 : decode cX6_full 42 = .ok (.iload 4, 2) := by decide +kernel
theorem dX6_full_44 : decode cX6_full 44 = .ok (.invokevirtual 335, 3) := by decide +kernel
theorem dX6_full_47 : decode cX6_full 47 = .ok (.iload 5, 2) := by decide +kernel
theorem dX6_full_49 : decode cX6_full 49 = .ok (.if_icmp .ne 6, 3) := by decide +kernel
theorem dX6_full_52 : decode cX6_full 52 = .ok (.iload 6, 2) := by decide +kernel
theorem dX6_full_54 : decode cX6_full 54 = .ok (.ireturn, 1) := by decide +kernel
theorem dX6_full_55 : decode cX6_full 55 = .ok (.iinc 6 1, 3) := by decide +kernel
theorem dX6_full_58 : decode cX6_full 58 = .ok (.goto (-29), 3) := by decide +kernel
theorem dX6_full_61 : decode cX6_full 61 = .ok (.bipush 30, 2) := by decide +kernel
theorem dX6_full_63 : decode cX6_full 63 = .ok (.ireturn, 1) := by decide +kernel
set_option maxRecDepth 20000 in
theorem ggX6_law_X6_outside : GoodIn wsX6_law wsX6_outside := goodIn_r _ [4] (by decide +kernel) (by decide +kernel)
set_option maxRecDepth 20000 in
theorem gX6_law_X6_outside : GoodIn wsX6_law (va_wsS RX6 55 yX6_outside wsX6_outside) := goodIn_app (goodIn_of _ (by decide +kernel)) ggX6_law_X6_outside
theorem dX6_law_0 : decode cX6_law 0 = .ok (.iload_n 1, 1) := by decide +kernel
theorem dX6_law_1 : decode cX6_law 1 = .ok (.iconst 1, 1) := by decide +kernel
theorem dX6_law_2 : decode cX6_law 2 = .ok (.iconst 4, 1) := by decide +kernel
theorem dX6_law_3 : decode cX6_law 3 = .ok (.invokestatic 55, 3) := by decide +kernel
theorem dX6_law_6 : decode cX6_law 6 = .ok (.ifCond .ne 22, 3) := by decide +kernel
theorem dX6_law_9 : decode cX6_law 9 = .ok (.iload_n 2, 1) := by decide +kernel
theorem dX6_law_10 : decode cX6_law 10 = .ok (.iconst 1, 1) := by decide +kernel
theorem dX6_law_11 : decode cX6_law 11 = .ok (.iconst 4, 1) := by decide +kernel
theorem dX6_law_12 : decode cX6_law 12 = .ok (.invokestatic 55, 3) := by decide +kernel
theorem dX6_law_15 : decode cX6_law 15 = .ok (.ifCond .ne 13, 3) := by decide +kernel
theorem dX6_law_18 : decode cX6_law 18 = .ok (.iload_n 3, 1) := by decide +kernel
theorem dX6_law_19 : decode cX6_law 19 = .ok (.iconst 1, 1) := by decide +kernel
theorem dX6_law_20 : decode cX6_law 20 = .ok (.bipush 9, 2) := by decide +kernel
theorem dX6_law_22 : decode cX6_law 22 = .ok (.invokestatic 55, 3) := by decide +kernel
theorem dX6_law_25 : decode cX6_law 25 = .ok (.ifCond .eq 5, 3) := by decide +kernel
theorem dX6_law_28 : decode cX6_law 28 = .ok (.iconst (-1), 1) := by decide +kernel
theorem dX6_law_29 : decode cX6_law 29 = .ok (.ireturn, 1) := by decide +kernel
theorem dX6_law_30 : decode cX6_law 30 = .ok (.iconst 2, 1) := by decide +kernel
theorem dX6_law_31 : decode cX6_law 31 = .ok (.iload_n 1, 1) := by decide +kernel
theorem dX6_law_32 : decode cX6_law 32 = .ok (.imul, 1) := by decide +kernel
theorem dX6_law_33 : decode cX6_law 33 = .ok (.iload_n 3, 1) := by decide +kernel
theorem dX6_law_34 : decode cX6_law 34 = .ok (.iadd, 1) := by decide +kernel
theorem dX6_law_35 : decode cX6_law 35 = .ok (.iconst 1, 1) := by decide +kernel
theorem dX6_law_36 : decode cX6_law 36 = .ok (.isub, 1) := by decide +kernel
theorem dX6_law_37 : decode cX6_law 37 = .ok (.iload_n 3, 1) := by decide +kernel
theorem dX6_law_38 : decode cX6_law 38 = .ok (.idiv, 1) := by decide +kernel
theorem dX6_law_39 : decode cX6_law 39 = .ok (.iload_n 2, 1) := by decide +kernel
theorem dX6_law_40 : decode cX6_law 40 = .ok (.iadd, 1) := by decide +kernel
theorem dX6_law_41 : decode cX6_law 41 = .ok (.iconst 1, 1) := by decide +kernel
theorem dX6_law_42 : decode cX6_law 42 = .ok (.isub, 1) := by decide +kernel
theorem dX6_law_43 : decode cX6_law 43 = .ok (.ireturn, 1) := by decide +kernel
theorem qxX6_aim_0 : ∀ w ∈ (((((wsX6_aim_r1 ++ wsX6_aim_r2) ++ wsX60) ++ wsX30) ++ wsX20) ++ wsX10), w ∈ wsX6_aim := fun w h => List.mem_cons_of_mem _ h
theorem qxX6_aim_1 : ∀ w ∈ ((((wsX6_aim_r1 ++ wsX6_aim_r2) ++ wsX60) ++ wsX30) ++ wsX20), w ∈ wsX6_aim := in_l qxX6_aim_0
theorem qxX6_aim_2 : ∀ w ∈ wsX10, w ∈ wsX6_aim := in_r qxX6_aim_0
theorem qxX6_aim_3 : ∀ w ∈ (((wsX6_aim_r1 ++ wsX6_aim_r2) ++ wsX60) ++ wsX30), w ∈ wsX6_aim := in_l qxX6_aim_1
theorem qxX6_aim_4 : ∀ w ∈ wsX20, w ∈ wsX6_aim := in_r qxX6_aim_1
theorem qxX6_aim_5 : ∀ w ∈ ((wsX6_aim_r1 ++ wsX6_aim_r2) ++ wsX60), w ∈ wsX6_aim := in_l qxX6_aim_3
theorem qxX6_aim_6 : ∀ w ∈ wsX30, w ∈ wsX6_aim := in_r qxX6_aim_3
theorem qxX6_aim_7 : ∀ w ∈ (wsX6_aim_r1 ++ wsX6_aim_r2), w ∈ wsX6_aim := in_l qxX6_aim_5
theorem qxX6_aim_8 : ∀ w ∈ wsX60, w ∈ wsX6_aim := in_r qxX6_aim_5
theorem qxX6_aim_9 : ∀ w ∈ wsX6_aim_r1, w ∈ wsX6_aim := in_l qxX6_aim_7
theorem qxX6_aim_10 : ∀ w ∈ wsX6_aim_r2, w ∈ wsX6_aim := in_r qxX6_aim_7
def pxX6_aim : List (List Cond) := [wsX6_aim_r1, wsX6_aim_r2, wsX60, wsX30, wsX20, wsX10]
theorem pxX6_aim_in : ∀ q ∈ pxX6_aim, ∀ w ∈ q, w ∈ wsX6_aim := lp_c qxX6_aim_9 (lp_c qxX6_aim_10 (lp_c qxX6_aim_8 (lp_c qxX6_aim_6 (lp_c qxX6_aim_4 (lp_c qxX6_aim_2 (lp_n))))))
set_option maxRecDepth 20000 in
theorem ggX6_aim_X6_isLane : GoodIn wsX6_aim wsX6_isLane := goodIn_pp pxX6_aim pxX6_aim_in _ [(0, 6), (0, 7), (0, 8), (0, 9), (0, 5), (0, 10), (0, 11), (0, 0), (0, 12), (0, 13), (0, 14), (0, 15), (0, 16), (0, 17), (2, 0), (2, 1), (2, 2), (2, 3), (2, 4), (2, 5), (2, 6), (2, 7), (2, 8), (3, 0), (3, 1), (3, 2), (3, 3), (3, 4), (3, 5), (3, 6), (3, 7), (3, 8), (3, 9), (3, 10)] rfl (by decide +kernel)
set_option maxRecDepth 20000 in
theorem gX6_aim_X6_isLane : GoodIn wsX6_aim (wsV RX6 167 RX6 yX6_isLane wsX6_isLane) := goodIn_app (goodIn_of _ (by decide +kernel)) ggX6_aim_X6_isLane
set_option maxRecDepth 20000 in
theorem ggX6_aim_X3_aimOf : GoodIn wsX6_aim wsX3_aimOf := goodIn_pp pxX6_aim pxX6_aim_in _ [(0, 22), (0, 23), (1, 0), (1, 1), (1, 2), (1, 3), (3, 0), (3, 1), (3, 2), (3, 3), (3, 4), (3, 5), (3, 6), (3, 7), (3, 8), (3, 9), (3, 10), (4, 0), (4, 1), (4, 2), (4, 3), (4, 4), (4, 5), (4, 6), (4, 7), (4, 8), (4, 9), (5, 0), (5, 1), (5, 2), (5, 3), (5, 4), (5, 5), (5, 6)] rfl (by decide +kernel)
set_option maxRecDepth 20000 in
theorem gX6_aim_X3_aimOf : GoodIn wsX6_aim (wsV RX6 343 RX3 yX3_aimOf wsX3_aimOf) := goodIn_app (goodIn_of _ (by decide +kernel)) ggX6_aim_X3_aimOf
theorem dX6_aim_0 : decode cX6_aim 0 = .ok (.aload_n 0, 1) := by decide +kernel
theorem dX6_aim_1 : decode cX6_aim 1 = .ok (.iload_n 1, 1) := by decide +kernel
theorem dX6_aim_2 : decode cX6_aim 2 = .ok (.iload_n 2, 1) := by decide +kernel
theorem dX6_aim_3 : decode cX6_aim 3 = .ok (.invokevirtual 167, 3) := by decide +kernel
theorem dX6_aim_6 : decode cX6_aim 6 = .ok (.ifCond .eq 23, 3) := by decide +kernel
theorem dX6_aim_9 : decode cX6_aim 9 = .ok (.aload_n 0, 1) := by decide +kernel
theorem dX6_aim_10 : decode cX6_aim 10 = .ok (.getfield 26, 3) := by decide +kernel
theorem dX6_aim_13 : decode cX6_aim 13 = .ok (.aload_n 0, 1) := by decide +kernel
theorem dX6_aim_14 : decode cX6_aim 14 = .ok (.getfield 26, 3) := by decide +kernel
theorem dX6_aim_17 : decode cX6_aim 17 = .ok (.getfield 104, 3) := by decide +kernel
theorem dX6_aim_20 : decode cX6_aim 20 = .ok (.iload_n 1, 1) := by decide +kernel
theorem dX6_aim_21 : decode cX6_aim 21 = .ok (.aaload, 1) := by decide +kernel
theorem dX6_aim_22 : decode cX6_aim 22 = .ok (.iload_n 2, 1) := by decide +kernel
theorem dX6_aim_23 : decode cX6_aim 23 = .ok (.invokevirtual 343, 3) := by decide +kernel
theorem dX6_aim_26 : decode cX6_aim 26 = .ok (.goto 4, 3) := by decide +kernel
theorem dX6_aim_29 : decode cX6_aim 29 = .ok (.iconst (-1), 1) := by decide +kernel
theorem dX6_aim_30 : decode cX6_aim 30 = .ok (.ireturn, 1) := by decide +kernel
theorem qxX6_room_0 : ∀ w ∈ (((((wsX6_room_r1 ++ wsX6_room_r2) ++ wsX60) ++ wsX30) ++ wsX20) ++ wsX10), w ∈ wsX6_room := fun w h => List.mem_cons_of_mem _ h
theorem qxX6_room_1 : ∀ w ∈ ((((wsX6_room_r1 ++ wsX6_room_r2) ++ wsX60) ++ wsX30) ++ wsX20), w ∈ wsX6_room := in_l qxX6_room_0
theorem qxX6_room_2 : ∀ w ∈ wsX10, w ∈ wsX6_room := in_r qxX6_room_0
theorem qxX6_room_3 : ∀ w ∈ (((wsX6_room_r1 ++ wsX6_room_r2) ++ wsX60) ++ wsX30), w ∈ wsX6_room := in_l qxX6_room_1
theorem qxX6_room_4 : ∀ w ∈ wsX20, w ∈ wsX6_room := in_r qxX6_room_1
theorem qxX6_room_5 : ∀ w ∈ ((wsX6_room_r1 ++ wsX6_room_r2) ++ wsX60), w ∈ wsX6_room := in_l qxX6_room_3
theorem qxX6_room_6 : ∀ w ∈ wsX30, w ∈ wsX6_room := in_r qxX6_room_3
theorem qxX6_room_7 : ∀ w ∈ (wsX6_room_r1 ++ wsX6_room_r2), w ∈ wsX6_room := in_l qxX6_room_5
theorem qxX6_room_8 : ∀ w ∈ wsX60, w ∈ wsX6_room := in_r qxX6_room_5
theorem qxX6_room_9 : ∀ w ∈ wsX6_room_r1, w ∈ wsX6_room := in_l qxX6_room_7
theorem qxX6_room_10 : ∀ w ∈ wsX6_room_r2, w ∈ wsX6_room := in_r qxX6_room_7
def pxX6_room : List (List Cond) := [wsX6_room_r1, wsX6_room_r2, wsX60, wsX30, wsX20, wsX10]
theorem pxX6_room_in : ∀ q ∈ pxX6_room, ∀ w ∈ q, w ∈ wsX6_room := lp_c qxX6_room_9 (lp_c qxX6_room_10 (lp_c qxX6_room_8 (lp_c qxX6_room_6 (lp_c qxX6_room_4 (lp_c qxX6_room_2 (lp_n))))))
set_option maxRecDepth 20000 in
theorem ggX6_room_X6_isLane : GoodIn wsX6_room wsX6_isLane := goodIn_pp pxX6_room pxX6_room_in _ [(0, 4), (0, 5), (0, 6), (0, 7), (0, 3), (0, 8), (0, 9), (0, 10), (0, 11), (0, 12), (0, 13), (0, 14), (0, 15), (0, 16), (2, 0), (2, 1), (2, 2), (2, 3), (2, 4), (2, 5), (2, 6), (2, 7), (2, 8), (3, 0), (3, 1), (3, 2), (3, 3), (3, 4), (3, 5), (3, 6), (3, 7), (3, 8), (3, 9), (3, 10)] rfl (by decide +kernel)
set_option maxRecDepth 20000 in
theorem gX6_room_X6_isLane : GoodIn wsX6_room (wsV RX6 167 RX6 yX6_isLane wsX6_isLane) := goodIn_app (goodIn_of _ (by decide +kernel)) ggX6_room_X6_isLane
set_option maxRecDepth 20000 in
theorem ggX6_room_X6_largestZone : GoodIn wsX6_room wsX6_largestZone := goodIn_pp pxX6_room pxX6_room_in _ [(0, 20), (0, 10), (0, 21), (0, 22), (0, 23), (0, 16), (1, 0), (1, 1), (1, 2), (1, 3), (1, 4), (1, 5), (1, 6), (1, 7), (1, 8), (1, 9), (1, 10), (1, 11), (1, 12), (1, 13), (1, 14), (1, 15), (1, 16), (1, 17), (1, 18), (1, 19), (2, 0), (2, 1), (2, 2), (2, 3), (2, 4), (2, 5), (2, 6), (2, 7), (2, 8), (3, 0), (3, 1), (3, 2), (3, 3), (3, 4), (3, 5), (3, 6), (3, 7), (3, 8), (3, 9), (3, 10), (4, 0), (4, 1), (4, 2), (4, 3), (4, 4), (4, 5), (4, 6), (4, 7), (4, 8), (4, 9), (5, 0), (5, 1), (5, 2), (5, 3), (5, 4), (5, 5), (5, 6)] rfl (by decide +kernel)
set_option maxRecDepth 20000 in
theorem gX6_room_X6_largestZone : GoodIn wsX6_room (wsV RX6 252 RX6 yX6_largestZone wsX6_largestZone) := goodIn_app (goodIn_of _ (by decide +kernel)) ggX6_room_X6_largestZone
theorem dX6_room_0 : decode cX6_room 0 = .ok (.aload_n 0, 1) := by decide +kernel
theorem dX6_room_1 : decode cX6_room 1 = .ok (.iload_n 1, 1) := by decide +kernel
theorem dX6_room_2 : decode cX6_room 2 = .ok (.iload_n 2, 1) := by decide +kernel
theorem dX6_room_3 : decode cX6_room 3 = .ok (.invokevirtual 167, 3) := by decide +kernel
theorem dX6_room_6 : decode cX6_room 6 = .ok (.ifCond .eq 12, 3) := by decide +kernel
theorem dX6_room_9 : decode cX6_room 9 = .ok (.aload_n 0, 1) := by decide +kernel
theorem dX6_room_10 : decode cX6_room 10 = .ok (.iload_n 1, 1) := by decide +kernel
theorem dX6_room_11 : decode cX6_room 11 = .ok (.iload_n 2, 1) := by decide +kernel
theorem dX6_room_12 : decode cX6_room 12 = .ok (.invokevirtual 252, 3) := by decide +kernel
theorem dX6_room_15 : decode cX6_room 15 = .ok (.goto 4, 3) := by decide +kernel
theorem dX6_room_18 : decode cX6_room 18 = .ok (.iconst (-1), 1) := by decide +kernel
theorem dX6_room_19 : decode cX6_room 19 = .ok (.ireturn, 1) := by decide +kernel
set_option maxRecDepth 20000 in
theorem ggX6_trip_X6_isCircuit : GoodIn wsX6_trip wsX6_isCircuit := goodIn_r _ [12, 13, 1, 14, 15, 16, 17, 18, 19, 20, 21, 22, 23, 24, 25, 26, 27, 28, 29, 30, 31, 32, 33, 34] (by decide +kernel) (by decide +kernel)
set_option maxRecDepth 20000 in
theorem gX6_trip_X6_isCircuit : GoodIn wsX6_trip (wsV RX6 135 RX6 yX6_isCircuit wsX6_isCircuit) := goodIn_app (goodIn_of _ (by decide +kernel)) ggX6_trip_X6_isCircuit
theorem dX6_trip_0 : decode cX6_trip 0 = .ok (.aload_n 0, 1) := by decide +kernel
theorem dX6_trip_1 : decode cX6_trip 1 = .ok (.iload_n 1, 1) := by decide +kernel
theorem dX6_trip_2 : decode cX6_trip 2 = .ok (.invokevirtual 135, 3) := by decide +kernel
theorem dX6_trip_5 : decode cX6_trip 5 = .ok (.ifCond .eq 18, 3) := by decide +kernel
theorem dX6_trip_8 : decode cX6_trip 8 = .ok (.aload_n 0, 1) := by decide +kernel
theorem dX6_trip_9 : decode cX6_trip 9 = .ok (.getfield 26, 3) := by decide +kernel
theorem dX6_trip_12 : decode cX6_trip 12 = .ok (.getfield 140, 3) := by decide +kernel
theorem dX6_trip_15 : decode cX6_trip 15 = .ok (.iload_n 1, 1) := by decide +kernel
theorem dX6_trip_16 : decode cX6_trip 16 = .ok (.aaload, 1) := by decide +kernel
theorem dX6_trip_17 : decode cX6_trip 17 = .ok (.getfield 161, 3) := by decide +kernel
theorem dX6_trip_20 : decode cX6_trip 20 = .ok (.ifCond .ne 5, 3) := by decide +kernel
theorem dX6_trip_23 : decode cX6_trip 23 = .ok (.iconst (-1), 1) := by decide +kernel
theorem dX6_trip_24 : decode cX6_trip 24 = .ok (.ireturn, 1) := by decide +kernel
theorem dX6_trip_25 : decode cX6_trip 25 = .ok (.iload_n 2, 1) := by decide +kernel
theorem dX6_trip_26 : decode cX6_trip 26 = .ok (.tableswitch 56 0 2 #[26, 36, 46], 26) := by decide +kernel
theorem dX6_trip_52 : decode cX6_trip 52 = .ok (.aload_n 0, 1) := by decide +kernel
theorem dX6_trip_53 : decode cX6_trip 53 = .ok (.getfield 35, 3) := by decide +kernel
theorem dX6_trip_56 : decode cX6_trip 56 = .ok (.iload_n 1, 1) := by decide +kernel
theorem dX6_trip_57 : decode cX6_trip 57 = .ok (.aaload, 1) := by decide +kernel
theorem dX6_trip_58 : decode cX6_trip 58 = .ok (.getfield 347, 3) := by decide +kernel
theorem dX6_trip_61 : decode cX6_trip 61 = .ok (.ireturn, 1) := by decide +kernel
theorem dX6_trip_62 : decode cX6_trip 62 = .ok (.aload_n 0, 1) := by decide +kernel
theorem dX6_trip_63 : decode cX6_trip 63 = .ok (.getfield 35, 3) := by decide +kernel
theorem dX6_trip_66 : decode cX6_trip 66 = .ok (.iload_n 1, 1) := by decide +kernel
theorem dX6_trip_67 : decode cX6_trip 67 = .ok (.aaload, 1) := by decide +kernel
theorem dX6_trip_68 : decode cX6_trip 68 = .ok (.getfield 348, 3) := by decide +kernel
theorem dX6_trip_71 : decode cX6_trip 71 = .ok (.ireturn, 1) := by decide +kernel
theorem dX6_trip_72 : decode cX6_trip 72 = .ok (.aload_n 0, 1) := by decide +kernel
theorem dX6_trip_73 : decode cX6_trip 73 = .ok (.getfield 35, 3) := by decide +kernel
theorem dX6_trip_76 : decode cX6_trip 76 = .ok (.iload_n 1, 1) := by decide +kernel
theorem dX6_trip_77 : decode cX6_trip 77 = .ok (.aaload, 1) := by decide +kernel
theorem dX6_trip_78 : decode cX6_trip 78 = .ok (.getfield 351, 3) := by decide +kernel
theorem dX6_trip_81 : decode cX6_trip 81 = .ok (.ireturn, 1) := by decide +kernel
theorem dX6_trip_82 : decode cX6_trip 82 = .ok (.iconst (-1), 1) := by decide +kernel
theorem dX6_trip_83 : decode cX6_trip 83 = .ok (.ireturn, 1) := by decide +kernel
set_option maxRecDepth 20000 in
theorem ggX6_oldest_X6_isCircuit : GoodIn wsX6_oldest wsX6_isCircuit := goodIn_r _ [9, 10, 3, 11, 19, 20, 21, 22, 23, 24, 25, 26, 27, 34, 35, 36, 37, 38, 39, 40, 41, 42, 43, 44] (by decide +kernel) (by decide +kernel)
set_option maxRecDepth 20000 in
theorem gX6_oldest_X6_isCircuit : GoodIn wsX6_oldest (wsV RX6 135 RX6 yX6_isCircuit wsX6_isCircuit) := goodIn_app (goodIn_of _ (by decide +kernel)) ggX6_oldest_X6_isCircuit
set_option maxRecDepth 20000 in
theorem ggX6_oldest_X5_firstBegun : GoodIn wsX6_oldest wsX5_firstBegun := goodIn_r _ [16, 17, 18, 28, 29, 30, 31, 32, 33] (by decide +kernel) (by decide +kernel)
set_option maxRecDepth 20000 in
theorem gX6_oldest_X5_firstBegun : GoodIn wsX6_oldest (wsV RX6 357 RX5 yX5_firstBegun wsX5_firstBegun) := goodIn_app (goodIn_of _ (by decide +kernel)) ggX6_oldest_X5_firstBegun
theorem dX6_oldest_0 : decode cX6_oldest 0 = .ok (.aload_n 0, 1) := by decide +kernel
theorem dX6_oldest_1 : decode cX6_oldest 1 = .ok (.iload_n 1, 1) := by decide +kernel
theorem dX6_oldest_2 : decode cX6_oldest 2 = .ok (.invokevirtual 135, 3) := by decide +kernel
theorem dX6_oldest_5 : decode cX6_oldest 5 = .ok (.ifCond .eq 15, 3) := by decide +kernel
theorem dX6_oldest_8 : decode cX6_oldest 8 = .ok (.aload_n 0, 1) := by decide +kernel
theorem dX6_oldest_9 : decode cX6_oldest 9 = .ok (.getfield 35, 3) := by decide +kernel
theorem dX6_oldest_12 : decode cX6_oldest 12 = .ok (.iload_n 1, 1) := by decide +kernel
theorem dX6_oldest_13 : decode cX6_oldest 13 = .ok (.aaload, 1) := by decide +kernel
theorem dX6_oldest_14 : decode cX6_oldest 14 = .ok (.getfield 354, 3) := by decide +kernel
theorem dX6_oldest_17 : decode cX6_oldest 17 = .ok (.ifCond .ne 5, 3) := by decide +kernel
theorem dX6_oldest_20 : decode cX6_oldest 20 = .ok (.iconst (-1), 1) := by decide +kernel
theorem dX6_oldest_21 : decode cX6_oldest 21 = .ok (.ireturn, 1) := by decide +kernel
theorem dX6_oldest_22 : decode cX6_oldest 22 = .ok (.aload_n 0, 1) := by decide +kernel
theorem dX6_oldest_23 : decode cX6_oldest 23 = .ok (.getfield 26, 3) := by decide +kernel
theorem dX6_oldest_26 : decode cX6_oldest 26 = .ok (.getfield 90, 3) := by decide +kernel
theorem dX6_oldest_29 : decode cX6_oldest 29 = .ok (.aload_n 0, 1) := by decide +kernel
theorem dX6_oldest_30 : decode cX6_oldest 30 = .ok (.getfield 35, 3) := by decide +kernel
theorem dX6_oldest_33 : decode cX6_oldest 33 = .ok (.iload_n 1, 1) := by decide +kernel
theorem dX6_oldest_34 : decode cX6_oldest 34 = .ok (.aaload, 1) := by decide +kernel
theorem dX6_oldest_35 : decode cX6_oldest 35 = .ok (.invokevirtual 357, 3) := by decide +kernel
theorem dX6_oldest_38 : decode cX6_oldest 38 = .ok (.isub, 1) := by decide +kernel
theorem dX6_oldest_39 : decode cX6_oldest 39 = .ok (.ireturn, 1) := by decide +kernel
theorem qxX6_count_0 : ∀ w ∈ ((((((wsX6_count_r1 ++ wsX6_count_r2) ++ wsX60) ++ wsX30) ++ wsX20) ++ wsX00) ++ wsX10), w ∈ wsX6_count := fun w h => List.mem_cons_of_mem _ h
theorem qxX6_count_1 : ∀ w ∈ (((((wsX6_count_r1 ++ wsX6_count_r2) ++ wsX60) ++ wsX30) ++ wsX20) ++ wsX00), w ∈ wsX6_count := in_l qxX6_count_0
theorem qxX6_count_2 : ∀ w ∈ wsX10, w ∈ wsX6_count := in_r qxX6_count_0
theorem qxX6_count_3 : ∀ w ∈ ((((wsX6_count_r1 ++ wsX6_count_r2) ++ wsX60) ++ wsX30) ++ wsX20), w ∈ wsX6_count := in_l qxX6_count_1
theorem qxX6_count_4 : ∀ w ∈ wsX00, w ∈ wsX6_count := in_r qxX6_count_1
theorem qxX6_count_5 : ∀ w ∈ (((wsX6_count_r1 ++ wsX6_count_r2) ++ wsX60) ++ wsX30), w ∈ wsX6_count := in_l qxX6_count_3
theorem qxX6_count_6 : ∀ w ∈ wsX20, w ∈ wsX6_count := in_r qxX6_count_3
theorem qxX6_count_7 : ∀ w ∈ ((wsX6_count_r1 ++ wsX6_count_r2) ++ wsX60), w ∈ wsX6_count := in_l qxX6_count_5
theorem qxX6_count_8 : ∀ w ∈ wsX30, w ∈ wsX6_count := in_r qxX6_count_5
theorem qxX6_count_9 : ∀ w ∈ (wsX6_count_r1 ++ wsX6_count_r2), w ∈ wsX6_count := in_l qxX6_count_7
theorem qxX6_count_10 : ∀ w ∈ wsX60, w ∈ wsX6_count := in_r qxX6_count_7
theorem qxX6_count_11 : ∀ w ∈ wsX6_count_r1, w ∈ wsX6_count := in_l qxX6_count_9
theorem qxX6_count_12 : ∀ w ∈ wsX6_count_r2, w ∈ wsX6_count := in_r qxX6_count_9
def pxX6_count : List (List Cond) := [wsX6_count_r1, wsX6_count_r2, wsX60, wsX30, wsX20, wsX00, wsX10]
theorem pxX6_count_in : ∀ q ∈ pxX6_count, ∀ w ∈ q, w ∈ wsX6_count := lp_c qxX6_count_11 (lp_c qxX6_count_12 (lp_c qxX6_count_10 (lp_c qxX6_count_8 (lp_c qxX6_count_6 (lp_c qxX6_count_4 (lp_c qxX6_count_2 (lp_n)))))))
set_option maxRecDepth 20000 in
theorem ggX6_count_X3_cellsOfAll : GoodIn wsX6_count wsX3_cellsOfAll := goodIn_pp pxX6_count pxX6_count_in _ [(0, 10), (0, 11), (0, 12), (0, 13), (0, 14), (0, 9), (0, 15), (0, 16), (0, 17), (0, 18), (0, 19), (0, 20), (0, 21), (0, 22), (0, 23), (1, 0), (1, 1), (1, 2), (1, 3), (1, 4), (3, 0), (3, 1), (3, 2), (3, 3), (3, 4), (3, 5), (3, 6), (3, 7), (3, 8), (3, 9), (3, 10), (4, 0), (4, 1), (4, 2), (4, 3), (4, 4), (4, 5), (4, 6), (4, 7), (4, 8), (4, 9)] rfl (by decide +kernel)
set_option maxRecDepth 20000 in
theorem gX6_count_X3_cellsOfAll : GoodIn wsX6_count (wsV RX6 313 RX3 yX3_cellsOfAll wsX3_cellsOfAll) := goodIn_app (goodIn_of _ (by decide +kernel)) ggX6_count_X3_cellsOfAll
set_option maxRecDepth 20000 in
theorem ggX6_count_X3_deliveredOfAll : GoodIn wsX6_count wsX3_deliveredOfAll := goodIn_r _ [33, 12, 34, 35, 52, 53, 54, 55, 56, 57, 58, 59, 60, 61, 62, 73, 74, 75, 76, 77, 78, 79, 80] (by decide +kernel) (by decide +kernel)
set_option maxRecDepth 20000 in
theorem gX6_count_X3_deliveredOfAll : GoodIn wsX6_count (wsV RX6 283 RX3 yX3_deliveredOfAll wsX3_deliveredOfAll) := goodIn_app (goodIn_of _ (by decide +kernel)) ggX6_count_X3_deliveredOfAll
set_option maxRecDepth 20000 in
theorem ggX6_count_X3_unknown : GoodIn wsX6_count wsX3_unknown := goodIn_pp pxX6_count pxX6_count_in _ [(1, 14), (0, 16), (0, 11), (0, 17), (1, 15), (1, 16), (1, 17), (3, 0), (3, 1), (3, 2), (3, 3), (3, 4), (3, 5), (3, 6), (3, 7), (3, 8), (3, 9), (3, 10), (4, 0), (4, 1), (4, 2), (4, 3), (4, 4), (4, 5), (4, 6), (4, 7), (4, 8), (4, 9), (6, 0), (6, 1), (6, 2), (6, 3), (6, 4), (6, 5), (6, 6)] rfl (by decide +kernel)
set_option maxRecDepth 20000 in
theorem gX6_count_X3_unknown : GoodIn wsX6_count (wsV RX6 298 RX3 yX3_unknown wsX3_unknown) := goodIn_app (goodIn_of _ (by decide +kernel)) ggX6_count_X3_unknown
theorem dX6_count_0 : decode cX6_count 0 = .ok (.iload_n 1, 1) := by decide +kernel
theorem dX6_count_1 : decode cX6_count 1 = .ok (.ifCond .ne 8, 3) := by decide +kernel
theorem dX6_count_4 : decode cX6_count 4 = .ok (.aload_n 0, 1) := by decide +kernel
theorem dX6_count_5 : decode cX6_count 5 = .ok (.getfield 47, 3) := by decide +kernel
theorem dX6_count_8 : decode cX6_count 8 = .ok (.ireturn, 1) := by decide +kernel
theorem dX6_count_9 : decode cX6_count 9 = .ok (.aload_n 0, 1) := by decide +kernel
theorem dX6_count_10 : decode cX6_count 10 = .ok (.getfield 70, 3) := by decide +kernel
theorem dX6_count_13 : decode cX6_count 13 = .ok (.ifCond .ne 6, 3) := by decide +kernel
theorem dX6_count_16 : decode cX6_count 16 = .ok (.ldc 77, 2) := by decide +kernel
theorem dX6_count_18 : decode cX6_count 18 = .ok (.ireturn, 1) := by decide +kernel
theorem dX6_count_19 : decode cX6_count 19 = .ok (.iload_n 1, 1) := by decide +kernel
theorem dX6_count_20 : decode cX6_count 20 = .ok (.tableswitch 76 1 5 #[36, 44, 52, 60, 68], 36) := by decide +kernel
theorem dX6_count_56 : decode cX6_count 56 = .ok (.aload_n 0, 1) := by decide +kernel
theorem dX6_count_57 : decode cX6_count 57 = .ok (.getfield 26, 3) := by decide +kernel
theorem dX6_count_60 : decode cX6_count 60 = .ok (.invokevirtual 313, 3) := by decide +kernel
theorem dX6_count_63 : decode cX6_count 63 = .ok (.ireturn, 1) := by decide +kernel
theorem dX6_count_64 : decode cX6_count 64 = .ok (.aload_n 0, 1) := by decide +kernel
theorem dX6_count_65 : decode cX6_count 65 = .ok (.getfield 26, 3) := by decide +kernel
theorem dX6_count_68 : decode cX6_count 68 = .ok (.invokevirtual 283, 3) := by decide +kernel
theorem dX6_count_71 : decode cX6_count 71 = .ok (.ireturn, 1) := by decide +kernel
theorem dX6_count_72 : decode cX6_count 72 = .ok (.aload_n 0, 1) := by decide +kernel
theorem dX6_count_73 : decode cX6_count 73 = .ok (.getfield 26, 3) := by decide +kernel
theorem dX6_count_76 : decode cX6_count 76 = .ok (.getfield 360, 3) := by decide +kernel
theorem dX6_count_79 : decode cX6_count 79 = .ok (.ireturn, 1) := by decide +kernel
theorem dX6_count_80 : decode cX6_count 80 = .ok (.aload_n 0, 1) := by decide +kernel
theorem dX6_count_81 : decode cX6_count 81 = .ok (.getfield 26, 3) := by decide +kernel
theorem dX6_count_84 : decode cX6_count 84 = .ok (.getfield 363, 3) := by decide +kernel
theorem dX6_count_87 : decode cX6_count 87 = .ok (.ireturn, 1) := by decide +kernel
theorem dX6_count_88 : decode cX6_count 88 = .ok (.aload_n 0, 1) := by decide +kernel
theorem dX6_count_89 : decode cX6_count 89 = .ok (.getfield 26, 3) := by decide +kernel
theorem dX6_count_92 : decode cX6_count 92 = .ok (.invokevirtual 298, 3) := by decide +kernel
theorem dX6_count_95 : decode cX6_count 95 = .ok (.ireturn, 1) := by decide +kernel
theorem dX6_count_96 : decode cX6_count 96 = .ok (.ldc 77, 2) := by decide +kernel
theorem dX6_count_98 : decode cX6_count 98 = .ok (.ireturn, 1) := by decide +kernel
theorem dX6_isHop_0 : decode cX6_isHop 0 = .ok (.aload_n 0, 1) := by decide +kernel
theorem dX6_isHop_1 : decode cX6_isHop 1 = .ok (.getfield 70, 3) := by decide +kernel
theorem dX6_isHop_4 : decode cX6_isHop 4 = .ok (.ifCond .eq 22, 3) := by decide +kernel
theorem dX6_isHop_7 : decode cX6_isHop 7 = .ok (.iload_n 1, 1) := by decide +kernel
theorem dX6_isHop_8 : decode cX6_isHop 8 = .ok (.ifCond .lt 18, 3) := by decide +kernel
theorem dX6_isHop_11 : decode cX6_isHop 11 = .ok (.iload_n 1, 1) := by decide +kernel
theorem dX6_isHop_12 : decode cX6_isHop 12 = .ok (.aload_n 0, 1) := by decide +kernel
theorem dX6_isHop_13 : decode cX6_isHop 13 = .ok (.getfield 26, 3) := by decide +kernel
theorem dX6_isHop_16 : decode cX6_isHop 16 = .ok (.getfield 78, 3) := by decide +kernel
theorem dX6_isHop_19 : decode cX6_isHop 19 = .ok (.if_icmp .ge 7, 3) := by decide +kernel
theorem dX6_isHop_22 : decode cX6_isHop 22 = .ok (.iconst 1, 1) := by decide +kernel
theorem dX6_isHop_23 : decode cX6_isHop 23 = .ok (.goto 4, 3) := by decide +kernel
theorem dX6_isHop_26 : decode cX6_isHop 26 = .ok (.iconst 0, 1) := by decide +kernel
theorem dX6_isHop_27 : decode cX6_isHop 27 = .ok (.ireturn, 1) := by decide +kernel
theorem dX6_isCircuit_0 : decode cX6_isCircuit 0 = .ok (.aload_n 0, 1) := by decide +kernel
theorem dX6_isCircuit_1 : decode cX6_isCircuit 1 = .ok (.getfield 70, 3) := by decide +kernel
theorem dX6_isCircuit_4 : decode cX6_isCircuit 4 = .ok (.ifCond .eq 22, 3) := by decide +kernel
theorem dX6_isCircuit_7 : decode cX6_isCircuit 7 = .ok (.iload_n 1, 1) := by decide +kernel
theorem dX6_isCircuit_8 : decode cX6_isCircuit 8 = .ok (.ifCond .lt 18, 3) := by decide +kernel
theorem dX6_isCircuit_11 : decode cX6_isCircuit 11 = .ok (.iload_n 1, 1) := by decide +kernel
theorem dX6_isCircuit_12 : decode cX6_isCircuit 12 = .ok (.aload_n 0, 1) := by decide +kernel
theorem dX6_isCircuit_13 : decode cX6_isCircuit 13 = .ok (.getfield 26, 3) := by decide +kernel
theorem dX6_isCircuit_16 : decode cX6_isCircuit 16 = .ok (.getfield 74, 3) := by decide +kernel
theorem dX6_isCircuit_19 : decode cX6_isCircuit 19 = .ok (.if_icmp .ge 7, 3) := by decide +kernel
theorem dX6_isCircuit_22 : decode cX6_isCircuit 22 = .ok (.iconst 1, 1) := by decide +kernel
theorem dX6_isCircuit_23 : decode cX6_isCircuit 23 = .ok (.goto 4, 3) := by decide +kernel
theorem dX6_isCircuit_26 : decode cX6_isCircuit 26 = .ok (.iconst 0, 1) := by decide +kernel
theorem dX6_isCircuit_27 : decode cX6_isCircuit 27 = .ok (.ireturn, 1) := by decide +kernel
set_option maxRecDepth 20000 in
theorem ggX6_isLane_X6_isHop : GoodIn wsX6_isLane wsX6_isHop := goodIn_r _ [5, 6, 7, 8, 14, 15, 16, 17, 18, 19, 20, 21, 22, 23, 24, 25, 26, 27, 28, 29, 30, 31, 32, 33] (by decide +kernel) (by decide +kernel)
set_option maxRecDepth 20000 in
theorem gX6_isLane_X6_isHop : GoodIn wsX6_isLane (wsV RX6 93 RX6 yX6_isHop wsX6_isHop) := goodIn_app (goodIn_of _ (by decide +kernel)) ggX6_isLane_X6_isHop
set_option maxRecDepth 20000 in
theorem ggX6_isLane_X6_isCircuit : GoodIn wsX6_isLane wsX6_isCircuit := goodIn_r _ [12, 6, 7, 13, 14, 15, 16, 17, 18, 19, 20, 21, 22, 23, 24, 25, 26, 27, 28, 29, 30, 31, 32, 33] (by decide +kernel) (by decide +kernel)
set_option maxRecDepth 20000 in
theorem gX6_isLane_X6_isCircuit : GoodIn wsX6_isLane (wsV RX6 135 RX6 yX6_isCircuit wsX6_isCircuit) := goodIn_app (goodIn_of _ (by decide +kernel)) ggX6_isLane_X6_isCircuit
theorem dX6_isLane_0 : decode cX6_isLane 0 = .ok (.aload_n 0, 1) := by decide +kernel
theorem dX6_isLane_1 : decode cX6_isLane 1 = .ok (.iload_n 1, 1) := by decide +kernel
theorem dX6_isLane_2 : decode cX6_isLane 2 = .ok (.invokevirtual 93, 3) := by decide +kernel
theorem dX6_isLane_5 : decode cX6_isLane 5 = .ok (.ifCond .eq 15, 3) := by decide +kernel
theorem dX6_isLane_8 : decode cX6_isLane 8 = .ok (.aload_n 0, 1) := by decide +kernel
theorem dX6_isLane_9 : decode cX6_isLane 9 = .ok (.iload_n 2, 1) := by decide +kernel
theorem dX6_isLane_10 : decode cX6_isLane 10 = .ok (.invokevirtual 135, 3) := by decide +kernel
theorem dX6_isLane_13 : decode cX6_isLane 13 = .ok (.ifCond .eq 7, 3) := by decide +kernel
theorem dX6_isLane_16 : decode cX6_isLane 16 = .ok (.iconst 1, 1) := by decide +kernel
theorem dX6_isLane_17 : decode cX6_isLane 17 = .ok (.goto 4, 3) := by decide +kernel
theorem dX6_isLane_20 : decode cX6_isLane 20 = .ok (.iconst 0, 1) := by decide +kernel
