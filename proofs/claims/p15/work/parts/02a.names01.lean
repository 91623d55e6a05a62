theorem dX3_take_34 : decode cX3_take 34 = .ok (.ifCond .le 7, 3) := by decide +kernel
theorem dX3_take_37 : decode cX3_take 37 = .ok (.iconst 1, 1) := by decide +kernel
theorem dX3_take_38 : decode cX3_take 38 = .ok (.goto 4, 3) := by decide +kernel
theorem dX3_take_41 : decode cX3_take 41 = .ok (.iconst 0, 1) := by decide +kernel
theorem dX3_take_42 : decode cX3_take 42 = .ok (.putfield 164, 3) := by decide +kernel
theorem dX3_take_45 : decode cX3_take 45 = .ok (.aload_n 2, 1) := by decide +kernel
theorem dX3_take_46 : decode cX3_take 46 = .ok (.getfield 164, 3) := by decide +kernel
theorem dX3_take_49 : decode cX3_take 49 = .ok (.ifCond .eq 34, 3) := by decide +kernel
theorem dX3_take_52 : decode cX3_take 52 = .ok (.aload_n 0, 1) := by decide +kernel
theorem dX3_take_53 : decode cX3_take 53 = .ok (.getfield 23, 3) := by decide +kernel
theorem dX3_take_56 : decode cX3_take 56 = .ok (.iload_n 3, 1) := by decide +kernel
theorem dX3_take_57 : decode cX3_take 57 = .ok (.dup2, 1) := by decide +kernel
theorem dX3_take_58 : decode cX3_take 58 = .ok (.iaload, 1) := by decide +kernel
theorem dX3_take_59 : decode cX3_take 59 = .ok (.iconst 1, 1) := by decide +kernel
theorem dX3_take_60 : decode cX3_take 60 = .ok (.isub, 1) := by decide +kernel
theorem dX3_take_61 : decode cX3_take 61 = .ok (.iastore, 1) := by decide +kernel
theorem dX3_take_62 : decode cX3_take 62 = .ok (.aload_n 2, 1) := by decide +kernel
theorem dX3_take_63 : decode cX3_take 63 = .ok (.dup, 1) := by decide +kernel
theorem dX3_take_64 : decode cX3_take 64 = .ok (.getfield 167, 3) := by decide +kernel
theorem dX3_take_67 : decode cX3_take 67 = .ok (.iconst 1, 1) := by decide +kernel
theorem dX3_take_68 : decode cX3_take 68 = .ok (.iadd, 1) := by decide +kernel
theorem dX3_take_69 : decode cX3_take 69 = .ok (.putfield 167, 3) := by decide +kernel
theorem dX3_take_72 : decode cX3_take 72 = .ok (.aload_n 0, 1) := by decide +kernel
theorem dX3_take_73 : decode cX3_take 73 = .ok (.aload_n 0, 1) := by decide +kernel
theorem dX3_take_74 : decode cX3_take 74 = .ok (.getfield 53, 3) := by decide +kernel
theorem dX3_take_77 : decode cX3_take 77 = .ok (.iconst 1, 1) := by decide +kernel
theorem dX3_take_78 : decode cX3_take 78 = .ok (.isub, 1) := by decide +kernel
theorem dX3_take_79 : decode cX3_take 79 = .ok (.iload_n 1, 1) := by decide +kernel
theorem dX3_take_80 : decode cX3_take 80 = .ok (.invokevirtual 170, 3) := by decide +kernel
theorem dX3_take_83 : decode cX3_take 83 = .ok (.return_, 1) := by decide +kernel
theorem qxX3_sendOver_0 : ∀ w ∈ ((((wsX3_sendOver_r1 ++ wsX3_sendOver_r2) ++ wsX30) ++ wsX20) ++ wsX10), w ∈ wsX3_sendOver := fun w h => List.mem_cons_of_mem _ h
theorem qxX3_sendOver_1 : ∀ w ∈ (((wsX3_sendOver_r1 ++ wsX3_sendOver_r2) ++ wsX30) ++ wsX20), w ∈ wsX3_sendOver := in_l qxX3_sendOver_0
theorem qxX3_sendOver_2 : ∀ w ∈ wsX10, w ∈ wsX3_sendOver := in_r qxX3_sendOver_0
theorem qxX3_sendOver_3 : ∀ w ∈ ((wsX3_sendOver_r1 ++ wsX3_sendOver_r2) ++ wsX30), w ∈ wsX3_sendOver := in_l qxX3_sendOver_1
theorem qxX3_sendOver_4 : ∀ w ∈ wsX20, w ∈ wsX3_sendOver := in_r qxX3_sendOver_1
theorem qxX3_sendOver_5 : ∀ w ∈ (wsX3_sendOver_r1 ++ wsX3_sendOver_r2), w ∈ wsX3_sendOver := in_l qxX3_sendOver_3
theorem qxX3_sendOver_6 : ∀ w ∈ wsX30, w ∈ wsX3_sendOver := in_r qxX3_sendOver_3
theorem qxX3_sendOver_7 : ∀ w ∈ wsX3_sendOver_r1, w ∈ wsX3_sendOver := in_l qxX3_sendOver_5
theorem qxX3_sendOver_8 : ∀ w ∈ wsX3_sendOver_r2, w ∈ wsX3_sendOver := in_r qxX3_sendOver_5
def pxX3_sendOver : List (List Cond) := [wsX3_sendOver_r1, wsX3_sendOver_r2, wsX30, wsX20, wsX10]
theorem pxX3_sendOver_in : ∀ q ∈ pxX3_sendOver, ∀ w ∈ q, w ∈ wsX3_sendOver := lp_c qxX3_sendOver_7 (lp_c qxX3_sendOver_8 (lp_c qxX3_sendOver_6 (lp_c qxX3_sendOver_4 (lp_c qxX3_sendOver_2 (lp_n)))))
set_option maxRecDepth 20000 in
theorem ggX3_sendOver_X3_nextSender : GoodIn wsX3_sendOver wsX3_nextSender := goodIn_pp pxX3_sendOver pxX3_sendOver_in _ [(0, 14), (0, 0), (0, 15), (0, 2), (0, 7), (0, 6), (0, 16), (0, 17), (0, 18), (0, 19), (0, 20), (0, 21), (0, 22), (0, 23), (2, 0), (2, 1), (2, 2), (2, 3), (2, 4), (2, 5), (2, 6), (2, 7), (2, 8), (2, 9), (2, 10), (3, 0), (3, 1), (3, 2), (3, 3), (3, 4), (3, 5), (3, 6), (3, 7), (3, 8), (3, 9), (4, 0), (4, 1), (4, 2), (4, 3), (4, 4), (4, 5), (4, 6)] rfl (by decide +kernel)
set_option maxRecDepth 20000 in
theorem gX3_sendOver_X3_nextSender : GoodIn wsX3_sendOver (wsV RX3 174 RX3 yX3_nextSender wsX3_nextSender) := goodIn_app (goodIn_of _ (by decide +kernel)) ggX3_sendOver_X3_nextSender
set_option maxRecDepth 20000 in
theorem ggX3_sendOver_X3_goneFrom : GoodIn wsX3_sendOver wsX3_goneFrom := goodIn_pp pxX3_sendOver pxX3_sendOver_in _ [(1, 3), (0, 0), (0, 7), (1, 4), (1, 5), (1, 6), (1, 7), (1, 8), (1, 9), (0, 13), (1, 10), (1, 11), (1, 12), (1, 13), (0, 4), (0, 5), (2, 0), (2, 1), (2, 2), (2, 3), (2, 4), (2, 5), (2, 6), (2, 7), (2, 8), (2, 9), (2, 10), (3, 0), (3, 1), (3, 2), (3, 3), (3, 4), (3, 5), (3, 6), (3, 7), (3, 8), (3, 9), (4, 0), (4, 1), (4, 2), (4, 3), (4, 4), (4, 5), (4, 6)] rfl (by decide +kernel)
set_option maxRecDepth 20000 in
theorem gX3_sendOver_X3_goneFrom : GoodIn wsX3_sendOver (wsV RX3 170 RX3 yX3_goneFrom wsX3_goneFrom) := goodIn_app (goodIn_of _ (by decide +kernel)) ggX3_sendOver_X3_goneFrom
theorem dX3_sendOver_0 : decode cX3_sendOver 0 = .ok (.aload_n 0, 1) := by decide +kernel
theorem dX3_sendOver_1 : decode cX3_sendOver 1 = .ok (.getfield 11, 3) := by decide +kernel
theorem dX3_sendOver_4 : decode cX3_sendOver 4 = .ok (.iload_n 1, 1) := by decide +kernel
theorem dX3_sendOver_5 : decode cX3_sendOver 5 = .ok (.aaload, 1) := by decide +kernel
theorem dX3_sendOver_6 : decode cX3_sendOver 6 = .ok (.astore_n 2, 1) := by decide +kernel
theorem dX3_sendOver_7 : decode cX3_sendOver 7 = .ok (.aload_n 0, 1) := by decide +kernel
theorem dX3_sendOver_8 : decode cX3_sendOver 8 = .ok (.iload_n 1, 1) := by decide +kernel
theorem dX3_sendOver_9 : decode cX3_sendOver 9 = .ok (.invokevirtual 174, 3) := by decide +kernel
theorem dX3_sendOver_12 : decode cX3_sendOver 12 = .ok (.istore_n 3, 1) := by decide +kernel
theorem dX3_sendOver_13 : decode cX3_sendOver 13 = .ok (.aload_n 2, 1) := by decide +kernel
theorem dX3_sendOver_14 : decode cX3_sendOver 14 = .ok (.iload_n 3, 1) := by decide +kernel
theorem dX3_sendOver_15 : decode cX3_sendOver 15 = .ok (.putfield 177, 3) := by decide +kernel
theorem dX3_sendOver_18 : decode cX3_sendOver 18 = .ok (.iload_n 3, 1) := by decide +kernel
theorem dX3_sendOver_19 : decode cX3_sendOver 19 = .ok (.iconst (-1), 1) := by decide +kernel
theorem dX3_sendOver_20 : decode cX3_sendOver 20 = .ok (.if_icmp .ne 4, 3) := by decide +kernel
theorem dX3_sendOver_23 : decode cX3_sendOver 23 = .ok (.return_, 1) := by decide +kernel
theorem dX3_sendOver_24 : decode cX3_sendOver 24 = .ok (.aload_n 2, 1) := by decide +kernel
theorem dX3_sendOver_25 : decode cX3_sendOver 25 = .ok (.iload_n 3, 1) := by decide +kernel
theorem dX3_sendOver_26 : decode cX3_sendOver 26 = .ok (.putfield 180, 3) := by decide +kernel
theorem dX3_sendOver_29 : decode cX3_sendOver 29 = .ok (.aload_n 2, 1) := by decide +kernel
theorem dX3_sendOver_30 : decode cX3_sendOver 30 = .ok (.getfield 122, 3) := by decide +kernel
theorem dX3_sendOver_33 : decode cX3_sendOver 33 = .ok (.aload_n 0, 1) := by decide +kernel
theorem dX3_sendOver_34 : decode cX3_sendOver 34 = .ok (.getfield 78, 3) := by decide +kernel
theorem dX3_sendOver_37 : decode cX3_sendOver 37 = .ok (.aload_n 2, 1) := by decide +kernel
theorem dX3_sendOver_38 : decode cX3_sendOver 38 = .ok (.getfield 183, 3) := by decide +kernel
theorem dX3_sendOver_41 : decode cX3_sendOver 41 = .ok (.iadd, 1) := by decide +kernel
theorem dX3_sendOver_42 : decode cX3_sendOver 42 = .ok (.iconst 5, 1) := by decide +kernel
theorem dX3_sendOver_43 : decode cX3_sendOver 43 = .ok (.irem, 1) := by decide +kernel
theorem dX3_sendOver_44 : decode cX3_sendOver 44 = .ok (.iload_n 3, 1) := by decide +kernel
theorem dX3_sendOver_45 : decode cX3_sendOver 45 = .ok (.iastore, 1) := by decide +kernel
theorem dX3_sendOver_46 : decode cX3_sendOver 46 = .ok (.aload_n 0, 1) := by decide +kernel
theorem dX3_sendOver_47 : decode cX3_sendOver 47 = .ok (.getfield 23, 3) := by decide +kernel
theorem dX3_sendOver_50 : decode cX3_sendOver 50 = .ok (.iload_n 1, 1) := by decide +kernel
theorem dX3_sendOver_51 : decode cX3_sendOver 51 = .ok (.iconst 3, 1) := by decide +kernel
theorem dX3_sendOver_52 : decode cX3_sendOver 52 = .ok (.imul, 1) := by decide +kernel
theorem dX3_sendOver_53 : decode cX3_sendOver 53 = .ok (.iload_n 3, 1) := by decide +kernel
theorem dX3_sendOver_54 : decode cX3_sendOver 54 = .ok (.iadd, 1) := by decide +kernel
theorem dX3_sendOver_55 : decode cX3_sendOver 55 = .ok (.dup2, 1) := by decide +kernel
theorem dX3_sendOver_56 : decode cX3_sendOver 56 = .ok (.iaload, 1) := by decide +kernel
theorem dX3_sendOver_57 : decode cX3_sendOver 57 = .ok (.iconst 1, 1) := by decide +kernel
theorem dX3_sendOver_58 : decode cX3_sendOver 58 = .ok (.isub, 1) := by decide +kernel
theorem dX3_sendOver_59 : decode cX3_sendOver 59 = .ok (.iastore, 1) := by decide +kernel
theorem dX3_sendOver_60 : decode cX3_sendOver 60 = .ok (.aload_n 2, 1) := by decide +kernel
theorem dX3_sendOver_61 : decode cX3_sendOver 61 = .ok (.getfield 128, 3) := by decide +kernel
theorem dX3_sendOver_64 : decode cX3_sendOver 64 = .ok (.iload_n 3, 1) := by decide +kernel
theorem dX3_sendOver_65 : decode cX3_sendOver 65 = .ok (.aaload, 1) := by decide +kernel
theorem dX3_sendOver_66 : decode cX3_sendOver 66 = .ok (.astore 4, 2) := by decide +kernel
theorem dX3_sendOver_68 : decode cX3_sendOver 68 = .ok (.aload 4, 2) := by decide +kernel
theorem dX3_sendOver_70 : decode cX3_sendOver 70 = .ok (.aload 4, 2) := by decide +kernel
theorem dX3_sendOver_72 : decode cX3_sendOver 72 = .ok (.getfield 186, 3) := by decide +kernel
theorem dX3_sendOver_75 : decode cX3_sendOver 75 = .ok (.iconst 1, 1) := by decide +kernel
theorem dX3_sendOver_76 : decode cX3_sendOver 76 = .ok (.iadd, 1) := by decide +kernel
theorem dX3_sendOver_77 : decode cX3_sendOver 77 = .ok (.bipush 63, 2) := by decide +kernel
theorem dX3_sendOver_79 : decode cX3_sendOver 79 = .ok (.iand, 1) := by decide +kernel
theorem dX3_sendOver_80 : decode cX3_sendOver 80 = .ok (.putfield 186, 3) := by decide +kernel
theorem dX3_sendOver_83 : decode cX3_sendOver 83 = .ok (.aload 4, 2) := by decide +kernel
theorem dX3_sendOver_85 : decode cX3_sendOver 85 = .ok (.dup, 1) := by decide +kernel
theorem dX3_sendOver_86 : decode cX3_sendOver 86 = .ok (.getfield 189, 3) := by decide +kernel
theorem dX3_sendOver_89 : decode cX3_sendOver 89 = .ok (.iconst 1, 1) := by decide +kernel
theorem dX3_sendOver_90 : decode cX3_sendOver 90 = .ok (.iadd, 1) := by decide +kernel
theorem dX3_sendOver_91 : decode cX3_sendOver 91 = .ok (.putfield 189, 3) := by decide +kernel
theorem dX3_sendOver_94 : decode cX3_sendOver 94 = .ok (.iload_n 1, 1) := by decide +kernel
theorem dX3_sendOver_95 : decode cX3_sendOver 95 = .ok (.ifCond .le 11, 3) := by decide +kernel
theorem dX3_sendOver_98 : decode cX3_sendOver 98 = .ok (.aload_n 0, 1) := by decide +kernel
theorem dX3_sendOver_99 : decode cX3_sendOver 99 = .ok (.iload_n 1, 1) := by decide +kernel
theorem dX3_sendOver_100 : decode cX3_sendOver 100 = .ok (.iconst 1, 1) := by decide +kernel
theorem dX3_sendOver_101 : decode cX3_sendOver 101 = .ok (.isub, 1) := by decide +kernel
theorem dX3_sendOver_102 : decode cX3_sendOver 102 = .ok (.iload_n 3, 1) := by decide +kernel
theorem dX3_sendOver_103 : decode cX3_sendOver 103 = .ok (.invokevirtual 170, 3) := by decide +kernel
theorem dX3_sendOver_106 : decode cX3_sendOver 106 = .ok (.return_, 1) := by decide +kernel
set_option maxRecDepth 20000 in
theorem ggX3_nextSender_X1_out : GoodIn wsX3_nextSender wsX1_out := goodIn_r _ [11, 12, 13, 35, 36, 37, 38, 39, 40, 41] (by decide +kernel) (by decide +kernel)
set_option maxRecDepth 20000 in
theorem gX3_nextSender_X1_out : GoodIn wsX3_nextSender (wsV RX3 192 RX1 yX1_out wsX1_out) := goodIn_app (goodIn_of _ (by decide +kernel)) ggX3_nextSender_X1_out
theorem dX3_nextSender_0 : decode cX3_nextSender 0 = .ok (.aload_n 0, 1) := by decide +kernel
theorem dX3_nextSender_1 : decode cX3_nextSender 1 = .ok (.getfield 11, 3) := by decide +kernel
theorem dX3_nextSender_4 : decode cX3_nextSender 4 = .ok (.iload_n 1, 1) := by decide +kernel
theorem dX3_nextSender_5 : decode cX3_nextSender 5 = .ok (.aaload, 1) := by decide +kernel
theorem dX3_nextSender_6 : decode cX3_nextSender 6 = .ok (.astore_n 2, 1) := by decide +kernel
theorem dX3_nextSender_7 : decode cX3_nextSender 7 = .ok (.iconst 1, 1) := by decide +kernel
theorem dX3_nextSender_8 : decode cX3_nextSender 8 = .ok (.istore_n 3, 1) := by decide +kernel
theorem dX3_nextSender_9 : decode cX3_nextSender 9 = .ok (.iload_n 3, 1) := by decide +kernel
theorem dX3_nextSender_10 : decode cX3_nextSender 10 = .ok (.aload_n 0, 1) := by decide +kernel
theorem dX3_nextSender_11 : decode cX3_nextSender 11 = .ok (.getfield 62, 3) := by decide +kernel
theorem dX3_nextSender_14 : decode cX3_nextSender 14 = .ok (.if_icmp .gt 61, 3) := by decide +kernel
theorem dX3_nextSender_17 : decode cX3_nextSender 17 = .ok (.aload_n 2, 1) := by decide +kernel
theorem dX3_nextSender_18 : decode cX3_nextSender 18 = .ok (.getfield 180, 3) := by decide +kernel
theorem dX3_nextSender_21 : decode cX3_nextSender 21 = .ok (.iload_n 3, 1) := by decide +kernel
theorem dX3_nextSender_22 : decode cX3_nextSender 22 = .ok (.iadd, 1) := by decide +kernel
theorem dX3_nextSender_23 : decode cX3_nextSender 23 = .ok (.aload_n 0, 1) := by decide +kernel
theorem dX3_nextSender_24 : decode cX3_nextSender 24 = .ok (.getfield 62, 3) := by decide +kernel
theorem dX3_nextSender_27 : decode cX3_nextSender 27 = .ok (.irem, 1) := by decide +kernel
theorem dX3_nextSender_28 : decode cX3_nextSender 28 = .ok (.istore 4, 2) := by decide +kernel
theorem dX3_nextSender_30 : decode cX3_nextSender 30 = .ok (.aload_n 2, 1) := by decide +kernel
theorem dX3_nextSender_31 : decode cX3_nextSender 31 = .ok (.getfield 128, 3) := by decide +kernel
theorem dX3_nextSender_34 : decode cX3_nextSender 34 = .ok (.iload 4, 2) := by decide +kernel
theorem dX3_nextSender_36 : decode cX3_nextSender 36 = .ok (.aaload, 1) := by decide +kernel
theorem dX3_nextSender_37 : decode cX3_nextSender 37 = .ok (.astore 5, 2) := by decide +kernel
theorem dX3_nextSender_39 : decode cX3_nextSender 39 = .ok (.aload_n 0, 1) := by decide +kernel
theorem dX3_nextSender_40 : decode cX3_nextSender 40 = .ok (.getfield 23, 3) := by decide +kernel
theorem dX3_nextSender_43 : decode cX3_nextSender 43 = .ok (.iload_n 1, 1) := by decide +kernel
theorem dX3_nextSender_44 : decode cX3_nextSender 44 = .ok (.iconst 3, 1) := by decide +kernel
theorem dX3_nextSender_45 : decode cX3_nextSender 45 = .ok (.imul, 1) := by decide +kernel
theorem dX3_nextSender_46 : decode cX3_nextSender 46 = .ok (.iload 4, 2) := by decide +kernel
theorem dX3_nextSender_48 : decode cX3_nextSender 48 = .ok (.iadd, 1) := by decide +kernel
theorem dX3_nextSender_49 : decode cX3_nextSender 49 = .ok (.iaload, 1) := by decide +kernel
theorem dX3_nextSender_50 : decode cX3_nextSender 50 = .ok (.ifCond .le 19, 3) := by decide +kernel
theorem dX3_nextSender_53 : decode cX3_nextSender 53 = .ok (.aload 5, 2) := by decide +kernel
theorem dX3_nextSender_55 : decode cX3_nextSender 55 = .ok (.invokevirtual 192, 3) := by decide +kernel
theorem dX3_nextSender_58 : decode cX3_nextSender 58 = .ok (.aload 5, 2) := by decide +kernel
theorem dX3_nextSender_60 : decode cX3_nextSender 60 = .ok (.getfield 195, 3) := by decide +kernel
theorem dX3_nextSender_63 : decode cX3_nextSender 63 = .ok (.if_icmp .ge 6, 3) := by decide +kernel
theorem dX3_nextSender_66 : decode cX3_nextSender 66 = .ok (.iload 4, 2) := by decide +kernel
theorem dX3_nextSender_68 : decode cX3_nextSender 68 = .ok (.ireturn, 1) := by decide +kernel
theorem dX3_nextSender_69 : decode cX3_nextSender 69 = .ok (.iinc 3 1, 3) := by decide +kernel
theorem dX3_nextSender_72 : decode cX3_nextSender 72 = .ok (.goto (-63), 3) := by decide +kernel
theorem dX3_nextSender_75 : decode cX3_nextSender 75 = .ok (.iconst (-1), 1) := by decide +kernel
theorem dX3_nextSender_76 : decode cX3_nextSender 76 = .ok (.ireturn, 1) := by decide +kernel
theorem qxX3_goneFrom_0 : ∀ w ∈ ((([.fieldLink RX3 11 "HopCredits$Net" "links" "[LHopCredits$Link;", .fieldLink RX3 128 "HopCredits$Link" "lanes" "[LHopCredits$Lane;", .fieldLink RX3 198 "HopCredits$Lane" "gone" "I", .fieldLink RX3 201 "HopCredits$Lane" "sinceUpdate" "I", .fieldLink RX3 204 "HopCredits$Link" "every" "I", .methodLink RX3 140 yX3_sendUpdate, .instanceMethod yX3_sendUpdate, .selects RX3 yX3_sendUpdate yX3_sendUpdate, .initialized RX3, .code yX3_sendUpdate cX3_sendUpdate 3 none, .fieldLink RX3 207 "HopCredits$Link" "jammed" "I", .fieldLink RX3 81 "HopCredits$Net" "lost" "I", .fieldLink RX3 125 "HopCredits$Link" "updateAt" "[I", .fieldLink RX3 78 "HopCredits$Net" "tick" "I", .fieldLink RX3 183 "HopCredits$Link" "delay" "I"] ++ wsX30) ++ wsX20) ++ wsX10), w ∈ wsX3_goneFrom := fun w h => List.mem_cons_of_mem _ h
theorem qxX3_goneFrom_1 : ∀ w ∈ (([.fieldLink RX3 11 "HopCredits$Net" "links" "[LHopCredits$Link;", .fieldLink RX3 128 "HopCredits$Link" "lanes" "[LHopCredits$Lane;", .fieldLink RX3 198 "HopCredits$Lane" "gone" "I", .fieldLink RX3 201 "HopCredits$Lane" "sinceUpdate" "I", .fieldLink RX3 204 "HopCredits$Link" "every" "I", .methodLink RX3 140 yX3_sendUpdate, .instanceMethod yX3_sendUpdate, .selects RX3 yX3_sendUpdate yX3_sendUpdate, .initialized RX3, .code yX3_sendUpdate cX3_sendUpdate 3 none, .fieldLink RX3 207 "HopCredits$Link" "jammed" "I", .fieldLink RX3 81 "HopCredits$Net" "lost" "I", .fieldLink RX3 125 "HopCredits$Link" "updateAt" "[I", .fieldLink RX3 78 "HopCredits$Net" "tick" "I", .fieldLink RX3 183 "HopCredits$Link" "delay" "I"] ++ wsX30) ++ wsX20), w ∈ wsX3_goneFrom := in_l qxX3_goneFrom_0
theorem qxX3_goneFrom_2 : ∀ w ∈ wsX10, w ∈ wsX3_goneFrom := in_r qxX3_goneFrom_0
theorem qxX3_goneFrom_3 : ∀ w ∈ ([.fieldLink RX3 11 "HopCredits$Net" "links" "[LHopCredits$Link;", .fieldLink RX3 128 "HopCredits$Link" "lanes" "[LHopCredits$Lane;", .fieldLink RX3 198 "HopCredits$Lane" "gone" "I", .fieldLink RX3 201 "HopCredits$Lane" "sinceUpdate" "I", .fieldLink RX3 204 "HopCredits$Link" "every" "I", .methodLink RX3 140 yX3_sendUpdate, .instanceMethod yX3_sendUpdate, .selects RX3 yX3_sendUpdate yX3_sendUpdate, .initialized RX3, .code yX3_sendUpdate cX3_sendUpdate 3 none, .fieldLink RX3 207 "HopCredits$Link" "jammed" "I", .fieldLink RX3 81 "HopCredits$Net" "lost" "I", .fieldLink RX3 125 "HopCredits$Link" "updateAt" "[I", .fieldLink RX3 78 "HopCredits$Net" "tick" "I", .fieldLink RX3 183 "HopCredits$Link" "delay" "I"] ++ wsX30), w ∈ wsX3_goneFrom := in_l qxX3_goneFrom_1
theorem qxX3_goneFrom_4 : ∀ w ∈ wsX20, w ∈ wsX3_goneFrom := in_r qxX3_goneFrom_1
theorem qxX3_goneFrom_5 : ∀ w ∈ [.fieldLink RX3 11 "HopCredits$Net" "links" "[LHopCredits$Link;", .fieldLink RX3 128 "HopCredits$Link" "lanes" "[LHopCredits$Lane;", .fieldLink RX3 198 "HopCredits$Lane" "gone" "I", .fieldLink RX3 201 "HopCredits$Lane" "sinceUpdate" "I", .fieldLink RX3 204 "HopCredits$Link" "every" "I", .methodLink RX3 140 yX3_sendUpdate, .instanceMethod yX3_sendUpdate, .selects RX3 yX3_sendUpdate yX3_sendUpdate, .initialized RX3, .code yX3_sendUpdate cX3_sendUpdate 3 none, .fieldLink RX3 207 "HopCredits$Link" "jammed" "I", .fieldLink RX3 81 "HopCredits$Net" "lost" "I", .fieldLink RX3 125 "HopCredits$Link" "updateAt" "[I", .fieldLink RX3 78 "HopCredits$Net" "tick" "I", .fieldLink RX3 183 "HopCredits$Link" "delay" "I"], w ∈ wsX3_goneFrom := in_l qxX3_goneFrom_3
theorem qxX3_goneFrom_6 : ∀ w ∈ wsX30, w ∈ wsX3_goneFrom := in_r qxX3_goneFrom_3
def pxX3_goneFrom : List (List Cond) := [[.fieldLink RX3 11 "HopCredits$Net" "links" "[LHopCredits$Link;", .fieldLink RX3 128 "HopCredits$Link" "lanes" "[LHopCredits$Lane;", .fieldLink RX3 198 "HopCredits$Lane" "gone" "I", .fieldLink RX3 201 "HopCredits$Lane" "sinceUpdate" "I", .fieldLink RX3 204 "HopCredits$Link" "every" "I", .methodLink RX3 140 yX3_sendUpdate, .instanceMethod yX3_sendUpdate, .selects RX3 yX3_sendUpdate yX3_sendUpdate, .initialized RX3, .code yX3_sendUpdate cX3_sendUpdate 3 none, .fieldLink RX3 207 "HopCredits$Link" "jammed" "I", .fieldLink RX3 81 "HopCredits$Net" "lost" "I", .fieldLink RX3 125 "HopCredits$Link" "updateAt" "[I", .fieldLink RX3 78 "HopCredits$Net" "tick" "I", .fieldLink RX3 183 "HopCredits$Link" "delay" "I"], wsX30, wsX20, wsX10]
theorem pxX3_goneFrom_in : ∀ q ∈ pxX3_goneFrom, ∀ w ∈ q, w ∈ wsX3_goneFrom := lp_c qxX3_goneFrom_5 (lp_c qxX3_goneFrom_6 (lp_c qxX3_goneFrom_4 (lp_c qxX3_goneFrom_2 (lp_n))))
set_option maxRecDepth 20000 in
theorem ggX3_goneFrom_X3_sendUpdate : GoodIn wsX3_goneFrom wsX3_sendUpdate := goodIn_pp pxX3_goneFrom pxX3_goneFrom_in _ [(0, 9), (0, 10), (0, 11), (0, 12), (0, 13), (0, 14), (0, 1), (0, 2), (2, 0), (2, 1), (2, 2), (2, 3), (2, 4), (2, 5), (2, 6), (2, 7), (2, 8), (2, 9), (1, 0), (1, 1), (1, 2), (1, 3), (1, 4), (1, 5), (1, 6), (1, 7), (1, 8), (1, 9), (1, 10), (3, 0), (3, 1), (3, 2), (3, 3), (3, 4), (3, 5), (3, 6)] rfl (by decide +kernel)
set_option maxRecDepth 20000 in
theorem gX3_goneFrom_X3_sendUpdate : GoodIn wsX3_goneFrom (wsV RX3 140 RX3 yX3_sendUpdate wsX3_sendUpdate) := goodIn_app (goodIn_of _ (by decide +kernel)) ggX3_goneFrom_X3_sendUpdate
theorem dX3_goneFrom_0 : decode cX3_goneFrom 0 = .ok (.aload_n 0, 1) := by decide +kernel
theorem dX3_goneFrom_1 : decode cX3_goneFrom 1 = .ok (.getfield 11, 3) := by decide +kernel
theorem dX3_goneFrom_4 : decode cX3_goneFrom 4 = .ok (.iload_n 1, 1) := by decide +kernel
theorem dX3_goneFrom_5 : decode cX3_goneFrom 5 = .ok (.aaload, 1) := by decide +kernel
theorem dX3_goneFrom_6 : decode cX3_goneFrom 6 = .ok (.astore_n 3, 1) := by decide +kernel
theorem dX3_goneFrom_7 : decode cX3_goneFrom 7 = .ok (.aload_n 3, 1) := by decide +kernel
theorem dX3_goneFrom_8 : decode cX3_goneFrom 8 = .ok (.getfield 128, 3) := by decide +kernel
theorem dX3_goneFrom_11 : decode cX3_goneFrom 11 = .ok (.iload_n 2, 1) := by decide +kernel
theorem dX3_goneFrom_12 : decode cX3_goneFrom 12 = .ok (.aaload, 1) := by decide +kernel
theorem dX3_goneFrom_13 : decode cX3_goneFrom 13 = .ok (.astore 4, 2) := by decide +kernel
theorem dX3_goneFrom_15 : decode cX3_goneFrom 15 = .ok (.aload 4, 2) := by decide +kernel
theorem dX3_goneFrom_17 : decode cX3_goneFrom 17 = .ok (.aload 4, 2) := by decide +kernel
theorem dX3_goneFrom_19 : decode cX3_goneFrom 19 = .ok (.getfield 198, 3) := by decide +kernel
theorem dX3_goneFrom_22 : decode cX3_goneFrom 22 = .ok (.iconst 1, 1) := by decide +kernel
theorem dX3_goneFrom_23 : decode cX3_goneFrom 23 = .ok (.iadd, 1) := by decide +kernel
theorem dX3_goneFrom_24 : decode cX3_goneFrom 24 = .ok (.bipush 63, 2) := by decide +kernel
theorem dX3_goneFrom_26 : decode cX3_goneFrom 26 = .ok (.iand, 1) := by decide +kernel
theorem dX3_goneFrom_27 : decode cX3_goneFrom 27 = .ok (.putfield 198, 3) := by decide +kernel
theorem dX3_goneFrom_30 : decode cX3_goneFrom 30 = .ok (.aload 4, 2) := by decide +kernel
theorem dX3_goneFrom_32 : decode cX3_goneFrom 32 = .ok (.dup, 1) := by decide +kernel
theorem dX3_goneFrom_33 : decode cX3_goneFrom 33 = .ok (.getfield 201, 3) := by decide +kernel
theorem dX3_goneFrom_36 : decode cX3_goneFrom 36 = .ok (.iconst 1, 1) := by decide +kernel
theorem dX3_goneFrom_37 : decode cX3_goneFrom 37 = .ok (.iadd, 1) := by decide +kernel
theorem dX3_goneFrom_38 : decode cX3_goneFrom 38 = .ok (.putfield 201, 3) := by decide +kernel
theorem dX3_goneFrom_41 : decode cX3_goneFrom 41 = .ok (.aload 4, 2) := by decide +kernel
theorem dX3_goneFrom_43 : decode cX3_goneFrom 43 = .ok (.getfield 201, 3) := by decide +kernel
theorem dX3_goneFrom_46 : decode cX3_goneFrom 46 = .ok (.aload_n 3, 1) := by decide +kernel
theorem dX3_goneFrom_47 : decode cX3_goneFrom 47 = .ok (.getfield 204, 3) := by decide +kernel
theorem dX3_goneFrom_50 : decode cX3_goneFrom 50 = .ok (.if_icmp .lt 15, 3) := by decide +kernel
theorem dX3_goneFrom_53 : decode cX3_goneFrom 53 = .ok (.aload 4, 2) := by decide +kernel
theorem dX3_goneFrom_55 : decode cX3_goneFrom 55 = .ok (.iconst 0, 1) := by decide +kernel
theorem dX3_goneFrom_56 : decode cX3_goneFrom 56 = .ok (.putfield 201, 3) := by decide +kernel
theorem dX3_goneFrom_59 : decode cX3_goneFrom 59 = .ok (.aload_n 0, 1) := by decide +kernel
theorem dX3_goneFrom_60 : decode cX3_goneFrom 60 = .ok (.aload_n 3, 1) := by decide +kernel
theorem dX3_goneFrom_61 : decode cX3_goneFrom 61 = .ok (.iload_n 2, 1) := by decide +kernel
theorem dX3_goneFrom_62 : decode cX3_goneFrom 62 = .ok (.invokevirtual 140, 3) := by decide +kernel
theorem dX3_goneFrom_65 : decode cX3_goneFrom 65 = .ok (.return_, 1) := by decide +kernel
theorem dX3_sendUpdate_0 : decode cX3_sendUpdate 0 = .ok (.aload_n 1, 1) := by decide +kernel
theorem dX3_sendUpdate_1 : decode cX3_sendUpdate 1 = .ok (.getfield 207, 3) := by decide +kernel
theorem dX3_sendUpdate_4 : decode cX3_sendUpdate 4 = .ok (.ifCond .le 24, 3) := by decide +kernel
theorem dX3_sendUpdate_7 : decode cX3_sendUpdate 7 = .ok (.aload_n 1, 1) := by decide +kernel
theorem dX3_sendUpdate_8 : decode cX3_sendUpdate 8 = .ok (.dup, 1) := by decide +kernel
theorem dX3_sendUpdate_9 : decode cX3_sendUpdate 9 = .ok (.getfield 207, 3) := by decide +kernel
theorem dX3_sendUpdate_12 : decode cX3_sendUpdate 12 = .ok (.iconst 1, 1) := by decide +kernel
theorem dX3_sendUpdate_13 : decode cX3_sendUpdate 13 = .ok (.isub, 1) := by decide +kernel
theorem dX3_sendUpdate_14 : decode cX3_sendUpdate 14 = .ok (.putfield 207, 3) := by decide +kernel
theorem dX3_sendUpdate_17 : decode cX3_sendUpdate 17 = .ok (.aload_n 0, 1) := by decide +kernel
theorem dX3_sendUpdate_18 : decode cX3_sendUpdate 18 = .ok (.dup, 1) := by decide +kernel
theorem dX3_sendUpdate_19 : decode cX3_sendUpdate 19 = .ok (.getfield 81, 3) := by decide +kernel
theorem dX3_sendUpdate_22 : decode cX3_sendUpdate 22 = .ok (.iconst 1, 1) := by decide +kernel
theorem dX3_sendUpdate_23 : decode cX3_sendUpdate 23 = .ok (.iadd, 1) := by decide +kernel
theorem dX3_sendUpdate_24 : decode cX3_sendUpdate 24 = .ok (.putfield 81, 3) := by decide +kernel
theorem dX3_sendUpdate_27 : decode cX3_sendUpdate 27 = .ok (.return_, 1) := by decide +kernel
theorem dX3_sendUpdate_28 : decode cX3_sendUpdate 28 = .ok (.aload_n 1, 1) := by decide +kernel
theorem dX3_sendUpdate_29 : decode cX3_sendUpdate 29 = .ok (.getfield 125, 3) := by decide +kernel
theorem dX3_sendUpdate_32 : decode cX3_sendUpdate 32 = .ok (.aload_n 0, 1) := by decide +kernel
theorem dX3_sendUpdate_33 : decode cX3_sendUpdate 33 = .ok (.getfield 78, 3) := by decide +kernel
theorem dX3_sendUpdate_36 : decode cX3_sendUpdate 36 = .ok (.aload_n 1, 1) := by decide +kernel
theorem dX3_sendUpdate_37 : decode cX3_sendUpdate 37 = .ok (.getfield 183, 3) := by decide +kernel
theorem dX3_sendUpdate_40 : decode cX3_sendUpdate 40 = .ok (.iadd, 1) := by decide +kernel
theorem dX3_sendUpdate_41 : decode cX3_sendUpdate 41 = .ok (.iconst 5, 1) := by decide +kernel
theorem dX3_sendUpdate_42 : decode cX3_sendUpdate 42 = .ok (.irem, 1) := by decide +kernel
theorem dX3_sendUpdate_43 : decode cX3_sendUpdate 43 = .ok (.iconst 3, 1) := by decide +kernel
theorem dX3_sendUpdate_44 : decode cX3_sendUpdate 44 = .ok (.imul, 1) := by decide +kernel
theorem dX3_sendUpdate_45 : decode cX3_sendUpdate 45 = .ok (.iload_n 2, 1) := by decide +kernel
theorem dX3_sendUpdate_46 : decode cX3_sendUpdate 46 = .ok (.iadd, 1) := by decide +kernel
theorem dX3_sendUpdate_47 : decode cX3_sendUpdate 47 = .ok (.aload_n 1, 1) := by decide +kernel
theorem dX3_sendUpdate_48 : decode cX3_sendUpdate 48 = .ok (.getfield 128, 3) := by decide +kernel
theorem dX3_sendUpdate_51 : decode cX3_sendUpdate 51 = .ok (.iload_n 2, 1) := by decide +kernel
theorem dX3_sendUpdate_52 : decode cX3_sendUpdate 52 = .ok (.aaload, 1) := by decide +kernel
theorem dX3_sendUpdate_53 : decode cX3_sendUpdate 53 = .ok (.getfield 198, 3) := by decide +kernel
theorem dX3_sendUpdate_56 : decode cX3_sendUpdate 56 = .ok (.iastore, 1) := by decide +kernel
theorem dX3_sendUpdate_57 : decode cX3_sendUpdate 57 = .ok (.return_, 1) := by decide +kernel
theorem dX3_sendProbe_0 : decode cX3_sendProbe 0 = .ok (.aload_n 1, 1) := by decide +kernel
theorem dX3_sendProbe_1 : decode cX3_sendProbe 1 = .ok (.getfield 137, 3) := by decide +kernel
theorem dX3_sendProbe_4 : decode cX3_sendProbe 4 = .ok (.aload_n 0, 1) := by decide +kernel
theorem dX3_sendProbe_5 : decode cX3_sendProbe 5 = .ok (.getfield 78, 3) := by decide +kernel
theorem dX3_sendProbe_8 : decode cX3_sendProbe 8 = .ok (.aload_n 1, 1) := by decide +kernel
theorem dX3_sendProbe_9 : decode cX3_sendProbe 9 = .ok (.getfield 183, 3) := by decide +kernel
theorem dX3_sendProbe_12 : decode cX3_sendProbe 12 = .ok (.iadd, 1) := by decide +kernel
theorem dX3_sendProbe_13 : decode cX3_sendProbe 13 = .ok (.iconst 5, 1) := by decide +kernel
theorem dX3_sendProbe_14 : decode cX3_sendProbe 14 = .ok (.irem, 1) := by decide +kernel
theorem dX3_sendProbe_15 : decode cX3_sendProbe 15 = .ok (.iconst 3, 1) := by decide +kernel
theorem dX3_sendProbe_16 : decode cX3_sendProbe 16 = .ok (.imul, 1) := by decide +kernel
theorem dX3_sendProbe_17 : decode cX3_sendProbe 17 = .ok (.iload_n 2, 1) := by decide +kernel
theorem dX3_sendProbe_18 : decode cX3_sendProbe 18 = .ok (.iadd, 1) := by decide +kernel
theorem dX3_sendProbe_19 : decode cX3_sendProbe 19 = .ok (.dup2, 1) := by decide +kernel
theorem dX3_sendProbe_20 : decode cX3_sendProbe 20 = .ok (.iaload, 1) := by decide +kernel
theorem dX3_sendProbe_21 : decode cX3_sendProbe 21 = .ok (.iconst 1, 1) := by decide +kernel
theorem dX3_sendProbe_22 : decode cX3_sendProbe 22 = .ok (.iadd, 1) := by decide +kernel
theorem dX3_sendProbe_23 : decode cX3_sendProbe 23 = .ok (.iastore, 1) := by decide +kernel
theorem dX3_sendProbe_24 : decode cX3_sendProbe 24 = .ok (.aload_n 1, 1) := by decide +kernel
theorem dX3_sendProbe_25 : decode cX3_sendProbe 25 = .ok (.getfield 128, 3) := by decide +kernel
theorem dX3_sendProbe_28 : decode cX3_sendProbe 28 = .ok (.iload_n 2, 1) := by decide +kernel
theorem dX3_sendProbe_29 : decode cX3_sendProbe 29 = .ok (.aaload, 1) := by decide +kernel
theorem dX3_sendProbe_30 : decode cX3_sendProbe 30 = .ok (.iconst 0, 1) := by decide +kernel
theorem dX3_sendProbe_31 : decode cX3_sendProbe 31 = .ok (.putfield 210, 3) := by decide +kernel
theorem dX3_sendProbe_34 : decode cX3_sendProbe 34 = .ok (.aload_n 0, 1) := by decide +kernel
theorem dX3_sendProbe_35 : decode cX3_sendProbe 35 = .ok (.dup, 1) := by decide +kernel
theorem dX3_sendProbe_36 : decode cX3_sendProbe 36 = .ok (.getfield 84, 3) := by decide +kernel
theorem dX3_sendProbe_39 : decode cX3_sendProbe 39 = .ok (.iconst 1, 1) := by decide +kernel
theorem dX3_sendProbe_40 : decode cX3_sendProbe 40 = .ok (.iadd, 1) := by decide +kernel
theorem dX3_sendProbe_41 : decode cX3_sendProbe 41 = .ok (.putfield 84, 3) := by decide +kernel
theorem dX3_sendProbe_44 : decode cX3_sendProbe 44 = .ok (.return_, 1) := by decide +kernel
theorem qxX3_waitAt_0 : ∀ w ∈ ((((wsX3_waitAt_r1 ++ wsX3_waitAt_r2) ++ wsX30) ++ wsX20) ++ wsX10), w ∈ wsX3_waitAt := fun w h => List.mem_cons_of_mem _ h
theorem qxX3_waitAt_1 : ∀ w ∈ (((wsX3_waitAt_r1 ++ wsX3_waitAt_r2) ++ wsX30) ++ wsX20), w ∈ wsX3_waitAt := in_l qxX3_waitAt_0
theorem qxX3_waitAt_2 : ∀ w ∈ wsX10, w ∈ wsX3_waitAt := in_r qxX3_waitAt_0
theorem qxX3_waitAt_3 : ∀ w ∈ ((wsX3_waitAt_r1 ++ wsX3_waitAt_r2) ++ wsX30), w ∈ wsX3_waitAt := in_l qxX3_waitAt_1
theorem qxX3_waitAt_4 : ∀ w ∈ wsX20, w ∈ wsX3_waitAt := in_r qxX3_waitAt_1
theorem qxX3_waitAt_5 : ∀ w ∈ (wsX3_waitAt_r1 ++ wsX3_waitAt_r2), w ∈ wsX3_waitAt := in_l qxX3_waitAt_3
theorem qxX3_waitAt_6 : ∀ w ∈ wsX30, w ∈ wsX3_waitAt := in_r qxX3_waitAt_3
theorem qxX3_waitAt_7 : ∀ w ∈ wsX3_waitAt_r1, w ∈ wsX3_waitAt := in_l qxX3_waitAt_5
theorem qxX3_waitAt_8 : ∀ w ∈ wsX3_waitAt_r2, w ∈ wsX3_waitAt := in_r qxX3_waitAt_5
def pxX3_waitAt : List (List Cond) := [wsX3_waitAt_r1, wsX3_waitAt_r2, wsX30, wsX20, wsX10]
theorem pxX3_waitAt_in : ∀ q ∈ pxX3_waitAt, ∀ w ∈ q, w ∈ wsX3_waitAt := lp_c qxX3_waitAt_7 (lp_c qxX3_waitAt_8 (lp_c qxX3_waitAt_6 (lp_c qxX3_waitAt_4 (lp_c qxX3_waitAt_2 (lp_n)))))
set_option maxRecDepth 20000 in
theorem ggX3_waitAt_X3_lacksCredit : GoodIn wsX3_waitAt wsX3_lacksCredit := goodIn_pp pxX3_waitAt pxX3_waitAt_in _ [(0, 9), (0, 10), (0, 1), (0, 2), (0, 11), (0, 12), (0, 13), (0, 14), (0, 15), (0, 16), (0, 17), (0, 18), (2, 0), (2, 1), (2, 2), (2, 3), (2, 4), (2, 5), (2, 6), (2, 7), (2, 8), (2, 9), (2, 10), (3, 0), (3, 1), (3, 2), (3, 3), (3, 4), (3, 5), (3, 6), (3, 7), (3, 8), (3, 9), (4, 0), (4, 1), (4, 2), (4, 3), (4, 4), (4, 5), (4, 6)] rfl (by decide +kernel)
set_option maxRecDepth 20000 in
theorem gX3_waitAt_X3_lacksCredit : GoodIn wsX3_waitAt (wsV RX3 213 RX3 yX3_lacksCredit wsX3_lacksCredit) := goodIn_app (goodIn_of _ (by decide +kernel)) ggX3_waitAt_X3_lacksCredit
set_option maxRecDepth 20000 in
theorem ggX3_waitAt_X3_sendProbe : GoodIn wsX3_waitAt wsX3_sendProbe := goodIn_pp pxX3_waitAt pxX3_waitAt_in _ [(0, 22), (0, 23), (1, 0), (1, 1), (0, 2), (0, 3), (1, 2), (3, 0), (3, 1), (3, 2), (3, 3), (3, 4), (3, 5), (3, 6), (3, 7), (3, 8), (3, 9), (2, 0), (2, 1), (2, 2), (2, 3), (2, 4), (2, 5), (2, 6), (2, 7), (2, 8), (2, 9), (2, 10), (4, 0), (4, 1), (4, 2), (4, 3), (4, 4), (4, 5), (4, 6)] rfl (by decide +kernel)
set_option maxRecDepth 20000 in
theorem gX3_waitAt_X3_sendProbe : GoodIn wsX3_waitAt (wsV RX3 217 RX3 yX3_sendProbe wsX3_sendProbe) := goodIn_app (goodIn_of _ (by decide +kernel)) ggX3_waitAt_X3_sendProbe
theorem dX3_waitAt_0 : decode cX3_waitAt 0 = .ok (.iconst 0, 1) := by decide +kernel
theorem dX3_waitAt_1 : decode cX3_waitAt 1 = .ok (.istore_n 2, 1) := by decide +kernel
theorem dX3_waitAt_2 : decode cX3_waitAt 2 = .ok (.iload_n 2, 1) := by decide +kernel
theorem dX3_waitAt_3 : decode cX3_waitAt 3 = .ok (.aload_n 0, 1) := by decide +kernel
theorem dX3_waitAt_4 : decode cX3_waitAt 4 = .ok (.getfield 62, 3) := by decide +kernel
theorem dX3_waitAt_7 : decode cX3_waitAt 7 = .ok (.if_icmp .ge 73, 3) := by decide +kernel
theorem dX3_waitAt_10 : decode cX3_waitAt 10 = .ok (.aload_n 0, 1) := by decide +kernel
theorem dX3_waitAt_11 : decode cX3_waitAt 11 = .ok (.getfield 11, 3) := by decide +kernel
theorem dX3_waitAt_14 : decode cX3_waitAt 14 = .ok (.iload_n 1, 1) := by decide +kernel
theorem dX3_waitAt_15 : decode cX3_waitAt 15 = .ok (.aaload, 1) := by decide +kernel
theorem dX3_waitAt_16 : decode cX3_waitAt 16 = .ok (.getfield 128, 3) := by decide +kernel
theorem dX3_waitAt_19 : decode cX3_waitAt 19 = .ok (.iload_n 2, 1) := by decide +kernel
theorem dX3_waitAt_20 : decode cX3_waitAt 20 = .ok (.aaload, 1) := by decide +kernel
theorem dX3_waitAt_21 : decode cX3_waitAt 21 = .ok (.astore_n 3, 1) := by decide +kernel
theorem dX3_waitAt_22 : decode cX3_waitAt 22 = .ok (.aload_n 3, 1) := by decide +kernel
theorem dX3_waitAt_23 : decode cX3_waitAt 23 = .ok (.aload_n 0, 1) := by decide +kernel
theorem dX3_waitAt_24 : decode cX3_waitAt 24 = .ok (.iload_n 1, 1) := by decide +kernel
theorem dX3_waitAt_25 : decode cX3_waitAt 25 = .ok (.iload_n 2, 1) := by decide +kernel
theorem dX3_waitAt_26 : decode cX3_waitAt 26 = .ok (.invokevirtual 213, 3) := by decide +kernel
theorem dX3_waitAt_29 : decode cX3_waitAt 29 = .ok (.ifCond .eq 12, 3) := by decide +kernel
theorem dX3_waitAt_32 : decode cX3_waitAt 32 = .ok (.aload_n 3, 1) := by decide +kernel
theorem dX3_waitAt_33 : decode cX3_waitAt 33 = .ok (.getfield 210, 3) := by decide +kernel
theorem dX3_waitAt_36 : decode cX3_waitAt 36 = .ok (.iconst 1, 1) := by decide +kernel
theorem dX3_waitAt_37 : decode cX3_waitAt 37 = .ok (.iadd, 1) := by decide +kernel
theorem dX3_waitAt_38 : decode cX3_waitAt 38 = .ok (.goto 4, 3) := by decide +kernel
theorem dX3_waitAt_41 : decode cX3_waitAt 41 = .ok (.iconst 0, 1) := by decide +kernel
theorem dX3_waitAt_42 : decode cX3_waitAt 42 = .ok (.putfield 210, 3) := by decide +kernel
theorem dX3_waitAt_45 : decode cX3_waitAt 45 = .ok (.aload_n 0, 1) := by decide +kernel
theorem dX3_waitAt_46 : decode cX3_waitAt 46 = .ok (.getfield 50, 3) := by decide +kernel
theorem dX3_waitAt_49 : decode cX3_waitAt 49 = .ok (.ifCond .le 25, 3) := by decide +kernel
theorem dX3_waitAt_52 : decode cX3_waitAt 52 = .ok (.aload_n 3, 1) := by decide +kernel
theorem dX3_waitAt_53 : decode cX3_waitAt 53 = .ok (.getfield 210, 3) := by decide +kernel
theorem dX3_waitAt_56 : decode cX3_waitAt 56 = .ok (.aload_n 0, 1) := by decide +kernel
theorem dX3_waitAt_57 : decode cX3_waitAt 57 = .ok (.getfield 50, 3) := by decide +kernel
theorem dX3_waitAt_60 : decode cX3_waitAt 60 = .ok (.if_icmp .lt 14, 3) := by decide +kernel
theorem dX3_waitAt_63 : decode cX3_waitAt 63 = .ok (.aload_n 0, 1) := by decide +kernel
theorem dX3_waitAt_64 : decode cX3_waitAt 64 = .ok (.aload_n 0, 1) := by decide +kernel
theorem dX3_waitAt_65 : decode cX3_waitAt 65 = .ok (.getfield 11, 3) := by decide +kernel
theorem dX3_waitAt_68 : decode cX3_waitAt 68 = .ok (.iload_n 1, 1) := by decide +kernel
theorem dX3_waitAt_69 : decode cX3_waitAt 69 = .ok (.aaload, 1) := by decide +kernel
theorem dX3_waitAt_70 : decode cX3_waitAt 70 = .ok (.iload_n 2, 1) := by decide +kernel
theorem dX3_waitAt_71 : decode cX3_waitAt 71 = .ok (.invokevirtual 217, 3) := by decide +kernel
theorem dX3_waitAt_74 : decode cX3_waitAt 74 = .ok (.iinc 2 1, 3) := by decide +kernel
theorem dX3_waitAt_77 : decode cX3_waitAt 77 = .ok (.goto (-75), 3) := by decide +kernel
theorem dX3_waitAt_80 : decode cX3_waitAt 80 = .ok (.return_, 1) := by decide +kernel
theorem qxX3_adapt_0 : ∀ w ∈ ((((wsX3_adapt_r1 ++ wsX3_adapt_r2) ++ wsX30) ++ wsX20) ++ wsX10), w ∈ wsX3_adapt := fun w h => List.mem_cons_of_mem _ h
theorem qxX3_adapt_1 : ∀ w ∈ (((wsX3_adapt_r1 ++ wsX3_adapt_r2) ++ wsX30) ++ wsX20), w ∈ wsX3_adapt := in_l qxX3_adapt_0
theorem qxX3_adapt_2 : ∀ w ∈ wsX10, w ∈ wsX3_adapt := in_r qxX3_adapt_0
theorem qxX3_adapt_3 : ∀ w ∈ ((wsX3_adapt_r1 ++ wsX3_adapt_r2) ++ wsX30), w ∈ wsX3_adapt := in_l qxX3_adapt_1
theorem qxX3_adapt_4 : ∀ w ∈ wsX20, w ∈ wsX3_adapt := in_r qxX3_adapt_1
theorem qxX3_adapt_5 : ∀ w ∈ (wsX3_adapt_r1 ++ wsX3_adapt_r2), w ∈ wsX3_adapt := in_l qxX3_adapt_3
theorem qxX3_adapt_6 : ∀ w ∈ wsX30, w ∈ wsX3_adapt := in_r qxX3_adapt_3
theorem qxX3_adapt_7 : ∀ w ∈ wsX3_adapt_r1, w ∈ wsX3_adapt := in_l qxX3_adapt_5
theorem qxX3_adapt_8 : ∀ w ∈ wsX3_adapt_r2, w ∈ wsX3_adapt := in_r qxX3_adapt_5
def pxX3_adapt : List (List Cond) := [wsX3_adapt_r1, wsX3_adapt_r2, wsX30, wsX20, wsX10]
theorem pxX3_adapt_in : ∀ q ∈ pxX3_adapt, ∀ w ∈ q, w ∈ wsX3_adapt := lp_c qxX3_adapt_7 (lp_c qxX3_adapt_8 (lp_c qxX3_adapt_6 (lp_c qxX3_adapt_4 (lp_c qxX3_adapt_2 (lp_n)))))
set_option maxRecDepth 20000 in
theorem ggX3_adapt_X3_aimOf : GoodIn wsX3_adapt wsX3_aimOf := goodIn_pp pxX3_adapt pxX3_adapt_in _ [(0, 15), (0, 0), (0, 1), (0, 10), (0, 16), (0, 17), (2, 0), (2, 1), (2, 2), (2, 3), (2, 4), (2, 5), (2, 6), (2, 7), (2, 8), (2, 9), (2, 10), (3, 0), (3, 1), (3, 2), (3, 3), (3, 4), (3, 5), (3, 6), (3, 7), (3, 8), (3, 9), (4, 0), (4, 1), (4, 2), (4, 3), (4, 4), (4, 5), (4, 6)] rfl (by decide +kernel)
set_option maxRecDepth 20000 in
theorem gX3_adapt_X3_aimOf : GoodIn wsX3_adapt (wsV RX3 220 RX3 yX3_aimOf wsX3_aimOf) := goodIn_app (goodIn_of _ (by decide +kernel)) ggX3_adapt_X3_aimOf
set_option maxRecDepth 20000 in
theorem ggX3_adapt_X2_roomFor : GoodIn wsX3_adapt wsX2_roomFor := goodIn_pp pxX3_adapt pxX3_adapt_in _ [(0, 22), (0, 23), (1, 0), (1, 1), (1, 2), (0, 8), (0, 5), (0, 9), (1, 3), (1, 4), (1, 5), (1, 6), (1, 7), (1, 8), (1, 9), (3, 0), (3, 1), (3, 2), (3, 3), (3, 4), (3, 5), (3, 6), (3, 7), (3, 8), (3, 9), (4, 0), (4, 1), (4, 2), (4, 3), (4, 4), (4, 5), (4, 6)] rfl (by decide +kernel)
set_option maxRecDepth 20000 in
theorem gX3_adapt_X2_roomFor : GoodIn wsX3_adapt (wsV RX3 227 RX2 yX2_roomFor wsX2_roomFor) := goodIn_app (goodIn_of _ (by decide +kernel)) ggX3_adapt_X2_roomFor
theorem dX3_adapt_0 : decode cX3_adapt 0 = .ok (.iconst 0, 1) := by decide +kernel
theorem dX3_adapt_1 : decode cX3_adapt 1 = .ok (.istore_n 2, 1) := by decide +kernel
theorem dX3_adapt_2 : decode cX3_adapt 2 = .ok (.iload_n 2, 1) := by decide +kernel
theorem dX3_adapt_3 : decode cX3_adapt 3 = .ok (.aload_n 0, 1) := by decide +kernel
theorem dX3_adapt_4 : decode cX3_adapt 4 = .ok (.getfield 62, 3) := by decide +kernel
theorem dX3_adapt_7 : decode cX3_adapt 7 = .ok (.if_icmp .ge 33, 3) := by decide +kernel
theorem dX3_adapt_10 : decode cX3_adapt 10 = .ok (.aload_n 1, 1) := by decide +kernel
theorem dX3_adapt_11 : decode cX3_adapt 11 = .ok (.getfield 128, 3) := by decide +kernel
theorem dX3_adapt_14 : decode cX3_adapt 14 = .ok (.iload_n 2, 1) := by decide +kernel
theorem dX3_adapt_15 : decode cX3_adapt 15 = .ok (.aaload, 1) := by decide +kernel
theorem dX3_adapt_16 : decode cX3_adapt 16 = .ok (.astore_n 3, 1) := by decide +kernel
theorem dX3_adapt_17 : decode cX3_adapt 17 = .ok (.aload_n 3, 1) := by decide +kernel
theorem dX3_adapt_18 : decode cX3_adapt 18 = .ok (.aload_n 3, 1) := by decide +kernel
theorem dX3_adapt_19 : decode cX3_adapt 19 = .ok (.getfield 195, 3) := by decide +kernel
theorem dX3_adapt_22 : decode cX3_adapt 22 = .ok (.aload_n 0, 1) := by decide +kernel
theorem dX3_adapt_23 : decode cX3_adapt 23 = .ok (.aload_n 1, 1) := by decide +kernel
theorem dX3_adapt_24 : decode cX3_adapt 24 = .ok (.iload_n 2, 1) := by decide +kernel
theorem dX3_adapt_25 : decode cX3_adapt 25 = .ok (.invokevirtual 220, 3) := by decide +kernel
theorem dX3_adapt_28 : decode cX3_adapt 28 = .ok (.invokestatic 224, 3) := by decide +kernel
theorem dX3_adapt_31 : decode cX3_adapt 31 = .ok (.putfield 195, 3) := by decide +kernel
theorem dX3_adapt_34 : decode cX3_adapt 34 = .ok (.iinc 2 1, 3) := by decide +kernel
theorem dX3_adapt_37 : decode cX3_adapt 37 = .ok (.goto (-35), 3) := by decide +kernel
theorem dX3_adapt_40 : decode cX3_adapt 40 = .ok (.iconst 0, 1) := by decide +kernel
theorem dX3_adapt_41 : decode cX3_adapt 41 = .ok (.istore_n 2, 1) := by decide +kernel
theorem dX3_adapt_42 : decode cX3_adapt 42 = .ok (.iload_n 2, 1) := by decide +kernel
theorem dX3_adapt_43 : decode cX3_adapt 43 = .ok (.aload_n 0, 1) := by decide +kernel
theorem dX3_adapt_44 : decode cX3_adapt 44 = .ok (.getfield 62, 3) := by decide +kernel
theorem dX3_adapt_47 : decode cX3_adapt 47 = .ok (.if_icmp .ge 49, 3) := by decide +kernel
theorem dX3_adapt_50 : decode cX3_adapt 50 = .ok (.aload_n 1, 1) := by decide +kernel
theorem dX3_adapt_51 : decode cX3_adapt 51 = .ok (.getfield 128, 3) := by decide +kernel
theorem dX3_adapt_54 : decode cX3_adapt 54 = .ok (.iload_n 2, 1) := by decide +kernel
theorem dX3_adapt_55 : decode cX3_adapt 55 = .ok (.aaload, 1) := by decide +kernel
theorem dX3_adapt_56 : decode cX3_adapt 56 = .ok (.astore_n 3, 1) := by decide +kernel
theorem dX3_adapt_57 : decode cX3_adapt 57 = .ok (.aload_n 0, 1) := by decide +kernel
theorem dX3_adapt_58 : decode cX3_adapt 58 = .ok (.aload_n 1, 1) := by decide +kernel
theorem dX3_adapt_59 : decode cX3_adapt 59 = .ok (.iload_n 2, 1) := by decide +kernel
theorem dX3_adapt_60 : decode cX3_adapt 60 = .ok (.invokevirtual 220, 3) := by decide +kernel
theorem dX3_adapt_63 : decode cX3_adapt 63 = .ok (.aload_n 1, 1) := by decide +kernel
theorem dX3_adapt_64 : decode cX3_adapt 64 = .ok (.iload_n 2, 1) := by decide +kernel
theorem dX3_adapt_65 : decode cX3_adapt 65 = .ok (.aload_n 0, 1) := by decide +kernel
theorem dX3_adapt_66 : decode cX3_adapt 66 = .ok (.getfield 62, 3) := by decide +kernel
theorem dX3_adapt_69 : decode cX3_adapt 69 = .ok (.invokevirtual 227, 3) := by decide +kernel
theorem dX3_adapt_72 : decode cX3_adapt 72 = .ok (.invokestatic 224, 3) := by decide +kernel
theorem dX3_adapt_75 : decode cX3_adapt 75 = .ok (.istore 4, 2) := by decide +kernel
theorem dX3_adapt_77 : decode cX3_adapt 77 = .ok (.aload_n 3, 1) := by decide +kernel
theorem dX3_adapt_78 : decode cX3_adapt 78 = .ok (.aload_n 3, 1) := by decide +kernel
theorem dX3_adapt_79 : decode cX3_adapt 79 = .ok (.getfield 195, 3) := by decide +kernel
theorem dX3_adapt_82 : decode cX3_adapt 82 = .ok (.iload 4, 2) := by decide +kernel
theorem dX3_adapt_84 : decode cX3_adapt 84 = .ok (.invokestatic 64, 3) := by decide +kernel
theorem dX3_adapt_87 : decode cX3_adapt 87 = .ok (.putfield 195, 3) := by decide +kernel
theorem dX3_adapt_90 : decode cX3_adapt 90 = .ok (.iinc 2 1, 3) := by decide +kernel
theorem dX3_adapt_93 : decode cX3_adapt 93 = .ok (.goto (-51), 3) := by decide +kernel
theorem dX3_adapt_96 : decode cX3_adapt 96 = .ok (.iconst 0, 1) := by decide +kernel
theorem dX3_adapt_97 : decode cX3_adapt 97 = .ok (.istore_n 2, 1) := by decide +kernel
theorem dX3_adapt_98 : decode cX3_adapt 98 = .ok (.iload_n 2, 1) := by decide +kernel
theorem dX3_adapt_99 : decode cX3_adapt 99 = .ok (.aload_n 0, 1) := by decide +kernel
theorem dX3_adapt_100 : decode cX3_adapt 100 = .ok (.getfield 62, 3) := by decide +kernel
theorem dX3_adapt_103 : decode cX3_adapt 103 = .ok (.if_icmp .ge 19, 3) := by decide +kernel
theorem dX3_adapt_106 : decode cX3_adapt 106 = .ok (.aload_n 1, 1) := by decide +kernel
theorem dX3_adapt_107 : decode cX3_adapt 107 = .ok (.getfield 128, 3) := by decide +kernel
theorem dX3_adapt_110 : decode cX3_adapt 110 = .ok (.iload_n 2, 1) := by decide +kernel
theorem dX3_adapt_111 : decode cX3_adapt 111 = .ok (.aaload, 1) := by decide +kernel
theorem dX3_adapt_112 : decode cX3_adapt 112 = .ok (.iconst 0, 1) := by decide +kernel
theorem dX3_adapt_113 : decode cX3_adapt 113 = .ok (.putfield 189, 3) := by decide +kernel
theorem dX3_adapt_116 : decode cX3_adapt 116 = .ok (.iinc 2 1, 3) := by decide +kernel
theorem dX3_adapt_119 : decode cX3_adapt 119 = .ok (.goto (-21), 3) := by decide +kernel
theorem dX3_adapt_122 : decode cX3_adapt 122 = .ok (.return_, 1) := by decide +kernel
theorem dX3_aimOf_0 : decode cX3_aimOf 0 = .ok (.iconst 0, 1) := by decide +kernel
theorem dX3_aimOf_1 : decode cX3_aimOf 1 = .ok (.istore_n 3, 1) := by decide +kernel
theorem dX3_aimOf_2 : decode cX3_aimOf 2 = .ok (.iconst 0, 1) := by decide +kernel
theorem dX3_aimOf_3 : decode cX3_aimOf 3 = .ok (.istore 4, 2) := by decide +kernel
theorem dX3_aimOf_5 : decode cX3_aimOf 5 = .ok (.iload 4, 2) := by decide +kernel
theorem dX3_aimOf_7 : decode cX3_aimOf 7 = .ok (.aload_n 0, 1) := by decide +kernel
theorem dX3_aimOf_8 : decode cX3_aimOf 8 = .ok (.getfield 62, 3) := by decide +kernel
theorem dX3_aimOf_11 : decode cX3_aimOf 11 = .ok (.if_icmp .ge 22, 3) := by decide +kernel
theorem dX3_aimOf_14 : decode cX3_aimOf 14 = .ok (.iload_n 3, 1) := by decide +kernel
theorem dX3_aimOf_15 : decode cX3_aimOf 15 = .ok (.aload_n 1, 1) := by decide +kernel
theorem dX3_aimOf_16 : decode cX3_aimOf 16 = .ok (.getfield 128, 3) := by decide +kernel
theorem dX3_aimOf_19 : decode cX3_aimOf 19 = .ok (.iload 4, 2) := by decide +kernel
theorem dX3_aimOf_21 : decode cX3_aimOf 21 = .ok (.aaload, 1) := by decide +kernel
theorem dX3_aimOf_22 : decode cX3_aimOf 22 = .ok (.getfield 189, 3) := by decide +kernel
theorem dX3_aimOf_25 : decode cX3_aimOf 25 = .ok (.iadd, 1) := by decide +kernel
theorem dX3_aimOf_26 : decode cX3_aimOf 26 = .ok (.istore_n 3, 1) := by decide +kernel
theorem dX3_aimOf_27 : decode cX3_aimOf 27 = .ok (.iinc 4 1, 3) := by decide +kernel
theorem dX3_aimOf_30 : decode cX3_aimOf 30 = .ok (.goto (-25), 3) := by decide +kernel
theorem dX3_aimOf_33 : decode cX3_aimOf 33 = .ok (.aload_n 1, 1) := by decide +kernel
theorem dX3_aimOf_34 : decode cX3_aimOf 34 = .ok (.getfield 230, 3) := by decide +kernel
theorem dX3_aimOf_37 : decode cX3_aimOf 37 = .ok (.aload_n 0, 1) := by decide +kernel
theorem dX3_aimOf_38 : decode cX3_aimOf 38 = .ok (.getfield 59, 3) := by decide +kernel
theorem dX3_aimOf_41 : decode cX3_aimOf 41 = .ok (.aload_n 0, 1) := by decide +kernel
theorem dX3_aimOf_42 : decode cX3_aimOf 42 = .ok (.getfield 62, 3) := by decide +kernel
theorem dX3_aimOf_45 : decode cX3_aimOf 45 = .ok (.imul, 1) := by decide +kernel
theorem dX3_aimOf_46 : decode cX3_aimOf 46 = .ok (.isub, 1) := by decide +kernel
theorem dX3_aimOf_47 : decode cX3_aimOf 47 = .ok (.istore 4, 2) := by decide +kernel
theorem dX3_aimOf_49 : decode cX3_aimOf 49 = .ok (.iload_n 3, 1) := by decide +kernel
theorem dX3_aimOf_50 : decode cX3_aimOf 50 = .ok (.ifCond .le 23, 3) := by decide +kernel
theorem dX3_aimOf_53 : decode cX3_aimOf 53 = .ok (.aload_n 0, 1) := by decide +kernel
theorem dX3_aimOf_54 : decode cX3_aimOf 54 = .ok (.getfield 59, 3) := by decide +kernel
theorem dX3_aimOf_57 : decode cX3_aimOf 57 = .ok (.iload 4, 2) := by decide +kernel
theorem dX3_aimOf_59 : decode cX3_aimOf 59 = .ok (.aload_n 1, 1) := by decide +kernel
theorem dX3_aimOf_60 : decode cX3_aimOf 60 = .ok (.getfield 128, 3) := by decide +kernel
theorem dX3_aimOf_63 : decode cX3_aimOf 63 = .ok (.iload_n 2, 1) := by decide +kernel
theorem dX3_aimOf_64 : decode cX3_aimOf 64 = .ok (.aaload, 1) := by decide +kernel
theorem dX3_aimOf_65 : decode cX3_aimOf 65 = .ok (.getfield 189, 3) := by decide +kernel
theorem dX3_aimOf_68 : decode cX3_aimOf 68 = .ok (.imul, 1) := by decide +kernel
theorem dX3_aimOf_69 : decode cX3_aimOf 69 = .ok (.iload_n 3, 1) := by decide +kernel
theorem dX3_aimOf_70 : decode cX3_aimOf 70 = .ok (.idiv, 1) := by decide +kernel
theorem dX3_aimOf_71 : decode cX3_aimOf 71 = .ok (.iadd, 1) := by decide +kernel
theorem dX3_aimOf_72 : decode cX3_aimOf 72 = .ok (.ireturn, 1) := by decide +kernel
theorem dX3_aimOf_73 : decode cX3_aimOf 73 = .ok (.aload_n 0, 1) := by decide +kernel
theorem dX3_aimOf_74 : decode cX3_aimOf 74 = .ok (.getfield 62, 3) := by decide +kernel
theorem dX3_aimOf_77 : decode cX3_aimOf 77 = .ok (.ifCond .le 18, 3) := by decide +kernel
theorem dX3_aimOf_80 : decode cX3_aimOf 80 = .ok (.aload_n 0, 1) := by decide +kernel
theorem dX3_aimOf_81 : decode cX3_aimOf 81 = .ok (.getfield 59, 3) := by decide +kernel
theorem dX3_aimOf_84 : decode cX3_aimOf 84 = .ok (.iload 4, 2) := by decide +kernel
theorem dX3_aimOf_86 : decode cX3_aimOf 86 = .ok (.aload_n 0, 1) := by decide +kernel
theorem dX3_aimOf_87 : decode cX3_aimOf 87 = .ok (.getfield 62, 3) := by decide +kernel
theorem dX3_aimOf_90 : decode cX3_aimOf 90 = .ok (.idiv, 1) := by decide +kernel
theorem dX3_aimOf_91 : decode cX3_aimOf 91 = .ok (.iadd, 1) := by decide +kernel
theorem dX3_aimOf_92 : decode cX3_aimOf 92 = .ok (.goto 7, 3) := by decide +kernel
theorem dX3_aimOf_95 : decode cX3_aimOf 95 = .ok (.aload_n 0, 1) := by decide +kernel
theorem dX3_aimOf_96 : decode cX3_aimOf 96 = .ok (.getfield 59, 3) := by decide +kernel
theorem dX3_aimOf_99 : decode cX3_aimOf 99 = .ok (.ireturn, 1) := by decide +kernel
theorem dX3_waitingAt_0 : decode cX3_waitingAt 0 = .ok (.aload_n 0, 1) := by decide +kernel
theorem dX3_waitingAt_1 : decode cX3_waitingAt 1 = .ok (.getfield 23, 3) := by decide +kernel
theorem dX3_waitingAt_4 : decode cX3_waitingAt 4 = .ok (.iload_n 1, 1) := by decide +kernel
theorem dX3_waitingAt_5 : decode cX3_waitingAt 5 = .ok (.iconst 3, 1) := by decide +kernel
theorem dX3_waitingAt_6 : decode cX3_waitingAt 6 = .ok (.imul, 1) := by decide +kernel
theorem dX3_waitingAt_7 : decode cX3_waitingAt 7 = .ok (.iload_n 2, 1) := by decide +kernel
theorem dX3_waitingAt_8 : decode cX3_waitingAt 8 = .ok (.iadd, 1) := by decide +kernel
theorem dX3_waitingAt_9 : decode cX3_waitingAt 9 = .ok (.iaload, 1) := by decide +kernel
theorem dX3_waitingAt_10 : decode cX3_waitingAt 10 = .ok (.ireturn, 1) := by decide +kernel
set_option maxRecDepth 20000 in
theorem ggX3_lacksCredit_X1_out : GoodIn wsX3_lacksCredit wsX1_out := goodIn_r _ [9, 10, 11, 33, 34, 35, 36, 37, 38, 39] (by decide +kernel) (by decide +kernel)
set_option maxRecDepth 20000 in
theorem gX3_lacksCredit_X1_out : GoodIn wsX3_lacksCredit (wsV RX3 192 RX1 yX1_out wsX1_out) := goodIn_app (goodIn_of _ (by decide +kernel)) ggX3_lacksCredit_X1_out
theorem dX3_lacksCredit_0 : decode cX3_lacksCredit 0 = .ok (.aload_n 0, 1) := by decide +kernel
theorem dX3_lacksCredit_1 : decode cX3_lacksCredit 1 = .ok (.getfield 23, 3) := by decide +kernel
theorem dX3_lacksCredit_4 : decode cX3_lacksCredit 4 = .ok (.iload_n 1, 1) := by decide +kernel
theorem dX3_lacksCredit_5 : decode cX3_lacksCredit 5 = .ok (.iconst 3, 1) := by decide +kernel
theorem dX3_lacksCredit_6 : decode cX3_lacksCredit 6 = .ok (.imul, 1) := by decide +kernel
theorem dX3_lacksCredit_7 : decode cX3_lacksCredit 7 = .ok (.iload_n 2, 1) := by decide +kernel
theorem dX3_lacksCredit_8 : decode cX3_lacksCredit 8 = .ok (.iadd, 1) := by decide +kernel
theorem dX3_lacksCredit_9 : decode cX3_lacksCredit 9 = .ok (.iaload, 1) := by decide +kernel
theorem dX3_lacksCredit_10 : decode cX3_lacksCredit 10 = .ok (.ifCond .le 38, 3) := by decide +kernel
theorem dX3_lacksCredit_13 : decode cX3_lacksCredit 13 = .ok (.aload_n 0, 1) := by decide +kernel
theorem dX3_lacksCredit_14 : decode cX3_lacksCredit 14 = .ok (.getfield 11, 3) := by decide +kernel
theorem dX3_lacksCredit_17 : decode cX3_lacksCredit 17 = .ok (.iload_n 1, 1) := by decide +kernel
theorem dX3_lacksCredit_18 : decode cX3_lacksCredit 18 = .ok (.aaload, 1) := by decide +kernel
theorem dX3_lacksCredit_19 : decode cX3_lacksCredit 19 = .ok (.getfield 128, 3) := by decide +kernel
theorem dX3_lacksCredit_22 : decode cX3_lacksCredit 22 = .ok (.iload_n 2, 1) := by decide +kernel
theorem dX3_lacksCredit_23 : decode cX3_lacksCredit 23 = .ok (.aaload, 1) := by decide +kernel
theorem dX3_lacksCredit_24 : decode cX3_lacksCredit 24 = .ok (.invokevirtual 192, 3) := by decide +kernel
theorem dX3_lacksCredit_27 : decode cX3_lacksCredit 27 = .ok (.aload_n 0, 1) := by decide +kernel
theorem dX3_lacksCredit_28 : decode cX3_lacksCredit 28 = .ok (.getfield 11, 3) := by decide +kernel
theorem dX3_lacksCredit_31 : decode cX3_lacksCredit 31 = .ok (.iload_n 1, 1) := by decide +kernel
theorem dX3_lacksCredit_32 : decode cX3_lacksCredit 32 = .ok (.aaload, 1) := by decide +kernel
theorem dX3_lacksCredit_33 : decode cX3_lacksCredit 33 = .ok (.getfield 128, 3) := by decide +kernel
theorem dX3_lacksCredit_36 : decode cX3_lacksCredit 36 = .ok (.iload_n 2, 1) := by decide +kernel
theorem dX3_lacksCredit_37 : decode cX3_lacksCredit 37 = .ok (.aaload, 1) := by decide +kernel
theorem dX3_lacksCredit_38 : decode cX3_lacksCredit 38 = .ok (.getfield 195, 3) := by decide +kernel
theorem dX3_lacksCredit_41 : decode cX3_lacksCredit 41 = .ok (.if_icmp .lt 7, 3) := by decide +kernel
theorem dX3_lacksCredit_44 : decode cX3_lacksCredit 44 = .ok (.iconst 1, 1) := by decide +kernel
theorem dX3_lacksCredit_45 : decode cX3_lacksCredit 45 = .ok (.goto 4, 3) := by decide +kernel
theorem dX3_lacksCredit_48 : decode cX3_lacksCredit 48 = .ok (.iconst 0, 1) := by decide +kernel
theorem dX3_lacksCredit_49 : decode cX3_lacksCredit 49 = .ok (.ireturn, 1) := by decide +kernel
set_option maxRecDepth 20000 in
theorem ggX3_crowd_X3_waitingAt : GoodIn wsX3_crowd wsX3_waitingAt := goodIn_r _ [7, 8, 15, 16, 17, 18, 19, 20, 21, 22, 23, 24, 25] (by decide +kernel) (by decide +kernel)
set_option maxRecDepth 20000 in
theorem gX3_crowd_X3_waitingAt : GoodIn wsX3_crowd (wsV RX3 233 RX3 yX3_waitingAt wsX3_waitingAt) := goodIn_app (goodIn_of _ (by decide +kernel)) ggX3_crowd_X3_waitingAt
set_option maxRecDepth 20000 in
theorem ggX3_crowd_X2_cellsOnOf : GoodIn wsX3_crowd wsX2_cellsOnOf := goodIn_r _ [13, 14, 26, 27, 28, 29, 30, 31, 32, 33, 34, 35] (by decide +kernel) (by decide +kernel)
set_option maxRecDepth 20000 in
theorem gX3_crowd_X2_cellsOnOf : GoodIn wsX3_crowd (wsV RX3 236 RX2 yX2_cellsOnOf wsX2_cellsOnOf) := goodIn_app (goodIn_of _ (by decide +kernel)) ggX3_crowd_X2_cellsOnOf
theorem dX3_crowd_0 : decode cX3_crowd 0 = .ok (.iload_n 3, 1) := by decide +kernel
theorem dX3_crowd_1 : decode cX3_crowd 1 = .ok (.ifCond .eq 8, 3) := by decide +kernel
theorem dX3_crowd_4 : decode cX3_crowd 4 = .ok (.iload_n 3, 1) := by decide +kernel
theorem dX3_crowd_5 : decode cX3_crowd 5 = .ok (.iconst 3, 1) := by decide +kernel
theorem dX3_crowd_6 : decode cX3_crowd 6 = .ok (.if_icmp .ne 7, 3) := by decide +kernel
theorem dX3_crowd_9 : decode cX3_crowd 9 = .ok (.iconst 1, 1) := by decide +kernel
theorem dX3_crowd_10 : decode cX3_crowd 10 = .ok (.goto 4, 3) := by decide +kernel
theorem dX3_crowd_13 : decode cX3_crowd 13 = .ok (.iconst 0, 1) := by decide +kernel
theorem dX3_crowd_14 : decode cX3_crowd 14 = .ok (.istore 4, 2) := by decide +kernel
theorem dX3_crowd_16 : decode cX3_crowd 16 = .ok (.iload_n 3, 1) := by decide +kernel
theorem dX3_crowd_17 : decode cX3_crowd 17 = .ok (.iconst 2, 1) := by decide +kernel
theorem dX3_crowd_18 : decode cX3_crowd 18 = .ok (.if_icmp .lt 11, 3) := by decide +kernel
theorem dX3_crowd_21 : decode cX3_crowd 21 = .ok (.iload_n 1, 1) := by decide +kernel
theorem dX3_crowd_22 : decode cX3_crowd 22 = .ok (.ifCond .le 7, 3) := by decide +kernel
theorem dX3_crowd_25 : decode cX3_crowd 25 = .ok (.iconst 1, 1) := by decide +kernel
theorem dX3_crowd_26 : decode cX3_crowd 26 = .ok (.goto 4, 3) := by decide +kernel
theorem dX3_crowd_29 : decode cX3_crowd 29 = .ok (.iconst 0, 1) := by decide +kernel
theorem dX3_crowd_30 : decode cX3_crowd 30 = .ok (.istore 5, 2) := by decide +kernel
theorem dX3_crowd_32 : decode cX3_crowd 32 = .ok (.iconst 0, 1) := by decide +kernel
theorem dX3_crowd_33 : decode cX3_crowd 33 = .ok (.istore 6, 2) := by decide +kernel
theorem dX3_crowd_35 : decode cX3_crowd 35 = .ok (.iconst 0, 1) := by decide +kernel
theorem dX3_crowd_36 : decode cX3_crowd 36 = .ok (.istore 7, 2) := by decide +kernel
theorem dX3_crowd_38 : decode cX3_crowd 38 = .ok (.iload 7, 2) := by decide +kernel
theorem dX3_crowd_40 : decode cX3_crowd 40 = .ok (.aload_n 0, 1) := by decide +kernel
theorem dX3_crowd_41 : decode cX3_crowd 41 = .ok (.getfield 62, 3) := by decide +kernel
theorem dX3_crowd_44 : decode cX3_crowd 44 = .ok (.if_icmp .ge 55, 3) := by decide +kernel
theorem dX3_crowd_47 : decode cX3_crowd 47 = .ok (.iload 4, 2) := by decide +kernel
theorem dX3_crowd_49 : decode cX3_crowd 49 = .ok (.ifCond .eq 9, 3) := by decide +kernel
theorem dX3_crowd_52 : decode cX3_crowd 52 = .ok (.iload 7, 2) := by decide +kernel
theorem dX3_crowd_54 : decode cX3_crowd 54 = .ok (.iload_n 2, 1) := by decide +kernel
theorem dX3_crowd_55 : decode cX3_crowd 55 = .ok (.if_icmp .ne 38, 3) := by decide +kernel
theorem dX3_crowd_58 : decode cX3_crowd 58 = .ok (.iload 6, 2) := by decide +kernel
theorem dX3_crowd_60 : decode cX3_crowd 60 = .ok (.aload_n 0, 1) := by decide +kernel
theorem dX3_crowd_61 : decode cX3_crowd 61 = .ok (.iload_n 1, 1) := by decide +kernel
theorem dX3_crowd_62 : decode cX3_crowd 62 = .ok (.iload 7, 2) := by decide +kernel
theorem dX3_crowd_64 : decode cX3_crowd 64 = .ok (.invokevirtual 233, 3) := by decide +kernel
theorem dX3_crowd_67 : decode cX3_crowd 67 = .ok (.iadd, 1) := by decide +kernel
theorem dX3_crowd_68 : decode cX3_crowd 68 = .ok (.istore 6, 2) := by decide +kernel
theorem dX3_crowd_70 : decode cX3_crowd 70 = .ok (.iload 5, 2) := by decide +kernel
theorem dX3_crowd_72 : decode cX3_crowd 72 = .ok (.ifCond .eq 21, 3) := by decide +kernel
theorem dX3_crowd_75 : decode cX3_crowd 75 = .ok (.iload 6, 2) := by decide +kernel
theorem dX3_crowd_77 : decode cX3_crowd 77 = .ok (.aload_n 0, 1) := by decide +kernel
theorem dX3_crowd_78 : decode cX3_crowd 78 = .ok (.getfield 11, 3) := by decide +kernel
theorem dX3_crowd_81 : decode cX3_crowd 81 = .ok (.iload_n 1, 1) := by decide +kernel
theorem dX3_crowd_82 : decode cX3_crowd 82 = .ok (.iconst 1, 1) := by decide +kernel
theorem dX3_crowd_83 : decode cX3_crowd 83 = .ok (.isub, 1) := by decide +kernel
theorem dX3_crowd_84 : decode cX3_crowd 84 = .ok (.aaload, 1) := by decide +kernel
theorem dX3_crowd_85 : decode cX3_crowd 85 = .ok (.iload 7, 2) := by decide +kernel
theorem dX3_crowd_87 : decode cX3_crowd 87 = .ok (.invokevirtual 236, 3) := by decide +kernel
theorem dX3_crowd_90 : decode cX3_crowd 90 = .ok (.iadd, 1) := by decide +kernel
theorem dX3_crowd_91 : decode cX3_crowd 91 = .ok (.istore 6, 2) := by decide +kernel
theorem dX3_crowd_93 : decode cX3_crowd 93 = .ok (.iinc 7 1, 3) := by decide +kernel
theorem dX3_crowd_96 : decode cX3_crowd 96 = .ok (.goto (-58), 3) := by decide +kernel
theorem dX3_crowd_99 : decode cX3_crowd 99 = .ok (.iload 6, 2) := by decide +kernel
theorem dX3_crowd_101 : decode cX3_crowd 101 = .ok (.ireturn, 1) := by decide +kernel
set_option maxRecDepth 20000 in
theorem ggX3_cellsOf_X3_waitingAt : GoodIn wsX3_cellsOf wsX3_waitingAt := goodIn_r _ [7, 8, 15, 16, 17, 18, 19, 20, 21, 22, 23, 24, 25] (by decide +kernel) (by decide +kernel)
set_option maxRecDepth 20000 in
theorem gX3_cellsOf_X3_waitingAt : GoodIn wsX3_cellsOf (wsV RX3 233 RX3 yX3_waitingAt wsX3_waitingAt) := goodIn_app (goodIn_of _ (by decide +kernel)) ggX3_cellsOf_X3_waitingAt
set_option maxRecDepth 20000 in
theorem ggX3_cellsOf_X2_cellsOnOf : GoodIn wsX3_cellsOf wsX2_cellsOnOf := goodIn_r _ [13, 14, 26, 27, 28, 29, 30, 31, 32, 33, 34, 35] (by decide +kernel) (by decide +kernel)
set_option maxRecDepth 20000 in
theorem gX3_cellsOf_X2_cellsOnOf : GoodIn wsX3_cellsOf (wsV RX3 236 RX2 yX2_cellsOnOf wsX2_cellsOnOf) := goodIn_app (goodIn_of _ (by decide +kernel)) ggX3_cellsOf_X2_cellsOnOf
theorem dX3_cellsOf_0 : decode cX3_cellsOf 0 = .ok (.iconst 0, 1) := by decide +kernel
theorem dX3_cellsOf_1 : decode cX3_cellsOf 1 = .ok (.istore_n 2, 1) := by decide +kernel
theorem dX3_cellsOf_2 : decode cX3_cellsOf 2 = .ok (.iconst 0, 1) := by decide +kernel
theorem dX3_cellsOf_3 : decode cX3_cellsOf 3 = .ok (.istore_n 3, 1) := by decide +kernel
theorem dX3_cellsOf_4 : decode cX3_cellsOf 4 = .ok (.iload_n 3, 1) := by decide +kernel
theorem dX3_cellsOf_5 : decode cX3_cellsOf 5 = .ok (.aload_n 0, 1) := by decide +kernel
theorem dX3_cellsOf_6 : decode cX3_cellsOf 6 = .ok (.getfield 53, 3) := by decide +kernel
theorem dX3_cellsOf_9 : decode cX3_cellsOf 9 = .ok (.if_icmp .gt 18, 3) := by decide +kernel
theorem dX3_cellsOf_12 : decode cX3_cellsOf 12 = .ok (.iload_n 2, 1) := by decide +kernel
theorem dX3_cellsOf_13 : decode cX3_cellsOf 13 = .ok (.aload_n 0, 1) := by decide +kernel
theorem dX3_cellsOf_14 : decode cX3_cellsOf 14 = .ok (.iload_n 3, 1) := by decide +kernel
theorem dX3_cellsOf_15 : decode cX3_cellsOf 15 = .ok (.iload_n 1, 1) := by decide +kernel
theorem dX3_cellsOf_16 : decode cX3_cellsOf 16 = .ok (.invokevirtual 233, 3) := by decide +kernel
theorem dX3_cellsOf_19 : decode cX3_cellsOf 19 = .ok (.iadd, 1) := by decide +kernel
theorem dX3_cellsOf_20 : decode cX3_cellsOf 20 = .ok (.istore_n 2, 1) := by decide +kernel
theorem dX3_cellsOf_21 : decode cX3_cellsOf 21 = .ok (.iinc 3 1, 3) := by decide +kernel
theorem dX3_cellsOf_24 : decode cX3_cellsOf 24 = .ok (.goto (-20), 3) := by decide +kernel
theorem dX3_cellsOf_27 : decode cX3_cellsOf 27 = .ok (.iconst 0, 1) := by decide +kernel
theorem dX3_cellsOf_28 : decode cX3_cellsOf 28 = .ok (.istore_n 3, 1) := by decide +kernel
theorem dX3_cellsOf_29 : decode cX3_cellsOf 29 = .ok (.iload_n 3, 1) := by decide +kernel
theorem dX3_cellsOf_30 : decode cX3_cellsOf 30 = .ok (.aload_n 0, 1) := by decide +kernel
theorem dX3_cellsOf_31 : decode cX3_cellsOf 31 = .ok (.getfield 53, 3) := by decide +kernel
theorem dX3_cellsOf_34 : decode cX3_cellsOf 34 = .ok (.if_icmp .ge 22, 3) := by decide +kernel
theorem dX3_cellsOf_37 : decode cX3_cellsOf 37 = .ok (.iload_n 2, 1) := by decide +kernel
theorem dX3_cellsOf_38 : decode cX3_cellsOf 38 = .ok (.aload_n 0, 1) := by decide +kernel
theorem dX3_cellsOf_39 : decode cX3_cellsOf 39 = .ok (.getfield 11, 3) := by decide +kernel
theorem dX3_cellsOf_42 : decode cX3_cellsOf 42 = .ok (.iload_n 3, 1) := by decide +kernel
theorem dX3_cellsOf_43 : decode cX3_cellsOf 43 = .ok (.aaload, 1) := by decide +kernel
theorem dX3_cellsOf_44 : decode cX3_cellsOf 44 = .ok (.iload_n 1, 1) := by decide +kernel
theorem dX3_cellsOf_45 : decode cX3_cellsOf 45 = .ok (.invokevirtual 236, 3) := by decide +kernel
theorem dX3_cellsOf_48 : decode cX3_cellsOf 48 = .ok (.iadd, 1) := by decide +kernel
theorem dX3_cellsOf_49 : decode cX3_cellsOf 49 = .ok (.istore_n 2, 1) := by decide +kernel
theorem dX3_cellsOf_50 : decode cX3_cellsOf 50 = .ok (.iinc 3 1, 3) := by decide +kernel
theorem dX3_cellsOf_53 : decode cX3_cellsOf 53 = .ok (.goto (-24), 3) := by decide +kernel
theorem dX3_cellsOf_56 : decode cX3_cellsOf 56 = .ok (.iload_n 2, 1) := by decide +kernel
theorem dX3_cellsOf_57 : decode cX3_cellsOf 57 = .ok (.ireturn, 1) := by decide +kernel
theorem qxX3_cellsOfAll_0 : ∀ w ∈ (([.fieldLink RX3 62 "HopCredits$Net" "circuits" "I", .methodLink RX3 239 yX3_cellsOf, .instanceMethod yX3_cellsOf, .selects RX3 yX3_cellsOf yX3_cellsOf, .initialized RX3, .code yX3_cellsOf cX3_cellsOf 4 (some .int), .fieldLink RX3 53 "HopCredits$Net" "hops" "I", .fieldLink RX3 11 "HopCredits$Net" "links" "[LHopCredits$Link;", .methodLink RX3 233 yX3_waitingAt, .instanceMethod yX3_waitingAt, .selects RX3 yX3_waitingAt yX3_waitingAt, .code yX3_waitingAt cX3_waitingAt 3 (some .int), .fieldLink RX3 23 "HopCredits$Net" "buffers" "[I", .methodLink RX3 236 yX2_cellsOnOf, .instanceMethod yX2_cellsOnOf, .selects RX2 yX2_cellsOnOf yX2_cellsOnOf, .initialized RX2, .code yX2_cellsOnOf cX2_cellsOnOf 4 (some .int), .fieldLink RX2 9 "HopCredits$Link" "cellAt" "[I"] ++ wsX30) ++ wsX20), w ∈ wsX3_cellsOfAll := fun w h => List.mem_cons_of_mem _ h
theorem qxX3_cellsOfAll_1 : ∀ w ∈ ([.fieldLink RX3 62 "HopCredits$Net" "circuits" "I", .methodLink RX3 239 yX3_cellsOf, .instanceMethod yX3_cellsOf, .selects RX3 yX3_cellsOf yX3_cellsOf, .initialized RX3, .code yX3_cellsOf cX3_cellsOf 4 (some .int), .fieldLink RX3 53 "HopCredits$Net" "hops" "I", .fieldLink RX3 11 "HopCredits$Net" "links" "[LHopCredits$Link;", .methodLink RX3 233 yX3_waitingAt, .instanceMethod yX3_waitingAt, .selects RX3 yX3_waitingAt yX3_waitingAt, .code yX3_waitingAt cX3_waitingAt 3 (some .int), .fieldLink RX3 23 "HopCredits$Net" "buffers" "[I", .methodLink RX3 236 yX2_cellsOnOf, .instanceMethod yX2_cellsOnOf, .selects RX2 yX2_cellsOnOf yX2_cellsOnOf, .initialized RX2, .code yX2_cellsOnOf cX2_cellsOnOf 4 (some .int), .fieldLink RX2 9 "HopCredits$Link" "cellAt" "[I"] ++ wsX30), w ∈ wsX3_cellsOfAll := in_l qxX3_cellsOfAll_0
theorem qxX3_cellsOfAll_2 : ∀ w ∈ wsX20, w ∈ wsX3_cellsOfAll := in_r qxX3_cellsOfAll_0
theorem qxX3_cellsOfAll_3 : ∀ w ∈ [.fieldLink RX3 62 "HopCredits$Net" "circuits" "I", .methodLink RX3 239 yX3_cellsOf, .instanceMethod yX3_cellsOf, .selects RX3 yX3_cellsOf yX3_cellsOf, .initialized RX3, .code yX3_cellsOf cX3_cellsOf 4 (some .int), .fieldLink RX3 53 "HopCredits$Net" "hops" "I", .fieldLink RX3 11 "HopCredits$Net" "links" "[LHopCredits$Link;", .methodLink RX3 233 yX3_waitingAt, .instanceMethod yX3_waitingAt, .selects RX3 yX3_waitingAt yX3_waitingAt, .code yX3_waitingAt cX3_waitingAt 3 (some .int), .fieldLink RX3 23 "HopCredits$Net" "buffers" "[I", .methodLink RX3 236 yX2_cellsOnOf, .instanceMethod yX2_cellsOnOf, .selects RX2 yX2_cellsOnOf yX2_cellsOnOf, .initialized RX2, .code yX2_cellsOnOf cX2_cellsOnOf 4 (some .int), .fieldLink RX2 9 "HopCredits$Link" "cellAt" "[I"], w ∈ wsX3_cellsOfAll := in_l qxX3_cellsOfAll_1
theorem qxX3_cellsOfAll_4 : ∀ w ∈ wsX30, w ∈ wsX3_cellsOfAll := in_r qxX3_cellsOfAll_1
def pxX3_cellsOfAll : List (List Cond) := [[.fieldLink RX3 62 "HopCredits$Net" "circuits" "I", .methodLink RX3 239 yX3_cellsOf, .instanceMethod yX3_cellsOf, .selects RX3 yX3_cellsOf yX3_cellsOf, .initialized RX3, .code yX3_cellsOf cX3_cellsOf 4 (some .int), .fieldLink RX3 53 "HopCredits$Net" "hops" "I", .fieldLink RX3 11 "HopCredits$Net" "links" "[LHopCredits$Link;", .methodLink RX3 233 yX3_waitingAt, .instanceMethod yX3_waitingAt, .selects RX3 yX3_waitingAt yX3_waitingAt, .code yX3_waitingAt cX3_waitingAt 3 (some .int), .fieldLink RX3 23 "HopCredits$Net" "buffers" "[I", .methodLink RX3 236 yX2_cellsOnOf, .instanceMethod yX2_cellsOnOf, .selects RX2 yX2_cellsOnOf yX2_cellsOnOf, .initialized RX2, .code yX2_cellsOnOf cX2_cellsOnOf 4 (some .int), .fieldLink RX2 9 "HopCredits$Link" "cellAt" "[I"], wsX30, wsX20]
theorem pxX3_cellsOfAll_in : ∀ q ∈ pxX3_cellsOfAll, ∀ w ∈ q, w ∈ wsX3_cellsOfAll := lp_c qxX3_cellsOfAll_3 (lp_c qxX3_cellsOfAll_4 (lp_c qxX3_cellsOfAll_2 (lp_n)))
set_option maxRecDepth 20000 in
theorem ggX3_cellsOfAll_X3_cellsOf : GoodIn wsX3_cellsOfAll wsX3_cellsOf := goodIn_pp pxX3_cellsOfAll pxX3_cellsOfAll_in _ [(0, 5), (0, 6), (0, 7), (0, 8), (0, 9), (0, 10), (0, 4), (0, 11), (0, 12), (0, 13), (0, 14), (0, 15), (0, 16), (0, 17), (0, 18), (1, 0), (1, 1), (1, 2), (1, 3), (1, 4), (1, 5), (1, 6), (1, 7), (1, 8), (1, 9), (1, 10), (2, 0), (2, 1), (2, 2), (2, 3), (2, 4), (2, 5), (2, 6), (2, 7), (2, 8), (2, 9)] rfl (by decide +kernel)
set_option maxRecDepth 20000 in
theorem gX3_cellsOfAll_X3_cellsOf : GoodIn wsX3_cellsOfAll (wsV RX3 239 RX3 yX3_cellsOf wsX3_cellsOf) := goodIn_app (goodIn_of _ (by decide +kernel)) ggX3_cellsOfAll_X3_cellsOf
theorem dX3_cellsOfAll_0 : decode cX3_cellsOfAll 0 = .ok (.iconst 0, 1) := by decide +kernel
theorem dX3_cellsOfAll_1 : decode cX3_cellsOfAll 1 = .ok (.istore_n 1, 1) := by decide +kernel
theorem dX3_cellsOfAll_2 : decode cX3_cellsOfAll 2 = .ok (.iconst 0, 1) := by decide +kernel
theorem dX3_cellsOfAll_3 : decode cX3_cellsOfAll 3 = .ok (.istore_n 2, 1) := by decide +kernel
theorem dX3_cellsOfAll_4 : decode cX3_cellsOfAll 4 = .ok (.iload_n 2, 1) := by decide +kernel
theorem dX3_cellsOfAll_5 : decode cX3_cellsOfAll 5 = .ok (.aload_n 0, 1) := by decide +kernel
theorem dX3_cellsOfAll_6 : decode cX3_cellsOfAll 6 = .ok (.getfield 62, 3) := by decide +kernel
theorem dX3_cellsOfAll_9 : decode cX3_cellsOfAll 9 = .ok (.if_icmp .ge 17, 3) := by decide +kernel
theorem dX3_cellsOfAll_12 : decode cX3_cellsOfAll 12 = .ok (.iload_n 1, 1) := by decide +kernel
theorem dX3_cellsOfAll_13 : decode cX3_cellsOfAll 13 = .ok (.aload_n 0, 1) := by decide +kernel
theorem dX3_cellsOfAll_14 : decode cX3_cellsOfAll 14 = .ok (.iload_n 2, 1) := by decide +kernel
theorem dX3_cellsOfAll_15 : decode cX3_cellsOfAll 15 = .ok (.invokevirtual 239, 3) := by decide +kernel
theorem dX3_cellsOfAll_18 : decode cX3_cellsOfAll 18 = .ok (.iadd, 1) := by decide +kernel
theorem dX3_cellsOfAll_19 : decode cX3_cellsOfAll 19 = .ok (.istore_n 1, 1) := by decide +kernel
theorem dX3_cellsOfAll_20 : decode cX3_cellsOfAll 20 = .ok (.iinc 2 1, 3) := by decide +kernel
theorem dX3_cellsOfAll_23 : decode cX3_cellsOfAll 23 = .ok (.goto (-19), 3) := by decide +kernel
theorem dX3_cellsOfAll_26 : decode cX3_cellsOfAll 26 = .ok (.iload_n 1, 1) := by decide +kernel
theorem dX3_cellsOfAll_27 : decode cX3_cellsOfAll 27 = .ok (.ireturn, 1) := by decide +kernel
theorem dX3_deliveredOfAll_0 : decode cX3_deliveredOfAll 0 = .ok (.iconst 0, 1) := by decide +kernel
theorem dX3_deliveredOfAll_1 : decode cX3_deliveredOfAll 1 = .ok (.istore_n 1, 1) := by decide +kernel
theorem dX3_deliveredOfAll_2 : decode cX3_deliveredOfAll 2 = .ok (.iconst 0, 1) := by decide +kernel
theorem dX3_deliveredOfAll_3 : decode cX3_deliveredOfAll 3 = .ok (.istore_n 2, 1) := by decide +kernel
theorem dX3_deliveredOfAll_4 : decode cX3_deliveredOfAll 4 = .ok (.iload_n 2, 1) := by decide +kernel
theorem dX3_deliveredOfAll_5 : decode cX3_deliveredOfAll 5 = .ok (.aload_n 0, 1) := by decide +kernel
theorem dX3_deliveredOfAll_6 : decode cX3_deliveredOfAll 6 = .ok (.getfield 62, 3) := by decide +kernel
theorem dX3_deliveredOfAll_9 : decode cX3_deliveredOfAll 9 = .ok (.if_icmp .ge 21, 3) := by decide +kernel
theorem dX3_deliveredOfAll_12 : decode cX3_deliveredOfAll 12 = .ok (.iload_n 1, 1) := by decide +kernel
theorem dX3_deliveredOfAll_13 : decode cX3_deliveredOfAll 13 = .ok (.aload_n 0, 1) := by decide +kernel
theorem dX3_deliveredOfAll_14 : decode cX3_deliveredOfAll 14 = .ok (.getfield 19, 3) := by decide +kernel
theorem dX3_deliveredOfAll_17 : decode cX3_deliveredOfAll 17 = .ok (.iload_n 2, 1) := by decide +kernel
theorem dX3_deliveredOfAll_18 : decode cX3_deliveredOfAll 18 = .ok (.aaload, 1) := by decide +kernel
theorem dX3_deliveredOfAll_19 : decode cX3_deliveredOfAll 19 = .ok (.getfield 167, 3) := by decide +kernel
theorem dX3_deliveredOfAll_22 : decode cX3_deliveredOfAll 22 = .ok (.iadd, 1) := by decide +kernel
theorem dX3_deliveredOfAll_23 : decode cX3_deliveredOfAll 23 = .ok (.istore_n 1, 1) := by decide +kernel
theorem dX3_deliveredOfAll_24 : decode cX3_deliveredOfAll 24 = .ok (.iinc 2 1, 3) := by decide +kernel
theorem dX3_deliveredOfAll_27 : decode cX3_deliveredOfAll 27 = .ok (.goto (-23), 3) := by decide +kernel
theorem dX3_deliveredOfAll_30 : decode cX3_deliveredOfAll 30 = .ok (.iload_n 1, 1) := by decide +kernel
theorem dX3_deliveredOfAll_31 : decode cX3_deliveredOfAll 31 = .ok (.ireturn, 1) := by decide +kernel
theorem dX3_unknown_0 : decode cX3_unknown 0 = .ok (.iconst 0, 1) := by decide +kernel
theorem dX3_unknown_1 : decode cX3_unknown 1 = .ok (.istore_n 1, 1) := by decide +kernel
theorem dX3_unknown_2 : decode cX3_unknown 2 = .ok (.iconst 0, 1) := by decide +kernel
theorem dX3_unknown_3 : decode cX3_unknown 3 = .ok (.istore_n 2, 1) := by decide +kernel
theorem dX3_unknown_4 : decode cX3_unknown 4 = .ok (.iload_n 2, 1) := by decide +kernel
theorem dX3_unknown_5 : decode cX3_unknown 5 = .ok (.aload_n 0, 1) := by decide +kernel
theorem dX3_unknown_6 : decode cX3_unknown 6 = .ok (.getfield 53, 3) := by decide +kernel
theorem dX3_unknown_9 : decode cX3_unknown 9 = .ok (.if_icmp .ge 54, 3) := by decide +kernel
theorem dX3_unknown_12 : decode cX3_unknown 12 = .ok (.iconst 0, 1) := by decide +kernel
theorem dX3_unknown_13 : decode cX3_unknown 13 = .ok (.istore_n 3, 1) := by decide +kernel
theorem dX3_unknown_14 : decode cX3_unknown 14 = .ok (.iload_n 3, 1) := by decide +kernel
theorem dX3_unknown_15 : decode cX3_unknown 15 = .ok (.aload_n 0, 1) := by decide +kernel
theorem dX3_unknown_16 : decode cX3_unknown 16 = .ok (.getfield 62, 3) := by decide +kernel
theorem dX3_unknown_19 : decode cX3_unknown 19 = .ok (.if_icmp .ge 38, 3) := by decide +kernel
theorem dX3_unknown_22 : decode cX3_unknown 22 = .ok (.aload_n 0, 1) := by decide +kernel
theorem dX3_unknown_23 : decode cX3_unknown 23 = .ok (.getfield 11, 3) := by decide +kernel
theorem dX3_unknown_26 : decode cX3_unknown 26 = .ok (.iload_n 2, 1) := by decide +kernel
theorem dX3_unknown_27 : decode cX3_unknown 27 = .ok (.aaload, 1) := by decide +kernel
theorem dX3_unknown_28 : decode cX3_unknown 28 = .ok (.getfield 128, 3) := by decide +kernel
theorem dX3_unknown_31 : decode cX3_unknown 31 = .ok (.iload_n 3, 1) := by decide +kernel
theorem dX3_unknown_32 : decode cX3_unknown 32 = .ok (.aaload, 1) := by decide +kernel
theorem dX3_unknown_33 : decode cX3_unknown 33 = .ok (.astore 4, 2) := by decide +kernel
theorem dX3_unknown_35 : decode cX3_unknown 35 = .ok (.aload 4, 2) := by decide +kernel
theorem dX3_unknown_37 : decode cX3_unknown 37 = .ok (.getfield 242, 3) := by decide +kernel
theorem dX3_unknown_40 : decode cX3_unknown 40 = .ok (.aload 4, 2) := by decide +kernel
theorem dX3_unknown_42 : decode cX3_unknown 42 = .ok (.getfield 198, 3) := by decide +kernel
theorem dX3_unknown_45 : decode cX3_unknown 45 = .ok (.if_icmp .eq 6, 3) := by decide +kernel
theorem dX3_unknown_48 : decode cX3_unknown 48 = .ok (.iinc 1 1, 3) := by decide +kernel
theorem dX3_unknown_51 : decode cX3_unknown 51 = .ok (.iinc 3 1, 3) := by decide +kernel
theorem dX3_unknown_54 : decode cX3_unknown 54 = .ok (.goto (-40), 3) := by decide +kernel
theorem dX3_unknown_57 : decode cX3_unknown 57 = .ok (.iinc 2 1, 3) := by decide +kernel
theorem dX3_unknown_60 : decode cX3_unknown 60 = .ok (.goto (-56), 3) := by decide +kernel
theorem dX3_unknown_63 : decode cX3_unknown 63 = .ok (.iload_n 1, 1) := by decide +kernel
theorem dX3_unknown_64 : decode cX3_unknown 64 = .ok (.ireturn, 1) := by decide +kernel
theorem dX3_movedNow_0 : decode cX3_movedNow 0 = .ok (.iconst 0, 1) := by decide +kernel
theorem dX3_movedNow_1 : decode cX3_movedNow 1 = .ok (.istore_n 1, 1) := by decide +kernel
theorem dX3_movedNow_2 : decode cX3_movedNow 2 = .ok (.iload_n 1, 1) := by decide +kernel
theorem dX3_movedNow_3 : decode cX3_movedNow 3 = .ok (.aload_n 0, 1) := by decide +kernel
theorem dX3_movedNow_4 : decode cX3_movedNow 4 = .ok (.getfield 53, 3) := by decide +kernel
theorem dX3_movedNow_7 : decode cX3_movedNow 7 = .ok (.if_icmp .ge 24, 3) := by decide +kernel
theorem dX3_movedNow_10 : decode cX3_movedNow 10 = .ok (.aload_n 0, 1) := by decide +kernel
theorem dX3_movedNow_11 : decode cX3_movedNow 11 = .ok (.getfield 11, 3) := by decide +kernel
theorem dX3_movedNow_14 : decode cX3_movedNow 14 = .ok (.iload_n 1, 1) := by decide +kernel
theorem dX3_movedNow_15 : decode cX3_movedNow 15 = .ok (.aaload, 1) := by decide +kernel
theorem dX3_movedNow_16 : decode cX3_movedNow 16 = .ok (.getfield 177, 3) := by decide +kernel
theorem dX3_movedNow_19 : decode cX3_movedNow 19 = .ok (.iconst (-1), 1) := by decide +kernel
theorem dX3_movedNow_20 : decode cX3_movedNow 20 = .ok (.if_icmp .eq 5, 3) := by decide +kernel
theorem dX3_movedNow_23 : decode cX3_movedNow 23 = .ok (.iconst 1, 1) := by decide +kernel
theorem dX3_movedNow_24 : decode cX3_movedNow 24 = .ok (.ireturn, 1) := by decide +kernel
theorem dX3_movedNow_25 : decode cX3_movedNow 25 = .ok (.iinc 1 1, 3) := by decide +kernel
theorem dX3_movedNow_28 : decode cX3_movedNow 28 = .ok (.goto (-26), 3) := by decide +kernel
theorem dX3_movedNow_31 : decode cX3_movedNow 31 = .ok (.iconst 0, 1) := by decide +kernel
theorem dX3_movedNow_32 : decode cX3_movedNow 32 = .ok (.istore_n 1, 1) := by decide +kernel
theorem dX3_movedNow_33 : decode cX3_movedNow 33 = .ok (.iload_n 1, 1) := by decide +kernel
theorem dX3_movedNow_34 : decode cX3_movedNow 34 = .ok (.aload_n 0, 1) := by decide +kernel
theorem dX3_movedNow_35 : decode cX3_movedNow 35 = .ok (.getfield 62, 3) := by decide +kernel
theorem dX3_movedNow_38 : decode cX3_movedNow 38 = .ok (.if_icmp .ge 23, 3) := by decide +kernel
theorem dX3_movedNow_41 : decode cX3_movedNow 41 = .ok (.aload_n 0, 1) := by decide +kernel
theorem dX3_movedNow_42 : decode cX3_movedNow 42 = .ok (.getfield 19, 3) := by decide +kernel
theorem dX3_movedNow_45 : decode cX3_movedNow 45 = .ok (.iload_n 1, 1) := by decide +kernel
theorem dX3_movedNow_46 : decode cX3_movedNow 46 = .ok (.aaload, 1) := by decide +kernel
theorem dX3_movedNow_47 : decode cX3_movedNow 47 = .ok (.getfield 164, 3) := by decide +kernel
theorem dX3_movedNow_50 : decode cX3_movedNow 50 = .ok (.ifCond .eq 5, 3) := by decide +kernel
theorem dX3_movedNow_53 : decode cX3_movedNow 53 = .ok (.iconst 1, 1) := by decide +kernel
theorem dX3_movedNow_54 : decode cX3_movedNow 54 = .ok (.ireturn, 1) := by decide +kernel
theorem dX3_movedNow_55 : decode cX3_movedNow 55 = .ok (.iinc 1 1, 3) := by decide +kernel
theorem dX3_movedNow_58 : decode cX3_movedNow 58 = .ok (.goto (-25), 3) := by decide +kernel
theorem dX3_movedNow_61 : decode cX3_movedNow 61 = .ok (.iconst 0, 1) := by decide +kernel
theorem dX3_movedNow_62 : decode cX3_movedNow 62 = .ok (.ireturn, 1) := by decide +kernel
theorem dX4_init_0 : decode cX4_init 0 = .ok (.aload_n 0, 1) := by decide +kernel
theorem dX4_init_1 : decode cX4_init 1 = .ok (.invokespecial 3, 3) := by decide +kernel
theorem dX4_init_4 : decode cX4_init 4 = .ok (.aload_n 0, 1) := by decide +kernel
theorem dX4_init_5 : decode cX4_init 5 = .ok (.iconst 0, 1) := by decide +kernel
theorem dX4_init_6 : decode cX4_init 6 = .ok (.newarray .int, 2) := by decide +kernel
theorem dX4_init_8 : decode cX4_init 8 = .ok (.putfield 9, 3) := by decide +kernel
theorem dX4_init_11 : decode cX4_init 11 = .ok (.aload_n 0, 1) := by decide +kernel
theorem dX4_init_12 : decode cX4_init 12 = .ok (.bipush 21, 2) := by decide +kernel
theorem dX4_init_14 : decode cX4_init 14 = .ok (.newarray .int, 2) := by decide +kernel
theorem dX4_init_16 : decode cX4_init 16 = .ok (.putfield 15, 3) := by decide +kernel
theorem dX4_init_19 : decode cX4_init 19 = .ok (.return_, 1) := by decide +kernel
set_option maxRecDepth 20000 in
theorem ggX4_faultOf_X4_setUsual : GoodIn wsX4_faultOf wsX4_setUsual := goodIn_r _ [15, 16, 17, 18, 19, 14, 20, 94, 95, 96, 97, 98, 99, 100] (by decide +kernel) (by decide +kernel)
set_option maxRecDepth 20000 in
theorem gX4_faultOf_X4_setUsual : GoodIn wsX4_faultOf (wsV RX4 40 RX4 yX4_setUsual wsX4_setUsual) := goodIn_app (goodIn_of _ (by decide +kernel)) ggX4_faultOf_X4_setUsual
theorem qxX4_faultOf_0 : ∀ w ∈ ((wsX4_faultOf_r1 ++ (wsX4_faultOf_r2 ++ (wsX4_faultOf_r3 ++ wsX4_faultOf_r4))) ++ wsX40), w ∈ wsX4_faultOf := fun w h => List.mem_cons_of_mem _ h
theorem qxX4_faultOf_1 : ∀ w ∈ (wsX4_faultOf_r1 ++ (wsX4_faultOf_r2 ++ (wsX4_faultOf_r3 ++ wsX4_faultOf_r4))), w ∈ wsX4_faultOf := in_l qxX4_faultOf_0
theorem qxX4_faultOf_2 : ∀ w ∈ wsX40, w ∈ wsX4_faultOf := in_r qxX4_faultOf_0
theorem qxX4_faultOf_3 : ∀ w ∈ wsX4_faultOf_r1, w ∈ wsX4_faultOf := in_l qxX4_faultOf_1
theorem qxX4_faultOf_4 : ∀ w ∈ (wsX4_faultOf_r2 ++ (wsX4_faultOf_r3 ++ wsX4_faultOf_r4)), w ∈ wsX4_faultOf := in_r qxX4_faultOf_1
theorem qxX4_faultOf_5 : ∀ w ∈ wsX4_faultOf_r2, w ∈ wsX4_faultOf := in_l qxX4_faultOf_4
theorem qxX4_faultOf_6 : ∀ w ∈ (wsX4_faultOf_r3 ++ wsX4_faultOf_r4), w ∈ wsX4_faultOf := in_r qxX4_faultOf_4
theorem qxX4_faultOf_7 : ∀ w ∈ wsX4_faultOf_r3, w ∈ wsX4_faultOf := in_l qxX4_faultOf_6
theorem qxX4_faultOf_8 : ∀ w ∈ wsX4_faultOf_r4, w ∈ wsX4_faultOf := in_r qxX4_faultOf_6
def pxX4_faultOf : List (List Cond) := [wsX4_faultOf_r1, wsX4_faultOf_r2, wsX4_faultOf_r3, wsX4_faultOf_r4, wsX40]
theorem pxX4_faultOf_in : ∀ q ∈ pxX4_faultOf, ∀ w ∈ q, w ∈ wsX4_faultOf := lp_c qxX4_faultOf_3 (lp_c qxX4_faultOf_5 (lp_c qxX4_faultOf_7 (lp_c qxX4_faultOf_8 (lp_c qxX4_faultOf_2 (lp_n)))))
set_option maxRecDepth 20000 in
theorem ggX4_faultOf_X4_readClause : GoodIn wsX4_faultOf wsX4_readClause := goodIn_pp pxX4_faultOf pxX4_faultOf_in _ [(0, 23), (0, 6), (0, 5), (0, 0), (0, 7), (1, 0), (1, 1), (1, 2), (0, 13), (1, 3), (1, 4), (1, 5), (1, 6), (1, 7), (1, 8), (1, 9), (1, 10), (1, 11), (0, 8), (0, 9), (0, 17), (0, 18), (0, 19), (1, 12), (1, 13), (1, 14), (1, 15), (1, 16), (1, 17), (1, 18), (1, 19), (1, 20), (1, 21), (1, 22), (1, 23), (2, 0), (2, 1), (2, 2), (2, 3), (2, 4), (2, 5), (2, 6), (2, 7), (2, 8), (2, 9), (2, 10), (2, 11), (2, 12), (2, 13), (2, 14), (2, 15), (2, 16), (2, 17), (2, 18), (2, 19), (2, 20), (2, 21), (2, 22), (2, 23), (3, 0), (3, 1), (3, 2), (3, 3), (3, 4), (3, 5), (3, 6), (3, 7), (3, 8), (3, 9), (3, 10), (3, 11), (3, 12), (3, 13), (0, 15), (3, 14), (3, 15), (3, 16), (3, 17), (3, 18), (3, 19), (3, 20), (4, 0), (4, 1), (4, 2), (4, 3), (4, 4), (4, 5), (4, 6)] rfl (by decide +kernel)
set_option maxRecDepth 20000 in
theorem gX4_faultOf_X4_readClause : GoodIn wsX4_faultOf (wsV RX4 43 RX4 yX4_readClause wsX4_readClause) := goodIn_app (goodIn_of _ (by decide +kernel)) ggX4_faultOf_X4_readClause
theorem dX4_faultOf_0 : decode cX4_faultOf 0 = .ok (.aload_n 0, 1) := by decide +kernel
theorem dX4_faultOf_1 : decode cX4_faultOf 1 = .ok (.aload_n 1, 1) := by decide +kernel
theorem dX4_faultOf_2 : decode cX4_faultOf 2 = .ok (.putfield 9, 3) := by decide +kernel
theorem dX4_faultOf_5 : decode cX4_faultOf 5 = .ok (.aload_n 0, 1) := by decide +kernel
theorem dX4_faultOf_6 : decode cX4_faultOf 6 = .ok (.iload_n 2, 1) := by decide +kernel
theorem dX4_faultOf_7 : decode cX4_faultOf 7 = .ok (.aload_n 1, 1) := by decide +kernel
theorem dX4_faultOf_8 : decode cX4_faultOf 8 = .ok (.arraylength, 1) := by decide +kernel
theorem dX4_faultOf_9 : decode cX4_faultOf 9 = .ok (.invokestatic 18, 3) := by decide +kernel
theorem dX4_faultOf_12 : decode cX4_faultOf 12 = .ok (.putfield 24, 3) := by decide +kernel
theorem dX4_faultOf_15 : decode cX4_faultOf 15 = .ok (.aload_n 0, 1) := by decide +kernel
theorem dX4_faultOf_16 : decode cX4_faultOf 16 = .ok (.iconst 0, 1) := by decide +kernel
theorem dX4_faultOf_17 : decode cX4_faultOf 17 = .ok (.putfield 28, 3) := by decide +kernel
theorem dX4_faultOf_20 : decode cX4_faultOf 20 = .ok (.aload_n 0, 1) := by decide +kernel
theorem dX4_faultOf_21 : decode cX4_faultOf 21 = .ok (.iconst (-1), 1) := by decide +kernel
theorem dX4_faultOf_22 : decode cX4_faultOf 22 = .ok (.putfield 31, 3) := by decide +kernel
theorem dX4_faultOf_25 : decode cX4_faultOf 25 = .ok (.aload_n 0, 1) := by decide +kernel
theorem dX4_faultOf_26 : decode cX4_faultOf 26 = .ok (.iconst 0, 1) := by decide +kernel
theorem dX4_faultOf_27 : decode cX4_faultOf 27 = .ok (.putfield 34, 3) := by decide +kernel
theorem dX4_faultOf_30 : decode cX4_faultOf 30 = .ok (.aload_n 0, 1) := by decide +kernel
theorem dX4_faultOf_31 : decode cX4_faultOf 31 = .ok (.iconst 0, 1) := by decide +kernel
theorem dX4_faultOf_32 : decode cX4_faultOf 32 = .ok (.putfield 37, 3) := by decide +kernel
theorem dX4_faultOf_35 : decode cX4_faultOf 35 = .ok (.aload_n 0, 1) := by decide +kernel
theorem dX4_faultOf_36 : decode cX4_faultOf 36 = .ok (.invokevirtual 40, 3) := by decide +kernel
theorem dX4_faultOf_39 : decode cX4_faultOf 39 = .ok (.iconst 1, 1) := by decide +kernel
theorem dX4_faultOf_40 : decode cX4_faultOf 40 = .ok (.istore_n 3, 1) := by decide +kernel
theorem dX4_faultOf_41 : decode cX4_faultOf 41 = .ok (.iconst 0, 1) := by decide +kernel
theorem dX4_faultOf_42 : decode cX4_faultOf 42 = .ok (.istore 4, 2) := by decide +kernel
theorem dX4_faultOf_44 : decode cX4_faultOf 44 = .ok (.iload_n 3, 1) := by decide +kernel
theorem dX4_faultOf_45 : decode cX4_faultOf 45 = .ok (.ifCond .eq 67, 3) := by decide +kernel
theorem dX4_faultOf_48 : decode cX4_faultOf 48 = .ok (.iload 4, 2) := by decide +kernel
theorem dX4_faultOf_50 : decode cX4_faultOf 50 = .ok (.aload_n 0, 1) := by decide +kernel
theorem dX4_faultOf_51 : decode cX4_faultOf 51 = .ok (.getfield 24, 3) := by decide +kernel
theorem dX4_faultOf_54 : decode cX4_faultOf 54 = .ok (.if_icmp .gt 58, 3) := by decide +kernel
theorem dX4_faultOf_57 : decode cX4_faultOf 57 = .ok (.aload_n 0, 1) := by decide +kernel
theorem dX4_faultOf_58 : decode cX4_faultOf 58 = .ok (.iload 4, 2) := by decide +kernel
theorem dX4_faultOf_60 : decode cX4_faultOf 60 = .ok (.ifCond .ne 7, 3) := by decide +kernel
theorem dX4_faultOf_63 : decode cX4_faultOf 63 = .ok (.iconst 1, 1) := by decide +kernel
theorem dX4_faultOf_64 : decode cX4_faultOf 64 = .ok (.goto 4, 3) := by decide +kernel
theorem dX4_faultOf_67 : decode cX4_faultOf 67 = .ok (.iconst 0, 1) := by decide +kernel
theorem dX4_faultOf_68 : decode cX4_faultOf 68 = .ok (.invokevirtual 43, 3) := by decide +kernel
theorem dX4_faultOf_71 : decode cX4_faultOf 71 = .ok (.aload_n 0, 1) := by decide +kernel
theorem dX4_faultOf_72 : decode cX4_faultOf 72 = .ok (.getfield 31, 3) := by decide +kernel
theorem dX4_faultOf_75 : decode cX4_faultOf 75 = .ok (.iconst (-1), 1) := by decide +kernel
theorem dX4_faultOf_76 : decode cX4_faultOf 76 = .ok (.if_icmp .ne 18, 3) := by decide +kernel
theorem dX4_faultOf_79 : decode cX4_faultOf 79 = .ok (.aload_n 0, 1) := by decide +kernel
theorem dX4_faultOf_80 : decode cX4_faultOf 80 = .ok (.getfield 28, 3) := by decide +kernel
theorem dX4_faultOf_83 : decode cX4_faultOf 83 = .ok (.aload_n 0, 1) := by decide +kernel
theorem dX4_faultOf_84 : decode cX4_faultOf 84 = .ok (.getfield 24, 3) := by decide +kernel
theorem dX4_faultOf_87 : decode cX4_faultOf 87 = .ok (.if_icmp .ge 7, 3) := by decide +kernel
theorem dX4_faultOf_90 : decode cX4_faultOf 90 = .ok (.iconst 1, 1) := by decide +kernel
theorem dX4_faultOf_91 : decode cX4_faultOf 91 = .ok (.goto 4, 3) := by decide +kernel
theorem dX4_faultOf_94 : decode cX4_faultOf 94 = .ok (.iconst 0, 1) := by decide +kernel
theorem dX4_faultOf_95 : decode cX4_faultOf 95 = .ok (.istore_n 3, 1) := by decide +kernel
theorem dX4_faultOf_96 : decode cX4_faultOf 96 = .ok (.aload_n 0, 1) := by decide +kernel
theorem dX4_faultOf_97 : decode cX4_faultOf 97 = .ok (.dup, 1) := by decide +kernel
theorem dX4_faultOf_98 : decode cX4_faultOf 98 = .ok (.getfield 28, 3) := by decide +kernel
theorem dX4_faultOf_101 : decode cX4_faultOf 101 = .ok (.iconst 1, 1) := by decide +kernel
theorem dX4_faultOf_102 : decode cX4_faultOf 102 = .ok (.iadd, 1) := by decide +kernel
theorem dX4_faultOf_103 : decode cX4_faultOf 103 = .ok (.putfield 28, 3) := by decide +kernel
theorem dX4_faultOf_106 : decode cX4_faultOf 106 = .ok (.iinc 4 1, 3) := by decide +kernel
theorem dX4_faultOf_109 : decode cX4_faultOf 109 = .ok (.goto (-65), 3) := by decide +kernel
theorem dX4_faultOf_112 : decode cX4_faultOf 112 = .ok (.aload_n 0, 1) := by decide +kernel
theorem dX4_faultOf_113 : decode cX4_faultOf 113 = .ok (.getfield 31, 3) := by decide +kernel
theorem dX4_faultOf_116 : decode cX4_faultOf 116 = .ok (.ireturn, 1) := by decide +kernel
set_option maxRecDepth 20000 in
theorem ggX4_setUsual_X4_kindOf : GoodIn wsX4_setUsual wsX4_kindOf := goodIn_r _ [6] (by decide +kernel) (by decide +kernel)
set_option maxRecDepth 20000 in
theorem gX4_setUsual_X4_kindOf : GoodIn wsX4_setUsual (va_wsS RX4 50 yX4_kindOf wsX4_kindOf) := goodIn_app (goodIn_of _ (by decide +kernel)) ggX4_setUsual_X4_kindOf
theorem dX4_setUsual_0 : decode cX4_setUsual 0 = .ok (.iconst 0, 1) := by decide +kernel
theorem dX4_setUsual_1 : decode cX4_setUsual 1 = .ok (.istore_n 1, 1) := by decide +kernel
theorem dX4_setUsual_2 : decode cX4_setUsual 2 = .ok (.iload_n 1, 1) := by decide +kernel
theorem dX4_setUsual_3 : decode cX4_setUsual 3 = .ok (.bipush 7, 2) := by decide +kernel
theorem dX4_setUsual_5 : decode cX4_setUsual 5 = .ok (.if_icmp .ge 44, 3) := by decide +kernel
theorem dX4_setUsual_8 : decode cX4_setUsual 8 = .ok (.iconst 0, 1) := by decide +kernel
theorem dX4_setUsual_9 : decode cX4_setUsual 9 = .ok (.istore_n 2, 1) := by decide +kernel
theorem dX4_setUsual_10 : decode cX4_setUsual 10 = .ok (.iload_n 2, 1) := by decide +kernel
theorem dX4_setUsual_11 : decode cX4_setUsual 11 = .ok (.iconst 3, 1) := by decide +kernel
theorem dX4_setUsual_12 : decode cX4_setUsual 12 = .ok (.if_icmp .ge 31, 3) := by decide +kernel
theorem dX4_setUsual_15 : decode cX4_setUsual 15 = .ok (.aload_n 0, 1) := by decide +kernel
theorem dX4_setUsual_16 : decode cX4_setUsual 16 = .ok (.getfield 15, 3) := by decide +kernel
theorem dX4_setUsual_19 : decode cX4_setUsual 19 = .ok (.iload_n 1, 1) := by decide +kernel
theorem dX4_setUsual_20 : decode cX4_setUsual 20 = .ok (.iconst 3, 1) := by decide +kernel
theorem dX4_setUsual_21 : decode cX4_setUsual 21 = .ok (.imul, 1) := by decide +kernel
theorem dX4_setUsual_22 : decode cX4_setUsual 22 = .ok (.iload_n 2, 1) := by decide +kernel
theorem dX4_setUsual_23 : decode cX4_setUsual 23 = .ok (.iadd, 1) := by decide +kernel
theorem dX4_setUsual_24 : decode cX4_setUsual 24 = .ok (.getstatic 47, 3) := by decide +kernel
theorem dX4_setUsual_27 : decode cX4_setUsual 27 = .ok (.iload_n 1, 1) := by decide +kernel
theorem dX4_setUsual_28 : decode cX4_setUsual 28 = .ok (.invokestatic 50, 3) := by decide +kernel
theorem dX4_setUsual_31 : decode cX4_setUsual 31 = .ok (.iconst 3, 1) := by decide +kernel
theorem dX4_setUsual_32 : decode cX4_setUsual 32 = .ok (.imul, 1) := by decide +kernel
theorem dX4_setUsual_33 : decode cX4_setUsual 33 = .ok (.iload_n 2, 1) := by decide +kernel
theorem dX4_setUsual_34 : decode cX4_setUsual 34 = .ok (.iadd, 1) := by decide +kernel
theorem dX4_setUsual_35 : decode cX4_setUsual 35 = .ok (.iaload, 1) := by decide +kernel
theorem dX4_setUsual_36 : decode cX4_setUsual 36 = .ok (.iastore, 1) := by decide +kernel
theorem dX4_setUsual_37 : decode cX4_setUsual 37 = .ok (.iinc 2 1, 3) := by decide +kernel
theorem dX4_setUsual_40 : decode cX4_setUsual 40 = .ok (.goto (-30), 3) := by decide +kernel
theorem dX4_setUsual_43 : decode cX4_setUsual 43 = .ok (.iinc 1 1, 3) := by decide +kernel
theorem dX4_setUsual_46 : decode cX4_setUsual 46 = .ok (.goto (-44), 3) := by decide +kernel
theorem dX4_setUsual_49 : decode cX4_setUsual 49 = .ok (.return_, 1) := by decide +kernel
theorem dX4_kindOf_0 : decode cX4_kindOf 0 = .ok (.iload_n 0, 1) := by decide +kernel
theorem dX4_kindOf_1 : decode cX4_kindOf 1 = .ok (.ifCond .ne 5, 3) := by decide +kernel
theorem dX4_kindOf_4 : decode cX4_kindOf 4 = .ok (.iconst 0, 1) := by decide +kernel
theorem dX4_kindOf_5 : decode cX4_kindOf 5 = .ok (.ireturn, 1) := by decide +kernel
theorem dX4_kindOf_6 : decode cX4_kindOf 6 = .ok (.iload_n 0, 1) := by decide +kernel
theorem dX4_kindOf_7 : decode cX4_kindOf 7 = .ok (.iconst 3, 1) := by decide +kernel
theorem dX4_kindOf_8 : decode cX4_kindOf 8 = .ok (.if_icmp .gt 7, 3) := by decide +kernel
theorem dX4_kindOf_11 : decode cX4_kindOf 11 = .ok (.iconst 1, 1) := by decide +kernel
theorem dX4_kindOf_12 : decode cX4_kindOf 12 = .ok (.goto 4, 3) := by decide +kernel
theorem dX4_kindOf_15 : decode cX4_kindOf 15 = .ok (.iconst 2, 1) := by decide +kernel
theorem dX4_kindOf_16 : decode cX4_kindOf 16 = .ok (.ireturn, 1) := by decide +kernel
set_option maxRecDepth 20000 in
theorem ggX4_readClause_X4_readHead : GoodIn wsX4_readClause wsX4_readHead := goodIn_r _ [9, 1, 2, 3, 4, 10, 11, 12, 8, 13, 14, 15, 16, 17, 18, 19, 81, 82, 83, 84, 85, 86, 87] (by decide +kernel) (by decide +kernel)
set_option maxRecDepth 20000 in
theorem gX4_readClause_X4_readHead : GoodIn wsX4_readClause (wsV RX4 54 RX4 yX4_readHead wsX4_readHead) := goodIn_app (goodIn_of _ (by decide +kernel)) ggX4_readClause_X4_readHead
set_option maxRecDepth 20000 in
theorem ggX4_readClause_X4_passBlanks : GoodIn wsX4_readClause wsX4_passBlanks := goodIn_r _ [13, 1, 2, 3, 81, 82, 83, 84, 85, 86, 87] (by decide +kernel) (by decide +kernel)
set_option maxRecDepth 20000 in
theorem gX4_readClause_X4_passBlanks : GoodIn wsX4_readClause (wsV RX4 58 RX4 yX4_passBlanks wsX4_passBlanks) := goodIn_app (goodIn_of _ (by decide +kernel)) ggX4_readClause_X4_passBlanks
set_option maxRecDepth 20000 in
theorem ggX4_readClause_X4_kindOf : GoodIn wsX4_readClause wsX4_kindOf := goodIn_r _ [22] (by decide +kernel) (by decide +kernel)
set_option maxRecDepth 20000 in
theorem gX4_readClause_X4_kindOf : GoodIn wsX4_readClause (va_wsS RX4 50 yX4_kindOf wsX4_kindOf) := goodIn_app (goodIn_of _ (by decide +kernel)) ggX4_readClause_X4_kindOf
theorem qxX4_readClause_0 : ∀ w ∈ ((wsX4_readClause_r1 ++ (wsX4_readClause_r2 ++ (wsX4_readClause_r3 ++ wsX4_readClause_r4))) ++ wsX40), w ∈ wsX4_readClause := fun w h => List.mem_cons_of_mem _ h
theorem qxX4_readClause_1 : ∀ w ∈ (wsX4_readClause_r1 ++ (wsX4_readClause_r2 ++ (wsX4_readClause_r3 ++ wsX4_readClause_r4))), w ∈ wsX4_readClause := in_l qxX4_readClause_0
theorem qxX4_readClause_2 : ∀ w ∈ wsX40, w ∈ wsX4_readClause := in_r qxX4_readClause_0
theorem qxX4_readClause_3 : ∀ w ∈ wsX4_readClause_r1, w ∈ wsX4_readClause := in_l qxX4_readClause_1
theorem qxX4_readClause_4 : ∀ w ∈ (wsX4_readClause_r2 ++ (wsX4_readClause_r3 ++ wsX4_readClause_r4)), w ∈ wsX4_readClause := in_r qxX4_readClause_1
theorem qxX4_readClause_5 : ∀ w ∈ wsX4_readClause_r2, w ∈ wsX4_readClause := in_l qxX4_readClause_4
theorem qxX4_readClause_6 : ∀ w ∈ (wsX4_readClause_r3 ++ wsX4_readClause_r4), w ∈ wsX4_readClause := in_r qxX4_readClause_4
theorem qxX4_readClause_7 : ∀ w ∈ wsX4_readClause_r3, w ∈ wsX4_readClause := in_l qxX4_readClause_6
theorem qxX4_readClause_8 : ∀ w ∈ wsX4_readClause_r4, w ∈ wsX4_readClause := in_r qxX4_readClause_6
def pxX4_readClause : List (List Cond) := [wsX4_readClause_r1, wsX4_readClause_r2, wsX4_readClause_r3, wsX4_readClause_r4, wsX40]
theorem pxX4_readClause_in : ∀ q ∈ pxX4_readClause, ∀ w ∈ q, w ∈ wsX4_readClause := lp_c qxX4_readClause_3 (lp_c qxX4_readClause_5 (lp_c qxX4_readClause_7 (lp_c qxX4_readClause_8 (lp_c qxX4_readClause_2 (lp_n)))))
set_option maxRecDepth 20000 in
theorem ggX4_readClause_X4_itemOf : GoodIn wsX4_readClause wsX4_itemOf := goodIn_pp pxX4_readClause pxX4_readClause_in _ [(1, 0), (1, 1), (1, 2), (1, 3), (1, 4), (1, 5), (1, 6), (1, 7), (1, 8), (1, 9), (1, 10), (1, 11), (1, 12), (1, 13), (1, 14), (1, 15), (1, 16), (1, 17), (1, 18), (1, 19), (1, 20), (1, 21), (1, 22), (1, 23), (2, 0), (2, 1), (2, 2), (2, 3), (2, 4), (2, 5), (2, 6), (2, 7), (2, 8), (2, 9), (2, 10), (2, 11), (2, 12), (2, 13), (2, 14), (2, 15), (2, 16), (2, 17)] rfl (by decide +kernel)
set_option maxRecDepth 20000 in
theorem gX4_readClause_X4_itemOf : GoodIn wsX4_readClause (va_wsS RX4 61 yX4_itemOf wsX4_itemOf) := goodIn_app (goodIn_of _ (by decide +kernel)) ggX4_readClause_X4_itemOf
set_option maxRecDepth 20000 in
theorem ggX4_readClause_X4_readNumber : GoodIn wsX4_readClause wsX4_readNumber := goodIn_pp pxX4_readClause pxX4_readClause_in _ [(2, 21), (0, 2), (0, 0), (0, 3), (2, 22), (2, 23), (3, 0), (0, 9), (0, 10), (0, 11), (0, 7), (0, 12), (0, 1), (3, 1), (3, 2), (3, 3), (3, 4), (0, 19), (0, 20), (0, 21), (3, 5), (3, 6), (3, 7), (4, 0), (4, 1), (4, 2), (4, 3), (4, 4), (4, 5), (4, 6)] rfl (by decide +kernel)
set_option maxRecDepth 20000 in
theorem gX4_readClause_X4_readNumber : GoodIn wsX4_readClause (wsV RX4 64 RX4 yX4_readNumber wsX4_readNumber) := goodIn_app (goodIn_of _ (by decide +kernel)) ggX4_readClause_X4_readNumber
theorem dX4_readClause_0 : decode cX4_readClause 0 = .ok (.aload_n 0, 1) := by decide +kernel
theorem dX4_readClause_1 : decode cX4_readClause 1 = .ok (.iload_n 1, 1) := by decide +kernel
theorem dX4_readClause_2 : decode cX4_readClause 2 = .ok (.invokevirtual 54, 3) := by decide +kernel
theorem dX4_readClause_5 : decode cX4_readClause 5 = .ok (.istore_n 2, 1) := by decide +kernel
theorem dX4_readClause_6 : decode cX4_readClause 6 = .ok (.iload_n 2, 1) := by decide +kernel
theorem dX4_readClause_7 : decode cX4_readClause 7 = .ok (.iconst (-1), 1) := by decide +kernel
theorem dX4_readClause_8 : decode cX4_readClause 8 = .ok (.if_icmp .ne 4, 3) := by decide +kernel
theorem dX4_readClause_11 : decode cX4_readClause 11 = .ok (.return_, 1) := by decide +kernel
theorem dX4_readClause_12 : decode cX4_readClause 12 = .ok (.iconst 0, 1) := by decide +kernel
theorem dX4_readClause_13 : decode cX4_readClause 13 = .ok (.istore_n 3, 1) := by decide +kernel
theorem dX4_readClause_14 : decode cX4_readClause 14 = .ok (.iconst 0, 1) := by decide +kernel
theorem dX4_readClause_15 : decode cX4_readClause 15 = .ok (.istore 4, 2) := by decide +kernel
theorem dX4_readClause_17 : decode cX4_readClause 17 = .ok (.iload 4, 2) := by decide +kernel
theorem dX4_readClause_19 : decode cX4_readClause 19 = .ok (.iconst 3, 1) := by decide +kernel
theorem dX4_readClause_20 : decode cX4_readClause 20 = .ok (.if_icmp .gt 114, 3) := by decide +kernel
theorem dX4_readClause_23 : decode cX4_readClause 23 = .ok (.aload_n 0, 1) := by decide +kernel
theorem dX4_readClause_24 : decode cX4_readClause 24 = .ok (.invokevirtual 58, 3) := by decide +kernel
theorem dX4_readClause_27 : decode cX4_readClause 27 = .ok (.aload_n 0, 1) := by decide +kernel
theorem dX4_readClause_28 : decode cX4_readClause 28 = .ok (.getfield 28, 3) := by decide +kernel
theorem dX4_readClause_31 : decode cX4_readClause 31 = .ok (.aload_n 0, 1) := by decide +kernel
theorem dX4_readClause_32 : decode cX4_readClause 32 = .ok (.getfield 24, 3) := by decide +kernel
theorem dX4_readClause_35 : decode cX4_readClause 35 = .ok (.if_icmp .ge 17, 3) := by decide +kernel
theorem dX4_readClause_38 : decode cX4_readClause 38 = .ok (.aload_n 0, 1) := by decide +kernel
theorem dX4_readClause_39 : decode cX4_readClause 39 = .ok (.getfield 9, 3) := by decide +kernel
theorem dX4_readClause_42 : decode cX4_readClause 42 = .ok (.aload_n 0, 1) := by decide +kernel
theorem dX4_readClause_43 : decode cX4_readClause 43 = .ok (.getfield 28, 3) := by decide +kernel
theorem dX4_readClause_46 : decode cX4_readClause 46 = .ok (.iaload, 1) := by decide +kernel
theorem dX4_readClause_47 : decode cX4_readClause 47 = .ok (.bipush 59, 2) := by decide +kernel
theorem dX4_readClause_49 : decode cX4_readClause 49 = .ok (.if_icmp .ne 4, 3) := by decide +kernel
theorem dX4_readClause_52 : decode cX4_readClause 52 = .ok (.return_, 1) := by decide +kernel
theorem dX4_readClause_53 : decode cX4_readClause 53 = .ok (.iload_n 2, 1) := by decide +kernel
theorem dX4_readClause_54 : decode cX4_readClause 54 = .ok (.invokestatic 50, 3) := by decide +kernel
theorem dX4_readClause_57 : decode cX4_readClause 57 = .ok (.aload_n 0, 1) := by decide +kernel
theorem dX4_readClause_58 : decode cX4_readClause 58 = .ok (.getfield 9, 3) := by decide +kernel
theorem dX4_readClause_61 : decode cX4_readClause 61 = .ok (.aload_n 0, 1) := by decide +kernel
theorem dX4_readClause_62 : decode cX4_readClause 62 = .ok (.getfield 28, 3) := by decide +kernel
theorem dX4_readClause_65 : decode cX4_readClause 65 = .ok (.iaload, 1) := by decide +kernel
theorem dX4_readClause_66 : decode cX4_readClause 66 = .ok (.invokestatic 61, 3) := by decide +kernel
theorem dX4_readClause_69 : decode cX4_readClause 69 = .ok (.istore 5, 2) := by decide +kernel
theorem dX4_readClause_71 : decode cX4_readClause 71 = .ok (.iload 5, 2) := by decide +kernel
theorem dX4_readClause_73 : decode cX4_readClause 73 = .ok (.iconst (-1), 1) := by decide +kernel
theorem dX4_readClause_74 : decode cX4_readClause 74 = .ok (.if_icmp .eq 12, 3) := by decide +kernel
theorem dX4_readClause_77 : decode cX4_readClause 77 = .ok (.iload_n 3, 1) := by decide +kernel
theorem dX4_readClause_78 : decode cX4_readClause 78 = .ok (.iconst 1, 1) := by decide +kernel
theorem dX4_readClause_79 : decode cX4_readClause 79 = .ok (.iload 5, 2) := by decide +kernel
theorem dX4_readClause_81 : decode cX4_readClause 81 = .ok (.ishl, 1) := by decide +kernel
theorem dX4_readClause_82 : decode cX4_readClause 82 = .ok (.iand, 1) := by decide +kernel
theorem dX4_readClause_83 : decode cX4_readClause 83 = .ok (.ifCond .eq 12, 3) := by decide +kernel
theorem dX4_readClause_86 : decode cX4_readClause 86 = .ok (.aload_n 0, 1) := by decide +kernel
theorem dX4_readClause_87 : decode cX4_readClause 87 = .ok (.aload_n 0, 1) := by decide +kernel
theorem dX4_readClause_88 : decode cX4_readClause 88 = .ok (.getfield 28, 3) := by decide +kernel
theorem dX4_readClause_91 : decode cX4_readClause 91 = .ok (.putfield 31, 3) := by decide +kernel
theorem dX4_readClause_94 : decode cX4_readClause 94 = .ok (.return_, 1) := by decide +kernel
theorem dX4_readClause_95 : decode cX4_readClause 95 = .ok (.iload_n 3, 1) := by decide +kernel
theorem dX4_readClause_96 : decode cX4_readClause 96 = .ok (.iconst 1, 1) := by decide +kernel
theorem dX4_readClause_97 : decode cX4_readClause 97 = .ok (.iload 5, 2) := by decide +kernel
theorem dX4_readClause_99 : decode cX4_readClause 99 = .ok (.ishl, 1) := by decide +kernel
theorem dX4_readClause_100 : decode cX4_readClause 100 = .ok (.ior, 1) := by decide +kernel
theorem dX4_readClause_101 : decode cX4_readClause 101 = .ok (.istore_n 3, 1) := by decide +kernel
theorem dX4_readClause_102 : decode cX4_readClause 102 = .ok (.aload_n 0, 1) := by decide +kernel
theorem dX4_readClause_103 : decode cX4_readClause 103 = .ok (.dup, 1) := by decide +kernel
theorem dX4_readClause_104 : decode cX4_readClause 104 = .ok (.getfield 28, 3) := by decide +kernel
theorem dX4_readClause_107 : decode cX4_readClause 107 = .ok (.iconst 1, 1) := by decide +kernel
theorem dX4_readClause_108 : decode cX4_readClause 108 = .ok (.iadd, 1) := by decide +kernel
theorem dX4_readClause_109 : decode cX4_readClause 109 = .ok (.putfield 28, 3) := by decide +kernel
theorem dX4_readClause_112 : decode cX4_readClause 112 = .ok (.aload_n 0, 1) := by decide +kernel
theorem dX4_readClause_113 : decode cX4_readClause 113 = .ok (.iload_n 2, 1) := by decide +kernel
theorem dX4_readClause_114 : decode cX4_readClause 114 = .ok (.iload 5, 2) := by decide +kernel
theorem dX4_readClause_116 : decode cX4_readClause 116 = .ok (.invokevirtual 64, 3) := by decide +kernel
theorem dX4_readClause_119 : decode cX4_readClause 119 = .ok (.aload_n 0, 1) := by decide +kernel
theorem dX4_readClause_120 : decode cX4_readClause 120 = .ok (.getfield 31, 3) := by decide +kernel
theorem dX4_readClause_123 : decode cX4_readClause 123 = .ok (.iconst (-1), 1) := by decide +kernel
theorem dX4_readClause_124 : decode cX4_readClause 124 = .ok (.if_icmp .eq 4, 3) := by decide +kernel
theorem dX4_readClause_127 : decode cX4_readClause 127 = .ok (.return_, 1) := by decide +kernel
theorem dX4_readClause_128 : decode cX4_readClause 128 = .ok (.iinc 4 1, 3) := by decide +kernel
theorem dX4_readClause_131 : decode cX4_readClause 131 = .ok (.goto (-114), 3) := by decide +kernel
theorem dX4_readClause_134 : decode cX4_readClause 134 = .ok (.return_, 1) := by decide +kernel
set_option maxRecDepth 20000 in
theorem ggX4_readHead_X4_passBlanks : GoodIn wsX4_readHead wsX4_passBlanks := goodIn_r _ [9, 1, 2, 3, 16, 17, 18, 19, 20, 21, 22] (by decide +kernel) (by decide +kernel)
set_option maxRecDepth 20000 in
theorem gX4_readHead_X4_passBlanks : GoodIn wsX4_readHead (wsV RX4 58 RX4 yX4_passBlanks wsX4_passBlanks) := goodIn_app (goodIn_of _ (by decide +kernel)) ggX4_readHead_X4_passBlanks
set_option maxRecDepth 20000 in
theorem ggX4_readHead_X4_clauseOf : GoodIn wsX4_readHead wsX4_clauseOf := goodIn_r _ [13, 14, 15, 16, 17, 18, 19, 20, 21, 22] (by decide +kernel) (by decide +kernel)
set_option maxRecDepth 20000 in
theorem gX4_readHead_X4_clauseOf : GoodIn wsX4_readHead (wsV RX4 68 RX4 yX4_clauseOf wsX4_clauseOf) := goodIn_app (goodIn_of _ (by decide +kernel)) ggX4_readHead_X4_clauseOf
theorem dX4_readHead_0 : decode cX4_readHead 0 = .ok (.aload_n 0, 1) := by decide +kernel
theorem dX4_readHead_1 : decode cX4_readHead 1 = .ok (.invokevirtual 58, 3) := by decide +kernel
theorem dX4_readHead_4 : decode cX4_readHead 4 = .ok (.iconst (-1), 1) := by decide +kernel
theorem dX4_readHead_5 : decode cX4_readHead 5 = .ok (.istore_n 2, 1) := by decide +kernel
theorem dX4_readHead_6 : decode cX4_readHead 6 = .ok (.aload_n 0, 1) := by decide +kernel
theorem dX4_readHead_7 : decode cX4_readHead 7 = .ok (.getfield 28, 3) := by decide +kernel
theorem dX4_readHead_10 : decode cX4_readHead 10 = .ok (.aload_n 0, 1) := by decide +kernel
theorem dX4_readHead_11 : decode cX4_readHead 11 = .ok (.getfield 24, 3) := by decide +kernel
theorem dX4_readHead_14 : decode cX4_readHead 14 = .ok (.if_icmp .ge 18, 3) := by decide +kernel
theorem dX4_readHead_17 : decode cX4_readHead 17 = .ok (.aload_n 0, 1) := by decide +kernel
theorem dX4_readHead_18 : decode cX4_readHead 18 = .ok (.aload_n 0, 1) := by decide +kernel
theorem dX4_readHead_19 : decode cX4_readHead 19 = .ok (.getfield 9, 3) := by decide +kernel
theorem dX4_readHead_22 : decode cX4_readHead 22 = .ok (.aload_n 0, 1) := by decide +kernel
theorem dX4_readHead_23 : decode cX4_readHead 23 = .ok (.getfield 28, 3) := by decide +kernel
theorem dX4_readHead_26 : decode cX4_readHead 26 = .ok (.iaload, 1) := by decide +kernel
theorem dX4_readHead_27 : decode cX4_readHead 27 = .ok (.iload_n 1, 1) := by decide +kernel
theorem dX4_readHead_28 : decode cX4_readHead 28 = .ok (.invokevirtual 68, 3) := by decide +kernel
theorem dX4_readHead_31 : decode cX4_readHead 31 = .ok (.istore_n 2, 1) := by decide +kernel
theorem dX4_readHead_32 : decode cX4_readHead 32 = .ok (.iload_n 2, 1) := by decide +kernel
theorem dX4_readHead_33 : decode cX4_readHead 33 = .ok (.iconst (-1), 1) := by decide +kernel
theorem dX4_readHead_34 : decode cX4_readHead 34 = .ok (.if_icmp .ne 13, 3) := by decide +kernel
theorem dX4_readHead_37 : decode cX4_readHead 37 = .ok (.aload_n 0, 1) := by decide +kernel
theorem dX4_readHead_38 : decode cX4_readHead 38 = .ok (.aload_n 0, 1) := by decide +kernel
theorem dX4_readHead_39 : decode cX4_readHead 39 = .ok (.getfield 28, 3) := by decide +kernel
theorem dX4_readHead_42 : decode cX4_readHead 42 = .ok (.putfield 31, 3) := by decide +kernel
theorem dX4_readHead_45 : decode cX4_readHead 45 = .ok (.iconst (-1), 1) := by decide +kernel
theorem dX4_readHead_46 : decode cX4_readHead 46 = .ok (.ireturn, 1) := by decide +kernel
theorem dX4_readHead_47 : decode cX4_readHead 47 = .ok (.aload_n 0, 1) := by decide +kernel
theorem dX4_readHead_48 : decode cX4_readHead 48 = .ok (.dup, 1) := by decide +kernel
theorem dX4_readHead_49 : decode cX4_readHead 49 = .ok (.getfield 28, 3) := by decide +kernel
theorem dX4_readHead_52 : decode cX4_readHead 52 = .ok (.iconst 1, 1) := by decide +kernel
theorem dX4_readHead_53 : decode cX4_readHead 53 = .ok (.iadd, 1) := by decide +kernel
theorem dX4_readHead_54 : decode cX4_readHead 54 = .ok (.putfield 28, 3) := by decide +kernel
theorem dX4_readHead_57 : decode cX4_readHead 57 = .ok (.iload_n 2, 1) := by decide +kernel
theorem dX4_readHead_58 : decode cX4_readHead 58 = .ok (.ireturn, 1) := by decide +kernel
theorem dX4_clauseOf_0 : decode cX4_clauseOf 0 = .ok (.iload_n 1, 1) := by decide +kernel
theorem dX4_clauseOf_1 : decode cX4_clauseOf 1 = .ok (.bipush 110, 2) := by decide +kernel
theorem dX4_clauseOf_3 : decode cX4_clauseOf 3 = .ok (.if_icmp .ne 9, 3) := by decide +kernel
theorem dX4_clauseOf_6 : decode cX4_clauseOf 6 = .ok (.iload_n 2, 1) := by decide +kernel
theorem dX4_clauseOf_7 : decode cX4_clauseOf 7 = .ok (.ifCond .eq 5, 3) := by decide +kernel
theorem dX4_clauseOf_10 : decode cX4_clauseOf 10 = .ok (.iconst 0, 1) := by decide +kernel
theorem dX4_clauseOf_11 : decode cX4_clauseOf 11 = .ok (.ireturn, 1) := by decide +kernel
theorem dX4_clauseOf_12 : decode cX4_clauseOf 12 = .ok (.iload_n 1, 1) := by decide +kernel
theorem dX4_clauseOf_13 : decode cX4_clauseOf 13 = .ok (.bipush 104, 2) := by decide +kernel
theorem dX4_clauseOf_15 : decode cX4_clauseOf 15 = .ok (.if_icmp .ne 26, 3) := by decide +kernel
theorem dX4_clauseOf_18 : decode cX4_clauseOf 18 = .ok (.aload_n 0, 1) := by decide +kernel
theorem dX4_clauseOf_19 : decode cX4_clauseOf 19 = .ok (.getfield 34, 3) := by decide +kernel
theorem dX4_clauseOf_22 : decode cX4_clauseOf 22 = .ok (.iconst 3, 1) := by decide +kernel
theorem dX4_clauseOf_23 : decode cX4_clauseOf 23 = .ok (.if_icmp .ge 18, 3) := by decide +kernel
theorem dX4_clauseOf_26 : decode cX4_clauseOf 26 = .ok (.aload_n 0, 1) := by decide +kernel
theorem dX4_clauseOf_27 : decode cX4_clauseOf 27 = .ok (.dup, 1) := by decide +kernel
theorem dX4_clauseOf_28 : decode cX4_clauseOf 28 = .ok (.getfield 34, 3) := by decide +kernel
theorem dX4_clauseOf_31 : decode cX4_clauseOf 31 = .ok (.iconst 1, 1) := by decide +kernel
theorem dX4_clauseOf_32 : decode cX4_clauseOf 32 = .ok (.iadd, 1) := by decide +kernel
theorem dX4_clauseOf_33 : decode cX4_clauseOf 33 = .ok (.putfield 34, 3) := by decide +kernel
theorem dX4_clauseOf_36 : decode cX4_clauseOf 36 = .ok (.aload_n 0, 1) := by decide +kernel
theorem dX4_clauseOf_37 : decode cX4_clauseOf 37 = .ok (.getfield 34, 3) := by decide +kernel
theorem dX4_clauseOf_40 : decode cX4_clauseOf 40 = .ok (.ireturn, 1) := by decide +kernel
theorem dX4_clauseOf_41 : decode cX4_clauseOf 41 = .ok (.iload_n 1, 1) := by decide +kernel
theorem dX4_clauseOf_42 : decode cX4_clauseOf 42 = .ok (.bipush 99, 2) := by decide +kernel
theorem dX4_clauseOf_44 : decode cX4_clauseOf 44 = .ok (.if_icmp .ne 28, 3) := by decide +kernel
theorem dX4_clauseOf_47 : decode cX4_clauseOf 47 = .ok (.aload_n 0, 1) := by decide +kernel
theorem dX4_clauseOf_48 : decode cX4_clauseOf 48 = .ok (.getfield 37, 3) := by decide +kernel
theorem dX4_clauseOf_51 : decode cX4_clauseOf 51 = .ok (.iconst 3, 1) := by decide +kernel
theorem dX4_clauseOf_52 : decode cX4_clauseOf 52 = .ok (.if_icmp .ge 20, 3) := by decide +kernel
theorem dX4_clauseOf_55 : decode cX4_clauseOf 55 = .ok (.aload_n 0, 1) := by decide +kernel
theorem dX4_clauseOf_56 : decode cX4_clauseOf 56 = .ok (.dup, 1) := by decide +kernel
theorem dX4_clauseOf_57 : decode cX4_clauseOf 57 = .ok (.getfield 37, 3) := by decide +kernel
theorem dX4_clauseOf_60 : decode cX4_clauseOf 60 = .ok (.iconst 1, 1) := by decide +kernel
theorem dX4_clauseOf_61 : decode cX4_clauseOf 61 = .ok (.iadd, 1) := by decide +kernel
theorem dX4_clauseOf_62 : decode cX4_clauseOf 62 = .ok (.putfield 37, 3) := by decide +kernel
theorem dX4_clauseOf_65 : decode cX4_clauseOf 65 = .ok (.iconst 3, 1) := by decide +kernel
theorem dX4_clauseOf_66 : decode cX4_clauseOf 66 = .ok (.aload_n 0, 1) := by decide +kernel
theorem dX4_clauseOf_67 : decode cX4_clauseOf 67 = .ok (.getfield 37, 3) := by decide +kernel
theorem dX4_clauseOf_70 : decode cX4_clauseOf 70 = .ok (.iadd, 1) := by decide +kernel
theorem dX4_clauseOf_71 : decode cX4_clauseOf 71 = .ok (.ireturn, 1) := by decide +kernel
theorem dX4_clauseOf_72 : decode cX4_clauseOf 72 = .ok (.iconst (-1), 1) := by decide +kernel
theorem dX4_clauseOf_73 : decode cX4_clauseOf 73 = .ok (.ireturn, 1) := by decide +kernel
theorem qxX4_itemOf_0 : ∀ w ∈ (wsX4_itemOf_r1 ++ wsX4_itemOf_r2), w ∈ wsX4_itemOf := fun w h => List.mem_cons_of_mem _ h
theorem qxX4_itemOf_1 : ∀ w ∈ wsX4_itemOf_r1, w ∈ wsX4_itemOf := in_l qxX4_itemOf_0
theorem qxX4_itemOf_2 : ∀ w ∈ wsX4_itemOf_r2, w ∈ wsX4_itemOf := in_r qxX4_itemOf_0
def pxX4_itemOf : List (List Cond) := [wsX4_itemOf_r1, wsX4_itemOf_r2]
theorem pxX4_itemOf_in : ∀ q ∈ pxX4_itemOf, ∀ w ∈ q, w ∈ wsX4_itemOf := lp_c qxX4_itemOf_1 (lp_c qxX4_itemOf_2 (lp_n))
set_option maxRecDepth 20000 in
theorem ggX4_itemOf_J0_charAt_5068e : GoodIn wsX4_itemOf wsJ0_charAt_5068e := goodIn_pp pxX4_itemOf pxX4_itemOf_in _ [(0, 4), (0, 5), (0, 6), (0, 7), (0, 8), (0, 3), (0, 9), (0, 10), (0, 11), (0, 12), (0, 13), (0, 14), (0, 15), (0, 16), (0, 17), (0, 18), (0, 19), (0, 20), (0, 21), (0, 22), (0, 23), (1, 0), (1, 1), (1, 2), (1, 3), (1, 4), (1, 5), (1, 6), (1, 7), (1, 8), (1, 9), (1, 10), (1, 11), (1, 12), (1, 13), (1, 14), (1, 15), (1, 16)] rfl (by decide +kernel)
set_option maxRecDepth 20000 in
theorem gX4_itemOf_J0_charAt_5068e : GoodIn wsX4_itemOf (wsV RX4 74 RJ0 yJ0_charAt_5068e wsJ0_charAt_5068e) := goodIn_app (goodIn_of _ (by decide +kernel)) ggX4_itemOf_J0_charAt_5068e
theorem dX4_itemOf_0 : decode cX4_itemOf 0 = .ok (.iconst 0, 1) := by decide +kernel
theorem dX4_itemOf_1 : decode cX4_itemOf 1 = .ok (.istore_n 2, 1) := by decide +kernel
theorem dX4_itemOf_2 : decode cX4_itemOf 2 = .ok (.iload_n 2, 1) := by decide +kernel
theorem dX4_itemOf_3 : decode cX4_itemOf 3 = .ok (.iconst 3, 1) := by decide +kernel
theorem dX4_itemOf_4 : decode cX4_itemOf 4 = .ok (.if_icmp .ge 25, 3) := by decide +kernel
theorem dX4_itemOf_7 : decode cX4_itemOf 7 = .ok (.ldc 72, 2) := by decide +kernel
theorem dX4_itemOf_9 : decode cX4_itemOf 9 = .ok (.iload_n 0, 1) := by decide +kernel
theorem dX4_itemOf_10 : decode cX4_itemOf 10 = .ok (.iconst 3, 1) := by decide +kernel
theorem dX4_itemOf_11 : decode cX4_itemOf 11 = .ok (.imul, 1) := by decide +kernel
theorem dX4_itemOf_12 : decode cX4_itemOf 12 = .ok (.iload_n 2, 1) := by decide +kernel
theorem dX4_itemOf_13 : decode cX4_itemOf 13 = .ok (.iadd, 1) := by decide +kernel
theorem dX4_itemOf_14 : decode cX4_itemOf 14 = .ok (.invokevirtual 74, 3) := by decide +kernel
theorem dX4_itemOf_17 : decode cX4_itemOf 17 = .ok (.iload_n 1, 1) := by decide +kernel
theorem dX4_itemOf_18 : decode cX4_itemOf 18 = .ok (.if_icmp .ne 5, 3) := by decide +kernel
theorem dX4_itemOf_21 : decode cX4_itemOf 21 = .ok (.iload_n 2, 1) := by decide +kernel
theorem dX4_itemOf_22 : decode cX4_itemOf 22 = .ok (.ireturn, 1) := by decide +kernel
theorem dX4_itemOf_23 : decode cX4_itemOf 23 = .ok (.iinc 2 1, 3) := by decide +kernel
theorem dX4_itemOf_26 : decode cX4_itemOf 26 = .ok (.goto (-24), 3) := by decide +kernel
theorem dX4_itemOf_29 : decode cX4_itemOf 29 = .ok (.iconst (-1), 1) := by decide +kernel
theorem dX4_itemOf_30 : decode cX4_itemOf 30 = .ok (.ireturn, 1) := by decide +kernel
set_option maxRecDepth 20000 in
theorem ggX4_readNumber_X4_passBlanks : GoodIn wsX4_readNumber wsX4_passBlanks := goodIn_r _ [11, 2, 12, 1, 23, 24, 25, 26, 27, 28, 29] (by decide +kernel) (by decide +kernel)
set_option maxRecDepth 20000 in
theorem gX4_readNumber_X4_passBlanks : GoodIn wsX4_readNumber (wsV RX4 58 RX4 yX4_passBlanks wsX4_passBlanks) := goodIn_app (goodIn_of _ (by decide +kernel)) ggX4_readNumber_X4_passBlanks
set_option maxRecDepth 20000 in
theorem ggX4_readNumber_X4_isDigitHere : GoodIn wsX4_readNumber wsX4_isDigitHere := goodIn_r _ [16, 2, 12, 1, 23, 24, 25, 26, 27, 28, 29] (by decide +kernel) (by decide +kernel)
set_option maxRecDepth 20000 in
theorem gX4_readNumber_X4_isDigitHere : GoodIn wsX4_readNumber (wsV RX4 80 RX4 yX4_isDigitHere wsX4_isDigitHere) := goodIn_app (goodIn_of _ (by decide +kernel)) ggX4_readNumber_X4_isDigitHere
set_option maxRecDepth 20000 in
theorem ggX4_readNumber_X4_kindOf : GoodIn wsX4_readNumber wsX4_kindOf := goodIn_r _ [19] (by decide +kernel) (by decide +kernel)
set_option maxRecDepth 20000 in
theorem gX4_readNumber_X4_kindOf : GoodIn wsX4_readNumber (va_wsS RX4 50 yX4_kindOf wsX4_kindOf) := goodIn_app (goodIn_of _ (by decide +kernel)) ggX4_readNumber_X4_kindOf
set_option maxRecDepth 20000 in
theorem ggX4_readNumber_X6_outside : GoodIn wsX4_readNumber wsX6_outside := goodIn_r _ [22] (by decide +kernel) (by decide +kernel)
set_option maxRecDepth 20000 in
theorem gX4_readNumber_X6_outside_n90 : GoodIn wsX4_readNumber (wsX6_outside) := ggX4_readNumber_X6_outside
theorem dX4_readNumber_0 : decode cX4_readNumber 0 = .ok (.aload_n 0, 1) := by decide +kernel
theorem dX4_readNumber_1 : decode cX4_readNumber 1 = .ok (.invokevirtual 58, 3) := by decide +kernel
theorem dX4_readNumber_4 : decode cX4_readNumber 4 = .ok (.iconst 0, 1) := by decide +kernel
theorem dX4_readNumber_5 : decode cX4_readNumber 5 = .ok (.istore_n 3, 1) := by decide +kernel
theorem dX4_readNumber_6 : decode cX4_readNumber 6 = .ok (.iconst 0, 1) := by decide +kernel
theorem dX4_readNumber_7 : decode cX4_readNumber 7 = .ok (.istore 4, 2) := by decide +kernel
theorem dX4_readNumber_9 : decode cX4_readNumber 9 = .ok (.iload 4, 2) := by decide +kernel
theorem dX4_readNumber_11 : decode cX4_readNumber 11 = .ok (.iconst 2, 1) := by decide +kernel
theorem dX4_readNumber_12 : decode cX4_readNumber 12 = .ok (.if_icmp .ge 44, 3) := by decide +kernel
theorem dX4_readNumber_15 : decode cX4_readNumber 15 = .ok (.aload_n 0, 1) := by decide +kernel
theorem dX4_readNumber_16 : decode cX4_readNumber 16 = .ok (.invokevirtual 80, 3) := by decide +kernel
theorem dX4_readNumber_19 : decode cX4_readNumber 19 = .ok (.ifCond .eq 37, 3) := by decide +kernel
theorem dX4_readNumber_22 : decode cX4_readNumber 22 = .ok (.iload_n 3, 1) := by decide +kernel
theorem dX4_readNumber_23 : decode cX4_readNumber 23 = .ok (.bipush 10, 2) := by decide +kernel
theorem dX4_readNumber_25 : decode cX4_readNumber 25 = .ok (.imul, 1) := by decide +kernel
theorem dX4_readNumber_26 : decode cX4_readNumber 26 = .ok (.aload_n 0, 1) := by decide +kernel
theorem dX4_readNumber_27 : decode cX4_readNumber 27 = .ok (.getfield 9, 3) := by decide +kernel
theorem dX4_readNumber_30 : decode cX4_readNumber 30 = .ok (.aload_n 0, 1) := by decide +kernel
theorem dX4_readNumber_31 : decode cX4_readNumber 31 = .ok (.getfield 28, 3) := by decide +kernel
theorem dX4_readNumber_34 : decode cX4_readNumber 34 = .ok (.iaload, 1) := by decide +kernel
theorem dX4_readNumber_35 : decode cX4_readNumber 35 = .ok (.iadd, 1) := by decide +kernel
theorem dX4_readNumber_36 : decode cX4_readNumber 36 = .ok (.bipush 48, 2) := by decide +kernel
theorem dX4_readNumber_38 : decode cX4_readNumber 38 = .ok (.isub, 1) := by decide +kernel
theorem dX4_readNumber_39 : decode cX4_readNumber 39 = .ok (.istore_n 3, 1) := by decide +kernel
theorem dX4_readNumber_40 : decode cX4_readNumber 40 = .ok (.iinc 4 1, 3) := by decide +kernel
theorem dX4_readNumber_43 : decode cX4_readNumber 43 = .ok (.aload_n 0, 1) := by decide +kernel
theorem dX4_readNumber_44 : decode cX4_readNumber 44 = .ok (.dup, 1) := by decide +kernel
theorem dX4_readNumber_45 : decode cX4_readNumber 45 = .ok (.getfield 28, 3) := by decide +kernel
theorem dX4_readNumber_48 : decode cX4_readNumber 48 = .ok (.iconst 1, 1) := by decide +kernel
theorem dX4_readNumber_49 : decode cX4_readNumber 49 = .ok (.iadd, 1) := by decide +kernel
theorem dX4_readNumber_50 : decode cX4_readNumber 50 = .ok (.putfield 28, 3) := by decide +kernel
theorem dX4_readNumber_53 : decode cX4_readNumber 53 = .ok (.goto (-44), 3) := by decide +kernel
theorem dX4_readNumber_56 : decode cX4_readNumber 56 = .ok (.iload 4, 2) := by decide +kernel
theorem dX4_readNumber_58 : decode cX4_readNumber 58 = .ok (.ifCond .eq 10, 3) := by decide +kernel
theorem dX4_readNumber_61 : decode cX4_readNumber 61 = .ok (.aload_n 0, 1) := by decide +kernel
theorem dX4_readNumber_62 : decode cX4_readNumber 62 = .ok (.invokevirtual 80, 3) := by decide +kernel
theorem dX4_readNumber_65 : decode cX4_readNumber 65 = .ok (.ifCond .eq 12, 3) := by decide +kernel
theorem dX4_readNumber_68 : decode cX4_readNumber 68 = .ok (.aload_n 0, 1) := by decide +kernel
theorem dX4_readNumber_69 : decode cX4_readNumber 69 = .ok (.aload_n 0, 1) := by decide +kernel
theorem dX4_readNumber_70 : decode cX4_readNumber 70 = .ok (.getfield 28, 3) := by decide +kernel
theorem dX4_readNumber_73 : decode cX4_readNumber 73 = .ok (.putfield 31, 3) := by decide +kernel
theorem dX4_readNumber_76 : decode cX4_readNumber 76 = .ok (.return_, 1) := by decide +kernel
theorem dX4_readNumber_77 : decode cX4_readNumber 77 = .ok (.iload_n 1, 1) := by decide +kernel
theorem dX4_readNumber_78 : decode cX4_readNumber 78 = .ok (.invokestatic 50, 3) := by decide +kernel
theorem dX4_readNumber_81 : decode cX4_readNumber 81 = .ok (.iconst 3, 1) := by decide +kernel
theorem dX4_readNumber_82 : decode cX4_readNumber 82 = .ok (.imul, 1) := by decide +kernel
theorem dX4_readNumber_83 : decode cX4_readNumber 83 = .ok (.iload_n 2, 1) := by decide +kernel
theorem dX4_readNumber_84 : decode cX4_readNumber 84 = .ok (.iadd, 1) := by decide +kernel
theorem dX4_readNumber_85 : decode cX4_readNumber 85 = .ok (.istore 5, 2) := by decide +kernel
theorem dX4_readNumber_87 : decode cX4_readNumber 87 = .ok (.iload_n 3, 1) := by decide +kernel
theorem dX4_readNumber_88 : decode cX4_readNumber 88 = .ok (.getstatic 84, 3) := by decide +kernel
theorem dX4_readNumber_91 : decode cX4_readNumber 91 = .ok (.iload 5, 2) := by decide +kernel
theorem dX4_readNumber_93 : decode cX4_readNumber 93 = .ok (.iaload, 1) := by decide +kernel
theorem dX4_readNumber_94 : decode cX4_readNumber 94 = .ok (.getstatic 87, 3) := by decide +kernel
theorem dX4_readNumber_97 : decode cX4_readNumber 97 = .ok (.iload 5, 2) := by decide +kernel
theorem dX4_readNumber_99 : decode cX4_readNumber 99 = .ok (.iaload, 1) := by decide +kernel
theorem dX4_readNumber_100 : decode cX4_readNumber 100 = .ok (.invokestatic 90, 3) := by decide +kernel
theorem dX4_readNumber_103 : decode cX4_readNumber 103 = .ok (.ifCond .eq 14, 3) := by decide +kernel
theorem dX4_readNumber_106 : decode cX4_readNumber 106 = .ok (.aload_n 0, 1) := by decide +kernel
theorem dX4_readNumber_107 : decode cX4_readNumber 107 = .ok (.aload_n 0, 1) := by decide +kernel
theorem dX4_readNumber_108 : decode cX4_readNumber 108 = .ok (.getfield 28, 3) := by decide +kernel
theorem dX4_readNumber_111 : decode cX4_readNumber 111 = .ok (.iconst 1, 1) := by decide +kernel
theorem dX4_readNumber_112 : decode cX4_readNumber 112 = .ok (.isub, 1) := by decide +kernel
theorem dX4_readNumber_113 : decode cX4_readNumber 113 = .ok (.putfield 31, 3) := by decide +kernel
theorem dX4_readNumber_116 : decode cX4_readNumber 116 = .ok (.return_, 1) := by decide +kernel
theorem dX4_readNumber_117 : decode cX4_readNumber 117 = .ok (.aload_n 0, 1) := by decide +kernel
theorem dX4_readNumber_118 : decode cX4_readNumber 118 = .ok (.getfield 15, 3) := by decide +kernel
theorem dX4_readNumber_121 : decode cX4_readNumber 121 = .ok (.iload_n 1, 1) := by decide +kernel
theorem dX4_readNumber_122 : decode cX4_readNumber 122 = .ok (.iconst 3, 1) := by decide +kernel
theorem dX4_readNumber_123 : decode cX4_readNumber 123 = .ok (.imul, 1) := by decide +kernel
theorem dX4_readNumber_124 : decode cX4_readNumber 124 = .ok (.iload_n 2, 1) := by decide +kernel
theorem dX4_readNumber_125 : decode cX4_readNumber 125 = .ok (.iadd, 1) := by decide +kernel
theorem dX4_readNumber_126 : decode cX4_readNumber 126 = .ok (.iload_n 3, 1) := by decide +kernel
theorem dX4_readNumber_127 : decode cX4_readNumber 127 = .ok (.iastore, 1) := by decide +kernel
theorem dX4_readNumber_128 : decode cX4_readNumber 128 = .ok (.return_, 1) := by decide +kernel
theorem dX4_isDigitHere_0 : decode cX4_isDigitHere 0 = .ok (.aload_n 0, 1) := by decide +kernel
theorem dX4_isDigitHere_1 : decode cX4_isDigitHere 1 = .ok (.getfield 28, 3) := by decide +kernel
theorem dX4_isDigitHere_4 : decode cX4_isDigitHere 4 = .ok (.aload_n 0, 1) := by decide +kernel
theorem dX4_isDigitHere_5 : decode cX4_isDigitHere 5 = .ok (.getfield 24, 3) := by decide +kernel
theorem dX4_isDigitHere_8 : decode cX4_isDigitHere 8 = .ok (.if_icmp .ge 35, 3) := by decide +kernel
theorem dX4_isDigitHere_11 : decode cX4_isDigitHere 11 = .ok (.aload_n 0, 1) := by decide +kernel
theorem dX4_isDigitHere_12 : decode cX4_isDigitHere 12 = .ok (.getfield 9, 3) := by decide +kernel
theorem dX4_isDigitHere_15 : decode cX4_isDigitHere 15 = .ok (.aload_n 0, 1) := by decide +kernel
theorem dX4_isDigitHere_16 : decode cX4_isDigitHere 16 = .ok (.getfield 28, 3) := by decide +kernel
theorem dX4_isDigitHere_19 : decode cX4_isDigitHere 19 = .ok (.iaload, 1) := by decide +kernel
theorem dX4_isDigitHere_20 : decode cX4_isDigitHere 20 = .ok (.bipush 48, 2) := by decide +kernel
theorem dX4_isDigitHere_22 : decode cX4_isDigitHere 22 = .ok (.if_icmp .lt 21, 3) := by decide +kernel
theorem dX4_isDigitHere_25 : decode cX4_isDigitHere 25 = .ok (.aload_n 0, 1) := by decide +kernel
theorem dX4_isDigitHere_26 : decode cX4_isDigitHere 26 = .ok (.getfield 9, 3) := by decide +kernel
theorem dX4_isDigitHere_29 : decode cX4_isDigitHere 29 = .ok (.aload_n 0, 1) := by decide +kernel
theorem dX4_isDigitHere_30 : decode cX4_isDigitHere 30 = .ok (.getfield 28, 3) := by decide +kernel
theorem dX4_isDigitHere_33 : decode cX4_isDigitHere 33 = .ok (.iaload, 1) := by decide +kernel
theorem dX4_isDigitHere_34 : decode cX4_isDigitHere 34 = .ok (.bipush 57, 2) := by decide +kernel
theorem dX4_isDigitHere_36 : decode cX4_isDigitHere 36 = .ok (.if_icmp .gt 7, 3) := by decide +kernel
theorem dX4_isDigitHere_39 : decode cX4_isDigitHere 39 = .ok (.iconst 1, 1) := by decide +kernel
theorem dX4_isDigitHere_40 : decode cX4_isDigitHere 40 = .ok (.goto 4, 3) := by decide +kernel
theorem dX4_isDigitHere_43 : decode cX4_isDigitHere 43 = .ok (.iconst 0, 1) := by decide +kernel
theorem dX4_isDigitHere_44 : decode cX4_isDigitHere 44 = .ok (.ireturn, 1) := by decide +kernel
theorem dX4_passBlanks_0 : decode cX4_passBlanks 0 = .ok (.aload_n 0, 1) := by decide +kernel
theorem dX4_passBlanks_1 : decode cX4_passBlanks 1 = .ok (.getfield 28, 3) := by decide +kernel
theorem dX4_passBlanks_4 : decode cX4_passBlanks 4 = .ok (.aload_n 0, 1) := by decide +kernel
theorem dX4_passBlanks_5 : decode cX4_passBlanks 5 = .ok (.getfield 24, 3) := by decide +kernel
theorem dX4_passBlanks_8 : decode cX4_passBlanks 8 = .ok (.if_icmp .ge 30, 3) := by decide +kernel
theorem dX4_passBlanks_11 : decode cX4_passBlanks 11 = .ok (.aload_n 0, 1) := by decide +kernel
theorem dX4_passBlanks_12 : decode cX4_passBlanks 12 = .ok (.getfield 9, 3) := by decide +kernel
theorem dX4_passBlanks_15 : decode cX4_passBlanks 15 = .ok (.aload_n 0, 1) := by decide +kernel
theorem dX4_passBlanks_16 : decode cX4_passBlanks 16 = .ok (.getfield 28, 3) := by decide +kernel
theorem dX4_passBlanks_19 : decode cX4_passBlanks 19 = .ok (.iaload, 1) := by decide +kernel
theorem dX4_passBlanks_20 : decode cX4_passBlanks 20 = .ok (.bipush 32, 2) := by decide +kernel
theorem dX4_passBlanks_22 : decode cX4_passBlanks 22 = .ok (.if_icmp .ne 16, 3) := by decide +kernel
theorem dX4_passBlanks_25 : decode cX4_passBlanks 25 = .ok (.aload_n 0, 1) := by decide +kernel
theorem dX4_passBlanks_26 : decode cX4_passBlanks 26 = .ok (.dup, 1) := by decide +kernel
theorem dX4_passBlanks_27 : decode cX4_passBlanks 27 = .ok (.getfield 28, 3) := by decide +kernel
theorem dX4_passBlanks_30 : decode cX4_passBlanks 30 = .ok (.iconst 1, 1) := by decide +kernel
theorem dX4_passBlanks_31 : decode cX4_passBlanks 31 = .ok (.iadd, 1) := by decide +kernel
theorem dX4_passBlanks_32 : decode cX4_passBlanks 32 = .ok (.putfield 28, 3) := by decide +kernel
theorem dX4_passBlanks_35 : decode cX4_passBlanks 35 = .ok (.goto (-35), 3) := by decide +kernel
theorem dX4_passBlanks_38 : decode cX4_passBlanks 38 = .ok (.return_, 1) := by decide +kernel
theorem dX4_hops_0 : decode cX4_hops 0 = .ok (.iconst 1, 1) := by decide +kernel
theorem dX4_hops_1 : decode cX4_hops 1 = .ok (.aload_n 0, 1) := by decide +kernel
theorem dX4_hops_2 : decode cX4_hops 2 = .ok (.getfield 34, 3) := by decide +kernel
theorem dX4_hops_5 : decode cX4_hops 5 = .ok (.invokestatic 94, 3) := by decide +kernel
theorem dX4_hops_8 : decode cX4_hops 8 = .ok (.ireturn, 1) := by decide +kernel
theorem dX4_circuits_0 : decode cX4_circuits 0 = .ok (.iconst 1, 1) := by decide +kernel
theorem dX4_circuits_1 : decode cX4_circuits 1 = .ok (.aload_n 0, 1) := by decide +kernel
theorem dX4_circuits_2 : decode cX4_circuits 2 = .ok (.getfield 37, 3) := by decide +kernel
theorem dX4_circuits_5 : decode cX4_circuits 5 = .ok (.invokestatic 94, 3) := by decide +kernel
theorem dX4_circuits_8 : decode cX4_circuits 8 = .ok (.ireturn, 1) := by decide +kernel
theorem dX4_ofRules_0 : decode cX4_ofRules 0 = .ok (.aload_n 0, 1) := by decide +kernel
theorem dX4_ofRules_1 : decode cX4_ofRules 1 = .ok (.getfield 15, 3) := by decide +kernel
theorem dX4_ofRules_4 : decode cX4_ofRules 4 = .ok (.iload_n 1, 1) := by decide +kernel
theorem dX4_ofRules_5 : decode cX4_ofRules 5 = .ok (.iaload, 1) := by decide +kernel
theorem dX4_ofRules_6 : decode cX4_ofRules 6 = .ok (.ireturn, 1) := by decide +kernel
theorem dX4_ofHop_0 : decode cX4_ofHop 0 = .ok (.aload_n 0, 1) := by decide +kernel
theorem dX4_ofHop_1 : decode cX4_ofHop 1 = .ok (.getfield 15, 3) := by decide +kernel
theorem dX4_ofHop_4 : decode cX4_ofHop 4 = .ok (.iconst 1, 1) := by decide +kernel
theorem dX4_ofHop_5 : decode cX4_ofHop 5 = .ok (.iload_n 1, 1) := by decide +kernel
theorem dX4_ofHop_6 : decode cX4_ofHop 6 = .ok (.iadd, 1) := by decide +kernel
theorem dX4_ofHop_7 : decode cX4_ofHop 7 = .ok (.iconst 3, 1) := by decide +kernel
theorem dX4_ofHop_8 : decode cX4_ofHop 8 = .ok (.imul, 1) := by decide +kernel
theorem dX4_ofHop_9 : decode cX4_ofHop 9 = .ok (.iload_n 2, 1) := by decide +kernel
theorem dX4_ofHop_10 : decode cX4_ofHop 10 = .ok (.iadd, 1) := by decide +kernel
theorem dX4_ofHop_11 : decode cX4_ofHop 11 = .ok (.iaload, 1) := by decide +kernel
theorem dX4_ofHop_12 : decode cX4_ofHop 12 = .ok (.ireturn, 1) := by decide +kernel
theorem dX4_ofCircuit_0 : decode cX4_ofCircuit 0 = .ok (.aload_n 0, 1) := by decide +kernel
theorem dX4_ofCircuit_1 : decode cX4_ofCircuit 1 = .ok (.getfield 15, 3) := by decide +kernel
theorem dX4_ofCircuit_4 : decode cX4_ofCircuit 4 = .ok (.iconst 4, 1) := by decide +kernel
theorem dX4_ofCircuit_5 : decode cX4_ofCircuit 5 = .ok (.iload_n 1, 1) := by decide +kernel
theorem dX4_ofCircuit_6 : decode cX4_ofCircuit 6 = .ok (.iadd, 1) := by decide +kernel
theorem dX4_ofCircuit_7 : decode cX4_ofCircuit 7 = .ok (.iconst 3, 1) := by decide +kernel
theorem dX4_ofCircuit_8 : decode cX4_ofCircuit 8 = .ok (.imul, 1) := by decide +kernel
theorem dX4_ofCircuit_9 : decode cX4_ofCircuit 9 = .ok (.iload_n 2, 1) := by decide +kernel
theorem dX4_ofCircuit_10 : decode cX4_ofCircuit 10 = .ok (.iadd, 1) := by decide +kernel
theorem dX4_ofCircuit_11 : decode cX4_ofCircuit 11 = .ok (.iaload, 1) := by decide +kernel
theorem dX4_ofCircuit_12 : decode cX4_ofCircuit 12 = .ok (.ireturn, 1) := by decide +kernel
theorem dX5_init_0 : decode cX5_init 0 = .ok (.aload_n 0, 1) := by decide +kernel
theorem dX5_init_1 : decode cX5_init 1 = .ok (.invokespecial 1, 3) := by decide +kernel
theorem dX5_init_4 : decode cX5_init 4 = .ok (.aload_n 0, 1) := by decide +kernel
theorem dX5_init_5 : decode cX5_init 5 = .ok (.sipush 256, 3) := by decide +kernel
theorem dX5_init_8 : decode cX5_init 8 = .ok (.newarray .int, 2) := by decide +kernel
theorem dX5_init_10 : decode cX5_init 10 = .ok (.putfield 9, 3) := by decide +kernel
theorem dX5_init_13 : decode cX5_init 13 = .ok (.return_, 1) := by decide +kernel
theorem dX5_clear_0 : decode cX5_clear 0 = .ok (.aload_n 0, 1) := by decide +kernel
theorem dX5_clear_1 : decode cX5_clear 1 = .ok (.iconst 0, 1) := by decide +kernel
theorem dX5_clear_2 : decode cX5_clear 2 = .ok (.putfield 13, 3) := by decide +kernel
theorem dX5_clear_5 : decode cX5_clear 5 = .ok (.aload_n 0, 1) := by decide +kernel
theorem dX5_clear_6 : decode cX5_clear 6 = .ok (.iconst 0, 1) := by decide +kernel
theorem dX5_clear_7 : decode cX5_clear 7 = .ok (.putfield 17, 3) := by decide +kernel
theorem dX5_clear_10 : decode cX5_clear 10 = .ok (.aload_n 0, 1) := by decide +kernel
theorem dX5_clear_11 : decode cX5_clear 11 = .ok (.iconst 0, 1) := by decide +kernel
theorem dX5_clear_12 : decode cX5_clear 12 = .ok (.putfield 20, 3) := by decide +kernel
theorem dX5_clear_15 : decode cX5_clear 15 = .ok (.aload_n 0, 1) := by decide +kernel
theorem dX5_clear_16 : decode cX5_clear 16 = .ok (.iconst 0, 1) := by decide +kernel
theorem dX5_clear_17 : decode cX5_clear 17 = .ok (.putfield 23, 3) := by decide +kernel
theorem dX5_clear_20 : decode cX5_clear 20 = .ok (.aload_n 0, 1) := by decide +kernel
theorem dX5_clear_21 : decode cX5_clear 21 = .ok (.iconst 0, 1) := by decide +kernel
theorem dX5_clear_22 : decode cX5_clear 22 = .ok (.putfield 26, 3) := by decide +kernel
theorem dX5_clear_25 : decode cX5_clear 25 = .ok (.return_, 1) := by decide +kernel
theorem dX5_begin_0 : decode cX5_begin 0 = .ok (.aload_n 0, 1) := by decide +kernel
theorem dX5_begin_1 : decode cX5_begin 1 = .ok (.getfield 9, 3) := by decide +kernel
theorem dX5_begin_4 : decode cX5_begin 4 = .ok (.aload_n 0, 1) := by decide +kernel
theorem dX5_begin_5 : decode cX5_begin 5 = .ok (.getfield 13, 3) := by decide +kernel
theorem dX5_begin_8 : decode cX5_begin 8 = .ok (.aload_n 0, 1) := by decide +kernel
theorem dX5_begin_9 : decode cX5_begin 9 = .ok (.getfield 17, 3) := by decide +kernel
theorem dX5_begin_12 : decode cX5_begin 12 = .ok (.iadd, 1) := by decide +kernel
theorem dX5_begin_13 : decode cX5_begin 13 = .ok (.sipush 255, 3) := by decide +kernel
theorem dX5_begin_16 : decode cX5_begin 16 = .ok (.iand, 1) := by decide +kernel
theorem dX5_begin_17 : decode cX5_begin 17 = .ok (.iload_n 1, 1) := by decide +kernel
theorem dX5_begin_18 : decode cX5_begin 18 = .ok (.iastore, 1) := by decide +kernel
theorem dX5_begin_19 : decode cX5_begin 19 = .ok (.aload_n 0, 1) := by decide +kernel
theorem dX5_begin_20 : decode cX5_begin 20 = .ok (.dup, 1) := by decide +kernel
theorem dX5_begin_21 : decode cX5_begin 21 = .ok (.getfield 17, 3) := by decide +kernel
theorem dX5_begin_24 : decode cX5_begin 24 = .ok (.iconst 1, 1) := by decide +kernel
theorem dX5_begin_25 : decode cX5_begin 25 = .ok (.iadd, 1) := by decide +kernel
theorem dX5_begin_26 : decode cX5_begin 26 = .ok (.putfield 17, 3) := by decide +kernel
theorem dX5_begin_29 : decode cX5_begin 29 = .ok (.return_, 1) := by decide +kernel
theorem dX5_firstBegun_0 : decode cX5_firstBegun 0 = .ok (.aload_n 0, 1) := by decide +kernel
theorem dX5_firstBegun_1 : decode cX5_firstBegun 1 = .ok (.getfield 9, 3) := by decide +kernel
theorem dX5_firstBegun_4 : decode cX5_firstBegun 4 = .ok (.aload_n 0, 1) := by decide +kernel
theorem dX5_firstBegun_5 : decode cX5_firstBegun 5 = .ok (.getfield 13, 3) := by decide +kernel
theorem dX5_firstBegun_8 : decode cX5_firstBegun 8 = .ok (.sipush 255, 3) := by decide +kernel
theorem dX5_firstBegun_11 : decode cX5_firstBegun 11 = .ok (.iand, 1) := by decide +kernel
theorem dX5_firstBegun_12 : decode cX5_firstBegun 12 = .ok (.iaload, 1) := by decide +kernel
theorem dX5_firstBegun_13 : decode cX5_firstBegun 13 = .ok (.ireturn, 1) := by decide +kernel
set_option maxRecDepth 20000 in
theorem ggX5_finish_X5_firstBegun : GoodIn wsX5_finish wsX5_firstBegun := goodIn_r _ [14, 15, 8, 16, 17, 18, 19, 20, 21] (by decide +kernel) (by decide +kernel)
set_option maxRecDepth 20000 in
theorem gX5_finish_X5_firstBegun : GoodIn wsX5_finish (wsV RX5 29 RX5 yX5_firstBegun wsX5_firstBegun) := goodIn_app (goodIn_of _ (by decide +kernel)) ggX5_finish_X5_firstBegun
theorem dX5_finish_0 : decode cX5_finish 0 = .ok (.aload_n 0, 1) := by decide +kernel
theorem dX5_finish_1 : decode cX5_finish 1 = .ok (.iload_n 1, 1) := by decide +kernel
theorem dX5_finish_2 : decode cX5_finish 2 = .ok (.aload_n 0, 1) := by decide +kernel
theorem dX5_finish_3 : decode cX5_finish 3 = .ok (.invokevirtual 29, 3) := by decide +kernel
theorem dX5_finish_6 : decode cX5_finish 6 = .ok (.isub, 1) := by decide +kernel
theorem dX5_finish_7 : decode cX5_finish 7 = .ok (.putfield 20, 3) := by decide +kernel
theorem dX5_finish_10 : decode cX5_finish 10 = .ok (.aload_n 0, 1) := by decide +kernel
theorem dX5_finish_11 : decode cX5_finish 11 = .ok (.aload_n 0, 1) := by decide +kernel
theorem dX5_finish_12 : decode cX5_finish 12 = .ok (.getfield 23, 3) := by decide +kernel
theorem dX5_finish_15 : decode cX5_finish 15 = .ok (.aload_n 0, 1) := by decide +kernel
theorem dX5_finish_16 : decode cX5_finish 16 = .ok (.getfield 20, 3) := by decide +kernel
theorem dX5_finish_19 : decode cX5_finish 19 = .ok (.invokestatic 33, 3) := by decide +kernel
theorem dX5_finish_22 : decode cX5_finish 22 = .ok (.putfield 23, 3) := by decide +kernel
theorem dX5_finish_25 : decode cX5_finish 25 = .ok (.aload_n 0, 1) := by decide +kernel
theorem dX5_finish_26 : decode cX5_finish 26 = .ok (.dup, 1) := by decide +kernel
theorem dX5_finish_27 : decode cX5_finish 27 = .ok (.getfield 26, 3) := by decide +kernel
theorem dX5_finish_30 : decode cX5_finish 30 = .ok (.aload_n 0, 1) := by decide +kernel
theorem dX5_finish_31 : decode cX5_finish 31 = .ok (.getfield 20, 3) := by decide +kernel
theorem dX5_finish_34 : decode cX5_finish 34 = .ok (.iadd, 1) := by decide +kernel
theorem dX5_finish_35 : decode cX5_finish 35 = .ok (.putfield 26, 3) := by decide +kernel
theorem dX5_finish_38 : decode cX5_finish 38 = .ok (.aload_n 0, 1) := by decide +kernel
theorem dX5_finish_39 : decode cX5_finish 39 = .ok (.aload_n 0, 1) := by decide +kernel
theorem dX5_finish_40 : decode cX5_finish 40 = .ok (.getfield 13, 3) := by decide +kernel
theorem dX5_finish_43 : decode cX5_finish 43 = .ok (.iconst 1, 1) := by decide +kernel
theorem dX5_finish_44 : decode cX5_finish 44 = .ok (.iadd, 1) := by decide +kernel
theorem dX5_finish_45 : decode cX5_finish 45 = .ok (.sipush 255, 3) := by decide +kernel
theorem dX5_finish_48 : decode cX5_finish 48 = .ok (.iand, 1) := by decide +kernel
theorem dX5_finish_49 : decode cX5_finish 49 = .ok (.putfield 13, 3) := by decide +kernel
theorem dX5_finish_52 : decode cX5_finish 52 = .ok (.aload_n 0, 1) := by decide +kernel
theorem dX5_finish_53 : decode cX5_finish 53 = .ok (.dup, 1) := by decide +kernel
theorem dX5_finish_54 : decode cX5_finish 54 = .ok (.getfield 17, 3) := by decide +kernel
theorem dX5_finish_57 : decode cX5_finish 57 = .ok (.iconst 1, 1) := by decide +kernel
theorem dX5_finish_58 : decode cX5_finish 58 = .ok (.isub, 1) := by decide +kernel
theorem dX5_finish_59 : decode cX5_finish 59 = .ok (.putfield 17, 3) := by decide +kernel
theorem dX5_finish_62 : decode cX5_finish 62 = .ok (.return_, 1) := by decide +kernel
theorem dX6_reaches_0 : decode cX6_reaches 0 = .ok (.iload_n 0, 1) := by decide +kernel
theorem dX6_reaches_1 : decode cX6_reaches 1 = .ok (.iload_n 1, 1) := by decide +kernel
theorem dX6_reaches_2 : decode cX6_reaches 2 = .ok (.isub, 1) := by decide +kernel
theorem dX6_reaches_3 : decode cX6_reaches 3 = .ok (.bipush 63, 2) := by decide +kernel
theorem dX6_reaches_5 : decode cX6_reaches 5 = .ok (.iand, 1) := by decide +kernel
theorem dX6_reaches_6 : decode cX6_reaches 6 = .ok (.bipush 32, 2) := by decide +kernel
theorem dX6_reaches_8 : decode cX6_reaches 8 = .ok (.if_icmp .ge 7, 3) := by decide +kernel
theorem dX6_reaches_11 : decode cX6_reaches 11 = .ok (.iconst 1, 1) := by decide +kernel
theorem dX6_reaches_12 : decode cX6_reaches 12 = .ok (.goto 4, 3) := by decide +kernel
theorem dX6_reaches_15 : decode cX6_reaches 15 = .ok (.iconst 0, 1) := by decide +kernel
theorem dX6_reaches_16 : decode cX6_reaches 16 = .ok (.ireturn, 1) := by decide +kernel
theorem dX6_outside_0 : decode cX6_outside 0 = .ok (.iload_n 0, 1) := by decide +kernel
theorem dX6_outside_1 : decode cX6_outside 1 = .ok (.iload_n 1, 1) := by decide +kernel
theorem dX6_outside_2 : decode cX6_outside 2 = .ok (.if_icmp .lt 8, 3) := by decide +kernel
theorem dX6_outside_5 : decode cX6_outside 5 = .ok (.iload_n 0, 1) := by decide +kernel
theorem dX6_outside_6 : decode cX6_outside 6 = .ok (.iload_n 2, 1) := by decide +kernel
theorem dX6_outside_7 : decode cX6_outside 7 = .ok (.if_icmp .le 7, 3) := by decide +kernel
theorem dX6_outside_10 : decode cX6_outside 10 = .ok (.iconst 1, 1) := by decide +kernel
theorem dX6_outside_11 : decode cX6_outside 11 = .ok (.goto 4, 3) := by decide +kernel
theorem dX6_outside_14 : decode cX6_outside 14 = .ok (.iconst 0, 1) := by decide +kernel
theorem dX6_outside_15 : decode cX6_outside 15 = .ok (.ireturn, 1) := by decide +kernel
abbrev vwCl : List vw_C := [(RX0, TX0, 8), (RX1, TX1, 7), (RX2, TX2, 10), (RX3, TX3, 11), (RX4, TX4, 7), (RX5, TX5, 6), (RX6, TX6, 9), (RX7, TX7, 21)]
