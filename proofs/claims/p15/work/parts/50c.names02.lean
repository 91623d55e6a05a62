theorem dX7_jam_47 : decode cX7_jam 47 = .ok (.if_icmp .ne 9, 3) := by decide +kernel
theorem dX7_jam_50 : decode cX7_jam 50 = .ok (.aload_n 0, 1) := by decide +kernel
theorem dX7_jam_51 : decode cX7_jam 51 = .ok (.iconst 2, 1) := by decide +kernel
theorem dX7_jam_52 : decode cX7_jam 52 = .ok (.invokevirtual 223, 3) := by decide +kernel
theorem dX7_jam_55 : decode cX7_jam 55 = .ok (.ireturn, 1) := by decide +kernel
theorem dX7_jam_56 : decode cX7_jam 56 = .ok (.aload_n 0, 1) := by decide +kernel
theorem dX7_jam_57 : decode cX7_jam 57 = .ok (.getfield 22, 3) := by decide +kernel
theorem dX7_jam_60 : decode cX7_jam 60 = .ok (.bipush 63, 2) := by decide +kernel
theorem dX7_jam_62 : decode cX7_jam 62 = .ok (.iload_n 1, 1) := by decide +kernel
theorem dX7_jam_63 : decode cX7_jam 63 = .ok (.iadd, 1) := by decide +kernel
theorem dX7_jam_64 : decode cX7_jam 64 = .ok (.iload_n 2, 1) := by decide +kernel
theorem dX7_jam_65 : decode cX7_jam 65 = .ok (.iastore, 1) := by decide +kernel
theorem dX7_jam_66 : decode cX7_jam 66 = .ok (.iload_n 3, 1) := by decide +kernel
theorem dX7_jam_67 : decode cX7_jam 67 = .ok (.ireturn, 1) := by decide +kernel
theorem qxX7_source_0 : ∀ w ∈ ([.fieldLink RX7 49 "HopCreditsModel" "thrown" "I", .fieldLink RX7 22 "HopCreditsModel" "now" "[I", .methodLink RX7 133 yX7_isCircuit, .instanceMethod yX7_isCircuit, .selects RX7 yX7_isCircuit yX7_isCircuit, .initialized RX7, .code yX7_isCircuit cX7_isCircuit 2 (some .boolean), .fieldLink RX7 127 "HopCreditsModel" "circuits" "I", .methodLink RX7 60 yX7_in, .static yX7_in, .code yX7_in cX7_in 3 (some .boolean), .methodLink RX7 223 yX7_refuses, .instanceMethod yX7_refuses, .selects RX7 yX7_refuses yX7_refuses, .code yX7_refuses cX7_refuses 2 (some .int), .fieldLink RX7 25 "HopCreditsModel" "refused" "[I", .methodLink RX7 147 yX7_circuitAt, .static yX7_circuitAt, .code yX7_circuitAt cX7_circuitAt 1 (some .int)] ++ wsX70), w ∈ wsX7_source := fun w h => List.mem_cons_of_mem _ h
theorem qxX7_source_1 : ∀ w ∈ [.fieldLink RX7 49 "HopCreditsModel" "thrown" "I", .fieldLink RX7 22 "HopCreditsModel" "now" "[I", .methodLink RX7 133 yX7_isCircuit, .instanceMethod yX7_isCircuit, .selects RX7 yX7_isCircuit yX7_isCircuit, .initialized RX7, .code yX7_isCircuit cX7_isCircuit 2 (some .boolean), .fieldLink RX7 127 "HopCreditsModel" "circuits" "I", .methodLink RX7 60 yX7_in, .static yX7_in, .code yX7_in cX7_in 3 (some .boolean), .methodLink RX7 223 yX7_refuses, .instanceMethod yX7_refuses, .selects RX7 yX7_refuses yX7_refuses, .code yX7_refuses cX7_refuses 2 (some .int), .fieldLink RX7 25 "HopCreditsModel" "refused" "[I", .methodLink RX7 147 yX7_circuitAt, .static yX7_circuitAt, .code yX7_circuitAt cX7_circuitAt 1 (some .int)], w ∈ wsX7_source := in_l qxX7_source_0
theorem qxX7_source_2 : ∀ w ∈ wsX70, w ∈ wsX7_source := in_r qxX7_source_0
def pxX7_source : List (List Cond) := [[.fieldLink RX7 49 "HopCreditsModel" "thrown" "I", .fieldLink RX7 22 "HopCreditsModel" "now" "[I", .methodLink RX7 133 yX7_isCircuit, .instanceMethod yX7_isCircuit, .selects RX7 yX7_isCircuit yX7_isCircuit, .initialized RX7, .code yX7_isCircuit cX7_isCircuit 2 (some .boolean), .fieldLink RX7 127 "HopCreditsModel" "circuits" "I", .methodLink RX7 60 yX7_in, .static yX7_in, .code yX7_in cX7_in 3 (some .boolean), .methodLink RX7 223 yX7_refuses, .instanceMethod yX7_refuses, .selects RX7 yX7_refuses yX7_refuses, .code yX7_refuses cX7_refuses 2 (some .int), .fieldLink RX7 25 "HopCreditsModel" "refused" "[I", .methodLink RX7 147 yX7_circuitAt, .static yX7_circuitAt, .code yX7_circuitAt cX7_circuitAt 1 (some .int)], wsX70]
theorem pxX7_source_in : ∀ q ∈ pxX7_source, ∀ w ∈ q, w ∈ wsX7_source := lp_c qxX7_source_1 (lp_c qxX7_source_2 (lp_n))
set_option maxRecDepth 20000 in
theorem ggX7_source_X7_isCircuit : GoodIn wsX7_source wsX7_isCircuit := goodIn_pp pxX7_source pxX7_source_in _ [(0, 6), (0, 7), (0, 8), (0, 9), (0, 5), (0, 10), (1, 0), (1, 1), (1, 2), (1, 3), (1, 4), (1, 5), (1, 6), (1, 7), (1, 8), (1, 9), (1, 10), (1, 11), (1, 12), (1, 13), (1, 14), (1, 15), (1, 16), (1, 17), (1, 18), (1, 19), (1, 20)] rfl (by decide +kernel)
set_option maxRecDepth 20000 in
theorem gX7_source_X7_isCircuit : GoodIn wsX7_source (wsV RX7 133 RX7 yX7_isCircuit wsX7_isCircuit) := goodIn_app (goodIn_of _ (by decide +kernel)) ggX7_source_X7_isCircuit
set_option maxRecDepth 20000 in
theorem ggX7_source_X7_refuses : GoodIn wsX7_source wsX7_refuses := goodIn_r _ [15, 16, 20, 21, 22, 23, 24, 25, 26, 27, 28, 29, 30, 31, 32, 33, 34, 35, 36, 37, 38, 39, 40] (by decide +kernel) (by decide +kernel)
set_option maxRecDepth 20000 in
theorem gX7_source_X7_refuses : GoodIn wsX7_source (wsV RX7 223 RX7 yX7_refuses wsX7_refuses) := goodIn_app (goodIn_of _ (by decide +kernel)) ggX7_source_X7_refuses
set_option maxRecDepth 20000 in
theorem ggX7_source_X7_in : GoodIn wsX7_source wsX7_in := goodIn_r _ [11] (by decide +kernel) (by decide +kernel)
set_option maxRecDepth 20000 in
theorem gX7_source_X7_in : GoodIn wsX7_source (va_wsS RX7 60 yX7_in wsX7_in) := goodIn_app (goodIn_of _ (by decide +kernel)) ggX7_source_X7_in
set_option maxRecDepth 20000 in
theorem ggX7_source_X7_circuitAt : GoodIn wsX7_source wsX7_circuitAt := goodIn_r _ [19] (by decide +kernel) (by decide +kernel)
set_option maxRecDepth 20000 in
theorem gX7_source_X7_circuitAt : GoodIn wsX7_source (va_wsS RX7 147 yX7_circuitAt wsX7_circuitAt) := goodIn_app (goodIn_of _ (by decide +kernel)) ggX7_source_X7_circuitAt
theorem dX7_source_0 : decode cX7_source 0 = .ok (.aload_n 0, 1) := by decide +kernel
theorem dX7_source_1 : decode cX7_source 1 = .ok (.iconst 0, 1) := by decide +kernel
theorem dX7_source_2 : decode cX7_source 2 = .ok (.putfield 49, 3) := by decide +kernel
theorem dX7_source_5 : decode cX7_source 5 = .ok (.aload_n 0, 1) := by decide +kernel
theorem dX7_source_6 : decode cX7_source 6 = .ok (.iload_n 1, 1) := by decide +kernel
theorem dX7_source_7 : decode cX7_source 7 = .ok (.invokevirtual 133, 3) := by decide +kernel
theorem dX7_source_10 : decode cX7_source 10 = .ok (.ifCond .ne 9, 3) := by decide +kernel
theorem dX7_source_13 : decode cX7_source 13 = .ok (.aload_n 0, 1) := by decide +kernel
theorem dX7_source_14 : decode cX7_source 14 = .ok (.iconst 0, 1) := by decide +kernel
theorem dX7_source_15 : decode cX7_source 15 = .ok (.invokevirtual 223, 3) := by decide +kernel
theorem dX7_source_18 : decode cX7_source 18 = .ok (.ireturn, 1) := by decide +kernel
theorem dX7_source_19 : decode cX7_source 19 = .ok (.iload_n 2, 1) := by decide +kernel
theorem dX7_source_20 : decode cX7_source 20 = .ok (.iconst 0, 1) := by decide +kernel
theorem dX7_source_21 : decode cX7_source 21 = .ok (.bipush 9, 2) := by decide +kernel
theorem dX7_source_23 : decode cX7_source 23 = .ok (.invokestatic 60, 3) := by decide +kernel
theorem dX7_source_26 : decode cX7_source 26 = .ok (.ifCond .eq 14, 3) := by decide +kernel
theorem dX7_source_29 : decode cX7_source 29 = .ok (.iload_n 3, 1) := by decide +kernel
theorem dX7_source_30 : decode cX7_source 30 = .ok (.iconst 0, 1) := by decide +kernel
theorem dX7_source_31 : decode cX7_source 31 = .ok (.sipush 999, 3) := by decide +kernel
theorem dX7_source_34 : decode cX7_source 34 = .ok (.invokestatic 60, 3) := by decide +kernel
theorem dX7_source_37 : decode cX7_source 37 = .ok (.ifCond .ne 9, 3) := by decide +kernel
theorem dX7_source_40 : decode cX7_source 40 = .ok (.aload_n 0, 1) := by decide +kernel
theorem dX7_source_41 : decode cX7_source 41 = .ok (.iconst 1, 1) := by decide +kernel
theorem dX7_source_42 : decode cX7_source 42 = .ok (.invokevirtual 223, 3) := by decide +kernel
theorem dX7_source_45 : decode cX7_source 45 = .ok (.ireturn, 1) := by decide +kernel
theorem dX7_source_46 : decode cX7_source 46 = .ok (.iload_n 1, 1) := by decide +kernel
theorem dX7_source_47 : decode cX7_source 47 = .ok (.invokestatic 147, 3) := by decide +kernel
theorem dX7_source_50 : decode cX7_source 50 = .ok (.istore 4, 2) := by decide +kernel
theorem dX7_source_52 : decode cX7_source 52 = .ok (.aload_n 0, 1) := by decide +kernel
theorem dX7_source_53 : decode cX7_source 53 = .ok (.getfield 22, 3) := by decide +kernel
theorem dX7_source_56 : decode cX7_source 56 = .ok (.iload 4, 2) := by decide +kernel
theorem dX7_source_58 : decode cX7_source 58 = .ok (.iconst 0, 1) := by decide +kernel
theorem dX7_source_59 : decode cX7_source 59 = .ok (.iadd, 1) := by decide +kernel
theorem dX7_source_60 : decode cX7_source 60 = .ok (.iaload, 1) := by decide +kernel
theorem dX7_source_61 : decode cX7_source 61 = .ok (.istore 5, 2) := by decide +kernel
theorem dX7_source_63 : decode cX7_source 63 = .ok (.iload 5, 2) := by decide +kernel
theorem dX7_source_65 : decode cX7_source 65 = .ok (.iload_n 2, 1) := by decide +kernel
theorem dX7_source_66 : decode cX7_source 66 = .ok (.if_icmp .ne 22, 3) := by decide +kernel
theorem dX7_source_69 : decode cX7_source 69 = .ok (.aload_n 0, 1) := by decide +kernel
theorem dX7_source_70 : decode cX7_source 70 = .ok (.getfield 22, 3) := by decide +kernel
theorem dX7_source_73 : decode cX7_source 73 = .ok (.iload 4, 2) := by decide +kernel
theorem dX7_source_75 : decode cX7_source 75 = .ok (.iconst 1, 1) := by decide +kernel
theorem dX7_source_76 : decode cX7_source 76 = .ok (.iadd, 1) := by decide +kernel
theorem dX7_source_77 : decode cX7_source 77 = .ok (.iaload, 1) := by decide +kernel
theorem dX7_source_78 : decode cX7_source 78 = .ok (.iload_n 3, 1) := by decide +kernel
theorem dX7_source_79 : decode cX7_source 79 = .ok (.if_icmp .ne 9, 3) := by decide +kernel
theorem dX7_source_82 : decode cX7_source 82 = .ok (.aload_n 0, 1) := by decide +kernel
theorem dX7_source_83 : decode cX7_source 83 = .ok (.iconst 2, 1) := by decide +kernel
theorem dX7_source_84 : decode cX7_source 84 = .ok (.invokevirtual 223, 3) := by decide +kernel
theorem dX7_source_87 : decode cX7_source 87 = .ok (.ireturn, 1) := by decide +kernel
theorem dX7_source_88 : decode cX7_source 88 = .ok (.aload_n 0, 1) := by decide +kernel
theorem dX7_source_89 : decode cX7_source 89 = .ok (.getfield 22, 3) := by decide +kernel
theorem dX7_source_92 : decode cX7_source 92 = .ok (.iload 4, 2) := by decide +kernel
theorem dX7_source_94 : decode cX7_source 94 = .ok (.iconst 0, 1) := by decide +kernel
theorem dX7_source_95 : decode cX7_source 95 = .ok (.iadd, 1) := by decide +kernel
theorem dX7_source_96 : decode cX7_source 96 = .ok (.iload_n 2, 1) := by decide +kernel
theorem dX7_source_97 : decode cX7_source 97 = .ok (.iastore, 1) := by decide +kernel
theorem dX7_source_98 : decode cX7_source 98 = .ok (.aload_n 0, 1) := by decide +kernel
theorem dX7_source_99 : decode cX7_source 99 = .ok (.getfield 22, 3) := by decide +kernel
theorem dX7_source_102 : decode cX7_source 102 = .ok (.iload 4, 2) := by decide +kernel
theorem dX7_source_104 : decode cX7_source 104 = .ok (.iconst 1, 1) := by decide +kernel
theorem dX7_source_105 : decode cX7_source 105 = .ok (.iadd, 1) := by decide +kernel
theorem dX7_source_106 : decode cX7_source 106 = .ok (.iload_n 3, 1) := by decide +kernel
theorem dX7_source_107 : decode cX7_source 107 = .ok (.iastore, 1) := by decide +kernel
theorem dX7_source_108 : decode cX7_source 108 = .ok (.iload 5, 2) := by decide +kernel
theorem dX7_source_110 : decode cX7_source 110 = .ok (.ireturn, 1) := by decide +kernel
theorem qxX7_takes_0 : ∀ w ∈ ([.fieldLink RX7 49 "HopCreditsModel" "thrown" "I", .fieldLink RX7 22 "HopCreditsModel" "now" "[I", .methodLink RX7 133 yX7_isCircuit, .instanceMethod yX7_isCircuit, .selects RX7 yX7_isCircuit yX7_isCircuit, .initialized RX7, .code yX7_isCircuit cX7_isCircuit 2 (some .boolean), .fieldLink RX7 127 "HopCreditsModel" "circuits" "I", .methodLink RX7 60 yX7_in, .static yX7_in, .code yX7_in cX7_in 3 (some .boolean), .methodLink RX7 223 yX7_refuses, .instanceMethod yX7_refuses, .selects RX7 yX7_refuses yX7_refuses, .code yX7_refuses cX7_refuses 2 (some .int), .fieldLink RX7 25 "HopCreditsModel" "refused" "[I", .methodLink RX7 147 yX7_circuitAt, .static yX7_circuitAt, .code yX7_circuitAt cX7_circuitAt 1 (some .int)] ++ wsX70), w ∈ wsX7_takes := fun w h => List.mem_cons_of_mem _ h
theorem qxX7_takes_1 : ∀ w ∈ [.fieldLink RX7 49 "HopCreditsModel" "thrown" "I", .fieldLink RX7 22 "HopCreditsModel" "now" "[I", .methodLink RX7 133 yX7_isCircuit, .instanceMethod yX7_isCircuit, .selects RX7 yX7_isCircuit yX7_isCircuit, .initialized RX7, .code yX7_isCircuit cX7_isCircuit 2 (some .boolean), .fieldLink RX7 127 "HopCreditsModel" "circuits" "I", .methodLink RX7 60 yX7_in, .static yX7_in, .code yX7_in cX7_in 3 (some .boolean), .methodLink RX7 223 yX7_refuses, .instanceMethod yX7_refuses, .selects RX7 yX7_refuses yX7_refuses, .code yX7_refuses cX7_refuses 2 (some .int), .fieldLink RX7 25 "HopCreditsModel" "refused" "[I", .methodLink RX7 147 yX7_circuitAt, .static yX7_circuitAt, .code yX7_circuitAt cX7_circuitAt 1 (some .int)], w ∈ wsX7_takes := in_l qxX7_takes_0
theorem qxX7_takes_2 : ∀ w ∈ wsX70, w ∈ wsX7_takes := in_r qxX7_takes_0
def pxX7_takes : List (List Cond) := [[.fieldLink RX7 49 "HopCreditsModel" "thrown" "I", .fieldLink RX7 22 "HopCreditsModel" "now" "[I", .methodLink RX7 133 yX7_isCircuit, .instanceMethod yX7_isCircuit, .selects RX7 yX7_isCircuit yX7_isCircuit, .initialized RX7, .code yX7_isCircuit cX7_isCircuit 2 (some .boolean), .fieldLink RX7 127 "HopCreditsModel" "circuits" "I", .methodLink RX7 60 yX7_in, .static yX7_in, .code yX7_in cX7_in 3 (some .boolean), .methodLink RX7 223 yX7_refuses, .instanceMethod yX7_refuses, .selects RX7 yX7_refuses yX7_refuses, .code yX7_refuses cX7_refuses 2 (some .int), .fieldLink RX7 25 "HopCreditsModel" "refused" "[I", .methodLink RX7 147 yX7_circuitAt, .static yX7_circuitAt, .code yX7_circuitAt cX7_circuitAt 1 (some .int)], wsX70]
theorem pxX7_takes_in : ∀ q ∈ pxX7_takes, ∀ w ∈ q, w ∈ wsX7_takes := lp_c qxX7_takes_1 (lp_c qxX7_takes_2 (lp_n))
set_option maxRecDepth 20000 in
theorem ggX7_takes_X7_isCircuit : GoodIn wsX7_takes wsX7_isCircuit := goodIn_pp pxX7_takes pxX7_takes_in _ [(0, 6), (0, 7), (0, 8), (0, 9), (0, 5), (0, 10), (1, 0), (1, 1), (1, 2), (1, 3), (1, 4), (1, 5), (1, 6), (1, 7), (1, 8), (1, 9), (1, 10), (1, 11), (1, 12), (1, 13), (1, 14), (1, 15), (1, 16), (1, 17), (1, 18), (1, 19), (1, 20)] rfl (by decide +kernel)
set_option maxRecDepth 20000 in
theorem gX7_takes_X7_isCircuit : GoodIn wsX7_takes (wsV RX7 133 RX7 yX7_isCircuit wsX7_isCircuit) := goodIn_app (goodIn_of _ (by decide +kernel)) ggX7_takes_X7_isCircuit
set_option maxRecDepth 20000 in
theorem ggX7_takes_X7_refuses : GoodIn wsX7_takes wsX7_refuses := goodIn_r _ [15, 16, 20, 21, 22, 23, 24, 25, 26, 27, 28, 29, 30, 31, 32, 33, 34, 35, 36, 37, 38, 39, 40] (by decide +kernel) (by decide +kernel)
set_option maxRecDepth 20000 in
theorem gX7_takes_X7_refuses : GoodIn wsX7_takes (wsV RX7 223 RX7 yX7_refuses wsX7_refuses) := goodIn_app (goodIn_of _ (by decide +kernel)) ggX7_takes_X7_refuses
set_option maxRecDepth 20000 in
theorem ggX7_takes_X7_in : GoodIn wsX7_takes wsX7_in := goodIn_r _ [11] (by decide +kernel) (by decide +kernel)
set_option maxRecDepth 20000 in
theorem gX7_takes_X7_in : GoodIn wsX7_takes (va_wsS RX7 60 yX7_in wsX7_in) := goodIn_app (goodIn_of _ (by decide +kernel)) ggX7_takes_X7_in
set_option maxRecDepth 20000 in
theorem ggX7_takes_X7_circuitAt : GoodIn wsX7_takes wsX7_circuitAt := goodIn_r _ [19] (by decide +kernel) (by decide +kernel)
set_option maxRecDepth 20000 in
theorem gX7_takes_X7_circuitAt : GoodIn wsX7_takes (va_wsS RX7 147 yX7_circuitAt wsX7_circuitAt) := goodIn_app (goodIn_of _ (by decide +kernel)) ggX7_takes_X7_circuitAt
theorem dX7_takes_0 : decode cX7_takes 0 = .ok (.aload_n 0, 1) := by decide +kernel
theorem dX7_takes_1 : decode cX7_takes 1 = .ok (.iconst 0, 1) := by decide +kernel
theorem dX7_takes_2 : decode cX7_takes 2 = .ok (.putfield 49, 3) := by decide +kernel
theorem dX7_takes_5 : decode cX7_takes 5 = .ok (.aload_n 0, 1) := by decide +kernel
theorem dX7_takes_6 : decode cX7_takes 6 = .ok (.iload_n 1, 1) := by decide +kernel
theorem dX7_takes_7 : decode cX7_takes 7 = .ok (.invokevirtual 133, 3) := by decide +kernel
theorem dX7_takes_10 : decode cX7_takes 10 = .ok (.ifCond .ne 9, 3) := by decide +kernel
theorem dX7_takes_13 : decode cX7_takes 13 = .ok (.aload_n 0, 1) := by decide +kernel
theorem dX7_takes_14 : decode cX7_takes 14 = .ok (.iconst 0, 1) := by decide +kernel
theorem dX7_takes_15 : decode cX7_takes 15 = .ok (.invokevirtual 223, 3) := by decide +kernel
theorem dX7_takes_18 : decode cX7_takes 18 = .ok (.ireturn, 1) := by decide +kernel
theorem dX7_takes_19 : decode cX7_takes 19 = .ok (.iload_n 2, 1) := by decide +kernel
theorem dX7_takes_20 : decode cX7_takes 20 = .ok (.iconst 0, 1) := by decide +kernel
theorem dX7_takes_21 : decode cX7_takes 21 = .ok (.bipush 9, 2) := by decide +kernel
theorem dX7_takes_23 : decode cX7_takes 23 = .ok (.invokestatic 60, 3) := by decide +kernel
theorem dX7_takes_26 : decode cX7_takes 26 = .ok (.ifCond .ne 9, 3) := by decide +kernel
theorem dX7_takes_29 : decode cX7_takes 29 = .ok (.aload_n 0, 1) := by decide +kernel
theorem dX7_takes_30 : decode cX7_takes 30 = .ok (.iconst 1, 1) := by decide +kernel
theorem dX7_takes_31 : decode cX7_takes 31 = .ok (.invokevirtual 223, 3) := by decide +kernel
theorem dX7_takes_34 : decode cX7_takes 34 = .ok (.ireturn, 1) := by decide +kernel
theorem dX7_takes_35 : decode cX7_takes 35 = .ok (.aload_n 0, 1) := by decide +kernel
theorem dX7_takes_36 : decode cX7_takes 36 = .ok (.getfield 22, 3) := by decide +kernel
theorem dX7_takes_39 : decode cX7_takes 39 = .ok (.iload_n 1, 1) := by decide +kernel
theorem dX7_takes_40 : decode cX7_takes 40 = .ok (.invokestatic 147, 3) := by decide +kernel
theorem dX7_takes_43 : decode cX7_takes 43 = .ok (.iconst 2, 1) := by decide +kernel
theorem dX7_takes_44 : decode cX7_takes 44 = .ok (.iadd, 1) := by decide +kernel
theorem dX7_takes_45 : decode cX7_takes 45 = .ok (.iaload, 1) := by decide +kernel
theorem dX7_takes_46 : decode cX7_takes 46 = .ok (.istore_n 3, 1) := by decide +kernel
theorem dX7_takes_47 : decode cX7_takes 47 = .ok (.iload_n 3, 1) := by decide +kernel
theorem dX7_takes_48 : decode cX7_takes 48 = .ok (.iload_n 2, 1) := by decide +kernel
theorem dX7_takes_49 : decode cX7_takes 49 = .ok (.if_icmp .ne 9, 3) := by decide +kernel
theorem dX7_takes_52 : decode cX7_takes 52 = .ok (.aload_n 0, 1) := by decide +kernel
theorem dX7_takes_53 : decode cX7_takes 53 = .ok (.iconst 2, 1) := by decide +kernel
theorem dX7_takes_54 : decode cX7_takes 54 = .ok (.invokevirtual 223, 3) := by decide +kernel
theorem dX7_takes_57 : decode cX7_takes 57 = .ok (.ireturn, 1) := by decide +kernel
theorem dX7_takes_58 : decode cX7_takes 58 = .ok (.aload_n 0, 1) := by decide +kernel
theorem dX7_takes_59 : decode cX7_takes 59 = .ok (.getfield 22, 3) := by decide +kernel
theorem dX7_takes_62 : decode cX7_takes 62 = .ok (.iload_n 1, 1) := by decide +kernel
theorem dX7_takes_63 : decode cX7_takes 63 = .ok (.invokestatic 147, 3) := by decide +kernel
theorem dX7_takes_66 : decode cX7_takes 66 = .ok (.iconst 2, 1) := by decide +kernel
theorem dX7_takes_67 : decode cX7_takes 67 = .ok (.iadd, 1) := by decide +kernel
theorem dX7_takes_68 : decode cX7_takes 68 = .ok (.iload_n 2, 1) := by decide +kernel
theorem dX7_takes_69 : decode cX7_takes 69 = .ok (.iastore, 1) := by decide +kernel
theorem dX7_takes_70 : decode cX7_takes 70 = .ok (.iload_n 3, 1) := by decide +kernel
theorem dX7_takes_71 : decode cX7_takes 71 = .ok (.ireturn, 1) := by decide +kernel
theorem qxX7_whyZone_0 : ∀ w ∈ ((wsX7_whyZone_r1 ++ wsX7_whyZone_r2) ++ wsX70), w ∈ wsX7_whyZone := fun w h => List.mem_cons_of_mem _ h
theorem qxX7_whyZone_1 : ∀ w ∈ (wsX7_whyZone_r1 ++ wsX7_whyZone_r2), w ∈ wsX7_whyZone := in_l qxX7_whyZone_0
theorem qxX7_whyZone_2 : ∀ w ∈ wsX70, w ∈ wsX7_whyZone := in_r qxX7_whyZone_0
theorem qxX7_whyZone_3 : ∀ w ∈ wsX7_whyZone_r1, w ∈ wsX7_whyZone := in_l qxX7_whyZone_1
theorem qxX7_whyZone_4 : ∀ w ∈ wsX7_whyZone_r2, w ∈ wsX7_whyZone := in_r qxX7_whyZone_1
def pxX7_whyZone : List (List Cond) := [wsX7_whyZone_r1, wsX7_whyZone_r2, wsX70]
theorem pxX7_whyZone_in : ∀ q ∈ pxX7_whyZone, ∀ w ∈ q, w ∈ wsX7_whyZone := lp_c qxX7_whyZone_3 (lp_c qxX7_whyZone_4 (lp_c qxX7_whyZone_2 (lp_n)))
set_option maxRecDepth 20000 in
theorem ggX7_whyZone_X7_isLane : GoodIn wsX7_whyZone wsX7_isLane := goodIn_pp pxX7_whyZone pxX7_whyZone_in _ [(0, 6), (0, 7), (0, 8), (0, 9), (0, 5), (0, 10), (0, 11), (0, 12), (0, 13), (0, 14), (0, 15), (0, 16), (0, 17), (0, 18), (0, 19), (2, 0), (2, 1), (2, 2), (2, 3), (2, 4), (2, 5), (2, 6), (2, 7), (2, 8), (2, 9), (2, 10), (2, 11), (2, 12), (2, 13), (2, 14), (2, 15), (2, 16), (2, 17), (2, 18), (2, 19), (2, 20)] rfl (by decide +kernel)
set_option maxRecDepth 20000 in
theorem gX7_whyZone_X7_isLane : GoodIn wsX7_whyZone (wsV RX7 229 RX7 yX7_isLane wsX7_isLane) := goodIn_app (goodIn_of _ (by decide +kernel)) ggX7_whyZone_X7_isLane
set_option maxRecDepth 20000 in
theorem ggX7_whyZone_X7_pool : GoodIn wsX7_whyZone wsX7_pool := goodIn_r _ [24, 25, 44, 45, 46, 47, 48, 49, 50, 51, 52, 53, 54, 55, 56, 57, 58, 59, 60, 61, 62, 63, 64] (by decide +kernel) (by decide +kernel)
set_option maxRecDepth 20000 in
theorem gX7_whyZone_X7_pool : GoodIn wsX7_whyZone (wsV RX7 151 RX7 yX7_pool wsX7_pool) := goodIn_app (goodIn_of _ (by decide +kernel)) ggX7_whyZone_X7_pool
set_option maxRecDepth 20000 in
theorem ggX7_whyZone_X7_in : GoodIn wsX7_whyZone wsX7_in := goodIn_r _ [15] (by decide +kernel) (by decide +kernel)
set_option maxRecDepth 20000 in
theorem gX7_whyZone_X7_in : GoodIn wsX7_whyZone (va_wsS RX7 60 yX7_in wsX7_in) := goodIn_app (goodIn_of _ (by decide +kernel)) ggX7_whyZone_X7_in
set_option maxRecDepth 20000 in
theorem ggX7_whyZone_X7_lane : GoodIn wsX7_whyZone wsX7_lane := goodIn_r _ [28] (by decide +kernel) (by decide +kernel)
set_option maxRecDepth 20000 in
theorem gX7_whyZone_X7_lane : GoodIn wsX7_whyZone (va_wsS RX7 163 yX7_lane wsX7_lane) := goodIn_app (goodIn_of _ (by decide +kernel)) ggX7_whyZone_X7_lane
set_option maxRecDepth 20000 in
theorem ggX7_whyZone_X7_leftFor : GoodIn wsX7_whyZone wsX7_leftFor := goodIn_pp pxX7_whyZone pxX7_whyZone_in _ [(1, 7), (0, 19), (0, 1), (1, 8), (1, 9), (1, 10), (1, 11), (0, 20), (0, 21), (0, 22), (0, 5), (0, 23), (1, 0), (1, 1), (1, 2), (1, 3), (1, 12), (1, 13), (1, 14), (1, 15), (1, 16), (1, 17), (1, 18), (2, 0), (2, 1), (2, 2), (2, 3), (2, 4), (2, 5), (2, 6), (2, 7), (2, 8), (2, 9), (2, 10), (2, 11), (2, 12), (2, 13), (2, 14), (2, 15), (2, 16), (2, 17), (2, 18), (2, 19), (2, 20)] rfl (by decide +kernel)
set_option maxRecDepth 20000 in
theorem gX7_whyZone_X7_leftFor : GoodIn wsX7_whyZone (wsV RX7 172 RX7 yX7_leftFor wsX7_leftFor) := goodIn_app (goodIn_of _ (by decide +kernel)) ggX7_whyZone_X7_leftFor
theorem dX7_whyZone_0 : decode cX7_whyZone 0 = .ok (.aload_n 0, 1) := by decide +kernel
theorem dX7_whyZone_1 : decode cX7_whyZone 1 = .ok (.iload_n 1, 1) := by decide +kernel
theorem dX7_whyZone_2 : decode cX7_whyZone 2 = .ok (.iload_n 2, 1) := by decide +kernel
theorem dX7_whyZone_3 : decode cX7_whyZone 3 = .ok (.invokevirtual 229, 3) := by decide +kernel
theorem dX7_whyZone_6 : decode cX7_whyZone 6 = .ok (.ifCond .ne 5, 3) := by decide +kernel
theorem dX7_whyZone_9 : decode cX7_whyZone 9 = .ok (.iconst 0, 1) := by decide +kernel
theorem dX7_whyZone_10 : decode cX7_whyZone 10 = .ok (.ireturn, 1) := by decide +kernel
theorem dX7_whyZone_11 : decode cX7_whyZone 11 = .ok (.iload_n 3, 1) := by decide +kernel
theorem dX7_whyZone_12 : decode cX7_whyZone 12 = .ok (.aload_n 0, 1) := by decide +kernel
theorem dX7_whyZone_13 : decode cX7_whyZone 13 = .ok (.getfield 28, 3) := by decide +kernel
theorem dX7_whyZone_16 : decode cX7_whyZone 16 = .ok (.iconst 0, 1) := by decide +kernel
theorem dX7_whyZone_17 : decode cX7_whyZone 17 = .ok (.iaload, 1) := by decide +kernel
theorem dX7_whyZone_18 : decode cX7_whyZone 18 = .ok (.aload_n 0, 1) := by decide +kernel
theorem dX7_whyZone_19 : decode cX7_whyZone 19 = .ok (.iload_n 1, 1) := by decide +kernel
theorem dX7_whyZone_20 : decode cX7_whyZone 20 = .ok (.invokevirtual 151, 3) := by decide +kernel
theorem dX7_whyZone_23 : decode cX7_whyZone 23 = .ok (.invokestatic 60, 3) := by decide +kernel
theorem dX7_whyZone_26 : decode cX7_whyZone 26 = .ok (.ifCond .ne 5, 3) := by decide +kernel
theorem dX7_whyZone_29 : decode cX7_whyZone 29 = .ok (.iconst 1, 1) := by decide +kernel
theorem dX7_whyZone_30 : decode cX7_whyZone 30 = .ok (.ireturn, 1) := by decide +kernel
theorem dX7_whyZone_31 : decode cX7_whyZone 31 = .ok (.aload_n 0, 1) := by decide +kernel
theorem dX7_whyZone_32 : decode cX7_whyZone 32 = .ok (.getfield 22, 3) := by decide +kernel
theorem dX7_whyZone_35 : decode cX7_whyZone 35 = .ok (.iload_n 1, 1) := by decide +kernel
theorem dX7_whyZone_36 : decode cX7_whyZone 36 = .ok (.iload_n 2, 1) := by decide +kernel
theorem dX7_whyZone_37 : decode cX7_whyZone 37 = .ok (.invokestatic 163, 3) := by decide +kernel
theorem dX7_whyZone_40 : decode cX7_whyZone 40 = .ok (.iconst 3, 1) := by decide +kernel
theorem dX7_whyZone_41 : decode cX7_whyZone 41 = .ok (.iadd, 1) := by decide +kernel
theorem dX7_whyZone_42 : decode cX7_whyZone 42 = .ok (.iaload, 1) := by decide +kernel
theorem dX7_whyZone_43 : decode cX7_whyZone 43 = .ok (.istore 4, 2) := by decide +kernel
theorem dX7_whyZone_45 : decode cX7_whyZone 45 = .ok (.iload_n 3, 1) := by decide +kernel
theorem dX7_whyZone_46 : decode cX7_whyZone 46 = .ok (.iload 4, 2) := by decide +kernel
theorem dX7_whyZone_48 : decode cX7_whyZone 48 = .ok (.if_icmp .ne 7, 3) := by decide +kernel
theorem dX7_whyZone_51 : decode cX7_whyZone 51 = .ok (.iconst 2, 1) := by decide +kernel
theorem dX7_whyZone_52 : decode cX7_whyZone 52 = .ok (.goto 24, 3) := by decide +kernel
theorem dX7_whyZone_55 : decode cX7_whyZone 55 = .ok (.iload_n 3, 1) := by decide +kernel
theorem dX7_whyZone_56 : decode cX7_whyZone 56 = .ok (.iload 4, 2) := by decide +kernel
theorem dX7_whyZone_58 : decode cX7_whyZone 58 = .ok (.if_icmp .le 17, 3) := by decide +kernel
theorem dX7_whyZone_61 : decode cX7_whyZone 61 = .ok (.iload_n 3, 1) := by decide +kernel
theorem dX7_whyZone_62 : decode cX7_whyZone 62 = .ok (.aload_n 0, 1) := by decide +kernel
theorem dX7_whyZone_63 : decode cX7_whyZone 63 = .ok (.iload_n 1, 1) := by decide +kernel
theorem dX7_whyZone_64 : decode cX7_whyZone 64 = .ok (.iload_n 2, 1) := by decide +kernel
theorem dX7_whyZone_65 : decode cX7_whyZone 65 = .ok (.invokevirtual 172, 3) := by decide +kernel
theorem dX7_whyZone_68 : decode cX7_whyZone 68 = .ok (.if_icmp .le 7, 3) := by decide +kernel
theorem dX7_whyZone_71 : decode cX7_whyZone 71 = .ok (.iconst 3, 1) := by decide +kernel
theorem dX7_whyZone_72 : decode cX7_whyZone 72 = .ok (.goto 4, 3) := by decide +kernel
theorem dX7_whyZone_75 : decode cX7_whyZone 75 = .ok (.iconst (-1), 1) := by decide +kernel
theorem dX7_whyZone_76 : decode cX7_whyZone 76 = .ok (.ireturn, 1) := by decide +kernel
theorem qxX7_zone_0 : ∀ w ∈ ((wsX7_zone_r1 ++ (wsX7_zone_r2 ++ wsX7_zone_r3)) ++ wsX70), w ∈ wsX7_zone := fun w h => List.mem_cons_of_mem _ h
theorem qxX7_zone_1 : ∀ w ∈ (wsX7_zone_r1 ++ (wsX7_zone_r2 ++ wsX7_zone_r3)), w ∈ wsX7_zone := in_l qxX7_zone_0
theorem qxX7_zone_2 : ∀ w ∈ wsX70, w ∈ wsX7_zone := in_r qxX7_zone_0
theorem qxX7_zone_3 : ∀ w ∈ wsX7_zone_r1, w ∈ wsX7_zone := in_l qxX7_zone_1
theorem qxX7_zone_4 : ∀ w ∈ (wsX7_zone_r2 ++ wsX7_zone_r3), w ∈ wsX7_zone := in_r qxX7_zone_1
theorem qxX7_zone_5 : ∀ w ∈ wsX7_zone_r2, w ∈ wsX7_zone := in_l qxX7_zone_4
theorem qxX7_zone_6 : ∀ w ∈ wsX7_zone_r3, w ∈ wsX7_zone := in_r qxX7_zone_4
def pxX7_zone : List (List Cond) := [wsX7_zone_r1, wsX7_zone_r2, wsX7_zone_r3, wsX70]
theorem pxX7_zone_in : ∀ q ∈ pxX7_zone, ∀ w ∈ q, w ∈ wsX7_zone := lp_c qxX7_zone_3 (lp_c qxX7_zone_5 (lp_c qxX7_zone_6 (lp_c qxX7_zone_2 (lp_n))))
set_option maxRecDepth 20000 in
theorem ggX7_zone_X7_whyZone : GoodIn wsX7_zone wsX7_whyZone := goodIn_pp pxX7_zone pxX7_zone_in _ [(0, 6), (0, 7), (0, 1), (0, 8), (0, 9), (0, 10), (0, 5), (0, 11), (0, 12), (0, 13), (0, 14), (0, 15), (0, 16), (0, 17), (0, 18), (0, 19), (0, 20), (0, 21), (0, 22), (0, 23), (1, 0), (1, 1), (1, 2), (1, 3), (1, 4), (1, 5), (1, 6), (1, 7), (1, 8), (1, 9), (1, 10), (1, 11), (1, 12), (1, 13), (1, 14), (1, 15), (1, 16), (1, 17), (1, 18), (1, 19), (1, 20), (1, 21), (1, 22), (1, 23), (3, 0), (3, 1), (3, 2), (3, 3), (3, 4), (3, 5), (3, 6), (3, 7), (3, 8), (3, 9), (3, 10), (3, 11), (3, 12), (3, 13), (3, 14), (3, 15), (3, 16), (3, 17), (3, 18), (3, 19), (3, 20)] rfl (by decide +kernel)
set_option maxRecDepth 20000 in
theorem gX7_zone_X7_whyZone : GoodIn wsX7_zone (wsV RX7 232 RX7 yX7_whyZone wsX7_whyZone) := goodIn_app (goodIn_of _ (by decide +kernel)) ggX7_zone_X7_whyZone
set_option maxRecDepth 20000 in
theorem ggX7_zone_X7_refuses : GoodIn wsX7_zone wsX7_refuses := goodIn_r _ [52, 53, 54, 55, 56, 57, 58, 59, 60, 61, 62, 63, 64, 65, 66, 67, 68, 69, 70, 71, 72, 73, 74] (by decide +kernel) (by decide +kernel)
set_option maxRecDepth 20000 in
theorem gX7_zone_X7_refuses : GoodIn wsX7_zone (wsV RX7 223 RX7 yX7_refuses wsX7_refuses) := goodIn_app (goodIn_of _ (by decide +kernel)) ggX7_zone_X7_refuses
set_option maxRecDepth 20000 in
theorem ggX7_zone_X7_lane : GoodIn wsX7_zone wsX7_lane := goodIn_r _ [33] (by decide +kernel) (by decide +kernel)
set_option maxRecDepth 20000 in
theorem gX7_zone_X7_lane : GoodIn wsX7_zone (va_wsS RX7 163 yX7_lane wsX7_lane) := goodIn_app (goodIn_of _ (by decide +kernel)) ggX7_zone_X7_lane
theorem dX7_zone_0 : decode cX7_zone 0 = .ok (.aload_n 0, 1) := by decide +kernel
theorem dX7_zone_1 : decode cX7_zone 1 = .ok (.iconst 0, 1) := by decide +kernel
theorem dX7_zone_2 : decode cX7_zone 2 = .ok (.putfield 49, 3) := by decide +kernel
theorem dX7_zone_5 : decode cX7_zone 5 = .ok (.aload_n 0, 1) := by decide +kernel
theorem dX7_zone_6 : decode cX7_zone 6 = .ok (.iload_n 1, 1) := by decide +kernel
theorem dX7_zone_7 : decode cX7_zone 7 = .ok (.iload_n 2, 1) := by decide +kernel
theorem dX7_zone_8 : decode cX7_zone 8 = .ok (.iload_n 3, 1) := by decide +kernel
theorem dX7_zone_9 : decode cX7_zone 9 = .ok (.invokevirtual 232, 3) := by decide +kernel
theorem dX7_zone_12 : decode cX7_zone 12 = .ok (.istore 4, 2) := by decide +kernel
theorem dX7_zone_14 : decode cX7_zone 14 = .ok (.iload 4, 2) := by decide +kernel
theorem dX7_zone_16 : decode cX7_zone 16 = .ok (.iconst (-1), 1) := by decide +kernel
theorem dX7_zone_17 : decode cX7_zone 17 = .ok (.if_icmp .eq 10, 3) := by decide +kernel
theorem dX7_zone_20 : decode cX7_zone 20 = .ok (.aload_n 0, 1) := by decide +kernel
theorem dX7_zone_21 : decode cX7_zone 21 = .ok (.iload 4, 2) := by decide +kernel
theorem dX7_zone_23 : decode cX7_zone 23 = .ok (.invokevirtual 223, 3) := by decide +kernel
theorem dX7_zone_26 : decode cX7_zone 26 = .ok (.ireturn, 1) := by decide +kernel
theorem dX7_zone_27 : decode cX7_zone 27 = .ok (.aload_n 0, 1) := by decide +kernel
theorem dX7_zone_28 : decode cX7_zone 28 = .ok (.getfield 22, 3) := by decide +kernel
theorem dX7_zone_31 : decode cX7_zone 31 = .ok (.iload_n 1, 1) := by decide +kernel
theorem dX7_zone_32 : decode cX7_zone 32 = .ok (.iload_n 2, 1) := by decide +kernel
theorem dX7_zone_33 : decode cX7_zone 33 = .ok (.invokestatic 163, 3) := by decide +kernel
theorem dX7_zone_36 : decode cX7_zone 36 = .ok (.iconst 3, 1) := by decide +kernel
theorem dX7_zone_37 : decode cX7_zone 37 = .ok (.iadd, 1) := by decide +kernel
theorem dX7_zone_38 : decode cX7_zone 38 = .ok (.iaload, 1) := by decide +kernel
theorem dX7_zone_39 : decode cX7_zone 39 = .ok (.istore 5, 2) := by decide +kernel
theorem dX7_zone_41 : decode cX7_zone 41 = .ok (.aload_n 0, 1) := by decide +kernel
theorem dX7_zone_42 : decode cX7_zone 42 = .ok (.getfield 22, 3) := by decide +kernel
theorem dX7_zone_45 : decode cX7_zone 45 = .ok (.iload_n 1, 1) := by decide +kernel
theorem dX7_zone_46 : decode cX7_zone 46 = .ok (.iload_n 2, 1) := by decide +kernel
theorem dX7_zone_47 : decode cX7_zone 47 = .ok (.invokestatic 163, 3) := by decide +kernel
theorem dX7_zone_50 : decode cX7_zone 50 = .ok (.iconst 3, 1) := by decide +kernel
theorem dX7_zone_51 : decode cX7_zone 51 = .ok (.iadd, 1) := by decide +kernel
theorem dX7_zone_52 : decode cX7_zone 52 = .ok (.iload_n 3, 1) := by decide +kernel
theorem dX7_zone_53 : decode cX7_zone 53 = .ok (.iastore, 1) := by decide +kernel
theorem dX7_zone_54 : decode cX7_zone 54 = .ok (.iload 5, 2) := by decide +kernel
theorem dX7_zone_56 : decode cX7_zone 56 = .ok (.ireturn, 1) := by decide +kernel
theorem qxX7_probe_0 : ∀ w ∈ ((wsX7_probe_r1 ++ wsX7_probe_r2) ++ wsX70), w ∈ wsX7_probe := fun w h => List.mem_cons_of_mem _ h
theorem qxX7_probe_1 : ∀ w ∈ (wsX7_probe_r1 ++ wsX7_probe_r2), w ∈ wsX7_probe := in_l qxX7_probe_0
theorem qxX7_probe_2 : ∀ w ∈ wsX70, w ∈ wsX7_probe := in_r qxX7_probe_0
theorem qxX7_probe_3 : ∀ w ∈ wsX7_probe_r1, w ∈ wsX7_probe := in_l qxX7_probe_1
theorem qxX7_probe_4 : ∀ w ∈ wsX7_probe_r2, w ∈ wsX7_probe := in_r qxX7_probe_1
def pxX7_probe : List (List Cond) := [wsX7_probe_r1, wsX7_probe_r2, wsX70]
theorem pxX7_probe_in : ∀ q ∈ pxX7_probe, ∀ w ∈ q, w ∈ wsX7_probe := lp_c qxX7_probe_3 (lp_c qxX7_probe_4 (lp_c qxX7_probe_2 (lp_n)))
set_option maxRecDepth 20000 in
theorem ggX7_probe_X7_isLane : GoodIn wsX7_probe wsX7_isLane := goodIn_pp pxX7_probe pxX7_probe_in _ [(0, 5), (0, 6), (0, 7), (0, 8), (0, 4), (0, 9), (0, 10), (0, 11), (0, 12), (0, 13), (0, 14), (0, 15), (0, 16), (0, 17), (0, 18), (2, 0), (2, 1), (2, 2), (2, 3), (2, 4), (2, 5), (2, 6), (2, 7), (2, 8), (2, 9), (2, 10), (2, 11), (2, 12), (2, 13), (2, 14), (2, 15), (2, 16), (2, 17), (2, 18), (2, 19), (2, 20)] rfl (by decide +kernel)
set_option maxRecDepth 20000 in
theorem gX7_probe_X7_isLane : GoodIn wsX7_probe (wsV RX7 229 RX7 yX7_isLane wsX7_isLane) := goodIn_app (goodIn_of _ (by decide +kernel)) ggX7_probe_X7_isLane
set_option maxRecDepth 20000 in
theorem ggX7_probe_X7_refuses : GoodIn wsX7_probe wsX7_refuses := goodIn_r _ [23, 24, 48, 49, 50, 51, 52, 53, 54, 55, 56, 57, 58, 59, 60, 61, 62, 63, 64, 65, 66, 67, 68] (by decide +kernel) (by decide +kernel)
set_option maxRecDepth 20000 in
theorem gX7_probe_X7_refuses : GoodIn wsX7_probe (wsV RX7 223 RX7 yX7_refuses wsX7_refuses) := goodIn_app (goodIn_of _ (by decide +kernel)) ggX7_probe_X7_refuses
set_option maxRecDepth 20000 in
theorem ggX7_probe_X7_probes : GoodIn wsX7_probe wsX7_probes := goodIn_pp pxX7_probe pxX7_probe_in _ [(1, 3), (1, 4), (1, 5), (1, 6), (1, 7), (0, 4), (1, 8), (1, 9), (1, 10), (1, 11), (1, 12), (1, 13), (1, 14), (1, 15), (2, 0), (2, 1), (2, 2), (2, 3), (2, 4), (2, 5), (2, 6), (2, 7), (2, 8), (2, 9), (2, 10), (2, 11), (2, 12), (2, 13), (2, 14), (2, 15), (2, 16), (2, 17), (2, 18), (2, 19), (2, 20)] rfl (by decide +kernel)
set_option maxRecDepth 20000 in
theorem gX7_probe_X7_probes : GoodIn wsX7_probe (wsV RX7 199 RX7 yX7_probes wsX7_probes) := goodIn_app (goodIn_of _ (by decide +kernel)) ggX7_probe_X7_probes
set_option maxRecDepth 20000 in
theorem ggX7_probe_X7_outOf : GoodIn wsX7_probe wsX7_outOf := goodIn_pp pxX7_probe pxX7_probe_in _ [(1, 19), (1, 4), (1, 13), (1, 14), (0, 4), (1, 15), (1, 20), (1, 21), (1, 22), (2, 0), (2, 1), (2, 2), (2, 3), (2, 4), (2, 5), (2, 6), (2, 7), (2, 8), (2, 9), (2, 10), (2, 11), (2, 12), (2, 13), (2, 14), (2, 15), (2, 16), (2, 17), (2, 18), (2, 19), (2, 20)] rfl (by decide +kernel)
set_option maxRecDepth 20000 in
theorem gX7_probe_X7_outOf : GoodIn wsX7_probe (wsV RX7 169 RX7 yX7_outOf wsX7_outOf) := goodIn_app (goodIn_of _ (by decide +kernel)) ggX7_probe_X7_outOf
theorem dX7_probe_0 : decode cX7_probe 0 = .ok (.aload_n 0, 1) := by decide +kernel
theorem dX7_probe_1 : decode cX7_probe 1 = .ok (.iconst 0, 1) := by decide +kernel
theorem dX7_probe_2 : decode cX7_probe 2 = .ok (.putfield 49, 3) := by decide +kernel
theorem dX7_probe_5 : decode cX7_probe 5 = .ok (.aload_n 0, 1) := by decide +kernel
theorem dX7_probe_6 : decode cX7_probe 6 = .ok (.iload_n 1, 1) := by decide +kernel
theorem dX7_probe_7 : decode cX7_probe 7 = .ok (.iload_n 2, 1) := by decide +kernel
theorem dX7_probe_8 : decode cX7_probe 8 = .ok (.invokevirtual 229, 3) := by decide +kernel
theorem dX7_probe_11 : decode cX7_probe 11 = .ok (.ifCond .ne 9, 3) := by decide +kernel
theorem dX7_probe_14 : decode cX7_probe 14 = .ok (.aload_n 0, 1) := by decide +kernel
theorem dX7_probe_15 : decode cX7_probe 15 = .ok (.iconst 0, 1) := by decide +kernel
theorem dX7_probe_16 : decode cX7_probe 16 = .ok (.invokevirtual 223, 3) := by decide +kernel
theorem dX7_probe_19 : decode cX7_probe 19 = .ok (.ireturn, 1) := by decide +kernel
theorem dX7_probe_20 : decode cX7_probe 20 = .ok (.aload_n 0, 1) := by decide +kernel
theorem dX7_probe_21 : decode cX7_probe 21 = .ok (.iload_n 1, 1) := by decide +kernel
theorem dX7_probe_22 : decode cX7_probe 22 = .ok (.iload_n 2, 1) := by decide +kernel
theorem dX7_probe_23 : decode cX7_probe 23 = .ok (.invokevirtual 199, 3) := by decide +kernel
theorem dX7_probe_26 : decode cX7_probe 26 = .ok (.aload_n 0, 1) := by decide +kernel
theorem dX7_probe_27 : decode cX7_probe 27 = .ok (.iload_n 1, 1) := by decide +kernel
theorem dX7_probe_28 : decode cX7_probe 28 = .ok (.iload_n 2, 1) := by decide +kernel
theorem dX7_probe_29 : decode cX7_probe 29 = .ok (.invokevirtual 169, 3) := by decide +kernel
theorem dX7_probe_32 : decode cX7_probe 32 = .ok (.ireturn, 1) := by decide +kernel
set_option maxRecDepth 20000 in
theorem ggX7_status_X7_in : GoodIn wsX7_status wsX7_in := goodIn_r _ [6] (by decide +kernel) (by decide +kernel)
set_option maxRecDepth 20000 in
theorem gX7_status_X7_in : GoodIn wsX7_status (va_wsS RX7 60 yX7_in wsX7_in) := goodIn_app (goodIn_of _ (by decide +kernel)) ggX7_status_X7_in
theorem dX7_status_0 : decode cX7_status 0 = .ok (.aload_n 0, 1) := by decide +kernel
theorem dX7_status_1 : decode cX7_status 1 = .ok (.iconst 0, 1) := by decide +kernel
theorem dX7_status_2 : decode cX7_status 2 = .ok (.putfield 49, 3) := by decide +kernel
theorem dX7_status_5 : decode cX7_status 5 = .ok (.iload_n 1, 1) := by decide +kernel
theorem dX7_status_6 : decode cX7_status 6 = .ok (.iconst 0, 1) := by decide +kernel
theorem dX7_status_7 : decode cX7_status 7 = .ok (.iconst 3, 1) := by decide +kernel
theorem dX7_status_8 : decode cX7_status 8 = .ok (.invokestatic 60, 3) := by decide +kernel
theorem dX7_status_11 : decode cX7_status 11 = .ok (.ifCond .eq 12, 3) := by decide +kernel
theorem dX7_status_14 : decode cX7_status 14 = .ok (.aload_n 0, 1) := by decide +kernel
theorem dX7_status_15 : decode cX7_status 15 = .ok (.getfield 25, 3) := by decide +kernel
theorem dX7_status_18 : decode cX7_status 18 = .ok (.iload_n 1, 1) := by decide +kernel
theorem dX7_status_19 : decode cX7_status 19 = .ok (.iaload, 1) := by decide +kernel
theorem dX7_status_20 : decode cX7_status 20 = .ok (.goto 4, 3) := by decide +kernel
theorem dX7_status_23 : decode cX7_status 23 = .ok (.iconst (-1), 1) := by decide +kernel
theorem dX7_status_24 : decode cX7_status 24 = .ok (.ireturn, 1) := by decide +kernel
set_option maxRecDepth 20000 in
theorem ggX7_cellsOn_X7_wayAt : GoodIn wsX7_cellsOn wsX7_wayAt := goodIn_r _ [5] (by decide +kernel) (by decide +kernel)
set_option maxRecDepth 20000 in
theorem gX7_cellsOn_X7_wayAt : GoodIn wsX7_cellsOn (va_wsS RX7 140 yX7_wayAt wsX7_wayAt) := goodIn_app (goodIn_of _ (by decide +kernel)) ggX7_cellsOn_X7_wayAt
theorem dX7_cellsOn_0 : decode cX7_cellsOn 0 = .ok (.iconst 0, 1) := by decide +kernel
theorem dX7_cellsOn_1 : decode cX7_cellsOn 1 = .ok (.istore_n 3, 1) := by decide +kernel
theorem dX7_cellsOn_2 : decode cX7_cellsOn 2 = .ok (.iconst 0, 1) := by decide +kernel
theorem dX7_cellsOn_3 : decode cX7_cellsOn 3 = .ok (.istore 4, 2) := by decide +kernel
theorem dX7_cellsOn_5 : decode cX7_cellsOn 5 = .ok (.iload 4, 2) := by decide +kernel
theorem dX7_cellsOn_7 : decode cX7_cellsOn 7 = .ok (.bipush 8, 2) := by decide +kernel
theorem dX7_cellsOn_9 : decode cX7_cellsOn 9 = .ok (.if_icmp .ge 49, 3) := by decide +kernel
theorem dX7_cellsOn_12 : decode cX7_cellsOn 12 = .ok (.aload_n 0, 1) := by decide +kernel
theorem dX7_cellsOn_13 : decode cX7_cellsOn 13 = .ok (.getfield 22, 3) := by decide +kernel
theorem dX7_cellsOn_16 : decode cX7_cellsOn 16 = .ok (.iload_n 1, 1) := by decide +kernel
theorem dX7_cellsOn_17 : decode cX7_cellsOn 17 = .ok (.iload 4, 2) := by decide +kernel
theorem dX7_cellsOn_19 : decode cX7_cellsOn 19 = .ok (.invokestatic 140, 3) := by decide +kernel
theorem dX7_cellsOn_22 : decode cX7_cellsOn 22 = .ok (.iconst 0, 1) := by decide +kernel
theorem dX7_cellsOn_23 : decode cX7_cellsOn 23 = .ok (.iadd, 1) := by decide +kernel
theorem dX7_cellsOn_24 : decode cX7_cellsOn 24 = .ok (.iaload, 1) := by decide +kernel
theorem dX7_cellsOn_25 : decode cX7_cellsOn 25 = .ok (.istore 5, 2) := by decide +kernel
theorem dX7_cellsOn_27 : decode cX7_cellsOn 27 = .ok (.iload_n 3, 1) := by decide +kernel
theorem dX7_cellsOn_28 : decode cX7_cellsOn 28 = .ok (.iload 5, 2) := by decide +kernel
theorem dX7_cellsOn_30 : decode cX7_cellsOn 30 = .ok (.iconst (-1), 1) := by decide +kernel
theorem dX7_cellsOn_31 : decode cX7_cellsOn 31 = .ok (.if_icmp .eq 18, 3) := by decide +kernel
theorem dX7_cellsOn_34 : decode cX7_cellsOn 34 = .ok (.iload_n 2, 1) := by decide +kernel
theorem dX7_cellsOn_35 : decode cX7_cellsOn 35 = .ok (.iconst (-1), 1) := by decide +kernel
theorem dX7_cellsOn_36 : decode cX7_cellsOn 36 = .ok (.if_icmp .eq 9, 3) := by decide +kernel
theorem dX7_cellsOn_39 : decode cX7_cellsOn 39 = .ok (.iload 5, 2) := by decide +kernel
theorem dX7_cellsOn_41 : decode cX7_cellsOn 41 = .ok (.iload_n 2, 1) := by decide +kernel
theorem dX7_cellsOn_42 : decode cX7_cellsOn 42 = .ok (.if_icmp .ne 7, 3) := by decide +kernel
theorem dX7_cellsOn_45 : decode cX7_cellsOn 45 = .ok (.iconst 1, 1) := by decide +kernel
theorem dX7_cellsOn_46 : decode cX7_cellsOn 46 = .ok (.goto 4, 3) := by decide +kernel
theorem dX7_cellsOn_49 : decode cX7_cellsOn 49 = .ok (.iconst 0, 1) := by decide +kernel
theorem dX7_cellsOn_50 : decode cX7_cellsOn 50 = .ok (.iadd, 1) := by decide +kernel
theorem dX7_cellsOn_51 : decode cX7_cellsOn 51 = .ok (.istore_n 3, 1) := by decide +kernel
theorem dX7_cellsOn_52 : decode cX7_cellsOn 52 = .ok (.iinc 4 1, 3) := by decide +kernel
theorem dX7_cellsOn_55 : decode cX7_cellsOn 55 = .ok (.goto (-50), 3) := by decide +kernel
theorem dX7_cellsOn_58 : decode cX7_cellsOn 58 = .ok (.iload_n 3, 1) := by decide +kernel
theorem dX7_cellsOn_59 : decode cX7_cellsOn 59 = .ok (.ireturn, 1) := by decide +kernel
set_option maxRecDepth 20000 in
theorem ggX7_toldOn_X7_wayAt : GoodIn wsX7_toldOn wsX7_wayAt := goodIn_r _ [6] (by decide +kernel) (by decide +kernel)
set_option maxRecDepth 20000 in
theorem gX7_toldOn_X7_wayAt : GoodIn wsX7_toldOn (va_wsS RX7 140 yX7_wayAt wsX7_wayAt) := goodIn_app (goodIn_of _ (by decide +kernel)) ggX7_toldOn_X7_wayAt
theorem dX7_toldOn_0 : decode cX7_toldOn 0 = .ok (.iconst 0, 1) := by decide +kernel
theorem dX7_toldOn_1 : decode cX7_toldOn 1 = .ok (.istore_n 3, 1) := by decide +kernel
theorem dX7_toldOn_2 : decode cX7_toldOn 2 = .ok (.iconst 0, 1) := by decide +kernel
theorem dX7_toldOn_3 : decode cX7_toldOn 3 = .ok (.istore 4, 2) := by decide +kernel
theorem dX7_toldOn_5 : decode cX7_toldOn 5 = .ok (.iload 4, 2) := by decide +kernel
theorem dX7_toldOn_7 : decode cX7_toldOn 7 = .ok (.bipush 8, 2) := by decide +kernel
theorem dX7_toldOn_9 : decode cX7_toldOn 9 = .ok (.if_icmp .ge 80, 3) := by decide +kernel
theorem dX7_toldOn_12 : decode cX7_toldOn 12 = .ok (.iconst 0, 1) := by decide +kernel
theorem dX7_toldOn_13 : decode cX7_toldOn 13 = .ok (.istore 5, 2) := by decide +kernel
theorem dX7_toldOn_15 : decode cX7_toldOn 15 = .ok (.iload 5, 2) := by decide +kernel
theorem dX7_toldOn_17 : decode cX7_toldOn 17 = .ok (.aload_n 0, 1) := by decide +kernel
theorem dX7_toldOn_18 : decode cX7_toldOn 18 = .ok (.getfield 127, 3) := by decide +kernel
theorem dX7_toldOn_21 : decode cX7_toldOn 21 = .ok (.if_icmp .ge 62, 3) := by decide +kernel
theorem dX7_toldOn_24 : decode cX7_toldOn 24 = .ok (.iload_n 1, 1) := by decide +kernel
theorem dX7_toldOn_25 : decode cX7_toldOn 25 = .ok (.iload 4, 2) := by decide +kernel
theorem dX7_toldOn_27 : decode cX7_toldOn 27 = .ok (.invokestatic 140, 3) := by decide +kernel
theorem dX7_toldOn_30 : decode cX7_toldOn 30 = .ok (.istore 6, 2) := by decide +kernel
theorem dX7_toldOn_32 : decode cX7_toldOn 32 = .ok (.iload_n 3, 1) := by decide +kernel
theorem dX7_toldOn_33 : decode cX7_toldOn 33 = .ok (.iload_n 2, 1) := by decide +kernel
theorem dX7_toldOn_34 : decode cX7_toldOn 34 = .ok (.ifCond .eq 20, 3) := by decide +kernel
theorem dX7_toldOn_37 : decode cX7_toldOn 37 = .ok (.aload_n 0, 1) := by decide +kernel
theorem dX7_toldOn_38 : decode cX7_toldOn 38 = .ok (.getfield 22, 3) := by decide +kernel
theorem dX7_toldOn_41 : decode cX7_toldOn 41 = .ok (.iload 6, 2) := by decide +kernel
theorem dX7_toldOn_43 : decode cX7_toldOn 43 = .ok (.iconst 4, 1) := by decide +kernel
theorem dX7_toldOn_44 : decode cX7_toldOn 44 = .ok (.iadd, 1) := by decide +kernel
theorem dX7_toldOn_45 : decode cX7_toldOn 45 = .ok (.iaload, 1) := by decide +kernel
theorem dX7_toldOn_46 : decode cX7_toldOn 46 = .ok (.iload 5, 2) := by decide +kernel
theorem dX7_toldOn_48 : decode cX7_toldOn 48 = .ok (.ishr, 1) := by decide +kernel
theorem dX7_toldOn_49 : decode cX7_toldOn 49 = .ok (.iconst 1, 1) := by decide +kernel
theorem dX7_toldOn_50 : decode cX7_toldOn 50 = .ok (.iand, 1) := by decide +kernel
theorem dX7_toldOn_51 : decode cX7_toldOn 51 = .ok (.goto 24, 3) := by decide +kernel
theorem dX7_toldOn_54 : decode cX7_toldOn 54 = .ok (.aload_n 0, 1) := by decide +kernel
theorem dX7_toldOn_55 : decode cX7_toldOn 55 = .ok (.getfield 22, 3) := by decide +kernel
theorem dX7_toldOn_58 : decode cX7_toldOn 58 = .ok (.iload 6, 2) := by decide +kernel
theorem dX7_toldOn_60 : decode cX7_toldOn 60 = .ok (.iconst 1, 1) := by decide +kernel
theorem dX7_toldOn_61 : decode cX7_toldOn 61 = .ok (.iadd, 1) := by decide +kernel
theorem dX7_toldOn_62 : decode cX7_toldOn 62 = .ok (.iload 5, 2) := by decide +kernel
theorem dX7_toldOn_64 : decode cX7_toldOn 64 = .ok (.iadd, 1) := by decide +kernel
theorem dX7_toldOn_65 : decode cX7_toldOn 65 = .ok (.iaload, 1) := by decide +kernel
theorem dX7_toldOn_66 : decode cX7_toldOn 66 = .ok (.iconst (-1), 1) := by decide +kernel
theorem dX7_toldOn_67 : decode cX7_toldOn 67 = .ok (.if_icmp .eq 7, 3) := by decide +kernel
theorem dX7_toldOn_70 : decode cX7_toldOn 70 = .ok (.iconst 1, 1) := by decide +kernel
theorem dX7_toldOn_71 : decode cX7_toldOn 71 = .ok (.goto 4, 3) := by decide +kernel
theorem dX7_toldOn_74 : decode cX7_toldOn 74 = .ok (.iconst 0, 1) := by decide +kernel
theorem dX7_toldOn_75 : decode cX7_toldOn 75 = .ok (.iadd, 1) := by decide +kernel
theorem dX7_toldOn_76 : decode cX7_toldOn 76 = .ok (.istore_n 3, 1) := by decide +kernel
theorem dX7_toldOn_77 : decode cX7_toldOn 77 = .ok (.iinc 5 1, 3) := by decide +kernel
theorem dX7_toldOn_80 : decode cX7_toldOn 80 = .ok (.goto (-65), 3) := by decide +kernel
theorem dX7_toldOn_83 : decode cX7_toldOn 83 = .ok (.iinc 4 1, 3) := by decide +kernel
theorem dX7_toldOn_86 : decode cX7_toldOn 86 = .ok (.goto (-81), 3) := by decide +kernel
theorem dX7_toldOn_89 : decode cX7_toldOn 89 = .ok (.iload_n 3, 1) := by decide +kernel
theorem dX7_toldOn_90 : decode cX7_toldOn 90 = .ok (.ireturn, 1) := by decide +kernel
set_option maxRecDepth 20000 in
theorem ggX7_anywhere_X7_circuitAt : GoodIn wsX7_anywhere wsX7_circuitAt := goodIn_r _ [5] (by decide +kernel) (by decide +kernel)
set_option maxRecDepth 20000 in
theorem gX7_anywhere_X7_circuitAt : GoodIn wsX7_anywhere (va_wsS RX7 147 yX7_circuitAt wsX7_circuitAt) := goodIn_app (goodIn_of _ (by decide +kernel)) ggX7_anywhere_X7_circuitAt
theorem dX7_anywhere_0 : decode cX7_anywhere 0 = .ok (.aload_n 0, 1) := by decide +kernel
theorem dX7_anywhere_1 : decode cX7_anywhere 1 = .ok (.getfield 22, 3) := by decide +kernel
theorem dX7_anywhere_4 : decode cX7_anywhere 4 = .ok (.iload_n 1, 1) := by decide +kernel
theorem dX7_anywhere_5 : decode cX7_anywhere 5 = .ok (.invokestatic 147, 3) := by decide +kernel
theorem dX7_anywhere_8 : decode cX7_anywhere 8 = .ok (.iconst 3, 1) := by decide +kernel
theorem dX7_anywhere_9 : decode cX7_anywhere 9 = .ok (.iadd, 1) := by decide +kernel
theorem dX7_anywhere_10 : decode cX7_anywhere 10 = .ok (.iaload, 1) := by decide +kernel
theorem dX7_anywhere_11 : decode cX7_anywhere 11 = .ok (.aload_n 0, 1) := by decide +kernel
theorem dX7_anywhere_12 : decode cX7_anywhere 12 = .ok (.getfield 22, 3) := by decide +kernel
theorem dX7_anywhere_15 : decode cX7_anywhere 15 = .ok (.iload_n 1, 1) := by decide +kernel
theorem dX7_anywhere_16 : decode cX7_anywhere 16 = .ok (.invokestatic 147, 3) := by decide +kernel
theorem dX7_anywhere_19 : decode cX7_anywhere 19 = .ok (.iconst 5, 1) := by decide +kernel
theorem dX7_anywhere_20 : decode cX7_anywhere 20 = .ok (.iadd, 1) := by decide +kernel
theorem dX7_anywhere_21 : decode cX7_anywhere 21 = .ok (.iaload, 1) := by decide +kernel
theorem dX7_anywhere_22 : decode cX7_anywhere 22 = .ok (.isub, 1) := by decide +kernel
theorem dX7_anywhere_23 : decode cX7_anywhere 23 = .ok (.ireturn, 1) := by decide +kernel
set_option maxRecDepth 20000 in
theorem ggX7_rule_X7_isNet : GoodIn wsX7_rule wsX7_isNet := goodIn_r _ [11, 3, 15, 16, 17, 18, 19, 20, 21, 22, 23, 24, 25, 26, 27, 28, 29, 30, 31, 32, 33, 34, 35] (by decide +kernel) (by decide +kernel)
set_option maxRecDepth 20000 in
theorem gX7_rule_X7_isNet : GoodIn wsX7_rule (wsV RX7 136 RX7 yX7_isNet wsX7_isNet) := goodIn_app (goodIn_of _ (by decide +kernel)) ggX7_rule_X7_isNet
set_option maxRecDepth 20000 in
theorem ggX7_rule_X7_in : GoodIn wsX7_rule wsX7_in := goodIn_r _ [14] (by decide +kernel) (by decide +kernel)
set_option maxRecDepth 20000 in
theorem gX7_rule_X7_in : GoodIn wsX7_rule (va_wsS RX7 60 yX7_in wsX7_in) := goodIn_app (goodIn_of _ (by decide +kernel)) ggX7_rule_X7_in
theorem dX7_rule_0 : decode cX7_rule 0 = .ok (.aload_n 0, 1) := by decide +kernel
theorem dX7_rule_1 : decode cX7_rule 1 = .ok (.iconst 0, 1) := by decide +kernel
theorem dX7_rule_2 : decode cX7_rule 2 = .ok (.putfield 49, 3) := by decide +kernel
theorem dX7_rule_5 : decode cX7_rule 5 = .ok (.aload_n 0, 1) := by decide +kernel
theorem dX7_rule_6 : decode cX7_rule 6 = .ok (.invokevirtual 136, 3) := by decide +kernel
theorem dX7_rule_9 : decode cX7_rule 9 = .ok (.ifCond .eq 12, 3) := by decide +kernel
theorem dX7_rule_12 : decode cX7_rule 12 = .ok (.iload_n 1, 1) := by decide +kernel
theorem dX7_rule_13 : decode cX7_rule 13 = .ok (.iconst 0, 1) := by decide +kernel
theorem dX7_rule_14 : decode cX7_rule 14 = .ok (.iconst 5, 1) := by decide +kernel
theorem dX7_rule_15 : decode cX7_rule 15 = .ok (.invokestatic 60, 3) := by decide +kernel
theorem dX7_rule_18 : decode cX7_rule 18 = .ok (.ifCond .ne 6, 3) := by decide +kernel
theorem dX7_rule_21 : decode cX7_rule 21 = .ok (.ldc 236, 2) := by decide +kernel
theorem dX7_rule_23 : decode cX7_rule 23 = .ok (.ireturn, 1) := by decide +kernel
theorem dX7_rule_24 : decode cX7_rule 24 = .ok (.iload_n 1, 1) := by decide +kernel
theorem dX7_rule_25 : decode cX7_rule 25 = .ok (.ifCond .ne 10, 3) := by decide +kernel
theorem dX7_rule_28 : decode cX7_rule 28 = .ok (.aload_n 0, 1) := by decide +kernel
theorem dX7_rule_29 : decode cX7_rule 29 = .ok (.getfield 124, 3) := by decide +kernel
theorem dX7_rule_32 : decode cX7_rule 32 = .ok (.goto 39, 3) := by decide +kernel
theorem dX7_rule_35 : decode cX7_rule 35 = .ok (.iload_n 1, 1) := by decide +kernel
theorem dX7_rule_36 : decode cX7_rule 36 = .ok (.iconst 1, 1) := by decide +kernel
theorem dX7_rule_37 : decode cX7_rule 37 = .ok (.if_icmp .ne 10, 3) := by decide +kernel
theorem dX7_rule_40 : decode cX7_rule 40 = .ok (.aload_n 0, 1) := by decide +kernel
theorem dX7_rule_41 : decode cX7_rule 41 = .ok (.getfield 127, 3) := by decide +kernel
theorem dX7_rule_44 : decode cX7_rule 44 = .ok (.goto 27, 3) := by decide +kernel
theorem dX7_rule_47 : decode cX7_rule 47 = .ok (.iload_n 1, 1) := by decide +kernel
theorem dX7_rule_48 : decode cX7_rule 48 = .ok (.iconst 5, 1) := by decide +kernel
theorem dX7_rule_49 : decode cX7_rule 49 = .ok (.if_icmp .ne 14, 3) := by decide +kernel
theorem dX7_rule_52 : decode cX7_rule 52 = .ok (.aload_n 0, 1) := by decide +kernel
theorem dX7_rule_53 : decode cX7_rule 53 = .ok (.getfield 22, 3) := by decide +kernel
theorem dX7_rule_56 : decode cX7_rule 56 = .ok (.sipush 1764, 3) := by decide +kernel
theorem dX7_rule_59 : decode cX7_rule 59 = .ok (.iaload, 1) := by decide +kernel
theorem dX7_rule_60 : decode cX7_rule 60 = .ok (.goto 11, 3) := by decide +kernel
theorem dX7_rule_63 : decode cX7_rule 63 = .ok (.aload_n 0, 1) := by decide +kernel
theorem dX7_rule_64 : decode cX7_rule 64 = .ok (.getfield 28, 3) := by decide +kernel
theorem dX7_rule_67 : decode cX7_rule 67 = .ok (.iload_n 1, 1) := by decide +kernel
theorem dX7_rule_68 : decode cX7_rule 68 = .ok (.iconst 2, 1) := by decide +kernel
theorem dX7_rule_69 : decode cX7_rule 69 = .ok (.isub, 1) := by decide +kernel
theorem dX7_rule_70 : decode cX7_rule 70 = .ok (.iaload, 1) := by decide +kernel
theorem dX7_rule_71 : decode cX7_rule 71 = .ok (.ireturn, 1) := by decide +kernel
theorem qxX7_hop_0 : ∀ w ∈ ([.fieldLink RX7 49 "HopCreditsModel" "thrown" "I", .fieldLink RX7 22 "HopCreditsModel" "now" "[I", .fieldLink RX7 31 "HopCreditsModel" "hop" "[I", .methodLink RX7 130 yX7_isHop, .instanceMethod yX7_isHop, .selects RX7 yX7_isHop yX7_isHop, .initialized RX7, .code yX7_isHop cX7_isHop 2 (some .boolean), .fieldLink RX7 124 "HopCreditsModel" "hops" "I", .methodLink RX7 60 yX7_in, .static yX7_in, .code yX7_in cX7_in 3 (some .boolean), .methodLink RX7 237 yX7_cellsOn, .instanceMethod yX7_cellsOn, .selects RX7 yX7_cellsOn yX7_cellsOn, .code yX7_cellsOn cX7_cellsOn 6 (some .int), .methodLink RX7 140 yX7_wayAt, .static yX7_wayAt, .code yX7_wayAt cX7_wayAt 2 (some .int), .methodLink RX7 240 yX7_toldOn, .instanceMethod yX7_toldOn, .selects RX7 yX7_toldOn yX7_toldOn, .code yX7_toldOn cX7_toldOn 7 (some .int), .fieldLink RX7 127 "HopCreditsModel" "circuits" "I"] ++ wsX70), w ∈ wsX7_hop := fun w h => List.mem_cons_of_mem _ h
theorem qxX7_hop_1 : ∀ w ∈ [.fieldLink RX7 49 "HopCreditsModel" "thrown" "I", .fieldLink RX7 22 "HopCreditsModel" "now" "[I", .fieldLink RX7 31 "HopCreditsModel" "hop" "[I", .methodLink RX7 130 yX7_isHop, .instanceMethod yX7_isHop, .selects RX7 yX7_isHop yX7_isHop, .initialized RX7, .code yX7_isHop cX7_isHop 2 (some .boolean), .fieldLink RX7 124 "HopCreditsModel" "hops" "I", .methodLink RX7 60 yX7_in, .static yX7_in, .code yX7_in cX7_in 3 (some .boolean), .methodLink RX7 237 yX7_cellsOn, .instanceMethod yX7_cellsOn, .selects RX7 yX7_cellsOn yX7_cellsOn, .code yX7_cellsOn cX7_cellsOn 6 (some .int), .methodLink RX7 140 yX7_wayAt, .static yX7_wayAt, .code yX7_wayAt cX7_wayAt 2 (some .int), .methodLink RX7 240 yX7_toldOn, .instanceMethod yX7_toldOn, .selects RX7 yX7_toldOn yX7_toldOn, .code yX7_toldOn cX7_toldOn 7 (some .int), .fieldLink RX7 127 "HopCreditsModel" "circuits" "I"], w ∈ wsX7_hop := in_l qxX7_hop_0
theorem qxX7_hop_2 : ∀ w ∈ wsX70, w ∈ wsX7_hop := in_r qxX7_hop_0
def pxX7_hop : List (List Cond) := [[.fieldLink RX7 49 "HopCreditsModel" "thrown" "I", .fieldLink RX7 22 "HopCreditsModel" "now" "[I", .fieldLink RX7 31 "HopCreditsModel" "hop" "[I", .methodLink RX7 130 yX7_isHop, .instanceMethod yX7_isHop, .selects RX7 yX7_isHop yX7_isHop, .initialized RX7, .code yX7_isHop cX7_isHop 2 (some .boolean), .fieldLink RX7 124 "HopCreditsModel" "hops" "I", .methodLink RX7 60 yX7_in, .static yX7_in, .code yX7_in cX7_in 3 (some .boolean), .methodLink RX7 237 yX7_cellsOn, .instanceMethod yX7_cellsOn, .selects RX7 yX7_cellsOn yX7_cellsOn, .code yX7_cellsOn cX7_cellsOn 6 (some .int), .methodLink RX7 140 yX7_wayAt, .static yX7_wayAt, .code yX7_wayAt cX7_wayAt 2 (some .int), .methodLink RX7 240 yX7_toldOn, .instanceMethod yX7_toldOn, .selects RX7 yX7_toldOn yX7_toldOn, .code yX7_toldOn cX7_toldOn 7 (some .int), .fieldLink RX7 127 "HopCreditsModel" "circuits" "I"], wsX70]
theorem pxX7_hop_in : ∀ q ∈ pxX7_hop, ∀ w ∈ q, w ∈ wsX7_hop := lp_c qxX7_hop_1 (lp_c qxX7_hop_2 (lp_n))
set_option maxRecDepth 20000 in
theorem ggX7_hop_X7_isHop : GoodIn wsX7_hop wsX7_isHop := goodIn_pp pxX7_hop pxX7_hop_in _ [(0, 7), (0, 8), (0, 9), (0, 10), (0, 6), (0, 11), (1, 0), (1, 1), (1, 2), (1, 3), (1, 4), (1, 5), (1, 6), (1, 7), (1, 8), (1, 9), (1, 10), (1, 11), (1, 12), (1, 13), (1, 14), (1, 15), (1, 16), (1, 17), (1, 18), (1, 19), (1, 20)] rfl (by decide +kernel)
set_option maxRecDepth 20000 in
theorem gX7_hop_X7_isHop : GoodIn wsX7_hop (wsV RX7 130 RX7 yX7_isHop wsX7_isHop) := goodIn_app (goodIn_of _ (by decide +kernel)) ggX7_hop_X7_isHop
set_option maxRecDepth 20000 in
theorem ggX7_hop_X7_in : GoodIn wsX7_hop wsX7_in := goodIn_r _ [12] (by decide +kernel) (by decide +kernel)
set_option maxRecDepth 20000 in
theorem gX7_hop_X7_in : GoodIn wsX7_hop (va_wsS RX7 60 yX7_in wsX7_in) := goodIn_app (goodIn_of _ (by decide +kernel)) ggX7_hop_X7_in
set_option maxRecDepth 20000 in
theorem ggX7_hop_X7_cellsOn : GoodIn wsX7_hop wsX7_cellsOn := goodIn_pp pxX7_hop pxX7_hop_in _ [(0, 15), (0, 1), (0, 16), (0, 17), (0, 6), (0, 18), (1, 0), (1, 1), (1, 2), (1, 3), (1, 4), (1, 5), (1, 6), (1, 7), (1, 8), (1, 9), (1, 10), (1, 11), (1, 12), (1, 13), (1, 14), (1, 15), (1, 16), (1, 17), (1, 18), (1, 19), (1, 20)] rfl (by decide +kernel)
set_option maxRecDepth 20000 in
theorem gX7_hop_X7_cellsOn : GoodIn wsX7_hop (wsV RX7 237 RX7 yX7_cellsOn wsX7_cellsOn) := goodIn_app (goodIn_of _ (by decide +kernel)) ggX7_hop_X7_cellsOn
set_option maxRecDepth 20000 in
theorem ggX7_hop_X7_toldOn : GoodIn wsX7_hop wsX7_toldOn := goodIn_pp pxX7_hop pxX7_hop_in _ [(0, 22), (0, 23), (0, 1), (0, 16), (0, 17), (0, 6), (0, 18), (1, 0), (1, 1), (1, 2), (1, 3), (1, 4), (1, 5), (1, 6), (1, 7), (1, 8), (1, 9), (1, 10), (1, 11), (1, 12), (1, 13), (1, 14), (1, 15), (1, 16), (1, 17), (1, 18), (1, 19), (1, 20)] rfl (by decide +kernel)
set_option maxRecDepth 20000 in
theorem gX7_hop_X7_toldOn : GoodIn wsX7_hop (wsV RX7 240 RX7 yX7_toldOn wsX7_toldOn) := goodIn_app (goodIn_of _ (by decide +kernel)) ggX7_hop_X7_toldOn
theorem dX7_hop_0 : decode cX7_hop 0 = .ok (.aload_n 0, 1) := by decide +kernel
theorem dX7_hop_1 : decode cX7_hop 1 = .ok (.aload_n 0, 1) := by decide +kernel
theorem dX7_hop_2 : decode cX7_hop 2 = .ok (.iload_n 1, 1) := by decide +kernel
theorem dX7_hop_3 : decode cX7_hop 3 = .ok (.invokevirtual 130, 3) := by decide +kernel
theorem dX7_hop_6 : decode cX7_hop 6 = .ok (.ifCond .eq 17, 3) := by decide +kernel
theorem dX7_hop_9 : decode cX7_hop 9 = .ok (.iload_n 2, 1) := by decide +kernel
theorem dX7_hop_10 : decode cX7_hop 10 = .ok (.iconst 0, 1) := by decide +kernel
theorem dX7_hop_11 : decode cX7_hop 11 = .ok (.bipush 7, 2) := by decide +kernel
theorem dX7_hop_13 : decode cX7_hop 13 = .ok (.invokestatic 60, 3) := by decide +kernel
theorem dX7_hop_16 : decode cX7_hop 16 = .ok (.ifCond .eq 7, 3) := by decide +kernel
theorem dX7_hop_19 : decode cX7_hop 19 = .ok (.iconst 0, 1) := by decide +kernel
theorem dX7_hop_20 : decode cX7_hop 20 = .ok (.goto 4, 3) := by decide +kernel
theorem dX7_hop_23 : decode cX7_hop 23 = .ok (.iconst 1, 1) := by decide +kernel
theorem dX7_hop_24 : decode cX7_hop 24 = .ok (.putfield 49, 3) := by decide +kernel
theorem dX7_hop_27 : decode cX7_hop 27 = .ok (.aload_n 0, 1) := by decide +kernel
theorem dX7_hop_28 : decode cX7_hop 28 = .ok (.getfield 49, 3) := by decide +kernel
theorem dX7_hop_31 : decode cX7_hop 31 = .ok (.iconst 1, 1) := by decide +kernel
theorem dX7_hop_32 : decode cX7_hop 32 = .ok (.if_icmp .ne 5, 3) := by decide +kernel
theorem dX7_hop_35 : decode cX7_hop 35 = .ok (.iconst 0, 1) := by decide +kernel
theorem dX7_hop_36 : decode cX7_hop 36 = .ok (.ireturn, 1) := by decide +kernel
theorem dX7_hop_37 : decode cX7_hop 37 = .ok (.iload_n 2, 1) := by decide +kernel
theorem dX7_hop_38 : decode cX7_hop 38 = .ok (.tableswitch 75 3 7 #[34, 44, 51, 61, 68], 34) := by decide +kernel
theorem dX7_hop_72 : decode cX7_hop 72 = .ok (.aload_n 0, 1) := by decide +kernel
theorem dX7_hop_73 : decode cX7_hop 73 = .ok (.getfield 22, 3) := by decide +kernel
theorem dX7_hop_76 : decode cX7_hop 76 = .ok (.bipush 63, 2) := by decide +kernel
theorem dX7_hop_78 : decode cX7_hop 78 = .ok (.iload_n 1, 1) := by decide +kernel
theorem dX7_hop_79 : decode cX7_hop 79 = .ok (.iadd, 1) := by decide +kernel
theorem dX7_hop_80 : decode cX7_hop 80 = .ok (.iaload, 1) := by decide +kernel
theorem dX7_hop_81 : decode cX7_hop 81 = .ok (.ireturn, 1) := by decide +kernel
theorem dX7_hop_82 : decode cX7_hop 82 = .ok (.aload_n 0, 1) := by decide +kernel
theorem dX7_hop_83 : decode cX7_hop 83 = .ok (.iload_n 1, 1) := by decide +kernel
theorem dX7_hop_84 : decode cX7_hop 84 = .ok (.iconst (-1), 1) := by decide +kernel
theorem dX7_hop_85 : decode cX7_hop 85 = .ok (.invokevirtual 237, 3) := by decide +kernel
theorem dX7_hop_88 : decode cX7_hop 88 = .ok (.ireturn, 1) := by decide +kernel
theorem dX7_hop_89 : decode cX7_hop 89 = .ok (.aload_n 0, 1) := by decide +kernel
theorem dX7_hop_90 : decode cX7_hop 90 = .ok (.getfield 22, 3) := by decide +kernel
theorem dX7_hop_93 : decode cX7_hop 93 = .ok (.bipush 66, 2) := by decide +kernel
theorem dX7_hop_95 : decode cX7_hop 95 = .ok (.iload_n 1, 1) := by decide +kernel
theorem dX7_hop_96 : decode cX7_hop 96 = .ok (.iadd, 1) := by decide +kernel
theorem dX7_hop_97 : decode cX7_hop 97 = .ok (.iaload, 1) := by decide +kernel
theorem dX7_hop_98 : decode cX7_hop 98 = .ok (.ireturn, 1) := by decide +kernel
theorem dX7_hop_99 : decode cX7_hop 99 = .ok (.aload_n 0, 1) := by decide +kernel
theorem dX7_hop_100 : decode cX7_hop 100 = .ok (.iload_n 1, 1) := by decide +kernel
theorem dX7_hop_101 : decode cX7_hop 101 = .ok (.iconst 0, 1) := by decide +kernel
theorem dX7_hop_102 : decode cX7_hop 102 = .ok (.invokevirtual 240, 3) := by decide +kernel
theorem dX7_hop_105 : decode cX7_hop 105 = .ok (.ireturn, 1) := by decide +kernel
theorem dX7_hop_106 : decode cX7_hop 106 = .ok (.aload_n 0, 1) := by decide +kernel
theorem dX7_hop_107 : decode cX7_hop 107 = .ok (.iload_n 1, 1) := by decide +kernel
theorem dX7_hop_108 : decode cX7_hop 108 = .ok (.iconst 1, 1) := by decide +kernel
theorem dX7_hop_109 : decode cX7_hop 109 = .ok (.invokevirtual 240, 3) := by decide +kernel
theorem dX7_hop_112 : decode cX7_hop 112 = .ok (.ireturn, 1) := by decide +kernel
theorem dX7_hop_113 : decode cX7_hop 113 = .ok (.aload_n 0, 1) := by decide +kernel
theorem dX7_hop_114 : decode cX7_hop 114 = .ok (.getfield 31, 3) := by decide +kernel
theorem dX7_hop_117 : decode cX7_hop 117 = .ok (.iconst 3, 1) := by decide +kernel
theorem dX7_hop_118 : decode cX7_hop 118 = .ok (.iload_n 1, 1) := by decide +kernel
theorem dX7_hop_119 : decode cX7_hop 119 = .ok (.imul, 1) := by decide +kernel
theorem dX7_hop_120 : decode cX7_hop 120 = .ok (.iload_n 2, 1) := by decide +kernel
theorem dX7_hop_121 : decode cX7_hop 121 = .ok (.iadd, 1) := by decide +kernel
theorem dX7_hop_122 : decode cX7_hop 122 = .ok (.iaload, 1) := by decide +kernel
theorem dX7_hop_123 : decode cX7_hop 123 = .ok (.ireturn, 1) := by decide +kernel
theorem qxX7_circuit_0 : ∀ w ∈ ([.fieldLink RX7 49 "HopCreditsModel" "thrown" "I", .fieldLink RX7 22 "HopCreditsModel" "now" "[I", .methodLink RX7 133 yX7_isCircuit, .instanceMethod yX7_isCircuit, .selects RX7 yX7_isCircuit yX7_isCircuit, .initialized RX7, .code yX7_isCircuit cX7_isCircuit 2 (some .boolean), .fieldLink RX7 127 "HopCreditsModel" "circuits" "I", .methodLink RX7 60 yX7_in, .static yX7_in, .code yX7_in cX7_in 3 (some .boolean), .methodLink RX7 244 yX7_anywhere, .instanceMethod yX7_anywhere, .selects RX7 yX7_anywhere yX7_anywhere, .code yX7_anywhere cX7_anywhere 2 (some .int), .methodLink RX7 147 yX7_circuitAt, .static yX7_circuitAt, .code yX7_circuitAt cX7_circuitAt 1 (some .int)] ++ wsX70), w ∈ wsX7_circuit := fun w h => List.mem_cons_of_mem _ h
theorem qxX7_circuit_1 : ∀ w ∈ [.fieldLink RX7 49 "HopCreditsModel" "thrown" "I", .fieldLink RX7 22 "HopCreditsModel" "now" "[I", .methodLink RX7 133 yX7_isCircuit, .instanceMethod yX7_isCircuit, .selects RX7 yX7_isCircuit yX7_isCircuit, .initialized RX7, .code yX7_isCircuit cX7_isCircuit 2 (some .boolean), .fieldLink RX7 127 "HopCreditsModel" "circuits" "I", .methodLink RX7 60 yX7_in, .static yX7_in, .code yX7_in cX7_in 3 (some .boolean), .methodLink RX7 244 yX7_anywhere, .instanceMethod yX7_anywhere, .selects RX7 yX7_anywhere yX7_anywhere, .code yX7_anywhere cX7_anywhere 2 (some .int), .methodLink RX7 147 yX7_circuitAt, .static yX7_circuitAt, .code yX7_circuitAt cX7_circuitAt 1 (some .int)], w ∈ wsX7_circuit := in_l qxX7_circuit_0
theorem qxX7_circuit_2 : ∀ w ∈ wsX70, w ∈ wsX7_circuit := in_r qxX7_circuit_0
def pxX7_circuit : List (List Cond) := [[.fieldLink RX7 49 "HopCreditsModel" "thrown" "I", .fieldLink RX7 22 "HopCreditsModel" "now" "[I", .methodLink RX7 133 yX7_isCircuit, .instanceMethod yX7_isCircuit, .selects RX7 yX7_isCircuit yX7_isCircuit, .initialized RX7, .code yX7_isCircuit cX7_isCircuit 2 (some .boolean), .fieldLink RX7 127 "HopCreditsModel" "circuits" "I", .methodLink RX7 60 yX7_in, .static yX7_in, .code yX7_in cX7_in 3 (some .boolean), .methodLink RX7 244 yX7_anywhere, .instanceMethod yX7_anywhere, .selects RX7 yX7_anywhere yX7_anywhere, .code yX7_anywhere cX7_anywhere 2 (some .int), .methodLink RX7 147 yX7_circuitAt, .static yX7_circuitAt, .code yX7_circuitAt cX7_circuitAt 1 (some .int)], wsX70]
theorem pxX7_circuit_in : ∀ q ∈ pxX7_circuit, ∀ w ∈ q, w ∈ wsX7_circuit := lp_c qxX7_circuit_1 (lp_c qxX7_circuit_2 (lp_n))
set_option maxRecDepth 20000 in
theorem ggX7_circuit_X7_isCircuit : GoodIn wsX7_circuit wsX7_isCircuit := goodIn_pp pxX7_circuit pxX7_circuit_in _ [(0, 6), (0, 7), (0, 8), (0, 9), (0, 5), (0, 10), (1, 0), (1, 1), (1, 2), (1, 3), (1, 4), (1, 5), (1, 6), (1, 7), (1, 8), (1, 9), (1, 10), (1, 11), (1, 12), (1, 13), (1, 14), (1, 15), (1, 16), (1, 17), (1, 18), (1, 19), (1, 20)] rfl (by decide +kernel)
set_option maxRecDepth 20000 in
theorem gX7_circuit_X7_isCircuit : GoodIn wsX7_circuit (wsV RX7 133 RX7 yX7_isCircuit wsX7_isCircuit) := goodIn_app (goodIn_of _ (by decide +kernel)) ggX7_circuit_X7_isCircuit
set_option maxRecDepth 20000 in
theorem ggX7_circuit_X7_in : GoodIn wsX7_circuit wsX7_in := goodIn_r _ [11] (by decide +kernel) (by decide +kernel)
set_option maxRecDepth 20000 in
theorem gX7_circuit_X7_in : GoodIn wsX7_circuit (va_wsS RX7 60 yX7_in wsX7_in) := goodIn_app (goodIn_of _ (by decide +kernel)) ggX7_circuit_X7_in
set_option maxRecDepth 20000 in
theorem ggX7_circuit_X7_anywhere : GoodIn wsX7_circuit wsX7_anywhere := goodIn_pp pxX7_circuit pxX7_circuit_in _ [(0, 14), (0, 1), (0, 15), (0, 16), (0, 5), (0, 17), (1, 0), (1, 1), (1, 2), (1, 3), (1, 4), (1, 5), (1, 6), (1, 7), (1, 8), (1, 9), (1, 10), (1, 11), (1, 12), (1, 13), (1, 14), (1, 15), (1, 16), (1, 17), (1, 18), (1, 19), (1, 20)] rfl (by decide +kernel)
set_option maxRecDepth 20000 in
theorem gX7_circuit_X7_anywhere : GoodIn wsX7_circuit (wsV RX7 244 RX7 yX7_anywhere wsX7_anywhere) := goodIn_app (goodIn_of _ (by decide +kernel)) ggX7_circuit_X7_anywhere
set_option maxRecDepth 20000 in
theorem ggX7_circuit_X7_circuitAt : GoodIn wsX7_circuit wsX7_circuitAt := goodIn_r _ [18] (by decide +kernel) (by decide +kernel)
set_option maxRecDepth 20000 in
theorem gX7_circuit_X7_circuitAt : GoodIn wsX7_circuit (va_wsS RX7 147 yX7_circuitAt wsX7_circuitAt) := goodIn_app (goodIn_of _ (by decide +kernel)) ggX7_circuit_X7_circuitAt
theorem dX7_circuit_0 : decode cX7_circuit 0 = .ok (.aload_n 0, 1) := by decide +kernel
theorem dX7_circuit_1 : decode cX7_circuit 1 = .ok (.aload_n 0, 1) := by decide +kernel
theorem dX7_circuit_2 : decode cX7_circuit 2 = .ok (.iload_n 1, 1) := by decide +kernel
theorem dX7_circuit_3 : decode cX7_circuit 3 = .ok (.invokevirtual 133, 3) := by decide +kernel
theorem dX7_circuit_6 : decode cX7_circuit 6 = .ok (.ifCond .eq 17, 3) := by decide +kernel
theorem dX7_circuit_9 : decode cX7_circuit 9 = .ok (.iload_n 2, 1) := by decide +kernel
theorem dX7_circuit_10 : decode cX7_circuit 10 = .ok (.iconst 0, 1) := by decide +kernel
theorem dX7_circuit_11 : decode cX7_circuit 11 = .ok (.bipush 6, 2) := by decide +kernel
theorem dX7_circuit_13 : decode cX7_circuit 13 = .ok (.invokestatic 60, 3) := by decide +kernel
theorem dX7_circuit_16 : decode cX7_circuit 16 = .ok (.ifCond .eq 7, 3) := by decide +kernel
theorem dX7_circuit_19 : decode cX7_circuit 19 = .ok (.iconst 0, 1) := by decide +kernel
theorem dX7_circuit_20 : decode cX7_circuit 20 = .ok (.goto 4, 3) := by decide +kernel
theorem dX7_circuit_23 : decode cX7_circuit 23 = .ok (.iconst 1, 1) := by decide +kernel
theorem dX7_circuit_24 : decode cX7_circuit 24 = .ok (.putfield 49, 3) := by decide +kernel
theorem dX7_circuit_27 : decode cX7_circuit 27 = .ok (.aload_n 0, 1) := by decide +kernel
theorem dX7_circuit_28 : decode cX7_circuit 28 = .ok (.getfield 49, 3) := by decide +kernel
theorem dX7_circuit_31 : decode cX7_circuit 31 = .ok (.iconst 1, 1) := by decide +kernel
theorem dX7_circuit_32 : decode cX7_circuit 32 = .ok (.if_icmp .ne 5, 3) := by decide +kernel
theorem dX7_circuit_35 : decode cX7_circuit 35 = .ok (.iconst 0, 1) := by decide +kernel
theorem dX7_circuit_36 : decode cX7_circuit 36 = .ok (.ireturn, 1) := by decide +kernel
theorem dX7_circuit_37 : decode cX7_circuit 37 = .ok (.iload_n 2, 1) := by decide +kernel
theorem dX7_circuit_38 : decode cX7_circuit 38 = .ok (.bipush 6, 2) := by decide +kernel
theorem dX7_circuit_40 : decode cX7_circuit 40 = .ok (.if_icmp .ne 11, 3) := by decide +kernel
theorem dX7_circuit_43 : decode cX7_circuit 43 = .ok (.aload_n 0, 1) := by decide +kernel
theorem dX7_circuit_44 : decode cX7_circuit 44 = .ok (.iload_n 1, 1) := by decide +kernel
theorem dX7_circuit_45 : decode cX7_circuit 45 = .ok (.invokevirtual 244, 3) := by decide +kernel
theorem dX7_circuit_48 : decode cX7_circuit 48 = .ok (.goto 14, 3) := by decide +kernel
theorem dX7_circuit_51 : decode cX7_circuit 51 = .ok (.aload_n 0, 1) := by decide +kernel
theorem dX7_circuit_52 : decode cX7_circuit 52 = .ok (.getfield 22, 3) := by decide +kernel
theorem dX7_circuit_55 : decode cX7_circuit 55 = .ok (.iload_n 1, 1) := by decide +kernel
theorem dX7_circuit_56 : decode cX7_circuit 56 = .ok (.invokestatic 147, 3) := by decide +kernel
theorem dX7_circuit_59 : decode cX7_circuit 59 = .ok (.iload_n 2, 1) := by decide +kernel
theorem dX7_circuit_60 : decode cX7_circuit 60 = .ok (.iadd, 1) := by decide +kernel
theorem dX7_circuit_61 : decode cX7_circuit 61 = .ok (.iaload, 1) := by decide +kernel
theorem dX7_circuit_62 : decode cX7_circuit 62 = .ok (.ireturn, 1) := by decide +kernel
theorem qxX7_laneNow_0 : ∀ w ∈ ((wsX7_laneNow_r1 ++ wsX7_laneNow_r2) ++ wsX70), w ∈ wsX7_laneNow := fun w h => List.mem_cons_of_mem _ h
theorem qxX7_laneNow_1 : ∀ w ∈ (wsX7_laneNow_r1 ++ wsX7_laneNow_r2), w ∈ wsX7_laneNow := in_l qxX7_laneNow_0
theorem qxX7_laneNow_2 : ∀ w ∈ wsX70, w ∈ wsX7_laneNow := in_r qxX7_laneNow_0
theorem qxX7_laneNow_3 : ∀ w ∈ wsX7_laneNow_r1, w ∈ wsX7_laneNow := in_l qxX7_laneNow_1
theorem qxX7_laneNow_4 : ∀ w ∈ wsX7_laneNow_r2, w ∈ wsX7_laneNow := in_r qxX7_laneNow_1
def pxX7_laneNow : List (List Cond) := [wsX7_laneNow_r1, wsX7_laneNow_r2, wsX70]
theorem pxX7_laneNow_in : ∀ q ∈ pxX7_laneNow, ∀ w ∈ q, w ∈ wsX7_laneNow := lp_c qxX7_laneNow_3 (lp_c qxX7_laneNow_4 (lp_c qxX7_laneNow_2 (lp_n)))
set_option maxRecDepth 20000 in
theorem ggX7_laneNow_X7_outOf : GoodIn wsX7_laneNow wsX7_outOf := goodIn_pp pxX7_laneNow pxX7_laneNow_in _ [(0, 5), (0, 0), (0, 6), (0, 7), (0, 4), (0, 8), (0, 9), (0, 10), (0, 11), (2, 0), (2, 1), (2, 2), (2, 3), (2, 4), (2, 5), (2, 6), (2, 7), (2, 8), (2, 9), (2, 10), (2, 11), (2, 12), (2, 13), (2, 14), (2, 15), (2, 16), (2, 17), (2, 18), (2, 19), (2, 20)] rfl (by decide +kernel)
set_option maxRecDepth 20000 in
theorem gX7_laneNow_X7_outOf : GoodIn wsX7_laneNow (wsV RX7 169 RX7 yX7_outOf wsX7_outOf) := goodIn_app (goodIn_of _ (by decide +kernel)) ggX7_laneNow_X7_outOf
set_option maxRecDepth 20000 in
theorem ggX7_laneNow_X7_credit : GoodIn wsX7_laneNow wsX7_credit := goodIn_pp pxX7_laneNow pxX7_laneNow_in _ [(0, 15), (0, 0), (0, 16), (0, 17), (0, 18), (0, 19), (0, 6), (0, 7), (0, 4), (0, 8), (0, 1), (0, 2), (0, 3), (0, 5), (0, 9), (0, 10), (0, 11), (2, 0), (2, 1), (2, 2), (2, 3), (2, 4), (2, 5), (2, 6), (2, 7), (2, 8), (2, 9), (2, 10), (2, 11), (2, 12), (2, 13), (2, 14), (2, 15), (2, 16), (2, 17), (2, 18), (2, 19), (2, 20)] rfl (by decide +kernel)
set_option maxRecDepth 20000 in
theorem gX7_laneNow_X7_credit : GoodIn wsX7_laneNow (wsV RX7 190 RX7 yX7_credit wsX7_credit) := goodIn_app (goodIn_of _ (by decide +kernel)) ggX7_laneNow_X7_credit
set_option maxRecDepth 20000 in
theorem ggX7_laneNow_X7_lane : GoodIn wsX7_laneNow wsX7_lane := goodIn_r _ [9] (by decide +kernel) (by decide +kernel)
set_option maxRecDepth 20000 in
theorem gX7_laneNow_X7_lane : GoodIn wsX7_laneNow (va_wsS RX7 163 yX7_lane wsX7_lane) := goodIn_app (goodIn_of _ (by decide +kernel)) ggX7_laneNow_X7_lane
set_option maxRecDepth 20000 in
theorem ggX7_laneNow_X7_cellsOn : GoodIn wsX7_laneNow wsX7_cellsOn := goodIn_pp pxX7_laneNow pxX7_laneNow_in _ [(0, 23), (0, 0), (1, 0), (1, 1), (0, 4), (1, 2), (2, 0), (2, 1), (2, 2), (2, 3), (2, 4), (2, 5), (2, 6), (2, 7), (2, 8), (2, 9), (2, 10), (2, 11), (2, 12), (2, 13), (2, 14), (2, 15), (2, 16), (2, 17), (2, 18), (2, 19), (2, 20)] rfl (by decide +kernel)
set_option maxRecDepth 20000 in
theorem gX7_laneNow_X7_cellsOn : GoodIn wsX7_laneNow (wsV RX7 237 RX7 yX7_cellsOn wsX7_cellsOn) := goodIn_app (goodIn_of _ (by decide +kernel)) ggX7_laneNow_X7_cellsOn
theorem dX7_laneNow_0 : decode cX7_laneNow 0 = .ok (.iload_n 3, 1) := by decide +kernel
theorem dX7_laneNow_1 : decode cX7_laneNow 1 = .ok (.tableswitch 100 4 9 #[39, 46, 53, 66, 79, 93], 39) := by decide +kernel
theorem dX7_laneNow_40 : decode cX7_laneNow 40 = .ok (.aload_n 0, 1) := by decide +kernel
theorem dX7_laneNow_41 : decode cX7_laneNow 41 = .ok (.iload_n 1, 1) := by decide +kernel
theorem dX7_laneNow_42 : decode cX7_laneNow 42 = .ok (.iload_n 2, 1) := by decide +kernel
theorem dX7_laneNow_43 : decode cX7_laneNow 43 = .ok (.invokevirtual 169, 3) := by decide +kernel
theorem dX7_laneNow_46 : decode cX7_laneNow 46 = .ok (.ireturn, 1) := by decide +kernel
theorem dX7_laneNow_47 : decode cX7_laneNow 47 = .ok (.aload_n 0, 1) := by decide +kernel
theorem dX7_laneNow_48 : decode cX7_laneNow 48 = .ok (.iload_n 1, 1) := by decide +kernel
theorem dX7_laneNow_49 : decode cX7_laneNow 49 = .ok (.iload_n 2, 1) := by decide +kernel
theorem dX7_laneNow_50 : decode cX7_laneNow 50 = .ok (.invokevirtual 190, 3) := by decide +kernel
theorem dX7_laneNow_53 : decode cX7_laneNow 53 = .ok (.ireturn, 1) := by decide +kernel
theorem dX7_laneNow_54 : decode cX7_laneNow 54 = .ok (.aload_n 0, 1) := by decide +kernel
theorem dX7_laneNow_55 : decode cX7_laneNow 55 = .ok (.getfield 22, 3) := by decide +kernel
theorem dX7_laneNow_58 : decode cX7_laneNow 58 = .ok (.iload_n 1, 1) := by decide +kernel
theorem dX7_laneNow_59 : decode cX7_laneNow 59 = .ok (.iload_n 2, 1) := by decide +kernel
theorem dX7_laneNow_60 : decode cX7_laneNow 60 = .ok (.invokestatic 163, 3) := by decide +kernel
theorem dX7_laneNow_63 : decode cX7_laneNow 63 = .ok (.iconst 4, 1) := by decide +kernel
theorem dX7_laneNow_64 : decode cX7_laneNow 64 = .ok (.iadd, 1) := by decide +kernel
theorem dX7_laneNow_65 : decode cX7_laneNow 65 = .ok (.iaload, 1) := by decide +kernel
theorem dX7_laneNow_66 : decode cX7_laneNow 66 = .ok (.ireturn, 1) := by decide +kernel
theorem dX7_laneNow_67 : decode cX7_laneNow 67 = .ok (.aload_n 0, 1) := by decide +kernel
theorem dX7_laneNow_68 : decode cX7_laneNow 68 = .ok (.getfield 22, 3) := by decide +kernel
theorem dX7_laneNow_71 : decode cX7_laneNow 71 = .ok (.iload_n 1, 1) := by decide +kernel
theorem dX7_laneNow_72 : decode cX7_laneNow 72 = .ok (.iload_n 2, 1) := by decide +kernel
theorem dX7_laneNow_73 : decode cX7_laneNow 73 = .ok (.invokestatic 163, 3) := by decide +kernel
theorem dX7_laneNow_76 : decode cX7_laneNow 76 = .ok (.iconst 5, 1) := by decide +kernel
theorem dX7_laneNow_77 : decode cX7_laneNow 77 = .ok (.iadd, 1) := by decide +kernel
theorem dX7_laneNow_78 : decode cX7_laneNow 78 = .ok (.iaload, 1) := by decide +kernel
theorem dX7_laneNow_79 : decode cX7_laneNow 79 = .ok (.ireturn, 1) := by decide +kernel
theorem dX7_laneNow_80 : decode cX7_laneNow 80 = .ok (.aload_n 0, 1) := by decide +kernel
theorem dX7_laneNow_81 : decode cX7_laneNow 81 = .ok (.getfield 22, 3) := by decide +kernel
theorem dX7_laneNow_84 : decode cX7_laneNow 84 = .ok (.iload_n 1, 1) := by decide +kernel
theorem dX7_laneNow_85 : decode cX7_laneNow 85 = .ok (.iload_n 2, 1) := by decide +kernel
theorem dX7_laneNow_86 : decode cX7_laneNow 86 = .ok (.invokestatic 163, 3) := by decide +kernel
theorem dX7_laneNow_89 : decode cX7_laneNow 89 = .ok (.bipush 6, 2) := by decide +kernel
theorem dX7_laneNow_91 : decode cX7_laneNow 91 = .ok (.iadd, 1) := by decide +kernel
theorem dX7_laneNow_92 : decode cX7_laneNow 92 = .ok (.iaload, 1) := by decide +kernel
theorem dX7_laneNow_93 : decode cX7_laneNow 93 = .ok (.ireturn, 1) := by decide +kernel
theorem dX7_laneNow_94 : decode cX7_laneNow 94 = .ok (.aload_n 0, 1) := by decide +kernel
theorem dX7_laneNow_95 : decode cX7_laneNow 95 = .ok (.iload_n 1, 1) := by decide +kernel
theorem dX7_laneNow_96 : decode cX7_laneNow 96 = .ok (.iload_n 2, 1) := by decide +kernel
theorem dX7_laneNow_97 : decode cX7_laneNow 97 = .ok (.invokevirtual 237, 3) := by decide +kernel
theorem dX7_laneNow_100 : decode cX7_laneNow 100 = .ok (.ireturn, 1) := by decide +kernel
theorem dX7_laneNow_101 : decode cX7_laneNow 101 = .ok (.aload_n 0, 1) := by decide +kernel
theorem dX7_laneNow_102 : decode cX7_laneNow 102 = .ok (.getfield 22, 3) := by decide +kernel
theorem dX7_laneNow_105 : decode cX7_laneNow 105 = .ok (.iload_n 1, 1) := by decide +kernel
theorem dX7_laneNow_106 : decode cX7_laneNow 106 = .ok (.iload_n 2, 1) := by decide +kernel
theorem dX7_laneNow_107 : decode cX7_laneNow 107 = .ok (.invokestatic 163, 3) := by decide +kernel
theorem dX7_laneNow_110 : decode cX7_laneNow 110 = .ok (.iload_n 3, 1) := by decide +kernel
theorem dX7_laneNow_111 : decode cX7_laneNow 111 = .ok (.iadd, 1) := by decide +kernel
theorem dX7_laneNow_112 : decode cX7_laneNow 112 = .ok (.iaload, 1) := by decide +kernel
theorem dX7_laneNow_113 : decode cX7_laneNow 113 = .ok (.ireturn, 1) := by decide +kernel
theorem qxX7_lane__0 : ∀ w ∈ ((wsX7_lane__r1 ++ (wsX7_lane__r2 ++ wsX7_lane__r3)) ++ wsX70), w ∈ wsX7_lane_ := fun w h => List.mem_cons_of_mem _ h
theorem qxX7_lane__1 : ∀ w ∈ (wsX7_lane__r1 ++ (wsX7_lane__r2 ++ wsX7_lane__r3)), w ∈ wsX7_lane_ := in_l qxX7_lane__0
theorem qxX7_lane__2 : ∀ w ∈ wsX70, w ∈ wsX7_lane_ := in_r qxX7_lane__0
theorem qxX7_lane__3 : ∀ w ∈ wsX7_lane__r1, w ∈ wsX7_lane_ := in_l qxX7_lane__1
theorem qxX7_lane__4 : ∀ w ∈ (wsX7_lane__r2 ++ wsX7_lane__r3), w ∈ wsX7_lane_ := in_r qxX7_lane__1
theorem qxX7_lane__5 : ∀ w ∈ wsX7_lane__r2, w ∈ wsX7_lane_ := in_l qxX7_lane__4
theorem qxX7_lane__6 : ∀ w ∈ wsX7_lane__r3, w ∈ wsX7_lane_ := in_r qxX7_lane__4
def pxX7_lane_ : List (List Cond) := [wsX7_lane__r1, wsX7_lane__r2, wsX7_lane__r3, wsX70]
theorem pxX7_lane__in : ∀ q ∈ pxX7_lane_, ∀ w ∈ q, w ∈ wsX7_lane_ := lp_c qxX7_lane__3 (lp_c qxX7_lane__5 (lp_c qxX7_lane__6 (lp_c qxX7_lane__2 (lp_n))))
set_option maxRecDepth 20000 in
theorem ggX7_lane__X7_isLane : GoodIn wsX7_lane_ wsX7_isLane := goodIn_pp pxX7_lane_ pxX7_lane__in _ [(0, 5), (0, 6), (0, 7), (0, 8), (0, 4), (0, 9), (0, 10), (0, 11), (0, 12), (0, 13), (0, 14), (0, 15), (0, 16), (0, 17), (0, 18), (3, 0), (3, 1), (3, 2), (3, 3), (3, 4), (3, 5), (3, 6), (3, 7), (3, 8), (3, 9), (3, 10), (3, 11), (3, 12), (3, 13), (3, 14), (3, 15), (3, 16), (3, 17), (3, 18), (3, 19), (3, 20)] rfl (by decide +kernel)
set_option maxRecDepth 20000 in
theorem gX7_lane__X7_isLane : GoodIn wsX7_lane_ (wsV RX7 229 RX7 yX7_isLane wsX7_isLane) := goodIn_app (goodIn_of _ (by decide +kernel)) ggX7_lane__X7_isLane
set_option maxRecDepth 20000 in
theorem ggX7_lane__X7_in : GoodIn wsX7_lane_ wsX7_in := goodIn_r _ [14] (by decide +kernel) (by decide +kernel)
set_option maxRecDepth 20000 in
theorem gX7_lane__X7_in : GoodIn wsX7_lane_ (va_wsS RX7 60 yX7_in wsX7_in) := goodIn_app (goodIn_of _ (by decide +kernel)) ggX7_lane__X7_in
set_option maxRecDepth 20000 in
theorem ggX7_lane__X7_laneNow : GoodIn wsX7_lane_ wsX7_laneNow := goodIn_pp pxX7_lane_ pxX7_lane__in _ [(0, 22), (0, 23), (1, 0), (1, 1), (1, 2), (0, 4), (1, 3), (1, 4), (1, 5), (1, 6), (1, 7), (1, 8), (1, 9), (1, 10), (1, 11), (1, 12), (1, 13), (1, 14), (1, 15), (1, 16), (1, 17), (1, 18), (1, 19), (1, 20), (1, 21), (1, 22), (1, 23), (2, 0), (3, 0), (3, 1), (3, 2), (3, 3), (3, 4), (3, 5), (3, 6), (3, 7), (3, 8), (3, 9), (3, 10), (3, 11), (3, 12), (3, 13), (3, 14), (3, 15), (3, 16), (3, 17), (3, 18), (3, 19), (3, 20)] rfl (by decide +kernel)
set_option maxRecDepth 20000 in
theorem gX7_lane__X7_laneNow : GoodIn wsX7_lane_ (wsV RX7 247 RX7 yX7_laneNow wsX7_laneNow) := goodIn_app (goodIn_of _ (by decide +kernel)) ggX7_lane__X7_laneNow
theorem dX7_lane__0 : decode cX7_lane_ 0 = .ok (.aload_n 0, 1) := by decide +kernel
theorem dX7_lane__1 : decode cX7_lane_ 1 = .ok (.iconst 0, 1) := by decide +kernel
theorem dX7_lane__2 : decode cX7_lane_ 2 = .ok (.putfield 49, 3) := by decide +kernel
theorem dX7_lane__5 : decode cX7_lane_ 5 = .ok (.aload_n 0, 1) := by decide +kernel
theorem dX7_lane__6 : decode cX7_lane_ 6 = .ok (.iload_n 1, 1) := by decide +kernel
theorem dX7_lane__7 : decode cX7_lane_ 7 = .ok (.iload_n 2, 1) := by decide +kernel
theorem dX7_lane__8 : decode cX7_lane_ 8 = .ok (.invokevirtual 229, 3) := by decide +kernel
theorem dX7_lane__11 : decode cX7_lane_ 11 = .ok (.ifCond .eq 23, 3) := by decide +kernel
theorem dX7_lane__14 : decode cX7_lane_ 14 = .ok (.iload_n 3, 1) := by decide +kernel
theorem dX7_lane__15 : decode cX7_lane_ 15 = .ok (.iconst 0, 1) := by decide +kernel
theorem dX7_lane__16 : decode cX7_lane_ 16 = .ok (.bipush 9, 2) := by decide +kernel
theorem dX7_lane__18 : decode cX7_lane_ 18 = .ok (.invokestatic 60, 3) := by decide +kernel
theorem dX7_lane__21 : decode cX7_lane_ 21 = .ok (.ifCond .eq 13, 3) := by decide +kernel
theorem dX7_lane__24 : decode cX7_lane_ 24 = .ok (.aload_n 0, 1) := by decide +kernel
theorem dX7_lane__25 : decode cX7_lane_ 25 = .ok (.iload_n 1, 1) := by decide +kernel
theorem dX7_lane__26 : decode cX7_lane_ 26 = .ok (.iload_n 2, 1) := by decide +kernel
theorem dX7_lane__27 : decode cX7_lane_ 27 = .ok (.iload_n 3, 1) := by decide +kernel
theorem dX7_lane__28 : decode cX7_lane_ 28 = .ok (.invokevirtual 247, 3) := by decide +kernel
theorem dX7_lane__31 : decode cX7_lane_ 31 = .ok (.goto 4, 3) := by decide +kernel
theorem dX7_lane__34 : decode cX7_lane_ 34 = .ok (.iconst (-1), 1) := by decide +kernel
theorem dX7_lane__35 : decode cX7_lane_ 35 = .ok (.ireturn, 1) := by decide +kernel
theorem qxX7_buffer_0 : ∀ w ∈ ([.fieldLink RX7 49 "HopCreditsModel" "thrown" "I", .fieldLink RX7 22 "HopCreditsModel" "now" "[I", .methodLink RX7 250 yX7_isNode, .instanceMethod yX7_isNode, .selects RX7 yX7_isNode yX7_isNode, .initialized RX7, .code yX7_isNode cX7_isNode 2 (some .boolean), .fieldLink RX7 124 "HopCreditsModel" "hops" "I", .methodLink RX7 136 yX7_isNet, .instanceMethod yX7_isNet, .selects RX7 yX7_isNet yX7_isNet, .code yX7_isNet cX7_isNet 1 (some .boolean), .methodLink RX7 60 yX7_in, .static yX7_in, .code yX7_in cX7_in 3 (some .boolean), .methodLink RX7 133 yX7_isCircuit, .instanceMethod yX7_isCircuit, .selects RX7 yX7_isCircuit yX7_isCircuit, .code yX7_isCircuit cX7_isCircuit 2 (some .boolean), .fieldLink RX7 127 "HopCreditsModel" "circuits" "I", .methodLink RX7 184 yX7_bufferAt, .static yX7_bufferAt, .code yX7_bufferAt cX7_bufferAt 2 (some .int)] ++ wsX70), w ∈ wsX7_buffer := fun w h => List.mem_cons_of_mem _ h
theorem qxX7_buffer_1 : ∀ w ∈ [.fieldLink RX7 49 "HopCreditsModel" "thrown" "I", .fieldLink RX7 22 "HopCreditsModel" "now" "[I", .methodLink RX7 250 yX7_isNode, .instanceMethod yX7_isNode, .selects RX7 yX7_isNode yX7_isNode, .initialized RX7, .code yX7_isNode cX7_isNode 2 (some .boolean), .fieldLink RX7 124 "HopCreditsModel" "hops" "I", .methodLink RX7 136 yX7_isNet, .instanceMethod yX7_isNet, .selects RX7 yX7_isNet yX7_isNet, .code yX7_isNet cX7_isNet 1 (some .boolean), .methodLink RX7 60 yX7_in, .static yX7_in, .code yX7_in cX7_in 3 (some .boolean), .methodLink RX7 133 yX7_isCircuit, .instanceMethod yX7_isCircuit, .selects RX7 yX7_isCircuit yX7_isCircuit, .code yX7_isCircuit cX7_isCircuit 2 (some .boolean), .fieldLink RX7 127 "HopCreditsModel" "circuits" "I", .methodLink RX7 184 yX7_bufferAt, .static yX7_bufferAt, .code yX7_bufferAt cX7_bufferAt 2 (some .int)], w ∈ wsX7_buffer := in_l qxX7_buffer_0
theorem qxX7_buffer_2 : ∀ w ∈ wsX70, w ∈ wsX7_buffer := in_r qxX7_buffer_0
def pxX7_buffer : List (List Cond) := [[.fieldLink RX7 49 "HopCreditsModel" "thrown" "I", .fieldLink RX7 22 "HopCreditsModel" "now" "[I", .methodLink RX7 250 yX7_isNode, .instanceMethod yX7_isNode, .selects RX7 yX7_isNode yX7_isNode, .initialized RX7, .code yX7_isNode cX7_isNode 2 (some .boolean), .fieldLink RX7 124 "HopCreditsModel" "hops" "I", .methodLink RX7 136 yX7_isNet, .instanceMethod yX7_isNet, .selects RX7 yX7_isNet yX7_isNet, .code yX7_isNet cX7_isNet 1 (some .boolean), .methodLink RX7 60 yX7_in, .static yX7_in, .code yX7_in cX7_in 3 (some .boolean), .methodLink RX7 133 yX7_isCircuit, .instanceMethod yX7_isCircuit, .selects RX7 yX7_isCircuit yX7_isCircuit, .code yX7_isCircuit cX7_isCircuit 2 (some .boolean), .fieldLink RX7 127 "HopCreditsModel" "circuits" "I", .methodLink RX7 184 yX7_bufferAt, .static yX7_bufferAt, .code yX7_bufferAt cX7_bufferAt 2 (some .int)], wsX70]
theorem pxX7_buffer_in : ∀ q ∈ pxX7_buffer, ∀ w ∈ q, w ∈ wsX7_buffer := lp_c qxX7_buffer_1 (lp_c qxX7_buffer_2 (lp_n))
set_option maxRecDepth 20000 in
theorem ggX7_buffer_X7_isNode : GoodIn wsX7_buffer wsX7_isNode := goodIn_pp pxX7_buffer pxX7_buffer_in _ [(0, 6), (0, 7), (0, 8), (0, 9), (0, 10), (0, 5), (0, 11), (0, 12), (0, 13), (0, 14), (1, 0), (1, 1), (1, 2), (1, 3), (1, 4), (1, 5), (1, 6), (1, 7), (1, 8), (1, 9), (1, 10), (1, 11), (1, 12), (1, 13), (1, 14), (1, 15), (1, 16), (1, 17), (1, 18), (1, 19), (1, 20)] rfl (by decide +kernel)
set_option maxRecDepth 20000 in
theorem gX7_buffer_X7_isNode : GoodIn wsX7_buffer (wsV RX7 250 RX7 yX7_isNode wsX7_isNode) := goodIn_app (goodIn_of _ (by decide +kernel)) ggX7_buffer_X7_isNode
set_option maxRecDepth 20000 in
theorem ggX7_buffer_X7_isCircuit : GoodIn wsX7_buffer wsX7_isCircuit := goodIn_pp pxX7_buffer pxX7_buffer_in _ [(0, 18), (0, 19), (0, 12), (0, 13), (0, 5), (0, 14), (1, 0), (1, 1), (1, 2), (1, 3), (1, 4), (1, 5), (1, 6), (1, 7), (1, 8), (1, 9), (1, 10), (1, 11), (1, 12), (1, 13), (1, 14), (1, 15), (1, 16), (1, 17), (1, 18), (1, 19), (1, 20)] rfl (by decide +kernel)
set_option maxRecDepth 20000 in
theorem gX7_buffer_X7_isCircuit : GoodIn wsX7_buffer (wsV RX7 133 RX7 yX7_isCircuit wsX7_isCircuit) := goodIn_app (goodIn_of _ (by decide +kernel)) ggX7_buffer_X7_isCircuit
set_option maxRecDepth 20000 in
theorem ggX7_buffer_X7_bufferAt : GoodIn wsX7_buffer wsX7_bufferAt := goodIn_r _ [23] (by decide +kernel) (by decide +kernel)
set_option maxRecDepth 20000 in
theorem gX7_buffer_X7_bufferAt : GoodIn wsX7_buffer (va_wsS RX7 184 yX7_bufferAt wsX7_bufferAt) := goodIn_app (goodIn_of _ (by decide +kernel)) ggX7_buffer_X7_bufferAt
theorem dX7_buffer_0 : decode cX7_buffer 0 = .ok (.aload_n 0, 1) := by decide +kernel
theorem dX7_buffer_1 : decode cX7_buffer 1 = .ok (.iconst 0, 1) := by decide +kernel
theorem dX7_buffer_2 : decode cX7_buffer 2 = .ok (.putfield 49, 3) := by decide +kernel
theorem dX7_buffer_5 : decode cX7_buffer 5 = .ok (.aload_n 0, 1) := by decide +kernel
theorem dX7_buffer_6 : decode cX7_buffer 6 = .ok (.iload_n 1, 1) := by decide +kernel
theorem dX7_buffer_7 : decode cX7_buffer 7 = .ok (.invokevirtual 250, 3) := by decide +kernel
theorem dX7_buffer_10 : decode cX7_buffer 10 = .ok (.ifCond .eq 24, 3) := by decide +kernel
theorem dX7_buffer_13 : decode cX7_buffer 13 = .ok (.aload_n 0, 1) := by decide +kernel
theorem dX7_buffer_14 : decode cX7_buffer 14 = .ok (.iload_n 2, 1) := by decide +kernel
theorem dX7_buffer_15 : decode cX7_buffer 15 = .ok (.invokevirtual 133, 3) := by decide +kernel
theorem dX7_buffer_18 : decode cX7_buffer 18 = .ok (.ifCond .eq 16, 3) := by decide +kernel
theorem dX7_buffer_21 : decode cX7_buffer 21 = .ok (.aload_n 0, 1) := by decide +kernel
theorem dX7_buffer_22 : decode cX7_buffer 22 = .ok (.getfield 22, 3) := by decide +kernel
theorem dX7_buffer_25 : decode cX7_buffer 25 = .ok (.iload_n 1, 1) := by decide +kernel
theorem dX7_buffer_26 : decode cX7_buffer 26 = .ok (.iload_n 2, 1) := by decide +kernel
theorem dX7_buffer_27 : decode cX7_buffer 27 = .ok (.invokestatic 184, 3) := by decide +kernel
theorem dX7_buffer_30 : decode cX7_buffer 30 = .ok (.iaload, 1) := by decide +kernel
theorem dX7_buffer_31 : decode cX7_buffer 31 = .ok (.goto 4, 3) := by decide +kernel
theorem dX7_buffer_34 : decode cX7_buffer 34 = .ok (.iconst (-1), 1) := by decide +kernel
theorem dX7_buffer_35 : decode cX7_buffer 35 = .ok (.ireturn, 1) := by decide +kernel
theorem qxX7_way_0 : ∀ w ∈ ([.fieldLink RX7 49 "HopCreditsModel" "thrown" "I", .fieldLink RX7 22 "HopCreditsModel" "now" "[I", .methodLink RX7 130 yX7_isHop, .instanceMethod yX7_isHop, .selects RX7 yX7_isHop yX7_isHop, .initialized RX7, .code yX7_isHop cX7_isHop 2 (some .boolean), .fieldLink RX7 124 "HopCreditsModel" "hops" "I", .methodLink RX7 60 yX7_in, .static yX7_in, .code yX7_in cX7_in 3 (some .boolean), .methodLink RX7 140 yX7_wayAt, .static yX7_wayAt, .code yX7_wayAt cX7_wayAt 2 (some .int)] ++ wsX70), w ∈ wsX7_way := fun w h => List.mem_cons_of_mem _ h
theorem qxX7_way_1 : ∀ w ∈ [.fieldLink RX7 49 "HopCreditsModel" "thrown" "I", .fieldLink RX7 22 "HopCreditsModel" "now" "[I", .methodLink RX7 130 yX7_isHop, .instanceMethod yX7_isHop, .selects RX7 yX7_isHop yX7_isHop, .initialized RX7, .code yX7_isHop cX7_isHop 2 (some .boolean), .fieldLink RX7 124 "HopCreditsModel" "hops" "I", .methodLink RX7 60 yX7_in, .static yX7_in, .code yX7_in cX7_in 3 (some .boolean), .methodLink RX7 140 yX7_wayAt, .static yX7_wayAt, .code yX7_wayAt cX7_wayAt 2 (some .int)], w ∈ wsX7_way := in_l qxX7_way_0
theorem qxX7_way_2 : ∀ w ∈ wsX70, w ∈ wsX7_way := in_r qxX7_way_0
def pxX7_way : List (List Cond) := [[.fieldLink RX7 49 "HopCreditsModel" "thrown" "I", .fieldLink RX7 22 "HopCreditsModel" "now" "[I", .methodLink RX7 130 yX7_isHop, .instanceMethod yX7_isHop, .selects RX7 yX7_isHop yX7_isHop, .initialized RX7, .code yX7_isHop cX7_isHop 2 (some .boolean), .fieldLink RX7 124 "HopCreditsModel" "hops" "I", .methodLink RX7 60 yX7_in, .static yX7_in, .code yX7_in cX7_in 3 (some .boolean), .methodLink RX7 140 yX7_wayAt, .static yX7_wayAt, .code yX7_wayAt cX7_wayAt 2 (some .int)], wsX70]
theorem pxX7_way_in : ∀ q ∈ pxX7_way, ∀ w ∈ q, w ∈ wsX7_way := lp_c qxX7_way_1 (lp_c qxX7_way_2 (lp_n))
set_option maxRecDepth 20000 in
theorem ggX7_way_X7_isHop : GoodIn wsX7_way wsX7_isHop := goodIn_pp pxX7_way pxX7_way_in _ [(0, 6), (0, 7), (0, 8), (0, 9), (0, 5), (0, 10), (1, 0), (1, 1), (1, 2), (1, 3), (1, 4), (1, 5), (1, 6), (1, 7), (1, 8), (1, 9), (1, 10), (1, 11), (1, 12), (1, 13), (1, 14), (1, 15), (1, 16), (1, 17), (1, 18), (1, 19), (1, 20)] rfl (by decide +kernel)
set_option maxRecDepth 20000 in
theorem gX7_way_X7_isHop : GoodIn wsX7_way (wsV RX7 130 RX7 yX7_isHop wsX7_isHop) := goodIn_app (goodIn_of _ (by decide +kernel)) ggX7_way_X7_isHop
set_option maxRecDepth 20000 in
theorem ggX7_way_X7_in : GoodIn wsX7_way wsX7_in := goodIn_r _ [11] (by decide +kernel) (by decide +kernel)
set_option maxRecDepth 20000 in
theorem gX7_way_X7_in : GoodIn wsX7_way (va_wsS RX7 60 yX7_in wsX7_in) := goodIn_app (goodIn_of _ (by decide +kernel)) ggX7_way_X7_in
set_option maxRecDepth 20000 in
theorem ggX7_way_X7_wayAt : GoodIn wsX7_way wsX7_wayAt := goodIn_r _ [14] (by decide +kernel) (by decide +kernel)
set_option maxRecDepth 20000 in
theorem gX7_way_X7_wayAt : GoodIn wsX7_way (va_wsS RX7 140 yX7_wayAt wsX7_wayAt) := goodIn_app (goodIn_of _ (by decide +kernel)) ggX7_way_X7_wayAt
theorem dX7_way_0 : decode cX7_way 0 = .ok (.aload_n 0, 1) := by decide +kernel
theorem dX7_way_1 : decode cX7_way 1 = .ok (.iconst 0, 1) := by decide +kernel
theorem dX7_way_2 : decode cX7_way 2 = .ok (.putfield 49, 3) := by decide +kernel
theorem dX7_way_5 : decode cX7_way 5 = .ok (.aload_n 0, 1) := by decide +kernel
theorem dX7_way_6 : decode cX7_way 6 = .ok (.iload_n 1, 1) := by decide +kernel
theorem dX7_way_7 : decode cX7_way 7 = .ok (.invokevirtual 130, 3) := by decide +kernel
theorem dX7_way_10 : decode cX7_way 10 = .ok (.ifCond .eq 21, 3) := by decide +kernel
theorem dX7_way_13 : decode cX7_way 13 = .ok (.iload_n 2, 1) := by decide +kernel
theorem dX7_way_14 : decode cX7_way 14 = .ok (.iconst 1, 1) := by decide +kernel
theorem dX7_way_15 : decode cX7_way 15 = .ok (.iconst 5, 1) := by decide +kernel
theorem dX7_way_16 : decode cX7_way 16 = .ok (.invokestatic 60, 3) := by decide +kernel
theorem dX7_way_19 : decode cX7_way 19 = .ok (.ifCond .eq 12, 3) := by decide +kernel
theorem dX7_way_22 : decode cX7_way 22 = .ok (.iload_n 3, 1) := by decide +kernel
theorem dX7_way_23 : decode cX7_way 23 = .ok (.iconst 0, 1) := by decide +kernel
theorem dX7_way_24 : decode cX7_way 24 = .ok (.iconst 4, 1) := by decide +kernel
theorem dX7_way_25 : decode cX7_way 25 = .ok (.invokestatic 60, 3) := by decide +kernel
theorem dX7_way_28 : decode cX7_way 28 = .ok (.ifCond .ne 5, 3) := by decide +kernel
theorem dX7_way_31 : decode cX7_way 31 = .ok (.iconst (-1), 1) := by decide +kernel
theorem dX7_way_32 : decode cX7_way 32 = .ok (.ireturn, 1) := by decide +kernel
theorem dX7_way_33 : decode cX7_way 33 = .ok (.iload_n 1, 1) := by decide +kernel
theorem dX7_way_34 : decode cX7_way 34 = .ok (.aload_n 0, 1) := by decide +kernel
theorem dX7_way_35 : decode cX7_way 35 = .ok (.getfield 22, 3) := by decide +kernel
theorem dX7_way_38 : decode cX7_way 38 = .ok (.sipush 1764, 3) := by decide +kernel
theorem dX7_way_41 : decode cX7_way 41 = .ok (.iaload, 1) := by decide +kernel
theorem dX7_way_42 : decode cX7_way 42 = .ok (.iload_n 2, 1) := by decide +kernel
theorem dX7_way_43 : decode cX7_way 43 = .ok (.iadd, 1) := by decide +kernel
theorem dX7_way_44 : decode cX7_way 44 = .ok (.iconst 1, 1) := by decide +kernel
theorem dX7_way_45 : decode cX7_way 45 = .ok (.isub, 1) := by decide +kernel
theorem dX7_way_46 : decode cX7_way 46 = .ok (.invokestatic 140, 3) := by decide +kernel
theorem dX7_way_49 : decode cX7_way 49 = .ok (.istore 4, 2) := by decide +kernel
theorem dX7_way_51 : decode cX7_way 51 = .ok (.iload_n 3, 1) := by decide +kernel
theorem dX7_way_52 : decode cX7_way 52 = .ok (.iconst 4, 1) := by decide +kernel
theorem dX7_way_53 : decode cX7_way 53 = .ok (.if_icmp .ne 29, 3) := by decide +kernel
theorem dX7_way_56 : decode cX7_way 56 = .ok (.aload_n 0, 1) := by decide +kernel
theorem dX7_way_57 : decode cX7_way 57 = .ok (.getfield 22, 3) := by decide +kernel
theorem dX7_way_60 : decode cX7_way 60 = .ok (.iload 4, 2) := by decide +kernel
theorem dX7_way_62 : decode cX7_way 62 = .ok (.iconst 4, 1) := by decide +kernel
theorem dX7_way_63 : decode cX7_way 63 = .ok (.iadd, 1) := by decide +kernel
theorem dX7_way_64 : decode cX7_way 64 = .ok (.iaload, 1) := by decide +kernel
theorem dX7_way_65 : decode cX7_way 65 = .ok (.ifCond .ne 7, 3) := by decide +kernel
theorem dX7_way_68 : decode cX7_way 68 = .ok (.iconst (-1), 1) := by decide +kernel
theorem dX7_way_69 : decode cX7_way 69 = .ok (.goto 12, 3) := by decide +kernel
theorem dX7_way_72 : decode cX7_way 72 = .ok (.aload_n 0, 1) := by decide +kernel
theorem dX7_way_73 : decode cX7_way 73 = .ok (.getfield 22, 3) := by decide +kernel
theorem dX7_way_76 : decode cX7_way 76 = .ok (.iload 4, 2) := by decide +kernel
theorem dX7_way_78 : decode cX7_way 78 = .ok (.iconst 4, 1) := by decide +kernel
theorem dX7_way_79 : decode cX7_way 79 = .ok (.iadd, 1) := by decide +kernel
theorem dX7_way_80 : decode cX7_way 80 = .ok (.iaload, 1) := by decide +kernel
theorem dX7_way_81 : decode cX7_way 81 = .ok (.ireturn, 1) := by decide +kernel
theorem dX7_way_82 : decode cX7_way 82 = .ok (.iload_n 3, 1) := by decide +kernel
theorem dX7_way_83 : decode cX7_way 83 = .ok (.ifCond .ne 15, 3) := by decide +kernel
theorem dX7_way_86 : decode cX7_way 86 = .ok (.aload_n 0, 1) := by decide +kernel
theorem dX7_way_87 : decode cX7_way 87 = .ok (.getfield 22, 3) := by decide +kernel
theorem dX7_way_90 : decode cX7_way 90 = .ok (.iload 4, 2) := by decide +kernel
theorem dX7_way_92 : decode cX7_way 92 = .ok (.iconst 0, 1) := by decide +kernel
theorem dX7_way_93 : decode cX7_way 93 = .ok (.iadd, 1) := by decide +kernel
theorem dX7_way_94 : decode cX7_way 94 = .ok (.iaload, 1) := by decide +kernel
theorem dX7_way_95 : decode cX7_way 95 = .ok (.goto 16, 3) := by decide +kernel
theorem dX7_way_98 : decode cX7_way 98 = .ok (.aload_n 0, 1) := by decide +kernel
theorem dX7_way_99 : decode cX7_way 99 = .ok (.getfield 22, 3) := by decide +kernel
theorem dX7_way_102 : decode cX7_way 102 = .ok (.iload 4, 2) := by decide +kernel
theorem dX7_way_104 : decode cX7_way 104 = .ok (.iconst 1, 1) := by decide +kernel
theorem dX7_way_105 : decode cX7_way 105 = .ok (.iadd, 1) := by decide +kernel
theorem dX7_way_106 : decode cX7_way 106 = .ok (.iload_n 3, 1) := by decide +kernel
theorem dX7_way_107 : decode cX7_way 107 = .ok (.iadd, 1) := by decide +kernel
theorem dX7_way_108 : decode cX7_way 108 = .ok (.iconst 1, 1) := by decide +kernel
theorem dX7_way_109 : decode cX7_way 109 = .ok (.isub, 1) := by decide +kernel
theorem dX7_way_110 : decode cX7_way 110 = .ok (.iaload, 1) := by decide +kernel
theorem dX7_way_111 : decode cX7_way 111 = .ok (.ireturn, 1) := by decide +kernel
theorem dX7_putAside_0 : decode cX7_putAside 0 = .ok (.iconst 0, 1) := by decide +kernel
theorem dX7_putAside_1 : decode cX7_putAside 1 = .ok (.istore_n 1, 1) := by decide +kernel
theorem dX7_putAside_2 : decode cX7_putAside 2 = .ok (.iload_n 1, 1) := by decide +kernel
theorem dX7_putAside_3 : decode cX7_putAside 3 = .ok (.sipush 1767, 3) := by decide +kernel
theorem dX7_putAside_6 : decode cX7_putAside 6 = .ok (.if_icmp .ge 21, 3) := by decide +kernel
theorem dX7_putAside_9 : decode cX7_putAside 9 = .ok (.aload_n 0, 1) := by decide +kernel
theorem dX7_putAside_10 : decode cX7_putAside 10 = .ok (.getfield 37, 3) := by decide +kernel
theorem dX7_putAside_13 : decode cX7_putAside 13 = .ok (.iload_n 1, 1) := by decide +kernel
theorem dX7_putAside_14 : decode cX7_putAside 14 = .ok (.aload_n 0, 1) := by decide +kernel
theorem dX7_putAside_15 : decode cX7_putAside 15 = .ok (.getfield 22, 3) := by decide +kernel
theorem dX7_putAside_18 : decode cX7_putAside 18 = .ok (.iload_n 1, 1) := by decide +kernel
theorem dX7_putAside_19 : decode cX7_putAside 19 = .ok (.iaload, 1) := by decide +kernel
theorem dX7_putAside_20 : decode cX7_putAside 20 = .ok (.iastore, 1) := by decide +kernel
theorem dX7_putAside_21 : decode cX7_putAside 21 = .ok (.iinc 1 1, 3) := by decide +kernel
theorem dX7_putAside_24 : decode cX7_putAside 24 = .ok (.goto (-22), 3) := by decide +kernel
theorem dX7_putAside_27 : decode cX7_putAside 27 = .ok (.return_, 1) := by decide +kernel
theorem dX7_bringBack_0 : decode cX7_bringBack 0 = .ok (.iconst 0, 1) := by decide +kernel
theorem dX7_bringBack_1 : decode cX7_bringBack 1 = .ok (.istore_n 1, 1) := by decide +kernel
theorem dX7_bringBack_2 : decode cX7_bringBack 2 = .ok (.iload_n 1, 1) := by decide +kernel
theorem dX7_bringBack_3 : decode cX7_bringBack 3 = .ok (.sipush 1767, 3) := by decide +kernel
theorem dX7_bringBack_6 : decode cX7_bringBack 6 = .ok (.if_icmp .ge 21, 3) := by decide +kernel
theorem dX7_bringBack_9 : decode cX7_bringBack 9 = .ok (.aload_n 0, 1) := by decide +kernel
theorem dX7_bringBack_10 : decode cX7_bringBack 10 = .ok (.getfield 22, 3) := by decide +kernel
theorem dX7_bringBack_13 : decode cX7_bringBack 13 = .ok (.iload_n 1, 1) := by decide +kernel
theorem dX7_bringBack_14 : decode cX7_bringBack 14 = .ok (.aload_n 0, 1) := by decide +kernel
theorem dX7_bringBack_15 : decode cX7_bringBack 15 = .ok (.getfield 37, 3) := by decide +kernel
theorem dX7_bringBack_18 : decode cX7_bringBack 18 = .ok (.iload_n 1, 1) := by decide +kernel
theorem dX7_bringBack_19 : decode cX7_bringBack 19 = .ok (.iaload, 1) := by decide +kernel
theorem dX7_bringBack_20 : decode cX7_bringBack 20 = .ok (.iastore, 1) := by decide +kernel
theorem dX7_bringBack_21 : decode cX7_bringBack 21 = .ok (.iinc 1 1, 3) := by decide +kernel
theorem dX7_bringBack_24 : decode cX7_bringBack 24 = .ok (.goto (-22), 3) := by decide +kernel
theorem dX7_bringBack_27 : decode cX7_bringBack 27 = .ok (.return_, 1) := by decide +kernel
theorem qxX7_goesOn_0 : ∀ w ∈ ((wsX7_goesOn_r1 ++ (wsX7_goesOn_r2 ++ (wsX7_goesOn_r3 ++ (wsX7_goesOn_r4 ++ wsX7_goesOn_r5)))) ++ wsX70), w ∈ wsX7_goesOn := fun w h => List.mem_cons_of_mem _ h
theorem qxX7_goesOn_1 : ∀ w ∈ (wsX7_goesOn_r1 ++ (wsX7_goesOn_r2 ++ (wsX7_goesOn_r3 ++ (wsX7_goesOn_r4 ++ wsX7_goesOn_r5)))), w ∈ wsX7_goesOn := in_l qxX7_goesOn_0
theorem qxX7_goesOn_2 : ∀ w ∈ wsX70, w ∈ wsX7_goesOn := in_r qxX7_goesOn_0
theorem qxX7_goesOn_3 : ∀ w ∈ wsX7_goesOn_r1, w ∈ wsX7_goesOn := in_l qxX7_goesOn_1
theorem qxX7_goesOn_4 : ∀ w ∈ (wsX7_goesOn_r2 ++ (wsX7_goesOn_r3 ++ (wsX7_goesOn_r4 ++ wsX7_goesOn_r5))), w ∈ wsX7_goesOn := in_r qxX7_goesOn_1
theorem qxX7_goesOn_5 : ∀ w ∈ wsX7_goesOn_r2, w ∈ wsX7_goesOn := in_l qxX7_goesOn_4
theorem qxX7_goesOn_6 : ∀ w ∈ (wsX7_goesOn_r3 ++ (wsX7_goesOn_r4 ++ wsX7_goesOn_r5)), w ∈ wsX7_goesOn := in_r qxX7_goesOn_4
theorem qxX7_goesOn_7 : ∀ w ∈ wsX7_goesOn_r3, w ∈ wsX7_goesOn := in_l qxX7_goesOn_6
theorem qxX7_goesOn_8 : ∀ w ∈ (wsX7_goesOn_r4 ++ wsX7_goesOn_r5), w ∈ wsX7_goesOn := in_r qxX7_goesOn_6
theorem qxX7_goesOn_9 : ∀ w ∈ wsX7_goesOn_r4, w ∈ wsX7_goesOn := in_l qxX7_goesOn_8
theorem qxX7_goesOn_10 : ∀ w ∈ wsX7_goesOn_r5, w ∈ wsX7_goesOn := in_r qxX7_goesOn_8
def pxX7_goesOn : List (List Cond) := [wsX7_goesOn_r1, wsX7_goesOn_r2, wsX7_goesOn_r3, wsX7_goesOn_r4, wsX7_goesOn_r5, wsX70]
theorem pxX7_goesOn_in : ∀ q ∈ pxX7_goesOn, ∀ w ∈ q, w ∈ wsX7_goesOn := lp_c qxX7_goesOn_3 (lp_c qxX7_goesOn_5 (lp_c qxX7_goesOn_7 (lp_c qxX7_goesOn_9 (lp_c qxX7_goesOn_10 (lp_c qxX7_goesOn_2 (lp_n))))))
set_option maxRecDepth 20000 in
theorem ggX7_goesOn_X7_ticks : GoodIn wsX7_goesOn wsX7_ticks := goodIn_pp pxX7_goesOn pxX7_goesOn_in _ [(0, 4), (0, 5), (0, 6), (0, 7), (0, 8), (0, 9), (0, 10), (0, 11), (0, 3), (0, 12), (0, 13), (0, 14), (0, 15), (0, 16), (0, 17), (0, 18), (0, 19), (0, 20), (0, 21), (0, 22), (0, 23), (1, 0), (1, 1), (1, 2), (1, 3), (1, 4), (1, 5), (1, 6), (1, 7), (1, 8), (1, 9), (1, 10), (1, 11), (1, 12), (1, 13), (1, 14), (1, 15), (1, 16), (1, 17), (1, 18), (1, 19), (1, 20), (1, 21), (1, 22), (1, 23), (2, 0), (2, 1), (2, 2), (2, 3), (2, 4), (2, 5), (2, 6), (2, 7), (2, 8), (2, 9), (2, 10), (2, 11), (2, 12), (2, 13), (2, 14), (2, 15), (2, 16), (2, 17), (2, 18), (2, 19), (2, 20), (2, 21), (2, 22), (2, 23), (3, 0), (3, 1), (3, 2), (3, 3), (3, 4), (3, 5), (3, 6), (3, 7), (3, 8), (3, 9), (3, 10), (3, 11), (3, 12), (3, 13), (3, 14), (3, 15), (3, 16), (3, 17), (3, 18), (3, 19), (3, 20), (3, 21), (3, 22), (3, 23), (4, 0), (4, 1), (4, 2), (4, 3), (4, 4), (4, 5), (4, 6), (4, 7), (4, 8), (4, 9), (4, 10), (4, 11), (5, 0), (5, 1), (5, 2), (5, 3), (5, 4), (5, 5), (5, 6), (5, 7), (5, 8), (5, 9), (5, 10), (5, 11), (5, 12), (5, 13), (5, 14), (5, 15), (5, 16), (5, 17), (5, 18), (5, 19), (5, 20)] rfl (by decide +kernel)
set_option maxRecDepth 20000 in
theorem gX7_goesOn_X7_ticks : GoodIn wsX7_goesOn (wsV RX7 226 RX7 yX7_ticks wsX7_ticks) := goodIn_app (goodIn_of _ (by decide +kernel)) ggX7_goesOn_X7_ticks
theorem dX7_goesOn_0 : decode cX7_goesOn 0 = .ok (.iconst 0, 1) := by decide +kernel
theorem dX7_goesOn_1 : decode cX7_goesOn 1 = .ok (.istore_n 2, 1) := by decide +kernel
theorem dX7_goesOn_2 : decode cX7_goesOn 2 = .ok (.iload_n 2, 1) := by decide +kernel
theorem dX7_goesOn_3 : decode cX7_goesOn 3 = .ok (.iload_n 1, 1) := by decide +kernel
theorem dX7_goesOn_4 : decode cX7_goesOn 4 = .ok (.if_icmp .ge 13, 3) := by decide +kernel
theorem dX7_goesOn_7 : decode cX7_goesOn 7 = .ok (.aload_n 0, 1) := by decide +kernel
theorem dX7_goesOn_8 : decode cX7_goesOn 8 = .ok (.invokevirtual 226, 3) := by decide +kernel
theorem dX7_goesOn_11 : decode cX7_goesOn 11 = .ok (.iinc 2 1, 3) := by decide +kernel
theorem dX7_goesOn_14 : decode cX7_goesOn 14 = .ok (.goto (-12), 3) := by decide +kernel
theorem dX7_goesOn_17 : decode cX7_goesOn 17 = .ok (.return_, 1) := by decide +kernel
set_option maxRecDepth 20000 in
theorem ggX7_isSpan_X7_in : GoodIn wsX7_isSpan wsX7_in := goodIn_r _ [4] (by decide +kernel) (by decide +kernel)
set_option maxRecDepth 20000 in
theorem gX7_isSpan_X7_in : GoodIn wsX7_isSpan (va_wsS RX7 60 yX7_in wsX7_in) := goodIn_app (goodIn_of _ (by decide +kernel)) ggX7_isSpan_X7_in
theorem dX7_isSpan_0 : decode cX7_isSpan 0 = .ok (.iload_n 0, 1) := by decide +kernel
theorem dX7_isSpan_1 : decode cX7_isSpan 1 = .ok (.iload_n 1, 1) := by decide +kernel
theorem dX7_isSpan_2 : decode cX7_isSpan 2 = .ok (.sipush 200, 3) := by decide +kernel
theorem dX7_isSpan_5 : decode cX7_isSpan 5 = .ok (.invokestatic 60, 3) := by decide +kernel
theorem dX7_isSpan_8 : decode cX7_isSpan 8 = .ok (.ireturn, 1) := by decide +kernel
theorem qxX7_laneAhead_0 : ∀ w ∈ ((wsX7_laneAhead_r1 ++ (wsX7_laneAhead_r2 ++ (wsX7_laneAhead_r3 ++ (wsX7_laneAhead_r4 ++ (wsX7_laneAhead_r5 ++ (wsX7_laneAhead_r6 ++ wsX7_laneAhead_r7)))))) ++ wsX70), w ∈ wsX7_laneAhead := fun w h => List.mem_cons_of_mem _ h
theorem qxX7_laneAhead_1 : ∀ w ∈ (wsX7_laneAhead_r1 ++ (wsX7_laneAhead_r2 ++ (wsX7_laneAhead_r3 ++ (wsX7_laneAhead_r4 ++ (wsX7_laneAhead_r5 ++ (wsX7_laneAhead_r6 ++ wsX7_laneAhead_r7)))))), w ∈ wsX7_laneAhead := in_l qxX7_laneAhead_0
theorem qxX7_laneAhead_2 : ∀ w ∈ wsX70, w ∈ wsX7_laneAhead := in_r qxX7_laneAhead_0
theorem qxX7_laneAhead_3 : ∀ w ∈ wsX7_laneAhead_r1, w ∈ wsX7_laneAhead := in_l qxX7_laneAhead_1
theorem qxX7_laneAhead_4 : ∀ w ∈ (wsX7_laneAhead_r2 ++ (wsX7_laneAhead_r3 ++ (wsX7_laneAhead_r4 ++ (wsX7_laneAhead_r5 ++ (wsX7_laneAhead_r6 ++ wsX7_laneAhead_r7))))), w ∈ wsX7_laneAhead := in_r qxX7_laneAhead_1
theorem qxX7_laneAhead_5 : ∀ w ∈ wsX7_laneAhead_r2, w ∈ wsX7_laneAhead := in_l qxX7_laneAhead_4
theorem qxX7_laneAhead_6 : ∀ w ∈ (wsX7_laneAhead_r3 ++ (wsX7_laneAhead_r4 ++ (wsX7_laneAhead_r5 ++ (wsX7_laneAhead_r6 ++ wsX7_laneAhead_r7)))), w ∈ wsX7_laneAhead := in_r qxX7_laneAhead_4
theorem qxX7_laneAhead_7 : ∀ w ∈ wsX7_laneAhead_r3, w ∈ wsX7_laneAhead := in_l qxX7_laneAhead_6
theorem qxX7_laneAhead_8 : ∀ w ∈ (wsX7_laneAhead_r4 ++ (wsX7_laneAhead_r5 ++ (wsX7_laneAhead_r6 ++ wsX7_laneAhead_r7))), w ∈ wsX7_laneAhead := in_r qxX7_laneAhead_6
theorem qxX7_laneAhead_9 : ∀ w ∈ wsX7_laneAhead_r4, w ∈ wsX7_laneAhead := in_l qxX7_laneAhead_8
theorem qxX7_laneAhead_10 : ∀ w ∈ (wsX7_laneAhead_r5 ++ (wsX7_laneAhead_r6 ++ wsX7_laneAhead_r7)), w ∈ wsX7_laneAhead := in_r qxX7_laneAhead_8
theorem qxX7_laneAhead_11 : ∀ w ∈ wsX7_laneAhead_r5, w ∈ wsX7_laneAhead := in_l qxX7_laneAhead_10
theorem qxX7_laneAhead_12 : ∀ w ∈ (wsX7_laneAhead_r6 ++ wsX7_laneAhead_r7), w ∈ wsX7_laneAhead := in_r qxX7_laneAhead_10
theorem qxX7_laneAhead_13 : ∀ w ∈ wsX7_laneAhead_r6, w ∈ wsX7_laneAhead := in_l qxX7_laneAhead_12
theorem qxX7_laneAhead_14 : ∀ w ∈ wsX7_laneAhead_r7, w ∈ wsX7_laneAhead := in_r qxX7_laneAhead_12
def pxX7_laneAhead : List (List Cond) := [wsX7_laneAhead_r1, wsX7_laneAhead_r2, wsX7_laneAhead_r3, wsX7_laneAhead_r4, wsX7_laneAhead_r5, wsX7_laneAhead_r6, wsX7_laneAhead_r7, wsX70]
theorem pxX7_laneAhead_in : ∀ q ∈ pxX7_laneAhead, ∀ w ∈ q, w ∈ wsX7_laneAhead := lp_c qxX7_laneAhead_3 (lp_c qxX7_laneAhead_5 (lp_c qxX7_laneAhead_7 (lp_c qxX7_laneAhead_9 (lp_c qxX7_laneAhead_11 (lp_c qxX7_laneAhead_13 (lp_c qxX7_laneAhead_14 (lp_c qxX7_laneAhead_2 (lp_n))))))))
set_option maxRecDepth 20000 in
theorem ggX7_laneAhead_X7_isLane : GoodIn wsX7_laneAhead wsX7_isLane := goodIn_pp pxX7_laneAhead pxX7_laneAhead_in _ [(0, 5), (0, 6), (0, 7), (0, 8), (0, 4), (0, 9), (0, 10), (0, 11), (0, 12), (0, 13), (0, 14), (0, 15), (0, 16), (0, 17), (0, 18), (7, 0), (7, 1), (7, 2), (7, 3), (7, 4), (7, 5), (7, 6), (7, 7), (7, 8), (7, 9), (7, 10), (7, 11), (7, 12), (7, 13), (7, 14), (7, 15), (7, 16), (7, 17), (7, 18), (7, 19), (7, 20)] rfl (by decide +kernel)
set_option maxRecDepth 20000 in
theorem gX7_laneAhead_X7_isLane : GoodIn wsX7_laneAhead (wsV RX7 229 RX7 yX7_isLane wsX7_isLane) := goodIn_app (goodIn_of _ (by decide +kernel)) ggX7_laneAhead_X7_isLane
set_option maxRecDepth 20000 in
theorem ggX7_laneAhead_X7_in : GoodIn wsX7_laneAhead wsX7_in := goodIn_r _ [14] (by decide +kernel) (by decide +kernel)
set_option maxRecDepth 20000 in
theorem gX7_laneAhead_X7_in : GoodIn wsX7_laneAhead (va_wsS RX7 60 yX7_in wsX7_in) := goodIn_app (goodIn_of _ (by decide +kernel)) ggX7_laneAhead_X7_in
set_option maxRecDepth 20000 in
theorem ggX7_laneAhead_X7_isSpan : GoodIn wsX7_laneAhead wsX7_isSpan := goodIn_r _ [22, 12, 13, 5, 14] (by decide +kernel) (by decide +kernel)
set_option maxRecDepth 20000 in
theorem gX7_laneAhead_X7_isSpan : GoodIn wsX7_laneAhead (va_wsS RX7 253 yX7_isSpan wsX7_isSpan) := goodIn_app (goodIn_of _ (by decide +kernel)) ggX7_laneAhead_X7_isSpan
set_option maxRecDepth 20000 in
theorem ggX7_laneAhead_X7_putAside : GoodIn wsX7_laneAhead wsX7_putAside := goodIn_r _ [26, 27, 28, 149, 150, 151, 152, 153, 154, 155, 156, 157, 158, 159, 160, 161, 162, 163, 164, 165, 166, 167, 168, 169] (by decide +kernel) (by decide +kernel)
set_option maxRecDepth 20000 in
theorem gX7_laneAhead_X7_putAside : GoodIn wsX7_laneAhead (wsV RX7 256 RX7 yX7_putAside wsX7_putAside) := goodIn_app (goodIn_of _ (by decide +kernel)) ggX7_laneAhead_X7_putAside
set_option maxRecDepth 20000 in
theorem ggX7_laneAhead_X7_goesOn : GoodIn wsX7_laneAhead wsX7_goesOn := goodIn_pp pxX7_laneAhead pxX7_laneAhead_in _ [(1, 7), (1, 8), (1, 9), (1, 10), (0, 4), (1, 11), (0, 10), (0, 18), (1, 12), (1, 3), (1, 13), (1, 14), (1, 15), (1, 16), (1, 17), (1, 18), (1, 19), (1, 20), (1, 21), (1, 22), (1, 23), (2, 0), (2, 1), (2, 2), (2, 3), (2, 4), (2, 5), (2, 6), (2, 7), (2, 8), (2, 9), (2, 10), (2, 11), (2, 12), (2, 13), (2, 14), (2, 15), (2, 16), (2, 17), (2, 18), (2, 19), (2, 20), (2, 21), (2, 22), (2, 23), (3, 0), (3, 1), (3, 2), (3, 3), (3, 4), (3, 5), (3, 6), (3, 7), (3, 8), (3, 9), (3, 10), (3, 11), (3, 12), (3, 13), (3, 14), (3, 15), (3, 16), (3, 17), (3, 18), (3, 19), (3, 20), (3, 21), (3, 22), (3, 23), (4, 0), (4, 1), (4, 2), (4, 3), (4, 4), (4, 5), (4, 6), (4, 7), (4, 8), (4, 9), (4, 10), (4, 11), (4, 12), (4, 13), (4, 14), (4, 15), (4, 16), (4, 17), (4, 18), (4, 19), (4, 20), (4, 21), (4, 22), (4, 23), (5, 0), (5, 1), (5, 2), (5, 3), (5, 4), (5, 5), (5, 6), (5, 7), (5, 8), (5, 9), (5, 10), (5, 11), (5, 12), (5, 13), (5, 14), (5, 15), (7, 0), (7, 1), (7, 2), (7, 3), (7, 4), (7, 5), (7, 6), (7, 7), (7, 8), (7, 9), (7, 10), (7, 11), (7, 12), (7, 13), (7, 14), (7, 15), (7, 16), (7, 17), (7, 18), (7, 19), (7, 20)] rfl (by decide +kernel)
set_option maxRecDepth 20000 in
theorem gX7_laneAhead_X7_goesOn : GoodIn wsX7_laneAhead (wsV RX7 259 RX7 yX7_goesOn wsX7_goesOn) := goodIn_app (goodIn_of _ (by decide +kernel)) ggX7_laneAhead_X7_goesOn
set_option maxRecDepth 20000 in
theorem ggX7_laneAhead_X7_laneNow : GoodIn wsX7_laneAhead wsX7_laneNow := goodIn_pp pxX7_laneAhead pxX7_laneAhead_in _ [(5, 19), (1, 3), (4, 4), (4, 5), (4, 6), (0, 4), (4, 7), (1, 23), (2, 0), (2, 1), (2, 2), (2, 3), (2, 4), (4, 0), (4, 1), (4, 2), (4, 3), (3, 8), (3, 9), (3, 10), (3, 11), (5, 20), (5, 21), (5, 22), (5, 23), (1, 17), (1, 18), (1, 19), (7, 0), (7, 1), (7, 2), (7, 3), (7, 4), (7, 5), (7, 6), (7, 7), (7, 8), (7, 9), (7, 10), (7, 11), (7, 12), (7, 13), (7, 14), (7, 15), (7, 16), (7, 17), (7, 18), (7, 19), (7, 20)] rfl (by decide +kernel)
set_option maxRecDepth 20000 in
theorem gX7_laneAhead_X7_laneNow : GoodIn wsX7_laneAhead (wsV RX7 247 RX7 yX7_laneNow wsX7_laneNow) := goodIn_app (goodIn_of _ (by decide +kernel)) ggX7_laneAhead_X7_laneNow
set_option maxRecDepth 20000 in
theorem ggX7_laneAhead_X7_bringBack : GoodIn wsX7_laneAhead wsX7_bringBack := goodIn_r _ [148, 28, 27, 149, 150, 151, 152, 153, 154, 155, 156, 157, 158, 159, 160, 161, 162, 163, 164, 165, 166, 167, 168, 169] (by decide +kernel) (by decide +kernel)
set_option maxRecDepth 20000 in
theorem gX7_laneAhead_X7_bringBack : GoodIn wsX7_laneAhead (wsV RX7 262 RX7 yX7_bringBack wsX7_bringBack) := goodIn_app (goodIn_of _ (by decide +kernel)) ggX7_laneAhead_X7_bringBack
theorem dX7_laneAhead_0 : decode cX7_laneAhead 0 = .ok (.aload_n 0, 1) := by decide +kernel
theorem dX7_laneAhead_1 : decode cX7_laneAhead 1 = .ok (.iconst 0, 1) := by decide +kernel
theorem dX7_laneAhead_2 : decode cX7_laneAhead 2 = .ok (.putfield 49, 3) := by decide +kernel
theorem dX7_laneAhead_5 : decode cX7_laneAhead 5 = .ok (.aload_n 0, 1) := by decide +kernel
theorem dX7_laneAhead_6 : decode cX7_laneAhead 6 = .ok (.iload_n 1, 1) := by decide +kernel
theorem dX7_laneAhead_7 : decode cX7_laneAhead 7 = .ok (.iload_n 2, 1) := by decide +kernel
theorem dX7_laneAhead_8 : decode cX7_laneAhead 8 = .ok (.invokevirtual 229, 3) := by decide +kernel
theorem dX7_laneAhead_11 : decode cX7_laneAhead 11 = .ok (.ifCond .eq 22, 3) := by decide +kernel
theorem dX7_laneAhead_14 : decode cX7_laneAhead 14 = .ok (.iload_n 3, 1) := by decide +kernel
theorem dX7_laneAhead_15 : decode cX7_laneAhead 15 = .ok (.iconst 0, 1) := by decide +kernel
theorem dX7_laneAhead_16 : decode cX7_laneAhead 16 = .ok (.bipush 9, 2) := by decide +kernel
theorem dX7_laneAhead_18 : decode cX7_laneAhead 18 = .ok (.invokestatic 60, 3) := by decide +kernel
theorem dX7_laneAhead_21 : decode cX7_laneAhead 21 = .ok (.ifCond .eq 12, 3) := by decide +kernel
theorem dX7_laneAhead_24 : decode cX7_laneAhead 24 = .ok (.iload 4, 2) := by decide +kernel
theorem dX7_laneAhead_26 : decode cX7_laneAhead 26 = .ok (.iconst 0, 1) := by decide +kernel
theorem dX7_laneAhead_27 : decode cX7_laneAhead 27 = .ok (.invokestatic 253, 3) := by decide +kernel
theorem dX7_laneAhead_30 : decode cX7_laneAhead 30 = .ok (.ifCond .ne 5, 3) := by decide +kernel
theorem dX7_laneAhead_33 : decode cX7_laneAhead 33 = .ok (.iconst (-1), 1) := by decide +kernel
theorem dX7_laneAhead_34 : decode cX7_laneAhead 34 = .ok (.ireturn, 1) := by decide +kernel
theorem dX7_laneAhead_35 : decode cX7_laneAhead 35 = .ok (.aload_n 0, 1) := by decide +kernel
theorem dX7_laneAhead_36 : decode cX7_laneAhead 36 = .ok (.invokevirtual 256, 3) := by decide +kernel
theorem dX7_laneAhead_39 : decode cX7_laneAhead 39 = .ok (.aload_n 0, 1) := by decide +kernel
theorem dX7_laneAhead_40 : decode cX7_laneAhead 40 = .ok (.iload 4, 2) := by decide +kernel
theorem dX7_laneAhead_42 : decode cX7_laneAhead 42 = .ok (.invokevirtual 259, 3) := by decide +kernel
theorem dX7_laneAhead_45 : decode cX7_laneAhead 45 = .ok (.aload_n 0, 1) := by decide +kernel
theorem dX7_laneAhead_46 : decode cX7_laneAhead 46 = .ok (.iload_n 1, 1) := by decide +kernel
theorem dX7_laneAhead_47 : decode cX7_laneAhead 47 = .ok (.iload_n 2, 1) := by decide +kernel
theorem dX7_laneAhead_48 : decode cX7_laneAhead 48 = .ok (.iload_n 3, 1) := by decide +kernel
theorem dX7_laneAhead_49 : decode cX7_laneAhead 49 = .ok (.invokevirtual 247, 3) := by decide +kernel
theorem dX7_laneAhead_52 : decode cX7_laneAhead 52 = .ok (.istore 5, 2) := by decide +kernel
theorem dX7_laneAhead_54 : decode cX7_laneAhead 54 = .ok (.aload_n 0, 1) := by decide +kernel
theorem dX7_laneAhead_55 : decode cX7_laneAhead 55 = .ok (.invokevirtual 262, 3) := by decide +kernel
theorem dX7_laneAhead_58 : decode cX7_laneAhead 58 = .ok (.iload 5, 2) := by decide +kernel
theorem dX7_laneAhead_60 : decode cX7_laneAhead 60 = .ok (.ireturn, 1) := by decide +kernel
theorem qxX7_bufferAhead_0 : ∀ w ∈ ((wsX7_bufferAhead_r1 ++ (wsX7_bufferAhead_r2 ++ (wsX7_bufferAhead_r3 ++ (wsX7_bufferAhead_r4 ++ (wsX7_bufferAhead_r5 ++ wsX7_bufferAhead_r6))))) ++ wsX70), w ∈ wsX7_bufferAhead := fun w h => List.mem_cons_of_mem _ h
theorem qxX7_bufferAhead_1 : ∀ w ∈ (wsX7_bufferAhead_r1 ++ (wsX7_bufferAhead_r2 ++ (wsX7_bufferAhead_r3 ++ (wsX7_bufferAhead_r4 ++ (wsX7_bufferAhead_r5 ++ wsX7_bufferAhead_r6))))), w ∈ wsX7_bufferAhead := in_l qxX7_bufferAhead_0
theorem qxX7_bufferAhead_2 : ∀ w ∈ wsX70, w ∈ wsX7_bufferAhead := in_r qxX7_bufferAhead_0
theorem qxX7_bufferAhead_3 : ∀ w ∈ wsX7_bufferAhead_r1, w ∈ wsX7_bufferAhead := in_l qxX7_bufferAhead_1
theorem qxX7_bufferAhead_4 : ∀ w ∈ (wsX7_bufferAhead_r2 ++ (wsX7_bufferAhead_r3 ++ (wsX7_bufferAhead_r4 ++ (wsX7_bufferAhead_r5 ++ wsX7_bufferAhead_r6)))), w ∈ wsX7_bufferAhead := in_r qxX7_bufferAhead_1
theorem qxX7_bufferAhead_5 : ∀ w ∈ wsX7_bufferAhead_r2, w ∈ wsX7_bufferAhead := in_l qxX7_bufferAhead_4
theorem qxX7_bufferAhead_6 : ∀ w ∈ (wsX7_bufferAhead_r3 ++ (wsX7_bufferAhead_r4 ++ (wsX7_bufferAhead_r5 ++ wsX7_bufferAhead_r6))), w ∈ wsX7_bufferAhead := in_r qxX7_bufferAhead_4
theorem qxX7_bufferAhead_7 : ∀ w ∈ wsX7_bufferAhead_r3, w ∈ wsX7_bufferAhead := in_l qxX7_bufferAhead_6
theorem qxX7_bufferAhead_8 : ∀ w ∈ (wsX7_bufferAhead_r4 ++ (wsX7_bufferAhead_r5 ++ wsX7_bufferAhead_r6)), w ∈ wsX7_bufferAhead := in_r qxX7_bufferAhead_6
theorem qxX7_bufferAhead_9 : ∀ w ∈ wsX7_bufferAhead_r4, w ∈ wsX7_bufferAhead := in_l qxX7_bufferAhead_8
theorem qxX7_bufferAhead_10 : ∀ w ∈ (wsX7_bufferAhead_r5 ++ wsX7_bufferAhead_r6), w ∈ wsX7_bufferAhead := in_r qxX7_bufferAhead_8
theorem qxX7_bufferAhead_11 : ∀ w ∈ wsX7_bufferAhead_r5, w ∈ wsX7_bufferAhead := in_l qxX7_bufferAhead_10
theorem qxX7_bufferAhead_12 : ∀ w ∈ wsX7_bufferAhead_r6, w ∈ wsX7_bufferAhead := in_r qxX7_bufferAhead_10
def pxX7_bufferAhead : List (List Cond) := [wsX7_bufferAhead_r1, wsX7_bufferAhead_r2, wsX7_bufferAhead_r3, wsX7_bufferAhead_r4, wsX7_bufferAhead_r5, wsX7_bufferAhead_r6, wsX70]
theorem pxX7_bufferAhead_in : ∀ q ∈ pxX7_bufferAhead, ∀ w ∈ q, w ∈ wsX7_bufferAhead := lp_c qxX7_bufferAhead_3 (lp_c qxX7_bufferAhead_5 (lp_c qxX7_bufferAhead_7 (lp_c qxX7_bufferAhead_9 (lp_c qxX7_bufferAhead_11 (lp_c qxX7_bufferAhead_12 (lp_c qxX7_bufferAhead_2 (lp_n)))))))
set_option maxRecDepth 20000 in
theorem ggX7_bufferAhead_X7_isNode : GoodIn wsX7_bufferAhead wsX7_isNode := goodIn_pp pxX7_bufferAhead pxX7_bufferAhead_in _ [(0, 6), (0, 7), (0, 8), (0, 9), (0, 10), (0, 5), (0, 11), (0, 12), (0, 13), (0, 14), (6, 0), (6, 1), (6, 2), (6, 3), (6, 4), (6, 5), (6, 6), (6, 7), (6, 8), (6, 9), (6, 10), (6, 11), (6, 12), (6, 13), (6, 14), (6, 15), (6, 16), (6, 17), (6, 18), (6, 19), (6, 20)] rfl (by decide +kernel)
set_option maxRecDepth 20000 in
theorem gX7_bufferAhead_X7_isNode : GoodIn wsX7_bufferAhead (wsV RX7 250 RX7 yX7_isNode wsX7_isNode) := goodIn_app (goodIn_of _ (by decide +kernel)) ggX7_bufferAhead_X7_isNode
set_option maxRecDepth 20000 in
theorem ggX7_bufferAhead_X7_isCircuit : GoodIn wsX7_bufferAhead wsX7_isCircuit := goodIn_pp pxX7_bufferAhead pxX7_bufferAhead_in _ [(0, 18), (0, 19), (0, 12), (0, 13), (0, 5), (0, 14), (6, 0), (6, 1), (6, 2), (6, 3), (6, 4), (6, 5), (6, 6), (6, 7), (6, 8), (6, 9), (6, 10), (6, 11), (6, 12), (6, 13), (6, 14), (6, 15), (6, 16), (6, 17), (6, 18), (6, 19), (6, 20)] rfl (by decide +kernel)
set_option maxRecDepth 20000 in
theorem gX7_bufferAhead_X7_isCircuit : GoodIn wsX7_bufferAhead (wsV RX7 133 RX7 yX7_isCircuit wsX7_isCircuit) := goodIn_app (goodIn_of _ (by decide +kernel)) ggX7_bufferAhead_X7_isCircuit
set_option maxRecDepth 20000 in
theorem ggX7_bufferAhead_X7_isSpan : GoodIn wsX7_bufferAhead wsX7_isSpan := goodIn_r _ [23, 13, 14, 6, 15] (by decide +kernel) (by decide +kernel)
set_option maxRecDepth 20000 in
theorem gX7_bufferAhead_X7_isSpan : GoodIn wsX7_bufferAhead (va_wsS RX7 253 yX7_isSpan wsX7_isSpan) := goodIn_app (goodIn_of _ (by decide +kernel)) ggX7_bufferAhead_X7_isSpan
set_option maxRecDepth 20000 in
theorem ggX7_bufferAhead_X7_putAside : GoodIn wsX7_bufferAhead wsX7_putAside := goodIn_r _ [27, 28, 2, 141, 142, 143, 144, 145, 146, 147, 148, 149, 150, 151, 152, 153, 154, 155, 156, 157, 158, 159, 160, 161] (by decide +kernel) (by decide +kernel)
set_option maxRecDepth 20000 in
theorem gX7_bufferAhead_X7_putAside : GoodIn wsX7_bufferAhead (wsV RX7 256 RX7 yX7_putAside wsX7_putAside) := goodIn_app (goodIn_of _ (by decide +kernel)) ggX7_bufferAhead_X7_putAside
set_option maxRecDepth 20000 in
theorem ggX7_bufferAhead_X7_goesOn : GoodIn wsX7_bufferAhead wsX7_goesOn := goodIn_pp pxX7_bufferAhead pxX7_bufferAhead_in _ [(1, 7), (1, 8), (1, 9), (1, 10), (0, 5), (1, 11), (0, 7), (0, 19), (1, 12), (0, 1), (1, 13), (1, 14), (1, 15), (1, 16), (1, 17), (1, 18), (1, 19), (1, 20), (1, 21), (1, 22), (1, 23), (2, 0), (2, 1), (2, 2), (2, 3), (2, 4), (2, 5), (2, 6), (2, 7), (2, 8), (2, 9), (2, 10), (2, 11), (2, 12), (2, 13), (2, 14), (2, 15), (2, 16), (2, 17), (2, 18), (2, 19), (2, 20), (2, 21), (2, 22), (2, 23), (3, 0), (3, 1), (3, 2), (3, 3), (3, 4), (3, 5), (3, 6), (3, 7), (3, 8), (3, 9), (3, 10), (3, 11), (3, 12), (3, 13), (3, 14), (3, 15), (3, 16), (3, 17), (3, 18), (3, 19), (3, 20), (3, 21), (3, 22), (3, 23), (4, 0), (4, 1), (4, 2), (4, 3), (4, 4), (4, 5), (4, 6), (4, 7), (4, 8), (4, 9), (4, 10), (4, 11), (4, 12), (4, 13), (4, 14), (4, 15), (4, 16), (4, 17), (4, 18), (4, 19), (4, 20), (4, 21), (4, 22), (4, 23), (5, 0), (5, 1), (5, 2), (5, 3), (5, 4), (5, 5), (5, 6), (5, 7), (5, 8), (5, 9), (5, 10), (5, 11), (5, 12), (5, 13), (5, 14), (5, 15), (6, 0), (6, 1), (6, 2), (6, 3), (6, 4), (6, 5), (6, 6), (6, 7), (6, 8), (6, 9), (6, 10), (6, 11), (6, 12), (6, 13), (6, 14), (6, 15), (6, 16), (6, 17), (6, 18), (6, 19), (6, 20)] rfl (by decide +kernel)
set_option maxRecDepth 20000 in
theorem gX7_bufferAhead_X7_goesOn : GoodIn wsX7_bufferAhead (wsV RX7 259 RX7 yX7_goesOn wsX7_goesOn) := goodIn_app (goodIn_of _ (by decide +kernel)) ggX7_bufferAhead_X7_goesOn
set_option maxRecDepth 20000 in
theorem ggX7_bufferAhead_X7_bufferAt : GoodIn wsX7_bufferAhead wsX7_bufferAt := goodIn_r _ [47] (by decide +kernel) (by decide +kernel)
set_option maxRecDepth 20000 in
theorem gX7_bufferAhead_X7_bufferAt : GoodIn wsX7_bufferAhead (va_wsS RX7 184 yX7_bufferAt wsX7_bufferAt) := goodIn_app (goodIn_of _ (by decide +kernel)) ggX7_bufferAhead_X7_bufferAt
set_option maxRecDepth 20000 in
theorem ggX7_bufferAhead_X7_bringBack : GoodIn wsX7_bufferAhead wsX7_bringBack := goodIn_r _ [140, 2, 28, 141, 142, 143, 144, 145, 146, 147, 148, 149, 150, 151, 152, 153, 154, 155, 156, 157, 158, 159, 160, 161] (by decide +kernel) (by decide +kernel)
set_option maxRecDepth 20000 in
theorem gX7_bufferAhead_X7_bringBack : GoodIn wsX7_bufferAhead (wsV RX7 262 RX7 yX7_bringBack wsX7_bringBack) := goodIn_app (goodIn_of _ (by decide +kernel)) ggX7_bufferAhead_X7_bringBack
theorem dX7_bufferAhead_0 : decode cX7_bufferAhead 0 = .ok (.aload_n 0, 1) := by decide +kernel
theorem dX7_bufferAhead_1 : decode cX7_bufferAhead 1 = .ok (.iconst 0, 1) := by decide +kernel
theorem dX7_bufferAhead_2 : decode cX7_bufferAhead 2 = .ok (.putfield 49, 3) := by decide +kernel
theorem dX7_bufferAhead_5 : decode cX7_bufferAhead 5 = .ok (.aload_n 0, 1) := by decide +kernel
theorem dX7_bufferAhead_6 : decode cX7_bufferAhead 6 = .ok (.iload_n 1, 1) := by decide +kernel
theorem dX7_bufferAhead_7 : decode cX7_bufferAhead 7 = .ok (.invokevirtual 250, 3) := by decide +kernel
theorem dX7_bufferAhead_10 : decode cX7_bufferAhead 10 = .ok (.ifCond .eq 19, 3) := by decide +kernel
theorem dX7_bufferAhead_13 : decode cX7_bufferAhead 13 = .ok (.aload_n 0, 1) := by decide +kernel
theorem dX7_bufferAhead_14 : decode cX7_bufferAhead 14 = .ok (.iload_n 2, 1) := by decide +kernel
theorem dX7_bufferAhead_15 : decode cX7_bufferAhead 15 = .ok (.invokevirtual 133, 3) := by decide +kernel
theorem dX7_bufferAhead_18 : decode cX7_bufferAhead 18 = .ok (.ifCond .eq 11, 3) := by decide +kernel
theorem dX7_bufferAhead_21 : decode cX7_bufferAhead 21 = .ok (.iload_n 3, 1) := by decide +kernel
theorem dX7_bufferAhead_22 : decode cX7_bufferAhead 22 = .ok (.iconst 0, 1) := by decide +kernel
theorem dX7_bufferAhead_23 : decode cX7_bufferAhead 23 = .ok (.invokestatic 253, 3) := by decide +kernel
theorem dX7_bufferAhead_26 : decode cX7_bufferAhead 26 = .ok (.ifCond .ne 5, 3) := by decide +kernel
theorem dX7_bufferAhead_29 : decode cX7_bufferAhead 29 = .ok (.iconst (-1), 1) := by decide +kernel
theorem dX7_bufferAhead_30 : decode cX7_bufferAhead 30 = .ok (.ireturn, 1) := by decide +kernel
theorem dX7_bufferAhead_31 : decode cX7_bufferAhead 31 = .ok (.aload_n 0, 1) := by decide +kernel
theorem dX7_bufferAhead_32 : decode cX7_bufferAhead 32 = .ok (.invokevirtual 256, 3) := by decide +kernel
theorem dX7_bufferAhead_35 : decode cX7_bufferAhead 35 = .ok (.aload_n 0, 1) := by decide +kernel
theorem dX7_bufferAhead_36 : decode cX7_bufferAhead 36 = .ok (.iload_n 3, 1) := by decide +kernel
theorem dX7_bufferAhead_37 : decode cX7_bufferAhead 37 = .ok (.invokevirtual 259, 3) := by decide +kernel
theorem dX7_bufferAhead_40 : decode cX7_bufferAhead 40 = .ok (.aload_n 0, 1) := by decide +kernel
theorem dX7_bufferAhead_41 : decode cX7_bufferAhead 41 = .ok (.getfield 22, 3) := by decide +kernel
theorem dX7_bufferAhead_44 : decode cX7_bufferAhead 44 = .ok (.iload_n 1, 1) := by decide +kernel
theorem dX7_bufferAhead_45 : decode cX7_bufferAhead 45 = .ok (.iload_n 2, 1) := by decide +kernel
theorem dX7_bufferAhead_46 : decode cX7_bufferAhead 46 = .ok (.invokestatic 184, 3) := by decide +kernel
theorem dX7_bufferAhead_49 : decode cX7_bufferAhead 49 = .ok (.iaload, 1) := by decide +kernel
theorem dX7_bufferAhead_50 : decode cX7_bufferAhead 50 = .ok (.istore 4, 2) := by decide +kernel
theorem dX7_bufferAhead_52 : decode cX7_bufferAhead 52 = .ok (.aload_n 0, 1) := by decide +kernel
theorem dX7_bufferAhead_53 : decode cX7_bufferAhead 53 = .ok (.invokevirtual 262, 3) := by decide +kernel
theorem dX7_bufferAhead_56 : decode cX7_bufferAhead 56 = .ok (.iload 4, 2) := by decide +kernel
theorem dX7_bufferAhead_58 : decode cX7_bufferAhead 58 = .ok (.ireturn, 1) := by decide +kernel
set_option maxRecDepth 20000 in
theorem ggX7_deliveredOf_X7_circuitAt : GoodIn wsX7_deliveredOf wsX7_circuitAt := goodIn_r _ [6] (by decide +kernel) (by decide +kernel)
set_option maxRecDepth 20000 in
theorem gX7_deliveredOf_X7_circuitAt : GoodIn wsX7_deliveredOf (va_wsS RX7 147 yX7_circuitAt wsX7_circuitAt) := goodIn_app (goodIn_of _ (by decide +kernel)) ggX7_deliveredOf_X7_circuitAt
theorem dX7_deliveredOf_0 : decode cX7_deliveredOf 0 = .ok (.iconst 0, 1) := by decide +kernel
theorem dX7_deliveredOf_1 : decode cX7_deliveredOf 1 = .ok (.istore_n 2, 1) := by decide +kernel
theorem dX7_deliveredOf_2 : decode cX7_deliveredOf 2 = .ok (.iconst 0, 1) := by decide +kernel
theorem dX7_deliveredOf_3 : decode cX7_deliveredOf 3 = .ok (.istore_n 3, 1) := by decide +kernel
theorem dX7_deliveredOf_4 : decode cX7_deliveredOf 4 = .ok (.iload_n 3, 1) := by decide +kernel
theorem dX7_deliveredOf_5 : decode cX7_deliveredOf 5 = .ok (.aload_n 0, 1) := by decide +kernel
theorem dX7_deliveredOf_6 : decode cX7_deliveredOf 6 = .ok (.getfield 127, 3) := by decide +kernel
theorem dX7_deliveredOf_9 : decode cX7_deliveredOf 9 = .ok (.if_icmp .ge 37, 3) := by decide +kernel
theorem dX7_deliveredOf_12 : decode cX7_deliveredOf 12 = .ok (.iload_n 2, 1) := by decide +kernel
theorem dX7_deliveredOf_13 : decode cX7_deliveredOf 13 = .ok (.iload_n 1, 1) := by decide +kernel
theorem dX7_deliveredOf_14 : decode cX7_deliveredOf 14 = .ok (.iconst (-1), 1) := by decide +kernel
theorem dX7_deliveredOf_15 : decode cX7_deliveredOf 15 = .ok (.if_icmp .eq 8, 3) := by decide +kernel
theorem dX7_deliveredOf_18 : decode cX7_deliveredOf 18 = .ok (.iload_n 1, 1) := by decide +kernel
theorem dX7_deliveredOf_19 : decode cX7_deliveredOf 19 = .ok (.iload_n 3, 1) := by decide +kernel
theorem dX7_deliveredOf_20 : decode cX7_deliveredOf 20 = .ok (.if_icmp .ne 17, 3) := by decide +kernel
theorem dX7_deliveredOf_23 : decode cX7_deliveredOf 23 = .ok (.aload_n 0, 1) := by decide +kernel
theorem dX7_deliveredOf_24 : decode cX7_deliveredOf 24 = .ok (.getfield 22, 3) := by decide +kernel
theorem dX7_deliveredOf_27 : decode cX7_deliveredOf 27 = .ok (.iload_n 3, 1) := by decide +kernel
theorem dX7_deliveredOf_28 : decode cX7_deliveredOf 28 = .ok (.invokestatic 147, 3) := by decide +kernel
theorem dX7_deliveredOf_31 : decode cX7_deliveredOf 31 = .ok (.iconst 5, 1) := by decide +kernel
theorem dX7_deliveredOf_32 : decode cX7_deliveredOf 32 = .ok (.iadd, 1) := by decide +kernel
theorem dX7_deliveredOf_33 : decode cX7_deliveredOf 33 = .ok (.iaload, 1) := by decide +kernel
theorem dX7_deliveredOf_34 : decode cX7_deliveredOf 34 = .ok (.goto 4, 3) := by decide +kernel
theorem dX7_deliveredOf_37 : decode cX7_deliveredOf 37 = .ok (.iconst 0, 1) := by decide +kernel
theorem dX7_deliveredOf_38 : decode cX7_deliveredOf 38 = .ok (.iadd, 1) := by decide +kernel
theorem dX7_deliveredOf_39 : decode cX7_deliveredOf 39 = .ok (.istore_n 2, 1) := by decide +kernel
theorem dX7_deliveredOf_40 : decode cX7_deliveredOf 40 = .ok (.iinc 3 1, 3) := by decide +kernel
theorem dX7_deliveredOf_43 : decode cX7_deliveredOf 43 = .ok (.goto (-39), 3) := by decide +kernel
theorem dX7_deliveredOf_46 : decode cX7_deliveredOf 46 = .ok (.iload_n 2, 1) := by decide +kernel
theorem dX7_deliveredOf_47 : decode cX7_deliveredOf 47 = .ok (.ireturn, 1) := by decide +kernel
theorem qxX7_deliveredIn_0 : ∀ w ∈ ((wsX7_deliveredIn_r1 ++ (wsX7_deliveredIn_r2 ++ (wsX7_deliveredIn_r3 ++ (wsX7_deliveredIn_r4 ++ (wsX7_deliveredIn_r5 ++ wsX7_deliveredIn_r6))))) ++ wsX70), w ∈ wsX7_deliveredIn := fun w h => List.mem_cons_of_mem _ h
theorem qxX7_deliveredIn_1 : ∀ w ∈ (wsX7_deliveredIn_r1 ++ (wsX7_deliveredIn_r2 ++ (wsX7_deliveredIn_r3 ++ (wsX7_deliveredIn_r4 ++ (wsX7_deliveredIn_r5 ++ wsX7_deliveredIn_r6))))), w ∈ wsX7_deliveredIn := in_l qxX7_deliveredIn_0
theorem qxX7_deliveredIn_2 : ∀ w ∈ wsX70, w ∈ wsX7_deliveredIn := in_r qxX7_deliveredIn_0
theorem qxX7_deliveredIn_3 : ∀ w ∈ wsX7_deliveredIn_r1, w ∈ wsX7_deliveredIn := in_l qxX7_deliveredIn_1
theorem qxX7_deliveredIn_4 : ∀ w ∈ (wsX7_deliveredIn_r2 ++ (wsX7_deliveredIn_r3 ++ (wsX7_deliveredIn_r4 ++ (wsX7_deliveredIn_r5 ++ wsX7_deliveredIn_r6)))), w ∈ wsX7_deliveredIn := in_r qxX7_deliveredIn_1
theorem qxX7_deliveredIn_5 : ∀ w ∈ wsX7_deliveredIn_r2, w ∈ wsX7_deliveredIn := in_l qxX7_deliveredIn_4
theorem qxX7_deliveredIn_6 : ∀ w ∈ (wsX7_deliveredIn_r3 ++ (wsX7_deliveredIn_r4 ++ (wsX7_deliveredIn_r5 ++ wsX7_deliveredIn_r6))), w ∈ wsX7_deliveredIn := in_r qxX7_deliveredIn_4
theorem qxX7_deliveredIn_7 : ∀ w ∈ wsX7_deliveredIn_r3, w ∈ wsX7_deliveredIn := in_l qxX7_deliveredIn_6
theorem qxX7_deliveredIn_8 : ∀ w ∈ (wsX7_deliveredIn_r4 ++ (wsX7_deliveredIn_r5 ++ wsX7_deliveredIn_r6)), w ∈ wsX7_deliveredIn := in_r qxX7_deliveredIn_6
theorem qxX7_deliveredIn_9 : ∀ w ∈ wsX7_deliveredIn_r4, w ∈ wsX7_deliveredIn := in_l qxX7_deliveredIn_8
theorem qxX7_deliveredIn_10 : ∀ w ∈ (wsX7_deliveredIn_r5 ++ wsX7_deliveredIn_r6), w ∈ wsX7_deliveredIn := in_r qxX7_deliveredIn_8
theorem qxX7_deliveredIn_11 : ∀ w ∈ wsX7_deliveredIn_r5, w ∈ wsX7_deliveredIn := in_l qxX7_deliveredIn_10
theorem qxX7_deliveredIn_12 : ∀ w ∈ wsX7_deliveredIn_r6, w ∈ wsX7_deliveredIn := in_r qxX7_deliveredIn_10
def pxX7_deliveredIn : List (List Cond) := [wsX7_deliveredIn_r1, wsX7_deliveredIn_r2, wsX7_deliveredIn_r3, wsX7_deliveredIn_r4, wsX7_deliveredIn_r5, wsX7_deliveredIn_r6, wsX70]
theorem pxX7_deliveredIn_in : ∀ q ∈ pxX7_deliveredIn, ∀ w ∈ q, w ∈ wsX7_deliveredIn := lp_c qxX7_deliveredIn_3 (lp_c qxX7_deliveredIn_5 (lp_c qxX7_deliveredIn_7 (lp_c qxX7_deliveredIn_9 (lp_c qxX7_deliveredIn_11 (lp_c qxX7_deliveredIn_12 (lp_c qxX7_deliveredIn_2 (lp_n)))))))
set_option maxRecDepth 20000 in
theorem ggX7_deliveredIn_X7_deliveredOf : GoodIn wsX7_deliveredIn wsX7_deliveredOf := goodIn_pp pxX7_deliveredIn pxX7_deliveredIn_in _ [(0, 4), (0, 5), (0, 6), (0, 7), (0, 8), (0, 3), (0, 9), (6, 0), (6, 1), (6, 2), (6, 3), (6, 4), (6, 5), (6, 6), (6, 7), (6, 8), (6, 9), (6, 10), (6, 11), (6, 12), (6, 13), (6, 14), (6, 15), (6, 16), (6, 17), (6, 18), (6, 19), (6, 20)] rfl (by decide +kernel)
set_option maxRecDepth 20000 in
theorem gX7_deliveredIn_X7_deliveredOf : GoodIn wsX7_deliveredIn (wsV RX7 265 RX7 yX7_deliveredOf wsX7_deliveredOf) := goodIn_app (goodIn_of _ (by decide +kernel)) ggX7_deliveredIn_X7_deliveredOf
set_option maxRecDepth 20000 in
theorem ggX7_deliveredIn_X7_goesOn : GoodIn wsX7_deliveredIn wsX7_goesOn := goodIn_pp pxX7_deliveredIn pxX7_deliveredIn_in _ [(0, 13), (0, 14), (0, 15), (0, 16), (0, 3), (0, 17), (0, 18), (0, 5), (0, 19), (0, 6), (0, 20), (0, 21), (0, 22), (0, 23), (1, 0), (1, 1), (1, 2), (1, 3), (1, 4), (1, 5), (1, 6), (1, 7), (1, 8), (1, 9), (1, 10), (1, 11), (1, 12), (1, 13), (1, 14), (1, 15), (1, 16), (1, 17), (1, 18), (1, 19), (1, 20), (1, 21), (1, 22), (1, 23), (2, 0), (2, 1), (2, 2), (2, 3), (2, 4), (2, 5), (2, 6), (2, 7), (0, 7), (0, 8), (0, 9), (2, 8), (2, 9), (2, 10), (2, 11), (2, 12), (2, 13), (2, 14), (2, 15), (2, 16), (2, 17), (2, 18), (2, 19), (2, 20), (2, 21), (2, 22), (2, 23), (3, 0), (3, 1), (3, 2), (3, 3), (3, 4), (3, 5), (3, 6), (3, 7), (3, 8), (3, 9), (3, 10), (3, 11), (3, 12), (3, 13), (3, 14), (3, 15), (3, 16), (3, 17), (3, 18), (3, 19), (3, 20), (3, 21), (3, 22), (3, 23), (4, 0), (4, 1), (4, 2), (4, 3), (4, 4), (4, 5), (4, 6), (4, 7), (4, 8), (4, 9), (4, 10), (4, 11), (4, 12), (4, 13), (4, 14), (4, 15), (4, 16), (4, 17), (4, 18), (4, 19), (6, 0), (6, 1), (6, 2), (6, 3), (6, 4), (6, 5), (6, 6), (6, 7), (6, 8), (6, 9), (6, 10), (6, 11), (6, 12), (6, 13), (6, 14), (6, 15), (6, 16), (6, 17), (6, 18), (6, 19), (6, 20)] rfl (by decide +kernel)
set_option maxRecDepth 20000 in
theorem gX7_deliveredIn_X7_goesOn : GoodIn wsX7_deliveredIn (wsV RX7 259 RX7 yX7_goesOn wsX7_goesOn) := goodIn_app (goodIn_of _ (by decide +kernel)) ggX7_deliveredIn_X7_goesOn
set_option maxRecDepth 20000 in
theorem ggX7_deliveredIn_X7_bringBack : GoodIn wsX7_deliveredIn wsX7_bringBack := goodIn_r _ [120, 7, 121, 122, 123, 124, 125, 126, 127, 128, 129, 130, 131, 132, 133, 134, 135, 136, 137, 138, 139, 140, 141, 142] (by decide +kernel) (by decide +kernel)
set_option maxRecDepth 20000 in
theorem gX7_deliveredIn_X7_bringBack : GoodIn wsX7_deliveredIn (wsV RX7 262 RX7 yX7_bringBack wsX7_bringBack) := goodIn_app (goodIn_of _ (by decide +kernel)) ggX7_deliveredIn_X7_bringBack
theorem dX7_deliveredIn_0 : decode cX7_deliveredIn 0 = .ok (.aload_n 0, 1) := by decide +kernel
theorem dX7_deliveredIn_1 : decode cX7_deliveredIn 1 = .ok (.iload_n 1, 1) := by decide +kernel
theorem dX7_deliveredIn_2 : decode cX7_deliveredIn 2 = .ok (.invokevirtual 265, 3) := by decide +kernel
theorem dX7_deliveredIn_5 : decode cX7_deliveredIn 5 = .ok (.istore_n 3, 1) := by decide +kernel
theorem dX7_deliveredIn_6 : decode cX7_deliveredIn 6 = .ok (.aload_n 0, 1) := by decide +kernel
theorem dX7_deliveredIn_7 : decode cX7_deliveredIn 7 = .ok (.iload_n 2, 1) := by decide +kernel
theorem dX7_deliveredIn_8 : decode cX7_deliveredIn 8 = .ok (.invokevirtual 259, 3) := by decide +kernel
theorem dX7_deliveredIn_11 : decode cX7_deliveredIn 11 = .ok (.aload_n 0, 1) := by decide +kernel
theorem dX7_deliveredIn_12 : decode cX7_deliveredIn 12 = .ok (.iload_n 1, 1) := by decide +kernel
theorem dX7_deliveredIn_13 : decode cX7_deliveredIn 13 = .ok (.invokevirtual 265, 3) := by decide +kernel
theorem dX7_deliveredIn_16 : decode cX7_deliveredIn 16 = .ok (.iload_n 3, 1) := by decide +kernel
theorem dX7_deliveredIn_17 : decode cX7_deliveredIn 17 = .ok (.isub, 1) := by decide +kernel
theorem dX7_deliveredIn_18 : decode cX7_deliveredIn 18 = .ok (.istore 4, 2) := by decide +kernel
theorem dX7_deliveredIn_20 : decode cX7_deliveredIn 20 = .ok (.aload_n 0, 1) := by decide +kernel
theorem dX7_deliveredIn_21 : decode cX7_deliveredIn 21 = .ok (.invokevirtual 262, 3) := by decide +kernel
theorem dX7_deliveredIn_24 : decode cX7_deliveredIn 24 = .ok (.iload 4, 2) := by decide +kernel
theorem dX7_deliveredIn_26 : decode cX7_deliveredIn 26 = .ok (.ireturn, 1) := by decide +kernel
set_option maxRecDepth 20000 in
theorem ggX7_delivered_X7_isNet : GoodIn wsX7_delivered wsX7_isNet := goodIn_r _ [6, 7, 145, 146, 147, 148, 149, 150, 151, 152, 153, 154, 155, 156, 157, 158, 159, 160, 161, 162, 163, 164, 165] (by decide +kernel) (by decide +kernel)
set_option maxRecDepth 20000 in
theorem gX7_delivered_X7_isNet : GoodIn wsX7_delivered (wsV RX7 136 RX7 yX7_isNet wsX7_isNet) := goodIn_app (goodIn_of _ (by decide +kernel)) ggX7_delivered_X7_isNet
theorem qxX7_delivered_0 : ∀ w ∈ ((wsX7_delivered_r1 ++ (wsX7_delivered_r2 ++ (wsX7_delivered_r3 ++ (wsX7_delivered_r4 ++ (wsX7_delivered_r5 ++ wsX7_delivered_r6))))) ++ wsX70), w ∈ wsX7_delivered := fun w h => List.mem_cons_of_mem _ h
theorem qxX7_delivered_1 : ∀ w ∈ (wsX7_delivered_r1 ++ (wsX7_delivered_r2 ++ (wsX7_delivered_r3 ++ (wsX7_delivered_r4 ++ (wsX7_delivered_r5 ++ wsX7_delivered_r6))))), w ∈ wsX7_delivered := in_l qxX7_delivered_0
theorem qxX7_delivered_2 : ∀ w ∈ wsX70, w ∈ wsX7_delivered := in_r qxX7_delivered_0
theorem qxX7_delivered_3 : ∀ w ∈ wsX7_delivered_r1, w ∈ wsX7_delivered := in_l qxX7_delivered_1
theorem qxX7_delivered_4 : ∀ w ∈ (wsX7_delivered_r2 ++ (wsX7_delivered_r3 ++ (wsX7_delivered_r4 ++ (wsX7_delivered_r5 ++ wsX7_delivered_r6)))), w ∈ wsX7_delivered := in_r qxX7_delivered_1
theorem qxX7_delivered_5 : ∀ w ∈ wsX7_delivered_r2, w ∈ wsX7_delivered := in_l qxX7_delivered_4
theorem qxX7_delivered_6 : ∀ w ∈ (wsX7_delivered_r3 ++ (wsX7_delivered_r4 ++ (wsX7_delivered_r5 ++ wsX7_delivered_r6))), w ∈ wsX7_delivered := in_r qxX7_delivered_4
theorem qxX7_delivered_7 : ∀ w ∈ wsX7_delivered_r3, w ∈ wsX7_delivered := in_l qxX7_delivered_6
theorem qxX7_delivered_8 : ∀ w ∈ (wsX7_delivered_r4 ++ (wsX7_delivered_r5 ++ wsX7_delivered_r6)), w ∈ wsX7_delivered := in_r qxX7_delivered_6
theorem qxX7_delivered_9 : ∀ w ∈ wsX7_delivered_r4, w ∈ wsX7_delivered := in_l qxX7_delivered_8
theorem qxX7_delivered_10 : ∀ w ∈ (wsX7_delivered_r5 ++ wsX7_delivered_r6), w ∈ wsX7_delivered := in_r qxX7_delivered_8
theorem qxX7_delivered_11 : ∀ w ∈ wsX7_delivered_r5, w ∈ wsX7_delivered := in_l qxX7_delivered_10
theorem qxX7_delivered_12 : ∀ w ∈ wsX7_delivered_r6, w ∈ wsX7_delivered := in_r qxX7_delivered_10
def pxX7_delivered : List (List Cond) := [wsX7_delivered_r1, wsX7_delivered_r2, wsX7_delivered_r3, wsX7_delivered_r4, wsX7_delivered_r5, wsX7_delivered_r6, wsX70]
theorem pxX7_delivered_in : ∀ q ∈ pxX7_delivered, ∀ w ∈ q, w ∈ wsX7_delivered := lp_c qxX7_delivered_3 (lp_c qxX7_delivered_5 (lp_c qxX7_delivered_7 (lp_c qxX7_delivered_9 (lp_c qxX7_delivered_11 (lp_c qxX7_delivered_12 (lp_c qxX7_delivered_2 (lp_n)))))))
set_option maxRecDepth 20000 in
theorem ggX7_delivered_X7_isCircuit : GoodIn wsX7_delivered wsX7_isCircuit := goodIn_pp pxX7_delivered pxX7_delivered_in _ [(0, 10), (0, 11), (0, 12), (0, 13), (0, 4), (0, 14), (6, 0), (6, 1), (6, 2), (6, 3), (6, 4), (6, 5), (6, 6), (6, 7), (6, 8), (6, 9), (6, 10), (6, 11), (6, 12), (6, 13), (6, 14), (6, 15), (6, 16), (6, 17), (6, 18), (6, 19), (6, 20)] rfl (by decide +kernel)
set_option maxRecDepth 20000 in
theorem gX7_delivered_X7_isCircuit : GoodIn wsX7_delivered (wsV RX7 133 RX7 yX7_isCircuit wsX7_isCircuit) := goodIn_app (goodIn_of _ (by decide +kernel)) ggX7_delivered_X7_isCircuit
set_option maxRecDepth 20000 in
theorem ggX7_delivered_X7_isSpan : GoodIn wsX7_delivered wsX7_isSpan := goodIn_r _ [18, 13, 14, 5, 15] (by decide +kernel) (by decide +kernel)
set_option maxRecDepth 20000 in
theorem gX7_delivered_X7_isSpan : GoodIn wsX7_delivered (va_wsS RX7 253 yX7_isSpan wsX7_isSpan) := goodIn_app (goodIn_of _ (by decide +kernel)) ggX7_delivered_X7_isSpan
set_option maxRecDepth 20000 in
theorem ggX7_delivered_X7_putAside : GoodIn wsX7_delivered wsX7_putAside := goodIn_r _ [22, 23, 24, 145, 146, 147, 148, 149, 150, 151, 152, 153, 154, 155, 156, 157, 158, 159, 160, 161, 162, 163, 164, 165] (by decide +kernel) (by decide +kernel)
set_option maxRecDepth 20000 in
theorem gX7_delivered_X7_putAside : GoodIn wsX7_delivered (wsV RX7 256 RX7 yX7_putAside wsX7_putAside) := goodIn_app (goodIn_of _ (by decide +kernel)) ggX7_delivered_X7_putAside
set_option maxRecDepth 20000 in
theorem ggX7_delivered_X7_deliveredIn : GoodIn wsX7_delivered wsX7_deliveredIn := goodIn_pp pxX7_delivered pxX7_delivered_in _ [(1, 3), (1, 4), (1, 5), (1, 6), (0, 4), (1, 7), (0, 11), (0, 23), (1, 8), (1, 9), (1, 10), (1, 11), (1, 12), (1, 13), (1, 14), (1, 15), (1, 16), (1, 17), (1, 18), (0, 6), (1, 19), (1, 20), (1, 21), (1, 22), (1, 23), (2, 0), (2, 1), (2, 2), (2, 3), (2, 4), (2, 5), (2, 6), (2, 7), (2, 8), (2, 9), (2, 10), (2, 11), (2, 12), (2, 13), (2, 14), (2, 15), (2, 16), (2, 17), (2, 18), (2, 19), (2, 20), (2, 21), (2, 22), (2, 23), (3, 0), (3, 1), (3, 2), (3, 3), (3, 4), (3, 5), (3, 6), (3, 7), (3, 8), (3, 9), (3, 10), (3, 11), (3, 12), (3, 13), (3, 14), (3, 15), (3, 16), (3, 17), (3, 18), (3, 19), (3, 20), (3, 21), (3, 22), (3, 23), (4, 0), (4, 1), (4, 2), (4, 3), (4, 4), (4, 5), (4, 6), (4, 7), (4, 8), (4, 9), (4, 10), (4, 11), (4, 12), (4, 13), (4, 14), (4, 15), (4, 16), (4, 17), (4, 18), (4, 19), (4, 20), (4, 21), (4, 22), (4, 23), (5, 0), (5, 1), (5, 2), (5, 3), (5, 4), (5, 5), (5, 6), (5, 7), (5, 8), (5, 9), (5, 10), (5, 11), (5, 12), (5, 13), (5, 14), (5, 15), (5, 16), (5, 17), (5, 18), (5, 19), (5, 20), (5, 21), (5, 22), (5, 23), (0, 22), (6, 0), (6, 1), (6, 2), (6, 3), (6, 4), (6, 5), (6, 6), (6, 7), (6, 8), (6, 9), (6, 10), (6, 11), (6, 12), (6, 13), (6, 14), (6, 15), (6, 16), (6, 17), (6, 18), (6, 19), (6, 20)] rfl (by decide +kernel)
set_option maxRecDepth 20000 in
theorem gX7_delivered_X7_deliveredIn : GoodIn wsX7_delivered (wsV RX7 268 RX7 yX7_deliveredIn wsX7_deliveredIn) := goodIn_app (goodIn_of _ (by decide +kernel)) ggX7_delivered_X7_deliveredIn
theorem dX7_delivered_0 : decode cX7_delivered 0 = .ok (.aload_n 0, 1) := by decide +kernel
theorem dX7_delivered_1 : decode cX7_delivered 1 = .ok (.iconst 0, 1) := by decide +kernel
theorem dX7_delivered_2 : decode cX7_delivered 2 = .ok (.putfield 49, 3) := by decide +kernel
theorem dX7_delivered_5 : decode cX7_delivered 5 = .ok (.aload_n 0, 1) := by decide +kernel
theorem dX7_delivered_6 : decode cX7_delivered 6 = .ok (.invokevirtual 136, 3) := by decide +kernel
theorem dX7_delivered_9 : decode cX7_delivered 9 = .ok (.ifCond .eq 24, 3) := by decide +kernel
theorem dX7_delivered_12 : decode cX7_delivered 12 = .ok (.iload_n 1, 1) := by decide +kernel
theorem dX7_delivered_13 : decode cX7_delivered 13 = .ok (.iconst (-1), 1) := by decide +kernel
theorem dX7_delivered_14 : decode cX7_delivered 14 = .ok (.if_icmp .eq 11, 3) := by decide +kernel
theorem dX7_delivered_17 : decode cX7_delivered 17 = .ok (.aload_n 0, 1) := by decide +kernel
theorem dX7_delivered_18 : decode cX7_delivered 18 = .ok (.iload_n 1, 1) := by decide +kernel
theorem dX7_delivered_19 : decode cX7_delivered 19 = .ok (.invokevirtual 133, 3) := by decide +kernel
theorem dX7_delivered_22 : decode cX7_delivered 22 = .ok (.ifCond .eq 11, 3) := by decide +kernel
theorem dX7_delivered_25 : decode cX7_delivered 25 = .ok (.iload_n 2, 1) := by decide +kernel
theorem dX7_delivered_26 : decode cX7_delivered 26 = .ok (.iconst 0, 1) := by decide +kernel
theorem dX7_delivered_27 : decode cX7_delivered 27 = .ok (.invokestatic 253, 3) := by decide +kernel
theorem dX7_delivered_30 : decode cX7_delivered 30 = .ok (.ifCond .ne 5, 3) := by decide +kernel
theorem dX7_delivered_33 : decode cX7_delivered 33 = .ok (.iconst (-1), 1) := by decide +kernel
theorem dX7_delivered_34 : decode cX7_delivered 34 = .ok (.ireturn, 1) := by decide +kernel
theorem dX7_delivered_35 : decode cX7_delivered 35 = .ok (.aload_n 0, 1) := by decide +kernel
theorem dX7_delivered_36 : decode cX7_delivered 36 = .ok (.invokevirtual 256, 3) := by decide +kernel
theorem dX7_delivered_39 : decode cX7_delivered 39 = .ok (.aload_n 0, 1) := by decide +kernel
theorem dX7_delivered_40 : decode cX7_delivered 40 = .ok (.iload_n 1, 1) := by decide +kernel
theorem dX7_delivered_41 : decode cX7_delivered 41 = .ok (.iload_n 2, 1) := by decide +kernel
theorem dX7_delivered_42 : decode cX7_delivered 42 = .ok (.invokevirtual 268, 3) := by decide +kernel
theorem dX7_delivered_45 : decode cX7_delivered 45 = .ok (.ireturn, 1) := by decide +kernel
theorem qxX7_heldUp_0 : ∀ w ∈ ((wsX7_heldUp_r1 ++ (wsX7_heldUp_r2 ++ (wsX7_heldUp_r3 ++ (wsX7_heldUp_r4 ++ (wsX7_heldUp_r5 ++ wsX7_heldUp_r6))))) ++ wsX70), w ∈ wsX7_heldUp := fun w h => List.mem_cons_of_mem _ h
theorem qxX7_heldUp_1 : ∀ w ∈ (wsX7_heldUp_r1 ++ (wsX7_heldUp_r2 ++ (wsX7_heldUp_r3 ++ (wsX7_heldUp_r4 ++ (wsX7_heldUp_r5 ++ wsX7_heldUp_r6))))), w ∈ wsX7_heldUp := in_l qxX7_heldUp_0
theorem qxX7_heldUp_2 : ∀ w ∈ wsX70, w ∈ wsX7_heldUp := in_r qxX7_heldUp_0
theorem qxX7_heldUp_3 : ∀ w ∈ wsX7_heldUp_r1, w ∈ wsX7_heldUp := in_l qxX7_heldUp_1
theorem qxX7_heldUp_4 : ∀ w ∈ (wsX7_heldUp_r2 ++ (wsX7_heldUp_r3 ++ (wsX7_heldUp_r4 ++ (wsX7_heldUp_r5 ++ wsX7_heldUp_r6)))), w ∈ wsX7_heldUp := in_r qxX7_heldUp_1
theorem qxX7_heldUp_5 : ∀ w ∈ wsX7_heldUp_r2, w ∈ wsX7_heldUp := in_l qxX7_heldUp_4
theorem qxX7_heldUp_6 : ∀ w ∈ (wsX7_heldUp_r3 ++ (wsX7_heldUp_r4 ++ (wsX7_heldUp_r5 ++ wsX7_heldUp_r6))), w ∈ wsX7_heldUp := in_r qxX7_heldUp_4
theorem qxX7_heldUp_7 : ∀ w ∈ wsX7_heldUp_r3, w ∈ wsX7_heldUp := in_l qxX7_heldUp_6
theorem qxX7_heldUp_8 : ∀ w ∈ (wsX7_heldUp_r4 ++ (wsX7_heldUp_r5 ++ wsX7_heldUp_r6)), w ∈ wsX7_heldUp := in_r qxX7_heldUp_6
theorem qxX7_heldUp_9 : ∀ w ∈ wsX7_heldUp_r4, w ∈ wsX7_heldUp := in_l qxX7_heldUp_8
theorem qxX7_heldUp_10 : ∀ w ∈ (wsX7_heldUp_r5 ++ wsX7_heldUp_r6), w ∈ wsX7_heldUp := in_r qxX7_heldUp_8
theorem qxX7_heldUp_11 : ∀ w ∈ wsX7_heldUp_r5, w ∈ wsX7_heldUp := in_l qxX7_heldUp_10
theorem qxX7_heldUp_12 : ∀ w ∈ wsX7_heldUp_r6, w ∈ wsX7_heldUp := in_r qxX7_heldUp_10
def pxX7_heldUp : List (List Cond) := [wsX7_heldUp_r1, wsX7_heldUp_r2, wsX7_heldUp_r3, wsX7_heldUp_r4, wsX7_heldUp_r5, wsX7_heldUp_r6, wsX70]
theorem pxX7_heldUp_in : ∀ q ∈ pxX7_heldUp, ∀ w ∈ q, w ∈ wsX7_heldUp := lp_c qxX7_heldUp_3 (lp_c qxX7_heldUp_5 (lp_c qxX7_heldUp_7 (lp_c qxX7_heldUp_9 (lp_c qxX7_heldUp_11 (lp_c qxX7_heldUp_12 (lp_c qxX7_heldUp_2 (lp_n)))))))
set_option maxRecDepth 20000 in
theorem ggX7_heldUp_X7_isLane : GoodIn wsX7_heldUp wsX7_isLane := goodIn_pp pxX7_heldUp pxX7_heldUp_in _ [(0, 6), (0, 7), (0, 8), (0, 9), (0, 5), (0, 10), (0, 11), (0, 12), (0, 13), (0, 14), (0, 15), (0, 16), (0, 17), (0, 18), (0, 19), (6, 0), (6, 1), (6, 2), (6, 3), (6, 4), (6, 5), (6, 6), (6, 7), (6, 8), (6, 9), (6, 10), (6, 11), (6, 12), (6, 13), (6, 14), (6, 15), (6, 16), (6, 17), (6, 18), (6, 19), (6, 20)] rfl (by decide +kernel)
set_option maxRecDepth 20000 in
theorem gX7_heldUp_X7_isLane : GoodIn wsX7_heldUp (wsV RX7 229 RX7 yX7_isLane wsX7_isLane) := goodIn_app (goodIn_of _ (by decide +kernel)) ggX7_heldUp_X7_isLane
set_option maxRecDepth 20000 in
theorem ggX7_heldUp_X7_putAside : GoodIn wsX7_heldUp wsX7_putAside := goodIn_r _ [24, 25, 2, 134, 135, 136, 137, 138, 139, 140, 141, 142, 143, 144, 145, 146, 147, 148, 149, 150, 151, 152, 153, 154] (by decide +kernel) (by decide +kernel)
set_option maxRecDepth 20000 in
theorem gX7_heldUp_X7_putAside : GoodIn wsX7_heldUp (wsV RX7 256 RX7 yX7_putAside wsX7_putAside) := goodIn_app (goodIn_of _ (by decide +kernel)) ggX7_heldUp_X7_putAside
set_option maxRecDepth 20000 in
theorem ggX7_heldUp_X7_lane : GoodIn wsX7_heldUp wsX7_lane := goodIn_r _ [28] (by decide +kernel) (by decide +kernel)
set_option maxRecDepth 20000 in
theorem gX7_heldUp_X7_lane : GoodIn wsX7_heldUp (va_wsS RX7 163 yX7_lane wsX7_lane) := goodIn_app (goodIn_of _ (by decide +kernel)) ggX7_heldUp_X7_lane
set_option maxRecDepth 20000 in
theorem ggX7_heldUp_X7_ticks : GoodIn wsX7_heldUp wsX7_ticks := goodIn_pp pxX7_heldUp pxX7_heldUp_in _ [(1, 7), (0, 11), (0, 19), (1, 8), (0, 1), (1, 9), (1, 10), (1, 11), (0, 5), (1, 12), (1, 13), (1, 14), (1, 15), (1, 16), (1, 17), (1, 18), (1, 1), (1, 2), (1, 3), (1, 19), (1, 20), (1, 21), (1, 22), (1, 23), (2, 0), (2, 1), (2, 2), (2, 3), (2, 4), (2, 5), (2, 6), (2, 7), (2, 8), (2, 9), (2, 10), (2, 11), (2, 12), (2, 13), (2, 14), (2, 15), (2, 16), (2, 17), (2, 18), (2, 19), (2, 20), (2, 21), (2, 22), (2, 23), (3, 0), (3, 1), (3, 2), (3, 3), (3, 4), (3, 5), (3, 6), (3, 7), (3, 8), (3, 9), (3, 10), (3, 11), (3, 12), (3, 13), (3, 14), (3, 15), (3, 16), (3, 17), (3, 18), (3, 19), (3, 20), (3, 21), (3, 22), (3, 23), (4, 0), (4, 1), (4, 2), (4, 3), (4, 4), (4, 5), (4, 6), (4, 7), (4, 8), (4, 9), (4, 10), (4, 11), (4, 12), (4, 13), (4, 14), (4, 15), (4, 16), (4, 17), (4, 18), (4, 19), (4, 20), (4, 21), (4, 22), (4, 23), (5, 0), (5, 1), (5, 2), (5, 3), (5, 4), (5, 5), (5, 6), (5, 7), (5, 8), (6, 0), (6, 1), (6, 2), (6, 3), (6, 4), (6, 5), (6, 6), (6, 7), (6, 8), (6, 9), (6, 10), (6, 11), (6, 12), (6, 13), (6, 14), (6, 15), (6, 16), (6, 17), (6, 18), (6, 19), (6, 20)] rfl (by decide +kernel)
set_option maxRecDepth 20000 in
theorem gX7_heldUp_X7_ticks : GoodIn wsX7_heldUp (wsV RX7 226 RX7 yX7_ticks wsX7_ticks) := goodIn_app (goodIn_of _ (by decide +kernel)) ggX7_heldUp_X7_ticks
set_option maxRecDepth 20000 in
theorem ggX7_heldUp_X7_bringBack : GoodIn wsX7_heldUp wsX7_bringBack := goodIn_r _ [133, 2, 25, 134, 135, 136, 137, 138, 139, 140, 141, 142, 143, 144, 145, 146, 147, 148, 149, 150, 151, 152, 153, 154] (by decide +kernel) (by decide +kernel)
set_option maxRecDepth 20000 in
theorem gX7_heldUp_X7_bringBack : GoodIn wsX7_heldUp (wsV RX7 262 RX7 yX7_bringBack wsX7_bringBack) := goodIn_app (goodIn_of _ (by decide +kernel)) ggX7_heldUp_X7_bringBack
theorem dX7_heldUp_0 : decode cX7_heldUp 0 = .ok (.aload_n 0, 1) := by decide +kernel
theorem dX7_heldUp_1 : decode cX7_heldUp 1 = .ok (.iconst 0, 1) := by decide +kernel
theorem dX7_heldUp_2 : decode cX7_heldUp 2 = .ok (.putfield 49, 3) := by decide +kernel
theorem dX7_heldUp_5 : decode cX7_heldUp 5 = .ok (.aload_n 0, 1) := by decide +kernel
theorem dX7_heldUp_6 : decode cX7_heldUp 6 = .ok (.iload_n 1, 1) := by decide +kernel
theorem dX7_heldUp_7 : decode cX7_heldUp 7 = .ok (.iload_n 2, 1) := by decide +kernel
theorem dX7_heldUp_8 : decode cX7_heldUp 8 = .ok (.invokevirtual 229, 3) := by decide +kernel
theorem dX7_heldUp_11 : decode cX7_heldUp 11 = .ok (.ifCond .ne 5, 3) := by decide +kernel
theorem dX7_heldUp_14 : decode cX7_heldUp 14 = .ok (.iconst (-1), 1) := by decide +kernel
theorem dX7_heldUp_15 : decode cX7_heldUp 15 = .ok (.ireturn, 1) := by decide +kernel
theorem dX7_heldUp_16 : decode cX7_heldUp 16 = .ok (.aload_n 0, 1) := by decide +kernel
theorem dX7_heldUp_17 : decode cX7_heldUp 17 = .ok (.invokevirtual 256, 3) := by decide +kernel
theorem dX7_heldUp_20 : decode cX7_heldUp 20 = .ok (.iconst (-1), 1) := by decide +kernel
theorem dX7_heldUp_21 : decode cX7_heldUp 21 = .ok (.istore_n 3, 1) := by decide +kernel
theorem dX7_heldUp_22 : decode cX7_heldUp 22 = .ok (.iconst 1, 1) := by decide +kernel
theorem dX7_heldUp_23 : decode cX7_heldUp 23 = .ok (.istore 4, 2) := by decide +kernel
theorem dX7_heldUp_25 : decode cX7_heldUp 25 = .ok (.iload 4, 2) := by decide +kernel
theorem dX7_heldUp_27 : decode cX7_heldUp 27 = .ok (.sipush 200, 3) := by decide +kernel
theorem dX7_heldUp_30 : decode cX7_heldUp 30 = .ok (.if_icmp .gt 56, 3) := by decide +kernel
theorem dX7_heldUp_33 : decode cX7_heldUp 33 = .ok (.iload_n 3, 1) := by decide +kernel
theorem dX7_heldUp_34 : decode cX7_heldUp 34 = .ok (.iconst (-1), 1) := by decide +kernel
theorem dX7_heldUp_35 : decode cX7_heldUp 35 = .ok (.if_icmp .ne 51, 3) := by decide +kernel
theorem dX7_heldUp_38 : decode cX7_heldUp 38 = .ok (.aload_n 0, 1) := by decide +kernel
theorem dX7_heldUp_39 : decode cX7_heldUp 39 = .ok (.getfield 22, 3) := by decide +kernel
theorem dX7_heldUp_42 : decode cX7_heldUp 42 = .ok (.iload_n 1, 1) := by decide +kernel
theorem dX7_heldUp_43 : decode cX7_heldUp 43 = .ok (.iload_n 2, 1) := by decide +kernel
theorem dX7_heldUp_44 : decode cX7_heldUp 44 = .ok (.invokestatic 163, 3) := by decide +kernel
theorem dX7_heldUp_47 : decode cX7_heldUp 47 = .ok (.iconst 0, 1) := by decide +kernel
theorem dX7_heldUp_48 : decode cX7_heldUp 48 = .ok (.iadd, 1) := by decide +kernel
theorem dX7_heldUp_49 : decode cX7_heldUp 49 = .ok (.iaload, 1) := by decide +kernel
theorem dX7_heldUp_50 : decode cX7_heldUp 50 = .ok (.istore 5, 2) := by decide +kernel
theorem dX7_heldUp_52 : decode cX7_heldUp 52 = .ok (.aload_n 0, 1) := by decide +kernel
theorem dX7_heldUp_53 : decode cX7_heldUp 53 = .ok (.invokevirtual 226, 3) := by decide +kernel
theorem dX7_heldUp_56 : decode cX7_heldUp 56 = .ok (.aload_n 0, 1) := by decide +kernel
theorem dX7_heldUp_57 : decode cX7_heldUp 57 = .ok (.getfield 22, 3) := by decide +kernel
theorem dX7_heldUp_60 : decode cX7_heldUp 60 = .ok (.iload_n 1, 1) := by decide +kernel
theorem dX7_heldUp_61 : decode cX7_heldUp 61 = .ok (.iload_n 2, 1) := by decide +kernel
theorem dX7_heldUp_62 : decode cX7_heldUp 62 = .ok (.invokestatic 163, 3) := by decide +kernel
theorem dX7_heldUp_65 : decode cX7_heldUp 65 = .ok (.iconst 0, 1) := by decide +kernel
theorem dX7_heldUp_66 : decode cX7_heldUp 66 = .ok (.iadd, 1) := by decide +kernel
theorem dX7_heldUp_67 : decode cX7_heldUp 67 = .ok (.iaload, 1) := by decide +kernel
theorem dX7_heldUp_68 : decode cX7_heldUp 68 = .ok (.iload 5, 2) := by decide +kernel
theorem dX7_heldUp_70 : decode cX7_heldUp 70 = .ok (.if_icmp .eq 8, 3) := by decide +kernel
theorem dX7_heldUp_73 : decode cX7_heldUp 73 = .ok (.iload 4, 2) := by decide +kernel
theorem dX7_heldUp_75 : decode cX7_heldUp 75 = .ok (.goto 4, 3) := by decide +kernel
theorem dX7_heldUp_78 : decode cX7_heldUp 78 = .ok (.iconst (-1), 1) := by decide +kernel
theorem dX7_heldUp_79 : decode cX7_heldUp 79 = .ok (.istore_n 3, 1) := by decide +kernel
theorem dX7_heldUp_80 : decode cX7_heldUp 80 = .ok (.iinc 4 1, 3) := by decide +kernel
theorem dX7_heldUp_83 : decode cX7_heldUp 83 = .ok (.goto (-58), 3) := by decide +kernel
theorem dX7_heldUp_86 : decode cX7_heldUp 86 = .ok (.aload_n 0, 1) := by decide +kernel
theorem dX7_heldUp_87 : decode cX7_heldUp 87 = .ok (.invokevirtual 262, 3) := by decide +kernel
theorem dX7_heldUp_90 : decode cX7_heldUp 90 = .ok (.iload_n 3, 1) := by decide +kernel
theorem dX7_heldUp_91 : decode cX7_heldUp 91 = .ok (.ireturn, 1) := by decide +kernel
set_option maxRecDepth 20000 in
theorem ggX7_sentOver_X7_lane : GoodIn wsX7_sentOver wsX7_lane := goodIn_r _ [6] (by decide +kernel) (by decide +kernel)
set_option maxRecDepth 20000 in
theorem gX7_sentOver_X7_lane : GoodIn wsX7_sentOver (va_wsS RX7 163 yX7_lane wsX7_lane) := goodIn_app (goodIn_of _ (by decide +kernel)) ggX7_sentOver_X7_lane
theorem dX7_sentOver_0 : decode cX7_sentOver 0 = .ok (.iconst 0, 1) := by decide +kernel
theorem dX7_sentOver_1 : decode cX7_sentOver 1 = .ok (.istore_n 2, 1) := by decide +kernel
theorem dX7_sentOver_2 : decode cX7_sentOver 2 = .ok (.iconst 0, 1) := by decide +kernel
theorem dX7_sentOver_3 : decode cX7_sentOver 3 = .ok (.istore_n 3, 1) := by decide +kernel
theorem dX7_sentOver_4 : decode cX7_sentOver 4 = .ok (.iload_n 3, 1) := by decide +kernel
theorem dX7_sentOver_5 : decode cX7_sentOver 5 = .ok (.aload_n 0, 1) := by decide +kernel
theorem dX7_sentOver_6 : decode cX7_sentOver 6 = .ok (.getfield 127, 3) := by decide +kernel
theorem dX7_sentOver_9 : decode cX7_sentOver 9 = .ok (.if_icmp .ge 24, 3) := by decide +kernel
theorem dX7_sentOver_12 : decode cX7_sentOver 12 = .ok (.iload_n 2, 1) := by decide +kernel
theorem dX7_sentOver_13 : decode cX7_sentOver 13 = .ok (.aload_n 0, 1) := by decide +kernel
theorem dX7_sentOver_14 : decode cX7_sentOver 14 = .ok (.getfield 22, 3) := by decide +kernel
theorem dX7_sentOver_17 : decode cX7_sentOver 17 = .ok (.iload_n 1, 1) := by decide +kernel
theorem dX7_sentOver_18 : decode cX7_sentOver 18 = .ok (.iload_n 3, 1) := by decide +kernel
theorem dX7_sentOver_19 : decode cX7_sentOver 19 = .ok (.invokestatic 163, 3) := by decide +kernel
theorem dX7_sentOver_22 : decode cX7_sentOver 22 = .ok (.iconst 0, 1) := by decide +kernel
theorem dX7_sentOver_23 : decode cX7_sentOver 23 = .ok (.iadd, 1) := by decide +kernel
theorem dX7_sentOver_24 : decode cX7_sentOver 24 = .ok (.iaload, 1) := by decide +kernel
theorem dX7_sentOver_25 : decode cX7_sentOver 25 = .ok (.iadd, 1) := by decide +kernel
theorem dX7_sentOver_26 : decode cX7_sentOver 26 = .ok (.istore_n 2, 1) := by decide +kernel
theorem dX7_sentOver_27 : decode cX7_sentOver 27 = .ok (.iinc 3 1, 3) := by decide +kernel
theorem dX7_sentOver_30 : decode cX7_sentOver 30 = .ok (.goto (-26), 3) := by decide +kernel
theorem dX7_sentOver_33 : decode cX7_sentOver 33 = .ok (.iload_n 2, 1) := by decide +kernel
theorem dX7_sentOver_34 : decode cX7_sentOver 34 = .ok (.ireturn, 1) := by decide +kernel
set_option maxRecDepth 20000 in
theorem ggX7_idleOf_X7_putAside : GoodIn wsX7_idleOf wsX7_putAside := goodIn_r _ [5, 6, 7, 122, 123, 124, 125, 126, 127, 128, 129, 130, 131, 132, 133, 134, 135, 136, 137, 138, 139, 140, 141, 142] (by decide +kernel) (by decide +kernel)
set_option maxRecDepth 20000 in
theorem gX7_idleOf_X7_putAside : GoodIn wsX7_idleOf (wsV RX7 256 RX7 yX7_putAside wsX7_putAside) := goodIn_app (goodIn_of _ (by decide +kernel)) ggX7_idleOf_X7_putAside
theorem qxX7_idleOf_0 : ∀ w ∈ ((wsX7_idleOf_r1 ++ (wsX7_idleOf_r2 ++ (wsX7_idleOf_r3 ++ (wsX7_idleOf_r4 ++ (wsX7_idleOf_r5 ++ wsX7_idleOf_r6))))) ++ wsX70), w ∈ wsX7_idleOf := fun w h => List.mem_cons_of_mem _ h
theorem qxX7_idleOf_1 : ∀ w ∈ (wsX7_idleOf_r1 ++ (wsX7_idleOf_r2 ++ (wsX7_idleOf_r3 ++ (wsX7_idleOf_r4 ++ (wsX7_idleOf_r5 ++ wsX7_idleOf_r6))))), w ∈ wsX7_idleOf := in_l qxX7_idleOf_0
theorem qxX7_idleOf_2 : ∀ w ∈ wsX70, w ∈ wsX7_idleOf := in_r qxX7_idleOf_0
theorem qxX7_idleOf_3 : ∀ w ∈ wsX7_idleOf_r1, w ∈ wsX7_idleOf := in_l qxX7_idleOf_1
theorem qxX7_idleOf_4 : ∀ w ∈ (wsX7_idleOf_r2 ++ (wsX7_idleOf_r3 ++ (wsX7_idleOf_r4 ++ (wsX7_idleOf_r5 ++ wsX7_idleOf_r6)))), w ∈ wsX7_idleOf := in_r qxX7_idleOf_1
theorem qxX7_idleOf_5 : ∀ w ∈ wsX7_idleOf_r2, w ∈ wsX7_idleOf := in_l qxX7_idleOf_4
theorem qxX7_idleOf_6 : ∀ w ∈ (wsX7_idleOf_r3 ++ (wsX7_idleOf_r4 ++ (wsX7_idleOf_r5 ++ wsX7_idleOf_r6))), w ∈ wsX7_idleOf := in_r qxX7_idleOf_4
theorem qxX7_idleOf_7 : ∀ w ∈ wsX7_idleOf_r3, w ∈ wsX7_idleOf := in_l qxX7_idleOf_6
theorem qxX7_idleOf_8 : ∀ w ∈ (wsX7_idleOf_r4 ++ (wsX7_idleOf_r5 ++ wsX7_idleOf_r6)), w ∈ wsX7_idleOf := in_r qxX7_idleOf_6
theorem qxX7_idleOf_9 : ∀ w ∈ wsX7_idleOf_r4, w ∈ wsX7_idleOf := in_l qxX7_idleOf_8
theorem qxX7_idleOf_10 : ∀ w ∈ (wsX7_idleOf_r5 ++ wsX7_idleOf_r6), w ∈ wsX7_idleOf := in_r qxX7_idleOf_8
theorem qxX7_idleOf_11 : ∀ w ∈ wsX7_idleOf_r5, w ∈ wsX7_idleOf := in_l qxX7_idleOf_10
theorem qxX7_idleOf_12 : ∀ w ∈ wsX7_idleOf_r6, w ∈ wsX7_idleOf := in_r qxX7_idleOf_10
def pxX7_idleOf : List (List Cond) := [wsX7_idleOf_r1, wsX7_idleOf_r2, wsX7_idleOf_r3, wsX7_idleOf_r4, wsX7_idleOf_r5, wsX7_idleOf_r6, wsX70]
theorem pxX7_idleOf_in : ∀ q ∈ pxX7_idleOf, ∀ w ∈ q, w ∈ wsX7_idleOf := lp_c qxX7_idleOf_3 (lp_c qxX7_idleOf_5 (lp_c qxX7_idleOf_7 (lp_c qxX7_idleOf_9 (lp_c qxX7_idleOf_11 (lp_c qxX7_idleOf_12 (lp_c qxX7_idleOf_2 (lp_n)))))))
set_option maxRecDepth 20000 in
theorem ggX7_idleOf_X7_sentOver : GoodIn wsX7_idleOf wsX7_sentOver := goodIn_pp pxX7_idleOf pxX7_idleOf_in _ [(0, 10), (0, 11), (0, 6), (0, 12), (0, 13), (0, 3), (0, 14), (6, 0), (6, 1), (6, 2), (6, 3), (6, 4), (6, 5), (6, 6), (6, 7), (6, 8), (6, 9), (6, 10), (6, 11), (6, 12), (6, 13), (6, 14), (6, 15), (6, 16), (6, 17), (6, 18), (6, 19), (6, 20)] rfl (by decide +kernel)
set_option maxRecDepth 20000 in
theorem gX7_idleOf_X7_sentOver : GoodIn wsX7_idleOf (wsV RX7 271 RX7 yX7_sentOver wsX7_sentOver) := goodIn_app (goodIn_of _ (by decide +kernel)) ggX7_idleOf_X7_sentOver
set_option maxRecDepth 20000 in
theorem ggX7_idleOf_X7_ticks : GoodIn wsX7_idleOf wsX7_ticks := goodIn_pp pxX7_idleOf pxX7_idleOf_in _ [(0, 18), (0, 19), (0, 11), (0, 20), (0, 6), (0, 21), (0, 22), (0, 23), (0, 3), (1, 0), (1, 1), (1, 2), (1, 3), (1, 4), (1, 5), (1, 6), (0, 12), (0, 13), (0, 14), (1, 7), (1, 8), (1, 9), (1, 10), (1, 11), (1, 12), (1, 13), (1, 14), (1, 15), (1, 16), (1, 17), (1, 18), (1, 19), (1, 20), (1, 21), (1, 22), (1, 23), (2, 0), (2, 1), (2, 2), (2, 3), (2, 4), (2, 5), (2, 6), (2, 7), (2, 8), (2, 9), (2, 10), (2, 11), (2, 12), (2, 13), (2, 14), (2, 15), (2, 16), (2, 17), (2, 18), (2, 19), (2, 20), (2, 21), (2, 22), (2, 23), (3, 0), (3, 1), (3, 2), (3, 3), (3, 4), (3, 5), (3, 6), (3, 7), (3, 8), (3, 9), (3, 10), (3, 11), (3, 12), (3, 13), (3, 14), (3, 15), (3, 16), (3, 17), (3, 18), (3, 19), (3, 20), (3, 21), (3, 22), (3, 23), (4, 0), (4, 1), (4, 2), (4, 3), (4, 4), (4, 5), (4, 6), (4, 7), (4, 8), (4, 9), (4, 10), (4, 11), (4, 12), (4, 13), (4, 14), (4, 15), (4, 16), (4, 17), (4, 18), (4, 19), (4, 20), (6, 0), (6, 1), (6, 2), (6, 3), (6, 4), (6, 5), (6, 6), (6, 7), (6, 8), (6, 9), (6, 10), (6, 11), (6, 12), (6, 13), (6, 14), (6, 15), (6, 16), (6, 17), (6, 18), (6, 19), (6, 20)] rfl (by decide +kernel)
set_option maxRecDepth 20000 in
theorem gX7_idleOf_X7_ticks : GoodIn wsX7_idleOf (wsV RX7 226 RX7 yX7_ticks wsX7_ticks) := goodIn_app (goodIn_of _ (by decide +kernel)) ggX7_idleOf_X7_ticks
set_option maxRecDepth 20000 in
theorem ggX7_idleOf_X7_bringBack : GoodIn wsX7_idleOf wsX7_bringBack := goodIn_r _ [121, 7, 6, 122, 123, 124, 125, 126, 127, 128, 129, 130, 131, 132, 133, 134, 135, 136, 137, 138, 139, 140, 141, 142] (by decide +kernel) (by decide +kernel)
set_option maxRecDepth 20000 in
theorem gX7_idleOf_X7_bringBack : GoodIn wsX7_idleOf (wsV RX7 262 RX7 yX7_bringBack wsX7_bringBack) := goodIn_app (goodIn_of _ (by decide +kernel)) ggX7_idleOf_X7_bringBack
theorem dX7_idleOf_0 : decode cX7_idleOf 0 = .ok (.aload_n 0, 1) := by decide +kernel
theorem dX7_idleOf_1 : decode cX7_idleOf 1 = .ok (.invokevirtual 256, 3) := by decide +kernel
theorem dX7_idleOf_4 : decode cX7_idleOf 4 = .ok (.iconst 0, 1) := by decide +kernel
theorem dX7_idleOf_5 : decode cX7_idleOf 5 = .ok (.istore_n 3, 1) := by decide +kernel
theorem dX7_idleOf_6 : decode cX7_idleOf 6 = .ok (.iconst 0, 1) := by decide +kernel
theorem dX7_idleOf_7 : decode cX7_idleOf 7 = .ok (.istore 4, 2) := by decide +kernel
theorem dX7_idleOf_9 : decode cX7_idleOf 9 = .ok (.iload 4, 2) := by decide +kernel
theorem dX7_idleOf_11 : decode cX7_idleOf 11 = .ok (.iload_n 2, 1) := by decide +kernel
theorem dX7_idleOf_12 : decode cX7_idleOf 12 = .ok (.if_icmp .ge 38, 3) := by decide +kernel
theorem dX7_idleOf_15 : decode cX7_idleOf 15 = .ok (.aload_n 0, 1) := by decide +kernel
theorem dX7_idleOf_16 : decode cX7_idleOf 16 = .ok (.iload_n 1, 1) := by decide +kernel
theorem dX7_idleOf_17 : decode cX7_idleOf 17 = .ok (.invokevirtual 271, 3) := by decide +kernel
theorem dX7_idleOf_20 : decode cX7_idleOf 20 = .ok (.istore 5, 2) := by decide +kernel
theorem dX7_idleOf_22 : decode cX7_idleOf 22 = .ok (.aload_n 0, 1) := by decide +kernel
theorem dX7_idleOf_23 : decode cX7_idleOf 23 = .ok (.invokevirtual 226, 3) := by decide +kernel
theorem dX7_idleOf_26 : decode cX7_idleOf 26 = .ok (.iload_n 3, 1) := by decide +kernel
theorem dX7_idleOf_27 : decode cX7_idleOf 27 = .ok (.aload_n 0, 1) := by decide +kernel
theorem dX7_idleOf_28 : decode cX7_idleOf 28 = .ok (.iload_n 1, 1) := by decide +kernel
theorem dX7_idleOf_29 : decode cX7_idleOf 29 = .ok (.invokevirtual 271, 3) := by decide +kernel
theorem dX7_idleOf_32 : decode cX7_idleOf 32 = .ok (.iload 5, 2) := by decide +kernel
theorem dX7_idleOf_34 : decode cX7_idleOf 34 = .ok (.if_icmp .ne 7, 3) := by decide +kernel
theorem dX7_idleOf_37 : decode cX7_idleOf 37 = .ok (.iconst 1, 1) := by decide +kernel
theorem dX7_idleOf_38 : decode cX7_idleOf 38 = .ok (.goto 4, 3) := by decide +kernel
theorem dX7_idleOf_41 : decode cX7_idleOf 41 = .ok (.iconst 0, 1) := by decide +kernel
theorem dX7_idleOf_42 : decode cX7_idleOf 42 = .ok (.iadd, 1) := by decide +kernel
theorem dX7_idleOf_43 : decode cX7_idleOf 43 = .ok (.istore_n 3, 1) := by decide +kernel
theorem dX7_idleOf_44 : decode cX7_idleOf 44 = .ok (.iinc 4 1, 3) := by decide +kernel
theorem dX7_idleOf_47 : decode cX7_idleOf 47 = .ok (.goto (-38), 3) := by decide +kernel
theorem dX7_idleOf_50 : decode cX7_idleOf 50 = .ok (.aload_n 0, 1) := by decide +kernel
theorem dX7_idleOf_51 : decode cX7_idleOf 51 = .ok (.invokevirtual 262, 3) := by decide +kernel
theorem dX7_idleOf_54 : decode cX7_idleOf 54 = .ok (.iload_n 3, 1) := by decide +kernel
theorem dX7_idleOf_55 : decode cX7_idleOf 55 = .ok (.ireturn, 1) := by decide +kernel
theorem qxX7_idle_0 : ∀ w ∈ ((wsX7_idle_r1 ++ (wsX7_idle_r2 ++ (wsX7_idle_r3 ++ (wsX7_idle_r4 ++ (wsX7_idle_r5 ++ wsX7_idle_r6))))) ++ wsX70), w ∈ wsX7_idle := fun w h => List.mem_cons_of_mem _ h
theorem qxX7_idle_1 : ∀ w ∈ (wsX7_idle_r1 ++ (wsX7_idle_r2 ++ (wsX7_idle_r3 ++ (wsX7_idle_r4 ++ (wsX7_idle_r5 ++ wsX7_idle_r6))))), w ∈ wsX7_idle := in_l qxX7_idle_0
theorem qxX7_idle_2 : ∀ w ∈ wsX70, w ∈ wsX7_idle := in_r qxX7_idle_0
theorem qxX7_idle_3 : ∀ w ∈ wsX7_idle_r1, w ∈ wsX7_idle := in_l qxX7_idle_1
theorem qxX7_idle_4 : ∀ w ∈ (wsX7_idle_r2 ++ (wsX7_idle_r3 ++ (wsX7_idle_r4 ++ (wsX7_idle_r5 ++ wsX7_idle_r6)))), w ∈ wsX7_idle := in_r qxX7_idle_1
theorem qxX7_idle_5 : ∀ w ∈ wsX7_idle_r2, w ∈ wsX7_idle := in_l qxX7_idle_4
theorem qxX7_idle_6 : ∀ w ∈ (wsX7_idle_r3 ++ (wsX7_idle_r4 ++ (wsX7_idle_r5 ++ wsX7_idle_r6))), w ∈ wsX7_idle := in_r qxX7_idle_4
theorem qxX7_idle_7 : ∀ w ∈ wsX7_idle_r3, w ∈ wsX7_idle := in_l qxX7_idle_6
theorem qxX7_idle_8 : ∀ w ∈ (wsX7_idle_r4 ++ (wsX7_idle_r5 ++ wsX7_idle_r6)), w ∈ wsX7_idle := in_r qxX7_idle_6
theorem qxX7_idle_9 : ∀ w ∈ wsX7_idle_r4, w ∈ wsX7_idle := in_l qxX7_idle_8
theorem qxX7_idle_10 : ∀ w ∈ (wsX7_idle_r5 ++ wsX7_idle_r6), w ∈ wsX7_idle := in_r qxX7_idle_8
theorem qxX7_idle_11 : ∀ w ∈ wsX7_idle_r5, w ∈ wsX7_idle := in_l qxX7_idle_10
theorem qxX7_idle_12 : ∀ w ∈ wsX7_idle_r6, w ∈ wsX7_idle := in_r qxX7_idle_10
def pxX7_idle : List (List Cond) := [wsX7_idle_r1, wsX7_idle_r2, wsX7_idle_r3, wsX7_idle_r4, wsX7_idle_r5, wsX7_idle_r6, wsX70]
theorem pxX7_idle_in : ∀ q ∈ pxX7_idle, ∀ w ∈ q, w ∈ wsX7_idle := lp_c qxX7_idle_3 (lp_c qxX7_idle_5 (lp_c qxX7_idle_7 (lp_c qxX7_idle_9 (lp_c qxX7_idle_11 (lp_c qxX7_idle_12 (lp_c qxX7_idle_2 (lp_n)))))))
set_option maxRecDepth 20000 in
theorem ggX7_idle_X7_isHop : GoodIn wsX7_idle wsX7_isHop := goodIn_pp pxX7_idle pxX7_idle_in _ [(0, 5), (0, 6), (0, 7), (0, 8), (0, 4), (0, 9), (6, 0), (6, 1), (6, 2), (6, 3), (6, 4), (6, 5), (6, 6), (6, 7), (6, 8), (6, 9), (6, 10), (6, 11), (6, 12), (6, 13), (6, 14), (6, 15), (6, 16), (6, 17), (6, 18), (6, 19), (6, 20)] rfl (by decide +kernel)
set_option maxRecDepth 20000 in
theorem gX7_idle_X7_isHop : GoodIn wsX7_idle (wsV RX7 130 RX7 yX7_isHop wsX7_isHop) := goodIn_app (goodIn_of _ (by decide +kernel)) ggX7_idle_X7_isHop
set_option maxRecDepth 20000 in
theorem ggX7_idle_X7_isSpan : GoodIn wsX7_idle wsX7_isSpan := goodIn_r _ [13, 8, 9, 5, 10] (by decide +kernel) (by decide +kernel)
set_option maxRecDepth 20000 in
theorem gX7_idle_X7_isSpan : GoodIn wsX7_idle (va_wsS RX7 253 yX7_isSpan wsX7_isSpan) := goodIn_app (goodIn_of _ (by decide +kernel)) ggX7_idle_X7_isSpan
set_option maxRecDepth 20000 in
theorem ggX7_idle_X7_idleOf : GoodIn wsX7_idle wsX7_idleOf := goodIn_pp pxX7_idle pxX7_idle_in _ [(0, 16), (0, 17), (0, 18), (0, 19), (0, 4), (0, 20), (0, 21), (0, 22), (0, 23), (1, 0), (1, 1), (1, 2), (1, 3), (1, 4), (1, 5), (1, 6), (1, 7), (1, 8), (1, 9), (1, 10), (0, 6), (1, 11), (1, 12), (1, 13), (1, 14), (1, 15), (1, 16), (1, 17), (1, 18), (1, 19), (1, 20), (1, 21), (1, 22), (1, 23), (2, 0), (2, 1), (2, 2), (2, 3), (2, 4), (2, 5), (2, 6), (2, 7), (2, 8), (2, 9), (2, 10), (2, 11), (2, 12), (2, 13), (2, 14), (2, 15), (2, 16), (2, 17), (2, 18), (2, 19), (2, 20), (2, 21), (2, 22), (2, 23), (3, 0), (3, 1), (3, 2), (3, 3), (3, 4), (3, 5), (3, 6), (3, 7), (3, 8), (3, 9), (3, 10), (3, 11), (3, 12), (3, 13), (3, 14), (3, 15), (3, 16), (3, 17), (3, 18), (3, 19), (3, 20), (3, 21), (3, 22), (3, 23), (4, 0), (4, 1), (4, 2), (4, 3), (4, 4), (4, 5), (4, 6), (4, 7), (4, 8), (4, 9), (4, 10), (4, 11), (4, 12), (4, 13), (4, 14), (4, 15), (4, 16), (4, 17), (4, 18), (4, 19), (4, 20), (4, 21), (4, 22), (4, 23), (5, 0), (5, 1), (5, 2), (5, 3), (5, 4), (5, 5), (5, 6), (5, 7), (5, 8), (5, 9), (5, 10), (5, 11), (5, 12), (5, 13), (5, 14), (5, 15), (6, 0), (6, 1), (6, 2), (6, 3), (6, 4), (6, 5), (6, 6), (6, 7), (6, 8), (6, 9), (6, 10), (6, 11), (6, 12), (6, 13), (6, 14), (6, 15), (6, 16), (6, 17), (6, 18), (6, 19), (6, 20)] rfl (by decide +kernel)
set_option maxRecDepth 20000 in
theorem gX7_idle_X7_idleOf : GoodIn wsX7_idle (wsV RX7 274 RX7 yX7_idleOf wsX7_idleOf) := goodIn_app (goodIn_of _ (by decide +kernel)) ggX7_idle_X7_idleOf
theorem dX7_idle_0 : decode cX7_idle 0 = .ok (.aload_n 0, 1) := by decide +kernel
theorem dX7_idle_1 : decode cX7_idle 1 = .ok (.iconst 0, 1) := by decide +kernel
theorem dX7_idle_2 : decode cX7_idle 2 = .ok (.putfield 49, 3) := by decide +kernel
theorem dX7_idle_5 : decode cX7_idle 5 = .ok (.aload_n 0, 1) := by decide +kernel
theorem dX7_idle_6 : decode cX7_idle 6 = .ok (.iload_n 1, 1) := by decide +kernel
theorem dX7_idle_7 : decode cX7_idle 7 = .ok (.invokevirtual 130, 3) := by decide +kernel
theorem dX7_idle_10 : decode cX7_idle 10 = .ok (.ifCond .eq 20, 3) := by decide +kernel
theorem dX7_idle_13 : decode cX7_idle 13 = .ok (.iload_n 2, 1) := by decide +kernel
theorem dX7_idle_14 : decode cX7_idle 14 = .ok (.iconst 1, 1) := by decide +kernel
theorem dX7_idle_15 : decode cX7_idle 15 = .ok (.invokestatic 253, 3) := by decide +kernel
theorem dX7_idle_18 : decode cX7_idle 18 = .ok (.ifCond .eq 12, 3) := by decide +kernel
theorem dX7_idle_21 : decode cX7_idle 21 = .ok (.aload_n 0, 1) := by decide +kernel
theorem dX7_idle_22 : decode cX7_idle 22 = .ok (.iload_n 1, 1) := by decide +kernel
theorem dX7_idle_23 : decode cX7_idle 23 = .ok (.iload_n 2, 1) := by decide +kernel
theorem dX7_idle_24 : decode cX7_idle 24 = .ok (.invokevirtual 274, 3) := by decide +kernel
theorem dX7_idle_27 : decode cX7_idle 27 = .ok (.goto 4, 3) := by decide +kernel
theorem dX7_idle_30 : decode cX7_idle 30 = .ok (.iconst (-1), 1) := by decide +kernel
theorem dX7_idle_31 : decode cX7_idle 31 = .ok (.ireturn, 1) := by decide +kernel
set_option maxRecDepth 20000 in
theorem ggX7_busiest_X7_isNet : GoodIn wsX7_busiest wsX7_isNet := goodIn_r _ [7, 2, 137, 138, 139, 140, 141, 142, 143, 144, 145, 146, 147, 148, 149, 150, 151, 152, 153, 154, 155, 156, 157] (by decide +kernel) (by decide +kernel)
set_option maxRecDepth 20000 in
theorem gX7_busiest_X7_isNet : GoodIn wsX7_busiest (wsV RX7 136 RX7 yX7_isNet wsX7_isNet) := goodIn_app (goodIn_of _ (by decide +kernel)) ggX7_busiest_X7_isNet
set_option maxRecDepth 20000 in
theorem ggX7_busiest_X7_isSpan : GoodIn wsX7_busiest wsX7_isSpan := goodIn_r _ [10, 11, 12, 6, 13] (by decide +kernel) (by decide +kernel)
set_option maxRecDepth 20000 in
theorem gX7_busiest_X7_isSpan : GoodIn wsX7_busiest (va_wsS RX7 253 yX7_isSpan wsX7_isSpan) := goodIn_app (goodIn_of _ (by decide +kernel)) ggX7_busiest_X7_isSpan
theorem qxX7_busiest_0 : ∀ w ∈ ((wsX7_busiest_r1 ++ (wsX7_busiest_r2 ++ (wsX7_busiest_r3 ++ (wsX7_busiest_r4 ++ (wsX7_busiest_r5 ++ wsX7_busiest_r6))))) ++ wsX70), w ∈ wsX7_busiest := fun w h => List.mem_cons_of_mem _ h
theorem qxX7_busiest_1 : ∀ w ∈ (wsX7_busiest_r1 ++ (wsX7_busiest_r2 ++ (wsX7_busiest_r3 ++ (wsX7_busiest_r4 ++ (wsX7_busiest_r5 ++ wsX7_busiest_r6))))), w ∈ wsX7_busiest := in_l qxX7_busiest_0
theorem qxX7_busiest_2 : ∀ w ∈ wsX70, w ∈ wsX7_busiest := in_r qxX7_busiest_0
theorem qxX7_busiest_3 : ∀ w ∈ wsX7_busiest_r1, w ∈ wsX7_busiest := in_l qxX7_busiest_1
theorem qxX7_busiest_4 : ∀ w ∈ (wsX7_busiest_r2 ++ (wsX7_busiest_r3 ++ (wsX7_busiest_r4 ++ (wsX7_busiest_r5 ++ wsX7_busiest_r6)))), w ∈ wsX7_busiest := in_r qxX7_busiest_1
theorem qxX7_busiest_5 : ∀ w ∈ wsX7_busiest_r2, w ∈ wsX7_busiest := in_l qxX7_busiest_4
theorem qxX7_busiest_6 : ∀ w ∈ (wsX7_busiest_r3 ++ (wsX7_busiest_r4 ++ (wsX7_busiest_r5 ++ wsX7_busiest_r6))), w ∈ wsX7_busiest := in_r qxX7_busiest_4
theorem qxX7_busiest_7 : ∀ w ∈ wsX7_busiest_r3, w ∈ wsX7_busiest := in_l qxX7_busiest_6
theorem qxX7_busiest_8 : ∀ w ∈ (wsX7_busiest_r4 ++ (wsX7_busiest_r5 ++ wsX7_busiest_r6)), w ∈ wsX7_busiest := in_r qxX7_busiest_6
theorem qxX7_busiest_9 : ∀ w ∈ wsX7_busiest_r4, w ∈ wsX7_busiest := in_l qxX7_busiest_8
theorem qxX7_busiest_10 : ∀ w ∈ (wsX7_busiest_r5 ++ wsX7_busiest_r6), w ∈ wsX7_busiest := in_r qxX7_busiest_8
theorem qxX7_busiest_11 : ∀ w ∈ wsX7_busiest_r5, w ∈ wsX7_busiest := in_l qxX7_busiest_10
theorem qxX7_busiest_12 : ∀ w ∈ wsX7_busiest_r6, w ∈ wsX7_busiest := in_r qxX7_busiest_10
def pxX7_busiest : List (List Cond) := [wsX7_busiest_r1, wsX7_busiest_r2, wsX7_busiest_r3, wsX7_busiest_r4, wsX7_busiest_r5, wsX7_busiest_r6, wsX70]
theorem pxX7_busiest_in : ∀ q ∈ pxX7_busiest, ∀ w ∈ q, w ∈ wsX7_busiest := lp_c qxX7_busiest_3 (lp_c qxX7_busiest_5 (lp_c qxX7_busiest_7 (lp_c qxX7_busiest_9 (lp_c qxX7_busiest_11 (lp_c qxX7_busiest_12 (lp_c qxX7_busiest_2 (lp_n)))))))
set_option maxRecDepth 20000 in
theorem ggX7_busiest_X7_idleOf : GoodIn wsX7_busiest wsX7_idleOf := goodIn_pp pxX7_busiest pxX7_busiest_in _ [(0, 16), (0, 17), (0, 18), (0, 19), (0, 5), (0, 20), (0, 21), (0, 22), (0, 23), (1, 0), (1, 1), (1, 2), (1, 3), (1, 4), (1, 5), (1, 6), (1, 7), (1, 8), (1, 9), (1, 10), (0, 1), (1, 11), (1, 12), (1, 13), (1, 14), (1, 15), (1, 16), (1, 17), (1, 18), (1, 19), (1, 20), (1, 21), (1, 22), (1, 23), (2, 0), (2, 1), (2, 2), (2, 3), (2, 4), (2, 5), (2, 6), (2, 7), (2, 8), (2, 9), (2, 10), (2, 11), (2, 12), (2, 13), (2, 14), (2, 15), (2, 16), (2, 17), (2, 18), (2, 19), (2, 20), (2, 21), (2, 22), (2, 23), (3, 0), (3, 1), (3, 2), (3, 3), (3, 4), (3, 5), (3, 6), (3, 7), (3, 8), (3, 9), (3, 10), (3, 11), (3, 12), (3, 13), (3, 14), (3, 15), (3, 16), (3, 17), (3, 18), (3, 19), (3, 20), (3, 21), (3, 22), (3, 23), (4, 0), (4, 1), (4, 2), (4, 3), (4, 4), (4, 5), (4, 6), (4, 7), (4, 8), (4, 9), (4, 10), (4, 11), (4, 12), (4, 13), (4, 14), (4, 15), (4, 16), (4, 17), (4, 18), (4, 19), (4, 20), (4, 21), (4, 22), (4, 23), (5, 0), (5, 1), (5, 2), (5, 3), (5, 4), (5, 5), (5, 6), (5, 7), (5, 8), (5, 9), (5, 10), (5, 11), (5, 12), (5, 13), (5, 14), (5, 15), (6, 0), (6, 1), (6, 2), (6, 3), (6, 4), (6, 5), (6, 6), (6, 7), (6, 8), (6, 9), (6, 10), (6, 11), (6, 12), (6, 13), (6, 14), (6, 15), (6, 16), (6, 17), (6, 18), (6, 19), (6, 20)] rfl (by decide +kernel)
set_option maxRecDepth 20000 in
theorem gX7_busiest_X7_idleOf : GoodIn wsX7_busiest (wsV RX7 274 RX7 yX7_idleOf wsX7_idleOf) := goodIn_app (goodIn_of _ (by decide +kernel)) ggX7_busiest_X7_idleOf
theorem dX7_busiest_0 : decode cX7_busiest 0 = .ok (.aload_n 0, 1) := by decide +kernel
theorem dX7_busiest_1 : decode cX7_busiest 1 = .ok (.iconst 0, 1) := by decide +kernel
theorem dX7_busiest_2 : decode cX7_busiest 2 = .ok (.putfield 49, 3) := by decide +kernel
theorem dX7_busiest_5 : decode cX7_busiest 5 = .ok (.aload_n 0, 1) := by decide +kernel
theorem dX7_busiest_6 : decode cX7_busiest 6 = .ok (.invokevirtual 136, 3) := by decide +kernel
theorem dX7_busiest_9 : decode cX7_busiest 9 = .ok (.ifCond .eq 11, 3) := by decide +kernel
theorem dX7_busiest_12 : decode cX7_busiest 12 = .ok (.iload_n 1, 1) := by decide +kernel
theorem dX7_busiest_13 : decode cX7_busiest 13 = .ok (.iconst 1, 1) := by decide +kernel
theorem dX7_busiest_14 : decode cX7_busiest 14 = .ok (.invokestatic 253, 3) := by decide +kernel
theorem dX7_busiest_17 : decode cX7_busiest 17 = .ok (.ifCond .ne 5, 3) := by decide +kernel
theorem dX7_busiest_20 : decode cX7_busiest 20 = .ok (.iconst (-1), 1) := by decide +kernel
theorem dX7_busiest_21 : decode cX7_busiest 21 = .ok (.ireturn, 1) := by decide +kernel
theorem dX7_busiest_22 : decode cX7_busiest 22 = .ok (.iconst 0, 1) := by decide +kernel
theorem dX7_busiest_23 : decode cX7_busiest 23 = .ok (.istore_n 2, 1) := by decide +kernel
theorem dX7_busiest_24 : decode cX7_busiest 24 = .ok (.iconst 1, 1) := by decide +kernel
theorem dX7_busiest_25 : decode cX7_busiest 25 = .ok (.istore_n 3, 1) := by decide +kernel
theorem dX7_busiest_26 : decode cX7_busiest 26 = .ok (.iload_n 3, 1) := by decide +kernel
theorem dX7_busiest_27 : decode cX7_busiest 27 = .ok (.aload_n 0, 1) := by decide +kernel
theorem dX7_busiest_28 : decode cX7_busiest 28 = .ok (.getfield 124, 3) := by decide +kernel
theorem dX7_busiest_31 : decode cX7_busiest 31 = .ok (.if_icmp .ge 30, 3) := by decide +kernel
theorem dX7_busiest_34 : decode cX7_busiest 34 = .ok (.aload_n 0, 1) := by decide +kernel
theorem dX7_busiest_35 : decode cX7_busiest 35 = .ok (.iload_n 3, 1) := by decide +kernel
theorem dX7_busiest_36 : decode cX7_busiest 36 = .ok (.iload_n 1, 1) := by decide +kernel
theorem dX7_busiest_37 : decode cX7_busiest 37 = .ok (.invokevirtual 274, 3) := by decide +kernel
theorem dX7_busiest_40 : decode cX7_busiest 40 = .ok (.aload_n 0, 1) := by decide +kernel
theorem dX7_busiest_41 : decode cX7_busiest 41 = .ok (.iload_n 2, 1) := by decide +kernel
theorem dX7_busiest_42 : decode cX7_busiest 42 = .ok (.iload_n 1, 1) := by decide +kernel
theorem dX7_busiest_43 : decode cX7_busiest 43 = .ok (.invokevirtual 274, 3) := by decide +kernel
theorem dX7_busiest_46 : decode cX7_busiest 46 = .ok (.if_icmp .ge 7, 3) := by decide +kernel
theorem dX7_busiest_49 : decode cX7_busiest 49 = .ok (.iload_n 3, 1) := by decide +kernel
theorem dX7_busiest_50 : decode cX7_busiest 50 = .ok (.goto 4, 3) := by decide +kernel
theorem dX7_busiest_53 : decode cX7_busiest 53 = .ok (.iload_n 2, 1) := by decide +kernel
theorem dX7_busiest_54 : decode cX7_busiest 54 = .ok (.istore_n 2, 1) := by decide +kernel
theorem dX7_busiest_55 : decode cX7_busiest 55 = .ok (.iinc 3 1, 3) := by decide +kernel
theorem dX7_busiest_58 : decode cX7_busiest 58 = .ok (.goto (-32), 3) := by decide +kernel
theorem dX7_busiest_61 : decode cX7_busiest 61 = .ok (.iload_n 2, 1) := by decide +kernel
theorem dX7_busiest_62 : decode cX7_busiest 62 = .ok (.ireturn, 1) := by decide +kernel
theorem qxX7_there_0 : ∀ w ∈ ([.fieldLink RX7 127 "HopCreditsModel" "circuits" "I", .fieldLink RX7 22 "HopCreditsModel" "now" "[I", .methodLink RX7 237 yX7_cellsOn, .instanceMethod yX7_cellsOn, .selects RX7 yX7_cellsOn yX7_cellsOn, .initialized RX7, .code yX7_cellsOn cX7_cellsOn 6 (some .int), .methodLink RX7 140 yX7_wayAt, .static yX7_wayAt, .code yX7_wayAt cX7_wayAt 2 (some .int), .methodLink RX7 184 yX7_bufferAt, .static yX7_bufferAt, .code yX7_bufferAt cX7_bufferAt 2 (some .int)] ++ wsX70), w ∈ wsX7_there := fun w h => List.mem_cons_of_mem _ h
theorem qxX7_there_1 : ∀ w ∈ [.fieldLink RX7 127 "HopCreditsModel" "circuits" "I", .fieldLink RX7 22 "HopCreditsModel" "now" "[I", .methodLink RX7 237 yX7_cellsOn, .instanceMethod yX7_cellsOn, .selects RX7 yX7_cellsOn yX7_cellsOn, .initialized RX7, .code yX7_cellsOn cX7_cellsOn 6 (some .int), .methodLink RX7 140 yX7_wayAt, .static yX7_wayAt, .code yX7_wayAt cX7_wayAt 2 (some .int), .methodLink RX7 184 yX7_bufferAt, .static yX7_bufferAt, .code yX7_bufferAt cX7_bufferAt 2 (some .int)], w ∈ wsX7_there := in_l qxX7_there_0
theorem qxX7_there_2 : ∀ w ∈ wsX70, w ∈ wsX7_there := in_r qxX7_there_0
def pxX7_there : List (List Cond) := [[.fieldLink RX7 127 "HopCreditsModel" "circuits" "I", .fieldLink RX7 22 "HopCreditsModel" "now" "[I", .methodLink RX7 237 yX7_cellsOn, .instanceMethod yX7_cellsOn, .selects RX7 yX7_cellsOn yX7_cellsOn, .initialized RX7, .code yX7_cellsOn cX7_cellsOn 6 (some .int), .methodLink RX7 140 yX7_wayAt, .static yX7_wayAt, .code yX7_wayAt cX7_wayAt 2 (some .int), .methodLink RX7 184 yX7_bufferAt, .static yX7_bufferAt, .code yX7_bufferAt cX7_bufferAt 2 (some .int)], wsX70]
theorem pxX7_there_in : ∀ q ∈ pxX7_there, ∀ w ∈ q, w ∈ wsX7_there := lp_c qxX7_there_1 (lp_c qxX7_there_2 (lp_n))
set_option maxRecDepth 20000 in
theorem ggX7_there_X7_cellsOn : GoodIn wsX7_there wsX7_cellsOn := goodIn_pp pxX7_there pxX7_there_in _ [(0, 6), (0, 1), (0, 7), (0, 8), (0, 5), (0, 9), (1, 0), (1, 1), (1, 2), (1, 3), (1, 4), (1, 5), (1, 6), (1, 7), (1, 8), (1, 9), (1, 10), (1, 11), (1, 12), (1, 13), (1, 14), (1, 15), (1, 16), (1, 17), (1, 18), (1, 19), (1, 20)] rfl (by decide +kernel)
set_option maxRecDepth 20000 in
theorem gX7_there_X7_cellsOn : GoodIn wsX7_there (wsV RX7 237 RX7 yX7_cellsOn wsX7_cellsOn) := goodIn_app (goodIn_of _ (by decide +kernel)) ggX7_there_X7_cellsOn
set_option maxRecDepth 20000 in
theorem ggX7_there_X7_bufferAt : GoodIn wsX7_there wsX7_bufferAt := goodIn_r _ [13] (by decide +kernel) (by decide +kernel)
set_option maxRecDepth 20000 in
theorem gX7_there_X7_bufferAt : GoodIn wsX7_there (va_wsS RX7 184 yX7_bufferAt wsX7_bufferAt) := goodIn_app (goodIn_of _ (by decide +kernel)) ggX7_there_X7_bufferAt
theorem dX7_there_0 : decode cX7_there 0 = .ok (.iload_n 3, 1) := by decide +kernel
theorem dX7_there_1 : decode cX7_there 1 = .ok (.iconst 1, 1) := by decide +kernel
theorem dX7_there_2 : decode cX7_there 2 = .ok (.if_icmp .le 23, 3) := by decide +kernel
theorem dX7_there_5 : decode cX7_there 5 = .ok (.aload_n 0, 1) := by decide +kernel
theorem dX7_there_6 : decode cX7_there 6 = .ok (.iload_n 1, 1) := by decide +kernel
theorem dX7_there_7 : decode cX7_there 7 = .ok (.iconst 1, 1) := by decide +kernel
theorem dX7_there_8 : decode cX7_there 8 = .ok (.isub, 1) := by decide +kernel
theorem dX7_there_9 : decode cX7_there 9 = .ok (.iload_n 3, 1) := by decide +kernel
theorem dX7_there_10 : decode cX7_there 10 = .ok (.iconst 2, 1) := by decide +kernel
theorem dX7_there_11 : decode cX7_there 11 = .ok (.if_icmp .ne 7, 3) := by decide +kernel
theorem dX7_there_14 : decode cX7_there 14 = .ok (.iconst (-1), 1) := by decide +kernel
theorem dX7_there_15 : decode cX7_there 15 = .ok (.goto 4, 3) := by decide +kernel
theorem dX7_there_18 : decode cX7_there 18 = .ok (.iload_n 2, 1) := by decide +kernel
theorem dX7_there_19 : decode cX7_there 19 = .ok (.invokevirtual 237, 3) := by decide +kernel
theorem dX7_there_22 : decode cX7_there 22 = .ok (.goto 4, 3) := by decide +kernel
theorem dX7_there_25 : decode cX7_there 25 = .ok (.iconst 0, 1) := by decide +kernel
theorem dX7_there_26 : decode cX7_there 26 = .ok (.istore 4, 2) := by decide +kernel
theorem dX7_there_28 : decode cX7_there 28 = .ok (.iconst 0, 1) := by decide +kernel
theorem dX7_there_29 : decode cX7_there 29 = .ok (.istore 5, 2) := by decide +kernel
theorem dX7_there_31 : decode cX7_there 31 = .ok (.iload 5, 2) := by decide +kernel
theorem dX7_there_33 : decode cX7_there 33 = .ok (.aload_n 0, 1) := by decide +kernel
theorem dX7_there_34 : decode cX7_there 34 = .ok (.getfield 127, 3) := by decide +kernel
theorem dX7_there_37 : decode cX7_there 37 = .ok (.if_icmp .ge 45, 3) := by decide +kernel
theorem dX7_there_40 : decode cX7_there 40 = .ok (.iload 4, 2) := by decide +kernel
theorem dX7_there_42 : decode cX7_there 42 = .ok (.iload 5, 2) := by decide +kernel
theorem dX7_there_44 : decode cX7_there 44 = .ok (.iload_n 2, 1) := by decide +kernel
theorem dX7_there_45 : decode cX7_there 45 = .ok (.if_icmp .eq 13, 3) := by decide +kernel
theorem dX7_there_48 : decode cX7_there 48 = .ok (.iload_n 3, 1) := by decide +kernel
theorem dX7_there_49 : decode cX7_there 49 = .ok (.iconst 1, 1) := by decide +kernel
theorem dX7_there_50 : decode cX7_there 50 = .ok (.if_icmp .eq 8, 3) := by decide +kernel
theorem dX7_there_53 : decode cX7_there 53 = .ok (.iload_n 3, 1) := by decide +kernel
theorem dX7_there_54 : decode cX7_there 54 = .ok (.iconst 2, 1) := by decide +kernel
theorem dX7_there_55 : decode cX7_there 55 = .ok (.if_icmp .ne 17, 3) := by decide +kernel
theorem dX7_there_58 : decode cX7_there 58 = .ok (.aload_n 0, 1) := by decide +kernel
theorem dX7_there_59 : decode cX7_there 59 = .ok (.getfield 22, 3) := by decide +kernel
theorem dX7_there_62 : decode cX7_there 62 = .ok (.iload_n 1, 1) := by decide +kernel
theorem dX7_there_63 : decode cX7_there 63 = .ok (.iload 5, 2) := by decide +kernel
theorem dX7_there_65 : decode cX7_there 65 = .ok (.invokestatic 184, 3) := by decide +kernel
theorem dX7_there_68 : decode cX7_there 68 = .ok (.iaload, 1) := by decide +kernel
theorem dX7_there_69 : decode cX7_there 69 = .ok (.goto 4, 3) := by decide +kernel
theorem dX7_there_72 : decode cX7_there 72 = .ok (.iconst 0, 1) := by decide +kernel
theorem dX7_there_73 : decode cX7_there 73 = .ok (.iadd, 1) := by decide +kernel
theorem dX7_there_74 : decode cX7_there 74 = .ok (.istore 4, 2) := by decide +kernel
theorem dX7_there_76 : decode cX7_there 76 = .ok (.iinc 5 1, 3) := by decide +kernel
theorem dX7_there_79 : decode cX7_there 79 = .ok (.goto (-48), 3) := by decide +kernel
theorem dX7_there_82 : decode cX7_there 82 = .ok (.iload 4, 2) := by decide +kernel
theorem dX7_there_84 : decode cX7_there 84 = .ok (.ireturn, 1) := by decide +kernel
theorem qxX7_most_0 : ∀ w ∈ ((wsX7_most_r1 ++ (wsX7_most_r2 ++ (wsX7_most_r3 ++ (wsX7_most_r4 ++ (wsX7_most_r5 ++ wsX7_most_r6))))) ++ wsX70), w ∈ wsX7_most := fun w h => List.mem_cons_of_mem _ h
theorem qxX7_most_1 : ∀ w ∈ (wsX7_most_r1 ++ (wsX7_most_r2 ++ (wsX7_most_r3 ++ (wsX7_most_r4 ++ (wsX7_most_r5 ++ wsX7_most_r6))))), w ∈ wsX7_most := in_l qxX7_most_0
theorem qxX7_most_2 : ∀ w ∈ wsX70, w ∈ wsX7_most := in_r qxX7_most_0
theorem qxX7_most_3 : ∀ w ∈ wsX7_most_r1, w ∈ wsX7_most := in_l qxX7_most_1
theorem qxX7_most_4 : ∀ w ∈ (wsX7_most_r2 ++ (wsX7_most_r3 ++ (wsX7_most_r4 ++ (wsX7_most_r5 ++ wsX7_most_r6)))), w ∈ wsX7_most := in_r qxX7_most_1
theorem qxX7_most_5 : ∀ w ∈ wsX7_most_r2, w ∈ wsX7_most := in_l qxX7_most_4
theorem qxX7_most_6 : ∀ w ∈ (wsX7_most_r3 ++ (wsX7_most_r4 ++ (wsX7_most_r5 ++ wsX7_most_r6))), w ∈ wsX7_most := in_r qxX7_most_4
theorem qxX7_most_7 : ∀ w ∈ wsX7_most_r3, w ∈ wsX7_most := in_l qxX7_most_6
theorem qxX7_most_8 : ∀ w ∈ (wsX7_most_r4 ++ (wsX7_most_r5 ++ wsX7_most_r6)), w ∈ wsX7_most := in_r qxX7_most_6
theorem qxX7_most_9 : ∀ w ∈ wsX7_most_r4, w ∈ wsX7_most := in_l qxX7_most_8
theorem qxX7_most_10 : ∀ w ∈ (wsX7_most_r5 ++ wsX7_most_r6), w ∈ wsX7_most := in_r qxX7_most_8
theorem qxX7_most_11 : ∀ w ∈ wsX7_most_r5, w ∈ wsX7_most := in_l qxX7_most_10
theorem qxX7_most_12 : ∀ w ∈ wsX7_most_r6, w ∈ wsX7_most := in_r qxX7_most_10
def pxX7_most : List (List Cond) := [wsX7_most_r1, wsX7_most_r2, wsX7_most_r3, wsX7_most_r4, wsX7_most_r5, wsX7_most_r6, wsX70]
theorem pxX7_most_in : ∀ q ∈ pxX7_most, ∀ w ∈ q, w ∈ wsX7_most := lp_c qxX7_most_3 (lp_c qxX7_most_5 (lp_c qxX7_most_7 (lp_c qxX7_most_9 (lp_c qxX7_most_11 (lp_c qxX7_most_12 (lp_c qxX7_most_2 (lp_n)))))))
set_option maxRecDepth 20000 in
theorem ggX7_most_X7_isNode : GoodIn wsX7_most wsX7_isNode := goodIn_pp pxX7_most pxX7_most_in _ [(0, 9), (0, 10), (0, 11), (0, 12), (0, 13), (0, 8), (0, 14), (0, 15), (0, 16), (0, 17), (6, 0), (6, 1), (6, 2), (6, 3), (6, 4), (6, 5), (6, 6), (6, 7), (6, 8), (6, 9), (6, 10), (6, 11), (6, 12), (6, 13), (6, 14), (6, 15), (6, 16), (6, 17), (6, 18), (6, 19), (6, 20)] rfl (by decide +kernel)
set_option maxRecDepth 20000 in
theorem gX7_most_X7_isNode : GoodIn wsX7_most (wsV RX7 250 RX7 yX7_isNode wsX7_isNode) := goodIn_app (goodIn_of _ (by decide +kernel)) ggX7_most_X7_isNode
set_option maxRecDepth 20000 in
theorem ggX7_most_X7_isCircuit : GoodIn wsX7_most wsX7_isCircuit := goodIn_pp pxX7_most pxX7_most_in _ [(0, 21), (0, 22), (0, 15), (0, 16), (0, 8), (0, 17), (6, 0), (6, 1), (6, 2), (6, 3), (6, 4), (6, 5), (6, 6), (6, 7), (6, 8), (6, 9), (6, 10), (6, 11), (6, 12), (6, 13), (6, 14), (6, 15), (6, 16), (6, 17), (6, 18), (6, 19), (6, 20)] rfl (by decide +kernel)
set_option maxRecDepth 20000 in
theorem gX7_most_X7_isCircuit : GoodIn wsX7_most (wsV RX7 133 RX7 yX7_isCircuit wsX7_isCircuit) := goodIn_app (goodIn_of _ (by decide +kernel)) ggX7_most_X7_isCircuit
set_option maxRecDepth 20000 in
theorem ggX7_most_X7_in : GoodIn wsX7_most wsX7_in := goodIn_r _ [18] (by decide +kernel) (by decide +kernel)
set_option maxRecDepth 20000 in
theorem gX7_most_X7_in : GoodIn wsX7_most (va_wsS RX7 60 yX7_in wsX7_in) := goodIn_app (goodIn_of _ (by decide +kernel)) ggX7_most_X7_in
set_option maxRecDepth 20000 in
theorem ggX7_most_X7_isSpan : GoodIn wsX7_most wsX7_isSpan := goodIn_r _ [26, 16, 17, 9, 18] (by decide +kernel) (by decide +kernel)
set_option maxRecDepth 20000 in
theorem gX7_most_X7_isSpan : GoodIn wsX7_most (va_wsS RX7 253 yX7_isSpan wsX7_isSpan) := goodIn_app (goodIn_of _ (by decide +kernel)) ggX7_most_X7_isSpan
set_option maxRecDepth 20000 in
theorem ggX7_most_X7_putAside : GoodIn wsX7_most wsX7_putAside := goodIn_r _ [30, 31, 32, 145, 146, 147, 148, 149, 150, 151, 152, 153, 154, 155, 156, 157, 158, 159, 160, 161, 162, 163, 164, 165] (by decide +kernel) (by decide +kernel)
set_option maxRecDepth 20000 in
theorem gX7_most_X7_putAside : GoodIn wsX7_most (wsV RX7 256 RX7 yX7_putAside wsX7_putAside) := goodIn_app (goodIn_of _ (by decide +kernel)) ggX7_most_X7_putAside
set_option maxRecDepth 20000 in
theorem ggX7_most_X7_there : GoodIn wsX7_most wsX7_there := goodIn_pp pxX7_most pxX7_most_in _ [(1, 11), (0, 22), (1, 7), (1, 12), (1, 13), (1, 14), (0, 8), (1, 15), (1, 16), (1, 17), (1, 18), (1, 19), (1, 20), (1, 21), (6, 0), (6, 1), (6, 2), (6, 3), (6, 4), (6, 5), (6, 6), (6, 7), (6, 8), (6, 9), (6, 10), (6, 11), (6, 12), (6, 13), (6, 14), (6, 15), (6, 16), (6, 17), (6, 18), (6, 19), (6, 20)] rfl (by decide +kernel)
set_option maxRecDepth 20000 in
theorem gX7_most_X7_there : GoodIn wsX7_most (wsV RX7 277 RX7 yX7_there wsX7_there) := goodIn_app (goodIn_of _ (by decide +kernel)) ggX7_most_X7_there
set_option maxRecDepth 20000 in
theorem ggX7_most_X7_ticks : GoodIn wsX7_most wsX7_ticks := goodIn_pp pxX7_most pxX7_most_in _ [(2, 1), (0, 10), (0, 22), (2, 2), (1, 7), (2, 3), (2, 4), (2, 5), (0, 8), (2, 6), (1, 16), (1, 17), (1, 18), (1, 19), (1, 20), (1, 21), (2, 7), (2, 8), (2, 9), (2, 10), (2, 11), (2, 12), (2, 13), (2, 14), (2, 15), (2, 16), (2, 17), (2, 18), (2, 19), (2, 20), (2, 21), (2, 22), (2, 23), (3, 0), (3, 1), (3, 2), (3, 3), (3, 4), (3, 5), (3, 6), (3, 7), (3, 8), (3, 9), (3, 10), (3, 11), (3, 12), (3, 13), (3, 14), (3, 15), (0, 1), (0, 2), (0, 3), (0, 4), (3, 16), (3, 17), (3, 18), (3, 19), (3, 20), (3, 21), (3, 22), (3, 23), (4, 0), (4, 1), (4, 2), (4, 3), (4, 4), (4, 5), (4, 6), (4, 7), (4, 8), (4, 9), (4, 10), (4, 11), (4, 12), (4, 13), (4, 14), (4, 15), (4, 16), (4, 17), (4, 18), (4, 19), (4, 20), (4, 21), (4, 22), (4, 23), (5, 0), (5, 1), (5, 2), (5, 3), (5, 4), (5, 5), (5, 6), (5, 7), (5, 8), (5, 9), (5, 10), (5, 11), (5, 12), (5, 13), (5, 14), (5, 15), (5, 16), (5, 17), (5, 18), (5, 19), (6, 0), (6, 1), (6, 2), (6, 3), (6, 4), (6, 5), (6, 6), (6, 7), (6, 8), (6, 9), (6, 10), (6, 11), (6, 12), (6, 13), (6, 14), (6, 15), (6, 16), (6, 17), (6, 18), (6, 19), (6, 20)] rfl (by decide +kernel)
set_option maxRecDepth 20000 in
theorem gX7_most_X7_ticks : GoodIn wsX7_most (wsV RX7 226 RX7 yX7_ticks wsX7_ticks) := goodIn_app (goodIn_of _ (by decide +kernel)) ggX7_most_X7_ticks
set_option maxRecDepth 20000 in
theorem ggX7_most_X7_bringBack : GoodIn wsX7_most wsX7_bringBack := goodIn_r _ [144, 32, 31, 145, 146, 147, 148, 149, 150, 151, 152, 153, 154, 155, 156, 157, 158, 159, 160, 161, 162, 163, 164, 165] (by decide +kernel) (by decide +kernel)
set_option maxRecDepth 20000 in
theorem gX7_most_X7_bringBack : GoodIn wsX7_most (wsV RX7 262 RX7 yX7_bringBack wsX7_bringBack) := goodIn_app (goodIn_of _ (by decide +kernel)) ggX7_most_X7_bringBack
theorem dX7_most_0 : decode cX7_most 0 = .ok (.aload_n 0, 1) := by decide +kernel
theorem dX7_most_1 : decode cX7_most 1 = .ok (.iconst 0, 1) := by decide +kernel
theorem dX7_most_2 : decode cX7_most 2 = .ok (.putfield 49, 3) := by decide +kernel
theorem dX7_most_5 : decode cX7_most 5 = .ok (.aload_n 0, 1) := by decide +kernel
theorem dX7_most_6 : decode cX7_most 6 = .ok (.iload_n 1, 1) := by decide +kernel
theorem dX7_most_7 : decode cX7_most 7 = .ok (.invokevirtual 250, 3) := by decide +kernel
theorem dX7_most_10 : decode cX7_most 10 = .ok (.ifCond .eq 38, 3) := by decide +kernel
theorem dX7_most_13 : decode cX7_most 13 = .ok (.aload_n 0, 1) := by decide +kernel
theorem dX7_most_14 : decode cX7_most 14 = .ok (.iload_n 2, 1) := by decide +kernel
theorem dX7_most_15 : decode cX7_most 15 = .ok (.invokevirtual 133, 3) := by decide +kernel
theorem dX7_most_18 : decode cX7_most 18 = .ok (.ifCond .eq 30, 3) := by decide +kernel
theorem dX7_most_21 : decode cX7_most 21 = .ok (.iload_n 3, 1) := by decide +kernel
theorem dX7_most_22 : decode cX7_most 22 = .ok (.iconst 0, 1) := by decide +kernel
theorem dX7_most_23 : decode cX7_most 23 = .ok (.iconst 3, 1) := by decide +kernel
theorem dX7_most_24 : decode cX7_most 24 = .ok (.invokestatic 60, 3) := by decide +kernel
theorem dX7_most_27 : decode cX7_most 27 = .ok (.ifCond .eq 21, 3) := by decide +kernel
theorem dX7_most_30 : decode cX7_most 30 = .ok (.iload_n 3, 1) := by decide +kernel
theorem dX7_most_31 : decode cX7_most 31 = .ok (.iconst 1, 1) := by decide +kernel
theorem dX7_most_32 : decode cX7_most 32 = .ok (.if_icmp .le 7, 3) := by decide +kernel
theorem dX7_most_35 : decode cX7_most 35 = .ok (.iload_n 1, 1) := by decide +kernel
theorem dX7_most_36 : decode cX7_most 36 = .ok (.ifCond .eq 12, 3) := by decide +kernel
theorem dX7_most_39 : decode cX7_most 39 = .ok (.iload 4, 2) := by decide +kernel
theorem dX7_most_41 : decode cX7_most 41 = .ok (.iconst 0, 1) := by decide +kernel
theorem dX7_most_42 : decode cX7_most 42 = .ok (.invokestatic 253, 3) := by decide +kernel
theorem dX7_most_45 : decode cX7_most 45 = .ok (.ifCond .ne 5, 3) := by decide +kernel
theorem dX7_most_48 : decode cX7_most 48 = .ok (.iconst (-1), 1) := by decide +kernel
theorem dX7_most_49 : decode cX7_most 49 = .ok (.ireturn, 1) := by decide +kernel
theorem dX7_most_50 : decode cX7_most 50 = .ok (.aload_n 0, 1) := by decide +kernel
theorem dX7_most_51 : decode cX7_most 51 = .ok (.invokevirtual 256, 3) := by decide +kernel
theorem dX7_most_54 : decode cX7_most 54 = .ok (.aload_n 0, 1) := by decide +kernel
theorem dX7_most_55 : decode cX7_most 55 = .ok (.iload_n 1, 1) := by decide +kernel
theorem dX7_most_56 : decode cX7_most 56 = .ok (.iload_n 2, 1) := by decide +kernel
theorem dX7_most_57 : decode cX7_most 57 = .ok (.iload_n 3, 1) := by decide +kernel
theorem dX7_most_58 : decode cX7_most 58 = .ok (.invokevirtual 277, 3) := by decide +kernel
theorem dX7_most_61 : decode cX7_most 61 = .ok (.istore 5, 2) := by decide +kernel
theorem dX7_most_63 : decode cX7_most 63 = .ok (.iconst 0, 1) := by decide +kernel
theorem dX7_most_64 : decode cX7_most 64 = .ok (.istore 6, 2) := by decide +kernel
theorem dX7_most_66 : decode cX7_most 66 = .ok (.iload 6, 2) := by decide +kernel
theorem dX7_most_68 : decode cX7_most 68 = .ok (.iload 4, 2) := by decide +kernel
theorem dX7_most_70 : decode cX7_most 70 = .ok (.if_icmp .ge 27, 3) := by decide +kernel
theorem dX7_most_73 : decode cX7_most 73 = .ok (.aload_n 0, 1) := by decide +kernel
theorem dX7_most_74 : decode cX7_most 74 = .ok (.invokevirtual 226, 3) := by decide +kernel
theorem dX7_most_77 : decode cX7_most 77 = .ok (.iload 5, 2) := by decide +kernel
theorem dX7_most_79 : decode cX7_most 79 = .ok (.aload_n 0, 1) := by decide +kernel
theorem dX7_most_80 : decode cX7_most 80 = .ok (.iload_n 1, 1) := by decide +kernel
theorem dX7_most_81 : decode cX7_most 81 = .ok (.iload_n 2, 1) := by decide +kernel
