theorem dX7_net_17 : decode cX7_net 17 = .ok (.putfield 57, 3) := by decide +kernel
theorem dX7_net_20 : decode cX7_net 20 = .ok (.aload_n 0, 1) := by decide +kernel
theorem dX7_net_21 : decode cX7_net 21 = .ok (.getfield 111, 3) := by decide +kernel
theorem dX7_net_24 : decode cX7_net 24 = .ok (.ifCond .ne 18, 3) := by decide +kernel
theorem dX7_net_27 : decode cX7_net 27 = .ok (.aload_n 0, 1) := by decide +kernel
theorem dX7_net_28 : decode cX7_net 28 = .ok (.iconst 1, 1) := by decide +kernel
theorem dX7_net_29 : decode cX7_net 29 = .ok (.aload_n 0, 1) := by decide +kernel
theorem dX7_net_30 : decode cX7_net 30 = .ok (.getfield 16, 3) := by decide +kernel
theorem dX7_net_33 : decode cX7_net 33 = .ok (.iconst 0, 1) := by decide +kernel
theorem dX7_net_34 : decode cX7_net 34 = .ok (.invokevirtual 88, 3) := by decide +kernel
theorem dX7_net_37 : decode cX7_net 37 = .ok (.aload_n 0, 1) := by decide +kernel
theorem dX7_net_38 : decode cX7_net 38 = .ok (.iconst 1, 1) := by decide +kernel
theorem dX7_net_39 : decode cX7_net 39 = .ok (.putfield 111, 3) := by decide +kernel
theorem dX7_net_42 : decode cX7_net 42 = .ok (.aload_n 0, 1) := by decide +kernel
theorem dX7_net_43 : decode cX7_net 43 = .ok (.getfield 114, 3) := by decide +kernel
theorem dX7_net_46 : decode cX7_net 46 = .ok (.ifCond .ne 18, 3) := by decide +kernel
theorem dX7_net_49 : decode cX7_net 49 = .ok (.aload_n 0, 1) := by decide +kernel
theorem dX7_net_50 : decode cX7_net 50 = .ok (.iconst 2, 1) := by decide +kernel
theorem dX7_net_51 : decode cX7_net 51 = .ok (.aload_n 0, 1) := by decide +kernel
theorem dX7_net_52 : decode cX7_net 52 = .ok (.getfield 19, 3) := by decide +kernel
theorem dX7_net_55 : decode cX7_net 55 = .ok (.iconst 0, 1) := by decide +kernel
theorem dX7_net_56 : decode cX7_net 56 = .ok (.invokevirtual 88, 3) := by decide +kernel
theorem dX7_net_59 : decode cX7_net 59 = .ok (.aload_n 0, 1) := by decide +kernel
theorem dX7_net_60 : decode cX7_net 60 = .ok (.iconst 1, 1) := by decide +kernel
theorem dX7_net_61 : decode cX7_net 61 = .ok (.putfield 114, 3) := by decide +kernel
theorem dX7_net_64 : decode cX7_net 64 = .ok (.aload_n 0, 1) := by decide +kernel
theorem dX7_net_65 : decode cX7_net 65 = .ok (.aload_n 0, 1) := by decide +kernel
theorem dX7_net_66 : decode cX7_net 66 = .ok (.getfield 111, 3) := by decide +kernel
theorem dX7_net_69 : decode cX7_net 69 = .ok (.putfield 124, 3) := by decide +kernel
theorem dX7_net_72 : decode cX7_net 72 = .ok (.aload_n 0, 1) := by decide +kernel
theorem dX7_net_73 : decode cX7_net 73 = .ok (.aload_n 0, 1) := by decide +kernel
theorem dX7_net_74 : decode cX7_net 74 = .ok (.getfield 114, 3) := by decide +kernel
theorem dX7_net_77 : decode cX7_net 77 = .ok (.putfield 127, 3) := by decide +kernel
theorem dX7_net_80 : decode cX7_net 80 = .ok (.iconst 0, 1) := by decide +kernel
theorem dX7_net_81 : decode cX7_net 81 = .ok (.istore_n 1, 1) := by decide +kernel
theorem dX7_net_82 : decode cX7_net 82 = .ok (.iload_n 1, 1) := by decide +kernel
theorem dX7_net_83 : decode cX7_net 83 = .ok (.sipush 1767, 3) := by decide +kernel
theorem dX7_net_86 : decode cX7_net 86 = .ok (.if_icmp .ge 16, 3) := by decide +kernel
theorem dX7_net_89 : decode cX7_net 89 = .ok (.aload_n 0, 1) := by decide +kernel
theorem dX7_net_90 : decode cX7_net 90 = .ok (.getfield 22, 3) := by decide +kernel
theorem dX7_net_93 : decode cX7_net 93 = .ok (.iload_n 1, 1) := by decide +kernel
theorem dX7_net_94 : decode cX7_net 94 = .ok (.iconst 0, 1) := by decide +kernel
theorem dX7_net_95 : decode cX7_net 95 = .ok (.iastore, 1) := by decide +kernel
theorem dX7_net_96 : decode cX7_net 96 = .ok (.iinc 1 1, 3) := by decide +kernel
theorem dX7_net_99 : decode cX7_net 99 = .ok (.goto (-17), 3) := by decide +kernel
theorem dX7_net_102 : decode cX7_net 102 = .ok (.iconst 0, 1) := by decide +kernel
theorem dX7_net_103 : decode cX7_net 103 = .ok (.istore_n 1, 1) := by decide +kernel
theorem dX7_net_104 : decode cX7_net 104 = .ok (.iload_n 1, 1) := by decide +kernel
theorem dX7_net_105 : decode cX7_net 105 = .ok (.iconst 3, 1) := by decide +kernel
theorem dX7_net_106 : decode cX7_net 106 = .ok (.if_icmp .ge 21, 3) := by decide +kernel
theorem dX7_net_109 : decode cX7_net 109 = .ok (.aload_n 0, 1) := by decide +kernel
theorem dX7_net_110 : decode cX7_net 110 = .ok (.getfield 28, 3) := by decide +kernel
theorem dX7_net_113 : decode cX7_net 113 = .ok (.iload_n 1, 1) := by decide +kernel
theorem dX7_net_114 : decode cX7_net 114 = .ok (.aload_n 0, 1) := by decide +kernel
theorem dX7_net_115 : decode cX7_net 115 = .ok (.getfield 13, 3) := by decide +kernel
theorem dX7_net_118 : decode cX7_net 118 = .ok (.iload_n 1, 1) := by decide +kernel
theorem dX7_net_119 : decode cX7_net 119 = .ok (.iaload, 1) := by decide +kernel
theorem dX7_net_120 : decode cX7_net 120 = .ok (.iastore, 1) := by decide +kernel
theorem dX7_net_121 : decode cX7_net 121 = .ok (.iinc 1 1, 3) := by decide +kernel
theorem dX7_net_124 : decode cX7_net 124 = .ok (.goto (-20), 3) := by decide +kernel
theorem dX7_net_127 : decode cX7_net 127 = .ok (.iconst 0, 1) := by decide +kernel
theorem dX7_net_128 : decode cX7_net 128 = .ok (.istore_n 1, 1) := by decide +kernel
theorem dX7_net_129 : decode cX7_net 129 = .ok (.iload_n 1, 1) := by decide +kernel
theorem dX7_net_130 : decode cX7_net 130 = .ok (.aload_n 0, 1) := by decide +kernel
theorem dX7_net_131 : decode cX7_net 131 = .ok (.getfield 124, 3) := by decide +kernel
theorem dX7_net_134 : decode cX7_net 134 = .ok (.if_icmp .ge 14, 3) := by decide +kernel
theorem dX7_net_137 : decode cX7_net 137 = .ok (.aload_n 0, 1) := by decide +kernel
theorem dX7_net_138 : decode cX7_net 138 = .ok (.iload_n 1, 1) := by decide +kernel
theorem dX7_net_139 : decode cX7_net 139 = .ok (.invokevirtual 143, 3) := by decide +kernel
theorem dX7_net_142 : decode cX7_net 142 = .ok (.iinc 1 1, 3) := by decide +kernel
theorem dX7_net_145 : decode cX7_net 145 = .ok (.goto (-16), 3) := by decide +kernel
theorem dX7_net_148 : decode cX7_net 148 = .ok (.iconst 0, 1) := by decide +kernel
theorem dX7_net_149 : decode cX7_net 149 = .ok (.istore_n 1, 1) := by decide +kernel
theorem dX7_net_150 : decode cX7_net 150 = .ok (.iload_n 1, 1) := by decide +kernel
theorem dX7_net_151 : decode cX7_net 151 = .ok (.aload_n 0, 1) := by decide +kernel
theorem dX7_net_152 : decode cX7_net 152 = .ok (.getfield 127, 3) := by decide +kernel
theorem dX7_net_155 : decode cX7_net 155 = .ok (.if_icmp .ge 56, 3) := by decide +kernel
theorem dX7_net_158 : decode cX7_net 158 = .ok (.iconst 0, 1) := by decide +kernel
theorem dX7_net_159 : decode cX7_net 159 = .ok (.istore_n 2, 1) := by decide +kernel
theorem dX7_net_160 : decode cX7_net 160 = .ok (.iload_n 2, 1) := by decide +kernel
theorem dX7_net_161 : decode cX7_net 161 = .ok (.iconst 3, 1) := by decide +kernel
theorem dX7_net_162 : decode cX7_net 162 = .ok (.if_icmp .ge 30, 3) := by decide +kernel
theorem dX7_net_165 : decode cX7_net 165 = .ok (.aload_n 0, 1) := by decide +kernel
theorem dX7_net_166 : decode cX7_net 166 = .ok (.getfield 22, 3) := by decide +kernel
theorem dX7_net_169 : decode cX7_net 169 = .ok (.iload_n 1, 1) := by decide +kernel
theorem dX7_net_170 : decode cX7_net 170 = .ok (.invokestatic 147, 3) := by decide +kernel
theorem dX7_net_173 : decode cX7_net 173 = .ok (.iload_n 2, 1) := by decide +kernel
theorem dX7_net_174 : decode cX7_net 174 = .ok (.iadd, 1) := by decide +kernel
theorem dX7_net_175 : decode cX7_net 175 = .ok (.aload_n 0, 1) := by decide +kernel
theorem dX7_net_176 : decode cX7_net 176 = .ok (.getfield 19, 3) := by decide +kernel
theorem dX7_net_179 : decode cX7_net 179 = .ok (.iconst 3, 1) := by decide +kernel
theorem dX7_net_180 : decode cX7_net 180 = .ok (.iload_n 1, 1) := by decide +kernel
theorem dX7_net_181 : decode cX7_net 181 = .ok (.imul, 1) := by decide +kernel
theorem dX7_net_182 : decode cX7_net 182 = .ok (.iload_n 2, 1) := by decide +kernel
theorem dX7_net_183 : decode cX7_net 183 = .ok (.iadd, 1) := by decide +kernel
theorem dX7_net_184 : decode cX7_net 184 = .ok (.iaload, 1) := by decide +kernel
theorem dX7_net_185 : decode cX7_net 185 = .ok (.iastore, 1) := by decide +kernel
theorem dX7_net_186 : decode cX7_net 186 = .ok (.iinc 2 1, 3) := by decide +kernel
theorem dX7_net_189 : decode cX7_net 189 = .ok (.goto (-29), 3) := by decide +kernel
theorem dX7_net_192 : decode cX7_net 192 = .ok (.aload_n 0, 1) := by decide +kernel
theorem dX7_net_193 : decode cX7_net 193 = .ok (.getfield 22, 3) := by decide +kernel
theorem dX7_net_196 : decode cX7_net 196 = .ok (.iload_n 1, 1) := by decide +kernel
theorem dX7_net_197 : decode cX7_net 197 = .ok (.invokestatic 147, 3) := by decide +kernel
theorem dX7_net_200 : decode cX7_net 200 = .ok (.bipush 6, 2) := by decide +kernel
theorem dX7_net_202 : decode cX7_net 202 = .ok (.iadd, 1) := by decide +kernel
theorem dX7_net_203 : decode cX7_net 203 = .ok (.iconst (-1), 1) := by decide +kernel
theorem dX7_net_204 : decode cX7_net 204 = .ok (.iastore, 1) := by decide +kernel
theorem dX7_net_205 : decode cX7_net 205 = .ok (.iinc 1 1, 3) := by decide +kernel
theorem dX7_net_208 : decode cX7_net 208 = .ok (.goto (-58), 3) := by decide +kernel
theorem dX7_net_211 : decode cX7_net 211 = .ok (.aload_n 0, 1) := by decide +kernel
theorem dX7_net_212 : decode cX7_net 212 = .ok (.getfield 127, 3) := by decide +kernel
theorem dX7_net_215 : decode cX7_net 215 = .ok (.ireturn, 1) := by decide +kernel
set_option maxRecDepth 20000 in
theorem ggX7_laysHop_X7_pool : GoodIn wsX7_laysHop wsX7_pool := goodIn_r _ [14, 1, 25, 26, 27, 28, 29, 30, 31, 32, 33, 34, 35, 36, 37, 38, 39, 40, 41, 42, 43, 44, 45] (by decide +kernel) (by decide +kernel)
set_option maxRecDepth 20000 in
theorem gX7_laysHop_X7_pool : GoodIn wsX7_laysHop (wsV RX7 151 RX7 yX7_pool wsX7_pool) := goodIn_app (goodIn_of _ (by decide +kernel)) ggX7_laysHop_X7_pool
theorem qxX7_laysHop_0 : ∀ w ∈ ([.fieldLink RX7 31 "HopCreditsModel" "hop" "[I", .fieldLink RX7 16 "HopCreditsModel" "readHop" "[I", .fieldLink RX7 28 "HopCreditsModel" "rule" "[I", .fieldLink RX7 127 "HopCreditsModel" "circuits" "I", .methodLink RX7 154 Lib.Math.max.name, .static Lib.Math.max.name, .initialized "java/lang/Math", .code Lib.Math.max.name Lib.Math.max.code 2 (some .int), .fieldLink RX7 22 "HopCreditsModel" "now" "[I", .methodLink RX7 151 yX7_pool, .instanceMethod yX7_pool, .selects RX7 yX7_pool yX7_pool, .initialized RX7, .code yX7_pool cX7_pool 2 (some .int), .methodLink RX7 159 yX7_clearsWay, .instanceMethod yX7_clearsWay, .selects RX7 yX7_clearsWay yX7_clearsWay, .code yX7_clearsWay cX7_clearsWay 5 none, .methodLink RX7 140 yX7_wayAt, .static yX7_wayAt, .code yX7_wayAt cX7_wayAt 2 (some .int), .methodLink RX7 163 yX7_lane, .static yX7_lane, .code yX7_lane cX7_lane 2 (some .int)] ++ wsX70), w ∈ wsX7_laysHop := fun w h => List.mem_cons_of_mem _ h
theorem qxX7_laysHop_1 : ∀ w ∈ [.fieldLink RX7 31 "HopCreditsModel" "hop" "[I", .fieldLink RX7 16 "HopCreditsModel" "readHop" "[I", .fieldLink RX7 28 "HopCreditsModel" "rule" "[I", .fieldLink RX7 127 "HopCreditsModel" "circuits" "I", .methodLink RX7 154 Lib.Math.max.name, .static Lib.Math.max.name, .initialized "java/lang/Math", .code Lib.Math.max.name Lib.Math.max.code 2 (some .int), .fieldLink RX7 22 "HopCreditsModel" "now" "[I", .methodLink RX7 151 yX7_pool, .instanceMethod yX7_pool, .selects RX7 yX7_pool yX7_pool, .initialized RX7, .code yX7_pool cX7_pool 2 (some .int), .methodLink RX7 159 yX7_clearsWay, .instanceMethod yX7_clearsWay, .selects RX7 yX7_clearsWay yX7_clearsWay, .code yX7_clearsWay cX7_clearsWay 5 none, .methodLink RX7 140 yX7_wayAt, .static yX7_wayAt, .code yX7_wayAt cX7_wayAt 2 (some .int), .methodLink RX7 163 yX7_lane, .static yX7_lane, .code yX7_lane cX7_lane 2 (some .int)], w ∈ wsX7_laysHop := in_l qxX7_laysHop_0
theorem qxX7_laysHop_2 : ∀ w ∈ wsX70, w ∈ wsX7_laysHop := in_r qxX7_laysHop_0
def pxX7_laysHop : List (List Cond) := [[.fieldLink RX7 31 "HopCreditsModel" "hop" "[I", .fieldLink RX7 16 "HopCreditsModel" "readHop" "[I", .fieldLink RX7 28 "HopCreditsModel" "rule" "[I", .fieldLink RX7 127 "HopCreditsModel" "circuits" "I", .methodLink RX7 154 Lib.Math.max.name, .static Lib.Math.max.name, .initialized "java/lang/Math", .code Lib.Math.max.name Lib.Math.max.code 2 (some .int), .fieldLink RX7 22 "HopCreditsModel" "now" "[I", .methodLink RX7 151 yX7_pool, .instanceMethod yX7_pool, .selects RX7 yX7_pool yX7_pool, .initialized RX7, .code yX7_pool cX7_pool 2 (some .int), .methodLink RX7 159 yX7_clearsWay, .instanceMethod yX7_clearsWay, .selects RX7 yX7_clearsWay yX7_clearsWay, .code yX7_clearsWay cX7_clearsWay 5 none, .methodLink RX7 140 yX7_wayAt, .static yX7_wayAt, .code yX7_wayAt cX7_wayAt 2 (some .int), .methodLink RX7 163 yX7_lane, .static yX7_lane, .code yX7_lane cX7_lane 2 (some .int)], wsX70]
theorem pxX7_laysHop_in : ∀ q ∈ pxX7_laysHop, ∀ w ∈ q, w ∈ wsX7_laysHop := lp_c qxX7_laysHop_1 (lp_c qxX7_laysHop_2 (lp_n))
set_option maxRecDepth 20000 in
theorem ggX7_laysHop_X7_clearsWay : GoodIn wsX7_laysHop wsX7_clearsWay := goodIn_pp pxX7_laysHop pxX7_laysHop_in _ [(0, 17), (0, 8), (0, 18), (0, 19), (0, 12), (0, 20), (1, 0), (1, 1), (1, 2), (1, 3), (1, 4), (1, 5), (1, 6), (1, 7), (1, 8), (1, 9), (1, 10), (1, 11), (1, 12), (1, 13), (1, 14), (1, 15), (1, 16), (1, 17), (1, 18), (1, 19), (1, 20)] rfl (by decide +kernel)
set_option maxRecDepth 20000 in
theorem gX7_laysHop_X7_clearsWay : GoodIn wsX7_laysHop (wsV RX7 159 RX7 yX7_clearsWay wsX7_clearsWay) := goodIn_app (goodIn_of _ (by decide +kernel)) ggX7_laysHop_X7_clearsWay
set_option maxRecDepth 20000 in
theorem ggX7_laysHop_X7_lane : GoodIn wsX7_laysHop wsX7_lane := goodIn_r _ [24] (by decide +kernel) (by decide +kernel)
set_option maxRecDepth 20000 in
theorem gX7_laysHop_X7_lane : GoodIn wsX7_laysHop (va_wsS RX7 163 yX7_lane wsX7_lane) := goodIn_app (goodIn_of _ (by decide +kernel)) ggX7_laysHop_X7_lane
theorem dX7_laysHop_0 : decode cX7_laysHop 0 = .ok (.iconst 0, 1) := by decide +kernel
theorem dX7_laysHop_1 : decode cX7_laysHop 1 = .ok (.istore_n 2, 1) := by decide +kernel
theorem dX7_laysHop_2 : decode cX7_laysHop 2 = .ok (.iload_n 2, 1) := by decide +kernel
theorem dX7_laysHop_3 : decode cX7_laysHop 3 = .ok (.iconst 3, 1) := by decide +kernel
theorem dX7_laysHop_4 : decode cX7_laysHop 4 = .ok (.if_icmp .ge 29, 3) := by decide +kernel
theorem dX7_laysHop_7 : decode cX7_laysHop 7 = .ok (.aload_n 0, 1) := by decide +kernel
theorem dX7_laysHop_8 : decode cX7_laysHop 8 = .ok (.getfield 31, 3) := by decide +kernel
theorem dX7_laysHop_11 : decode cX7_laysHop 11 = .ok (.iconst 3, 1) := by decide +kernel
theorem dX7_laysHop_12 : decode cX7_laysHop 12 = .ok (.iload_n 1, 1) := by decide +kernel
theorem dX7_laysHop_13 : decode cX7_laysHop 13 = .ok (.imul, 1) := by decide +kernel
theorem dX7_laysHop_14 : decode cX7_laysHop 14 = .ok (.iload_n 2, 1) := by decide +kernel
theorem dX7_laysHop_15 : decode cX7_laysHop 15 = .ok (.iadd, 1) := by decide +kernel
theorem dX7_laysHop_16 : decode cX7_laysHop 16 = .ok (.aload_n 0, 1) := by decide +kernel
theorem dX7_laysHop_17 : decode cX7_laysHop 17 = .ok (.getfield 16, 3) := by decide +kernel
theorem dX7_laysHop_20 : decode cX7_laysHop 20 = .ok (.iconst 3, 1) := by decide +kernel
theorem dX7_laysHop_21 : decode cX7_laysHop 21 = .ok (.iload_n 1, 1) := by decide +kernel
theorem dX7_laysHop_22 : decode cX7_laysHop 22 = .ok (.imul, 1) := by decide +kernel
theorem dX7_laysHop_23 : decode cX7_laysHop 23 = .ok (.iload_n 2, 1) := by decide +kernel
theorem dX7_laysHop_24 : decode cX7_laysHop 24 = .ok (.iadd, 1) := by decide +kernel
theorem dX7_laysHop_25 : decode cX7_laysHop 25 = .ok (.iaload, 1) := by decide +kernel
theorem dX7_laysHop_26 : decode cX7_laysHop 26 = .ok (.iastore, 1) := by decide +kernel
theorem dX7_laysHop_27 : decode cX7_laysHop 27 = .ok (.iinc 2 1, 3) := by decide +kernel
theorem dX7_laysHop_30 : decode cX7_laysHop 30 = .ok (.goto (-28), 3) := by decide +kernel
theorem dX7_laysHop_33 : decode cX7_laysHop 33 = .ok (.aload_n 0, 1) := by decide +kernel
theorem dX7_laysHop_34 : decode cX7_laysHop 34 = .ok (.getfield 31, 3) := by decide +kernel
theorem dX7_laysHop_37 : decode cX7_laysHop 37 = .ok (.iconst 3, 1) := by decide +kernel
theorem dX7_laysHop_38 : decode cX7_laysHop 38 = .ok (.iload_n 1, 1) := by decide +kernel
theorem dX7_laysHop_39 : decode cX7_laysHop 39 = .ok (.imul, 1) := by decide +kernel
theorem dX7_laysHop_40 : decode cX7_laysHop 40 = .ok (.iconst 1, 1) := by decide +kernel
theorem dX7_laysHop_41 : decode cX7_laysHop 41 = .ok (.iadd, 1) := by decide +kernel
theorem dX7_laysHop_42 : decode cX7_laysHop 42 = .ok (.aload_n 0, 1) := by decide +kernel
theorem dX7_laysHop_43 : decode cX7_laysHop 43 = .ok (.iload_n 1, 1) := by decide +kernel
theorem dX7_laysHop_44 : decode cX7_laysHop 44 = .ok (.invokevirtual 151, 3) := by decide +kernel
theorem dX7_laysHop_47 : decode cX7_laysHop 47 = .ok (.aload_n 0, 1) := by decide +kernel
theorem dX7_laysHop_48 : decode cX7_laysHop 48 = .ok (.getfield 28, 3) := by decide +kernel
theorem dX7_laysHop_51 : decode cX7_laysHop 51 = .ok (.iconst 0, 1) := by decide +kernel
theorem dX7_laysHop_52 : decode cX7_laysHop 52 = .ok (.iaload, 1) := by decide +kernel
theorem dX7_laysHop_53 : decode cX7_laysHop 53 = .ok (.aload_n 0, 1) := by decide +kernel
theorem dX7_laysHop_54 : decode cX7_laysHop 54 = .ok (.getfield 127, 3) := by decide +kernel
theorem dX7_laysHop_57 : decode cX7_laysHop 57 = .ok (.imul, 1) := by decide +kernel
theorem dX7_laysHop_58 : decode cX7_laysHop 58 = .ok (.invokestatic 154, 3) := by decide +kernel
theorem dX7_laysHop_61 : decode cX7_laysHop 61 = .ok (.iastore, 1) := by decide +kernel
theorem dX7_laysHop_62 : decode cX7_laysHop 62 = .ok (.aload_n 0, 1) := by decide +kernel
theorem dX7_laysHop_63 : decode cX7_laysHop 63 = .ok (.getfield 22, 3) := by decide +kernel
theorem dX7_laysHop_66 : decode cX7_laysHop 66 = .ok (.bipush 66, 2) := by decide +kernel
theorem dX7_laysHop_68 : decode cX7_laysHop 68 = .ok (.iload_n 1, 1) := by decide +kernel
theorem dX7_laysHop_69 : decode cX7_laysHop 69 = .ok (.iadd, 1) := by decide +kernel
theorem dX7_laysHop_70 : decode cX7_laysHop 70 = .ok (.iconst (-1), 1) := by decide +kernel
theorem dX7_laysHop_71 : decode cX7_laysHop 71 = .ok (.iastore, 1) := by decide +kernel
theorem dX7_laysHop_72 : decode cX7_laysHop 72 = .ok (.iconst 0, 1) := by decide +kernel
theorem dX7_laysHop_73 : decode cX7_laysHop 73 = .ok (.istore_n 2, 1) := by decide +kernel
theorem dX7_laysHop_74 : decode cX7_laysHop 74 = .ok (.iload_n 2, 1) := by decide +kernel
theorem dX7_laysHop_75 : decode cX7_laysHop 75 = .ok (.bipush 8, 2) := by decide +kernel
theorem dX7_laysHop_77 : decode cX7_laysHop 77 = .ok (.if_icmp .ge 15, 3) := by decide +kernel
theorem dX7_laysHop_80 : decode cX7_laysHop 80 = .ok (.aload_n 0, 1) := by decide +kernel
theorem dX7_laysHop_81 : decode cX7_laysHop 81 = .ok (.iload_n 1, 1) := by decide +kernel
theorem dX7_laysHop_82 : decode cX7_laysHop 82 = .ok (.iload_n 2, 1) := by decide +kernel
theorem dX7_laysHop_83 : decode cX7_laysHop 83 = .ok (.invokevirtual 159, 3) := by decide +kernel
theorem dX7_laysHop_86 : decode cX7_laysHop 86 = .ok (.iinc 2 1, 3) := by decide +kernel
theorem dX7_laysHop_89 : decode cX7_laysHop 89 = .ok (.goto (-15), 3) := by decide +kernel
theorem dX7_laysHop_92 : decode cX7_laysHop 92 = .ok (.iconst 0, 1) := by decide +kernel
theorem dX7_laysHop_93 : decode cX7_laysHop 93 = .ok (.istore_n 2, 1) := by decide +kernel
theorem dX7_laysHop_94 : decode cX7_laysHop 94 = .ok (.iload_n 2, 1) := by decide +kernel
theorem dX7_laysHop_95 : decode cX7_laysHop 95 = .ok (.aload_n 0, 1) := by decide +kernel
theorem dX7_laysHop_96 : decode cX7_laysHop 96 = .ok (.getfield 127, 3) := by decide +kernel
theorem dX7_laysHop_99 : decode cX7_laysHop 99 = .ok (.if_icmp .ge 31, 3) := by decide +kernel
theorem dX7_laysHop_102 : decode cX7_laysHop 102 = .ok (.aload_n 0, 1) := by decide +kernel
theorem dX7_laysHop_103 : decode cX7_laysHop 103 = .ok (.getfield 22, 3) := by decide +kernel
theorem dX7_laysHop_106 : decode cX7_laysHop 106 = .ok (.iload_n 1, 1) := by decide +kernel
theorem dX7_laysHop_107 : decode cX7_laysHop 107 = .ok (.iload_n 2, 1) := by decide +kernel
theorem dX7_laysHop_108 : decode cX7_laysHop 108 = .ok (.invokestatic 163, 3) := by decide +kernel
theorem dX7_laysHop_111 : decode cX7_laysHop 111 = .ok (.iconst 3, 1) := by decide +kernel
theorem dX7_laysHop_112 : decode cX7_laysHop 112 = .ok (.iadd, 1) := by decide +kernel
theorem dX7_laysHop_113 : decode cX7_laysHop 113 = .ok (.aload_n 0, 1) := by decide +kernel
theorem dX7_laysHop_114 : decode cX7_laysHop 114 = .ok (.iload_n 1, 1) := by decide +kernel
theorem dX7_laysHop_115 : decode cX7_laysHop 115 = .ok (.invokevirtual 151, 3) := by decide +kernel
theorem dX7_laysHop_118 : decode cX7_laysHop 118 = .ok (.aload_n 0, 1) := by decide +kernel
theorem dX7_laysHop_119 : decode cX7_laysHop 119 = .ok (.getfield 127, 3) := by decide +kernel
theorem dX7_laysHop_122 : decode cX7_laysHop 122 = .ok (.idiv, 1) := by decide +kernel
theorem dX7_laysHop_123 : decode cX7_laysHop 123 = .ok (.iastore, 1) := by decide +kernel
theorem dX7_laysHop_124 : decode cX7_laysHop 124 = .ok (.iinc 2 1, 3) := by decide +kernel
theorem dX7_laysHop_127 : decode cX7_laysHop 127 = .ok (.goto (-33), 3) := by decide +kernel
theorem dX7_laysHop_130 : decode cX7_laysHop 130 = .ok (.return_, 1) := by decide +kernel
set_option maxRecDepth 20000 in
theorem ggX7_outOf_X7_lane : GoodIn wsX7_outOf wsX7_lane := goodIn_r _ [5] (by decide +kernel) (by decide +kernel)
set_option maxRecDepth 20000 in
theorem gX7_outOf_X7_lane : GoodIn wsX7_outOf (va_wsS RX7 163 yX7_lane wsX7_lane) := goodIn_app (goodIn_of _ (by decide +kernel)) ggX7_outOf_X7_lane
set_option maxRecDepth 20000 in
theorem ggX7_outOf_X7_less : GoodIn wsX7_outOf wsX7_less := goodIn_r _ [8] (by decide +kernel) (by decide +kernel)
set_option maxRecDepth 20000 in
theorem gX7_outOf_X7_less : GoodIn wsX7_outOf (va_wsS RX7 166 yX7_less wsX7_less) := goodIn_app (goodIn_of _ (by decide +kernel)) ggX7_outOf_X7_less
theorem dX7_outOf_0 : decode cX7_outOf 0 = .ok (.aload_n 0, 1) := by decide +kernel
theorem dX7_outOf_1 : decode cX7_outOf 1 = .ok (.getfield 22, 3) := by decide +kernel
theorem dX7_outOf_4 : decode cX7_outOf 4 = .ok (.iload_n 1, 1) := by decide +kernel
theorem dX7_outOf_5 : decode cX7_outOf 5 = .ok (.iload_n 2, 1) := by decide +kernel
theorem dX7_outOf_6 : decode cX7_outOf 6 = .ok (.invokestatic 163, 3) := by decide +kernel
theorem dX7_outOf_9 : decode cX7_outOf 9 = .ok (.iconst 0, 1) := by decide +kernel
theorem dX7_outOf_10 : decode cX7_outOf 10 = .ok (.iadd, 1) := by decide +kernel
theorem dX7_outOf_11 : decode cX7_outOf 11 = .ok (.iaload, 1) := by decide +kernel
theorem dX7_outOf_12 : decode cX7_outOf 12 = .ok (.aload_n 0, 1) := by decide +kernel
theorem dX7_outOf_13 : decode cX7_outOf 13 = .ok (.getfield 22, 3) := by decide +kernel
theorem dX7_outOf_16 : decode cX7_outOf 16 = .ok (.iload_n 1, 1) := by decide +kernel
theorem dX7_outOf_17 : decode cX7_outOf 17 = .ok (.iload_n 2, 1) := by decide +kernel
theorem dX7_outOf_18 : decode cX7_outOf 18 = .ok (.invokestatic 163, 3) := by decide +kernel
theorem dX7_outOf_21 : decode cX7_outOf 21 = .ok (.iconst 2, 1) := by decide +kernel
theorem dX7_outOf_22 : decode cX7_outOf 22 = .ok (.iadd, 1) := by decide +kernel
theorem dX7_outOf_23 : decode cX7_outOf 23 = .ok (.iaload, 1) := by decide +kernel
theorem dX7_outOf_24 : decode cX7_outOf 24 = .ok (.invokestatic 166, 3) := by decide +kernel
theorem dX7_outOf_27 : decode cX7_outOf 27 = .ok (.ireturn, 1) := by decide +kernel
set_option maxRecDepth 20000 in
theorem ggX7_credit_X7_lane : GoodIn wsX7_credit wsX7_lane := goodIn_r _ [9] (by decide +kernel) (by decide +kernel)
set_option maxRecDepth 20000 in
theorem gX7_credit_X7_lane : GoodIn wsX7_credit (va_wsS RX7 163 yX7_lane wsX7_lane) := goodIn_app (goodIn_of _ (by decide +kernel)) ggX7_credit_X7_lane
theorem qxX7_credit_0 : ∀ w ∈ ([.fieldLink RX7 22 "HopCreditsModel" "now" "[I", .methodLink RX7 154 Lib.Math.max.name, .static Lib.Math.max.name, .initialized "java/lang/Math", .code Lib.Math.max.name Lib.Math.max.code 2 (some .int), .methodLink RX7 163 yX7_lane, .static yX7_lane, .initialized RX7, .code yX7_lane cX7_lane 2 (some .int), .methodLink RX7 169 yX7_outOf, .instanceMethod yX7_outOf, .selects RX7 yX7_outOf yX7_outOf, .code yX7_outOf cX7_outOf 3 (some .int), .methodLink RX7 166 yX7_less, .static yX7_less, .code yX7_less cX7_less 2 (some .int)] ++ wsX70), w ∈ wsX7_credit := fun w h => List.mem_cons_of_mem _ h
theorem qxX7_credit_1 : ∀ w ∈ [.fieldLink RX7 22 "HopCreditsModel" "now" "[I", .methodLink RX7 154 Lib.Math.max.name, .static Lib.Math.max.name, .initialized "java/lang/Math", .code Lib.Math.max.name Lib.Math.max.code 2 (some .int), .methodLink RX7 163 yX7_lane, .static yX7_lane, .initialized RX7, .code yX7_lane cX7_lane 2 (some .int), .methodLink RX7 169 yX7_outOf, .instanceMethod yX7_outOf, .selects RX7 yX7_outOf yX7_outOf, .code yX7_outOf cX7_outOf 3 (some .int), .methodLink RX7 166 yX7_less, .static yX7_less, .code yX7_less cX7_less 2 (some .int)], w ∈ wsX7_credit := in_l qxX7_credit_0
theorem qxX7_credit_2 : ∀ w ∈ wsX70, w ∈ wsX7_credit := in_r qxX7_credit_0
def pxX7_credit : List (List Cond) := [[.fieldLink RX7 22 "HopCreditsModel" "now" "[I", .methodLink RX7 154 Lib.Math.max.name, .static Lib.Math.max.name, .initialized "java/lang/Math", .code Lib.Math.max.name Lib.Math.max.code 2 (some .int), .methodLink RX7 163 yX7_lane, .static yX7_lane, .initialized RX7, .code yX7_lane cX7_lane 2 (some .int), .methodLink RX7 169 yX7_outOf, .instanceMethod yX7_outOf, .selects RX7 yX7_outOf yX7_outOf, .code yX7_outOf cX7_outOf 3 (some .int), .methodLink RX7 166 yX7_less, .static yX7_less, .code yX7_less cX7_less 2 (some .int)], wsX70]
theorem pxX7_credit_in : ∀ q ∈ pxX7_credit, ∀ w ∈ q, w ∈ wsX7_credit := lp_c qxX7_credit_1 (lp_c qxX7_credit_2 (lp_n))
set_option maxRecDepth 20000 in
theorem ggX7_credit_X7_outOf : GoodIn wsX7_credit wsX7_outOf := goodIn_pp pxX7_credit pxX7_credit_in _ [(0, 12), (0, 0), (0, 5), (0, 6), (0, 7), (0, 8), (0, 13), (0, 14), (0, 15), (1, 0), (1, 1), (1, 2), (1, 3), (1, 4), (1, 5), (1, 6), (1, 7), (1, 8), (1, 9), (1, 10), (1, 11), (1, 12), (1, 13), (1, 14), (1, 15), (1, 16), (1, 17), (1, 18), (1, 19), (1, 20)] rfl (by decide +kernel)
set_option maxRecDepth 20000 in
theorem gX7_credit_X7_outOf : GoodIn wsX7_credit (wsV RX7 169 RX7 yX7_outOf wsX7_outOf) := goodIn_app (goodIn_of _ (by decide +kernel)) ggX7_credit_X7_outOf
theorem dX7_credit_0 : decode cX7_credit 0 = .ok (.iconst 0, 1) := by decide +kernel
theorem dX7_credit_1 : decode cX7_credit 1 = .ok (.aload_n 0, 1) := by decide +kernel
theorem dX7_credit_2 : decode cX7_credit 2 = .ok (.getfield 22, 3) := by decide +kernel
theorem dX7_credit_5 : decode cX7_credit 5 = .ok (.iload_n 1, 1) := by decide +kernel
theorem dX7_credit_6 : decode cX7_credit 6 = .ok (.iload_n 2, 1) := by decide +kernel
theorem dX7_credit_7 : decode cX7_credit 7 = .ok (.invokestatic 163, 3) := by decide +kernel
theorem dX7_credit_10 : decode cX7_credit 10 = .ok (.iconst 3, 1) := by decide +kernel
theorem dX7_credit_11 : decode cX7_credit 11 = .ok (.iadd, 1) := by decide +kernel
theorem dX7_credit_12 : decode cX7_credit 12 = .ok (.iaload, 1) := by decide +kernel
theorem dX7_credit_13 : decode cX7_credit 13 = .ok (.aload_n 0, 1) := by decide +kernel
theorem dX7_credit_14 : decode cX7_credit 14 = .ok (.iload_n 1, 1) := by decide +kernel
theorem dX7_credit_15 : decode cX7_credit 15 = .ok (.iload_n 2, 1) := by decide +kernel
theorem dX7_credit_16 : decode cX7_credit 16 = .ok (.invokevirtual 169, 3) := by decide +kernel
theorem dX7_credit_19 : decode cX7_credit 19 = .ok (.isub, 1) := by decide +kernel
theorem dX7_credit_20 : decode cX7_credit 20 = .ok (.invokestatic 154, 3) := by decide +kernel
theorem dX7_credit_23 : decode cX7_credit 23 = .ok (.ireturn, 1) := by decide +kernel
set_option maxRecDepth 20000 in
theorem ggX7_leftFor_X7_pool : GoodIn wsX7_leftFor wsX7_pool := goodIn_r _ [11, 12, 23, 24, 25, 26, 27, 28, 29, 30, 31, 32, 33, 34, 35, 36, 37, 38, 39, 40, 41, 42, 43] (by decide +kernel) (by decide +kernel)
set_option maxRecDepth 20000 in
theorem gX7_leftFor_X7_pool : GoodIn wsX7_leftFor (wsV RX7 151 RX7 yX7_pool wsX7_pool) := goodIn_app (goodIn_of _ (by decide +kernel)) ggX7_leftFor_X7_pool
set_option maxRecDepth 20000 in
theorem ggX7_leftFor_X7_lane : GoodIn wsX7_leftFor wsX7_lane := goodIn_r _ [15] (by decide +kernel) (by decide +kernel)
set_option maxRecDepth 20000 in
theorem gX7_leftFor_X7_lane : GoodIn wsX7_leftFor (va_wsS RX7 163 yX7_lane wsX7_lane) := goodIn_app (goodIn_of _ (by decide +kernel)) ggX7_leftFor_X7_lane
theorem qxX7_leftFor_0 : ∀ w ∈ ([.fieldLink RX7 127 "HopCreditsModel" "circuits" "I", .fieldLink RX7 22 "HopCreditsModel" "now" "[I", .methodLink RX7 154 Lib.Math.max.name, .static Lib.Math.max.name, .initialized "java/lang/Math", .code Lib.Math.max.name Lib.Math.max.code 2 (some .int), .methodLink RX7 151 yX7_pool, .instanceMethod yX7_pool, .selects RX7 yX7_pool yX7_pool, .initialized RX7, .code yX7_pool cX7_pool 2 (some .int), .fieldLink RX7 31 "HopCreditsModel" "hop" "[I", .methodLink RX7 163 yX7_lane, .static yX7_lane, .code yX7_lane cX7_lane 2 (some .int), .methodLink RX7 169 yX7_outOf, .instanceMethod yX7_outOf, .selects RX7 yX7_outOf yX7_outOf, .code yX7_outOf cX7_outOf 3 (some .int), .methodLink RX7 166 yX7_less, .static yX7_less, .code yX7_less cX7_less 2 (some .int)] ++ wsX70), w ∈ wsX7_leftFor := fun w h => List.mem_cons_of_mem _ h
theorem qxX7_leftFor_1 : ∀ w ∈ [.fieldLink RX7 127 "HopCreditsModel" "circuits" "I", .fieldLink RX7 22 "HopCreditsModel" "now" "[I", .methodLink RX7 154 Lib.Math.max.name, .static Lib.Math.max.name, .initialized "java/lang/Math", .code Lib.Math.max.name Lib.Math.max.code 2 (some .int), .methodLink RX7 151 yX7_pool, .instanceMethod yX7_pool, .selects RX7 yX7_pool yX7_pool, .initialized RX7, .code yX7_pool cX7_pool 2 (some .int), .fieldLink RX7 31 "HopCreditsModel" "hop" "[I", .methodLink RX7 163 yX7_lane, .static yX7_lane, .code yX7_lane cX7_lane 2 (some .int), .methodLink RX7 169 yX7_outOf, .instanceMethod yX7_outOf, .selects RX7 yX7_outOf yX7_outOf, .code yX7_outOf cX7_outOf 3 (some .int), .methodLink RX7 166 yX7_less, .static yX7_less, .code yX7_less cX7_less 2 (some .int)], w ∈ wsX7_leftFor := in_l qxX7_leftFor_0
theorem qxX7_leftFor_2 : ∀ w ∈ wsX70, w ∈ wsX7_leftFor := in_r qxX7_leftFor_0
def pxX7_leftFor : List (List Cond) := [[.fieldLink RX7 127 "HopCreditsModel" "circuits" "I", .fieldLink RX7 22 "HopCreditsModel" "now" "[I", .methodLink RX7 154 Lib.Math.max.name, .static Lib.Math.max.name, .initialized "java/lang/Math", .code Lib.Math.max.name Lib.Math.max.code 2 (some .int), .methodLink RX7 151 yX7_pool, .instanceMethod yX7_pool, .selects RX7 yX7_pool yX7_pool, .initialized RX7, .code yX7_pool cX7_pool 2 (some .int), .fieldLink RX7 31 "HopCreditsModel" "hop" "[I", .methodLink RX7 163 yX7_lane, .static yX7_lane, .code yX7_lane cX7_lane 2 (some .int), .methodLink RX7 169 yX7_outOf, .instanceMethod yX7_outOf, .selects RX7 yX7_outOf yX7_outOf, .code yX7_outOf cX7_outOf 3 (some .int), .methodLink RX7 166 yX7_less, .static yX7_less, .code yX7_less cX7_less 2 (some .int)], wsX70]
theorem pxX7_leftFor_in : ∀ q ∈ pxX7_leftFor, ∀ w ∈ q, w ∈ wsX7_leftFor := lp_c qxX7_leftFor_1 (lp_c qxX7_leftFor_2 (lp_n))
set_option maxRecDepth 20000 in
theorem ggX7_leftFor_X7_outOf : GoodIn wsX7_leftFor wsX7_outOf := goodIn_pp pxX7_leftFor pxX7_leftFor_in _ [(0, 18), (0, 1), (0, 12), (0, 13), (0, 9), (0, 14), (0, 19), (0, 20), (0, 21), (1, 0), (1, 1), (1, 2), (1, 3), (1, 4), (1, 5), (1, 6), (1, 7), (1, 8), (1, 9), (1, 10), (1, 11), (1, 12), (1, 13), (1, 14), (1, 15), (1, 16), (1, 17), (1, 18), (1, 19), (1, 20)] rfl (by decide +kernel)
set_option maxRecDepth 20000 in
theorem gX7_leftFor_X7_outOf : GoodIn wsX7_leftFor (wsV RX7 169 RX7 yX7_outOf wsX7_outOf) := goodIn_app (goodIn_of _ (by decide +kernel)) ggX7_leftFor_X7_outOf
theorem dX7_leftFor_0 : decode cX7_leftFor 0 = .ok (.aload_n 0, 1) := by decide +kernel
theorem dX7_leftFor_1 : decode cX7_leftFor 1 = .ok (.iload_n 1, 1) := by decide +kernel
theorem dX7_leftFor_2 : decode cX7_leftFor 2 = .ok (.invokevirtual 151, 3) := by decide +kernel
theorem dX7_leftFor_5 : decode cX7_leftFor 5 = .ok (.istore_n 3, 1) := by decide +kernel
theorem dX7_leftFor_6 : decode cX7_leftFor 6 = .ok (.iconst 0, 1) := by decide +kernel
theorem dX7_leftFor_7 : decode cX7_leftFor 7 = .ok (.istore 4, 2) := by decide +kernel
theorem dX7_leftFor_9 : decode cX7_leftFor 9 = .ok (.iload 4, 2) := by decide +kernel
theorem dX7_leftFor_11 : decode cX7_leftFor 11 = .ok (.aload_n 0, 1) := by decide +kernel
theorem dX7_leftFor_12 : decode cX7_leftFor 12 = .ok (.getfield 127, 3) := by decide +kernel
theorem dX7_leftFor_15 : decode cX7_leftFor 15 = .ok (.if_icmp .ge 45, 3) := by decide +kernel
theorem dX7_leftFor_18 : decode cX7_leftFor 18 = .ok (.iload_n 3, 1) := by decide +kernel
theorem dX7_leftFor_19 : decode cX7_leftFor 19 = .ok (.iload 4, 2) := by decide +kernel
theorem dX7_leftFor_21 : decode cX7_leftFor 21 = .ok (.iload_n 2, 1) := by decide +kernel
theorem dX7_leftFor_22 : decode cX7_leftFor 22 = .ok (.if_icmp .ne 7, 3) := by decide +kernel
theorem dX7_leftFor_25 : decode cX7_leftFor 25 = .ok (.iconst 0, 1) := by decide +kernel
theorem dX7_leftFor_26 : decode cX7_leftFor 26 = .ok (.goto 26, 3) := by decide +kernel
theorem dX7_leftFor_29 : decode cX7_leftFor 29 = .ok (.aload_n 0, 1) := by decide +kernel
theorem dX7_leftFor_30 : decode cX7_leftFor 30 = .ok (.getfield 22, 3) := by decide +kernel
theorem dX7_leftFor_33 : decode cX7_leftFor 33 = .ok (.iload_n 1, 1) := by decide +kernel
theorem dX7_leftFor_34 : decode cX7_leftFor 34 = .ok (.iload 4, 2) := by decide +kernel
theorem dX7_leftFor_36 : decode cX7_leftFor 36 = .ok (.invokestatic 163, 3) := by decide +kernel
theorem dX7_leftFor_39 : decode cX7_leftFor 39 = .ok (.iconst 3, 1) := by decide +kernel
theorem dX7_leftFor_40 : decode cX7_leftFor 40 = .ok (.iadd, 1) := by decide +kernel
theorem dX7_leftFor_41 : decode cX7_leftFor 41 = .ok (.iaload, 1) := by decide +kernel
theorem dX7_leftFor_42 : decode cX7_leftFor 42 = .ok (.aload_n 0, 1) := by decide +kernel
theorem dX7_leftFor_43 : decode cX7_leftFor 43 = .ok (.iload_n 1, 1) := by decide +kernel
theorem dX7_leftFor_44 : decode cX7_leftFor 44 = .ok (.iload 4, 2) := by decide +kernel
theorem dX7_leftFor_46 : decode cX7_leftFor 46 = .ok (.invokevirtual 169, 3) := by decide +kernel
theorem dX7_leftFor_49 : decode cX7_leftFor 49 = .ok (.invokestatic 154, 3) := by decide +kernel
theorem dX7_leftFor_52 : decode cX7_leftFor 52 = .ok (.isub, 1) := by decide +kernel
theorem dX7_leftFor_53 : decode cX7_leftFor 53 = .ok (.istore_n 3, 1) := by decide +kernel
theorem dX7_leftFor_54 : decode cX7_leftFor 54 = .ok (.iinc 4 1, 3) := by decide +kernel
theorem dX7_leftFor_57 : decode cX7_leftFor 57 = .ok (.goto (-48), 3) := by decide +kernel
theorem dX7_leftFor_60 : decode cX7_leftFor 60 = .ok (.iload_n 3, 1) := by decide +kernel
theorem dX7_leftFor_61 : decode cX7_leftFor 61 = .ok (.ireturn, 1) := by decide +kernel
set_option maxRecDepth 20000 in
theorem ggX7_roomFor_X7_lane : GoodIn wsX7_roomFor wsX7_lane := goodIn_r _ [12] (by decide +kernel) (by decide +kernel)
set_option maxRecDepth 20000 in
theorem gX7_roomFor_X7_lane : GoodIn wsX7_roomFor (va_wsS RX7 163 yX7_lane wsX7_lane) := goodIn_app (goodIn_of _ (by decide +kernel)) ggX7_roomFor_X7_lane
set_option maxRecDepth 20000 in
theorem ggX7_roomFor_X7_pool : GoodIn wsX7_roomFor wsX7_pool := goodIn_r _ [16, 17, 30, 31, 32, 33, 34, 35, 36, 37, 38, 39, 40, 41, 42, 43, 44, 45, 46, 47, 48, 49, 50] (by decide +kernel) (by decide +kernel)
set_option maxRecDepth 20000 in
theorem gX7_roomFor_X7_pool : GoodIn wsX7_roomFor (wsV RX7 151 RX7 yX7_pool wsX7_pool) := goodIn_app (goodIn_of _ (by decide +kernel)) ggX7_roomFor_X7_pool
theorem qxX7_roomFor_0 : ∀ w ∈ ((wsX7_roomFor_r1 ++ wsX7_roomFor_r2) ++ wsX70), w ∈ wsX7_roomFor := fun w h => List.mem_cons_of_mem _ h
theorem qxX7_roomFor_1 : ∀ w ∈ (wsX7_roomFor_r1 ++ wsX7_roomFor_r2), w ∈ wsX7_roomFor := in_l qxX7_roomFor_0
theorem qxX7_roomFor_2 : ∀ w ∈ wsX70, w ∈ wsX7_roomFor := in_r qxX7_roomFor_0
theorem qxX7_roomFor_3 : ∀ w ∈ wsX7_roomFor_r1, w ∈ wsX7_roomFor := in_l qxX7_roomFor_1
theorem qxX7_roomFor_4 : ∀ w ∈ wsX7_roomFor_r2, w ∈ wsX7_roomFor := in_r qxX7_roomFor_1
def pxX7_roomFor : List (List Cond) := [wsX7_roomFor_r1, wsX7_roomFor_r2, wsX70]
theorem pxX7_roomFor_in : ∀ q ∈ pxX7_roomFor, ∀ w ∈ q, w ∈ wsX7_roomFor := lp_c qxX7_roomFor_3 (lp_c qxX7_roomFor_4 (lp_c qxX7_roomFor_2 (lp_n)))
set_option maxRecDepth 20000 in
theorem ggX7_roomFor_X7_leftFor : GoodIn wsX7_roomFor wsX7_leftFor := goodIn_pp pxX7_roomFor pxX7_roomFor_in _ [(0, 20), (0, 21), (0, 0), (0, 5), (0, 6), (0, 3), (0, 7), (0, 12), (0, 13), (0, 14), (0, 10), (0, 15), (0, 16), (0, 8), (0, 9), (0, 11), (0, 22), (0, 23), (1, 0), (1, 1), (1, 2), (1, 3), (1, 4), (2, 0), (2, 1), (2, 2), (2, 3), (2, 4), (2, 5), (2, 6), (2, 7), (2, 8), (2, 9), (2, 10), (2, 11), (2, 12), (2, 13), (2, 14), (2, 15), (2, 16), (2, 17), (2, 18), (2, 19), (2, 20)] rfl (by decide +kernel)
set_option maxRecDepth 20000 in
theorem gX7_roomFor_X7_leftFor : GoodIn wsX7_roomFor (wsV RX7 172 RX7 yX7_leftFor wsX7_leftFor) := goodIn_app (goodIn_of _ (by decide +kernel)) ggX7_roomFor_X7_leftFor
theorem dX7_roomFor_0 : decode cX7_roomFor 0 = .ok (.aload_n 0, 1) := by decide +kernel
theorem dX7_roomFor_1 : decode cX7_roomFor 1 = .ok (.getfield 22, 3) := by decide +kernel
theorem dX7_roomFor_4 : decode cX7_roomFor 4 = .ok (.iload_n 1, 1) := by decide +kernel
theorem dX7_roomFor_5 : decode cX7_roomFor 5 = .ok (.iload_n 2, 1) := by decide +kernel
theorem dX7_roomFor_6 : decode cX7_roomFor 6 = .ok (.invokestatic 163, 3) := by decide +kernel
theorem dX7_roomFor_9 : decode cX7_roomFor 9 = .ok (.iconst 3, 1) := by decide +kernel
theorem dX7_roomFor_10 : decode cX7_roomFor 10 = .ok (.iadd, 1) := by decide +kernel
theorem dX7_roomFor_11 : decode cX7_roomFor 11 = .ok (.iaload, 1) := by decide +kernel
theorem dX7_roomFor_12 : decode cX7_roomFor 12 = .ok (.aload_n 0, 1) := by decide +kernel
theorem dX7_roomFor_13 : decode cX7_roomFor 13 = .ok (.iload_n 1, 1) := by decide +kernel
theorem dX7_roomFor_14 : decode cX7_roomFor 14 = .ok (.invokevirtual 151, 3) := by decide +kernel
theorem dX7_roomFor_17 : decode cX7_roomFor 17 = .ok (.aload_n 0, 1) := by decide +kernel
theorem dX7_roomFor_18 : decode cX7_roomFor 18 = .ok (.iload_n 1, 1) := by decide +kernel
theorem dX7_roomFor_19 : decode cX7_roomFor 19 = .ok (.iload_n 2, 1) := by decide +kernel
theorem dX7_roomFor_20 : decode cX7_roomFor 20 = .ok (.invokevirtual 172, 3) := by decide +kernel
theorem dX7_roomFor_23 : decode cX7_roomFor 23 = .ok (.invokestatic 175, 3) := by decide +kernel
theorem dX7_roomFor_26 : decode cX7_roomFor 26 = .ok (.invokestatic 154, 3) := by decide +kernel
theorem dX7_roomFor_29 : decode cX7_roomFor 29 = .ok (.ireturn, 1) := by decide +kernel
set_option maxRecDepth 20000 in
theorem ggX7_aimOf_X7_lane : GoodIn wsX7_aimOf wsX7_lane := goodIn_r _ [7] (by decide +kernel) (by decide +kernel)
set_option maxRecDepth 20000 in
theorem gX7_aimOf_X7_lane : GoodIn wsX7_aimOf (va_wsS RX7 163 yX7_lane wsX7_lane) := goodIn_app (goodIn_of _ (by decide +kernel)) ggX7_aimOf_X7_lane
set_option maxRecDepth 20000 in
theorem ggX7_aimOf_X7_pool : GoodIn wsX7_aimOf wsX7_pool := goodIn_r _ [11, 12, 13, 14, 15, 16, 17, 18, 19, 20, 21, 22, 23, 24, 25, 26, 27, 28, 29, 30, 31, 32, 33] (by decide +kernel) (by decide +kernel)
set_option maxRecDepth 20000 in
theorem gX7_aimOf_X7_pool : GoodIn wsX7_aimOf (wsV RX7 151 RX7 yX7_pool wsX7_pool) := goodIn_app (goodIn_of _ (by decide +kernel)) ggX7_aimOf_X7_pool
theorem dX7_aimOf_0 : decode cX7_aimOf 0 = .ok (.iconst 0, 1) := by decide +kernel
theorem dX7_aimOf_1 : decode cX7_aimOf 1 = .ok (.istore_n 3, 1) := by decide +kernel
theorem dX7_aimOf_2 : decode cX7_aimOf 2 = .ok (.iconst 0, 1) := by decide +kernel
theorem dX7_aimOf_3 : decode cX7_aimOf 3 = .ok (.istore 4, 2) := by decide +kernel
theorem dX7_aimOf_5 : decode cX7_aimOf 5 = .ok (.iload 4, 2) := by decide +kernel
theorem dX7_aimOf_7 : decode cX7_aimOf 7 = .ok (.aload_n 0, 1) := by decide +kernel
theorem dX7_aimOf_8 : decode cX7_aimOf 8 = .ok (.getfield 127, 3) := by decide +kernel
theorem dX7_aimOf_11 : decode cX7_aimOf 11 = .ok (.if_icmp .ge 26, 3) := by decide +kernel
theorem dX7_aimOf_14 : decode cX7_aimOf 14 = .ok (.iload_n 3, 1) := by decide +kernel
theorem dX7_aimOf_15 : decode cX7_aimOf 15 = .ok (.aload_n 0, 1) := by decide +kernel
theorem dX7_aimOf_16 : decode cX7_aimOf 16 = .ok (.getfield 22, 3) := by decide +kernel
theorem dX7_aimOf_19 : decode cX7_aimOf 19 = .ok (.iload_n 1, 1) := by decide +kernel
theorem dX7_aimOf_20 : decode cX7_aimOf 20 = .ok (.iload 4, 2) := by decide +kernel
theorem dX7_aimOf_22 : decode cX7_aimOf 22 = .ok (.invokestatic 163, 3) := by decide +kernel
theorem dX7_aimOf_25 : decode cX7_aimOf 25 = .ok (.bipush 6, 2) := by decide +kernel
theorem dX7_aimOf_27 : decode cX7_aimOf 27 = .ok (.iadd, 1) := by decide +kernel
theorem dX7_aimOf_28 : decode cX7_aimOf 28 = .ok (.iaload, 1) := by decide +kernel
theorem dX7_aimOf_29 : decode cX7_aimOf 29 = .ok (.iadd, 1) := by decide +kernel
theorem dX7_aimOf_30 : decode cX7_aimOf 30 = .ok (.istore_n 3, 1) := by decide +kernel
theorem dX7_aimOf_31 : decode cX7_aimOf 31 = .ok (.iinc 4 1, 3) := by decide +kernel
theorem dX7_aimOf_34 : decode cX7_aimOf 34 = .ok (.goto (-29), 3) := by decide +kernel
theorem dX7_aimOf_37 : decode cX7_aimOf 37 = .ok (.aload_n 0, 1) := by decide +kernel
theorem dX7_aimOf_38 : decode cX7_aimOf 38 = .ok (.iload_n 1, 1) := by decide +kernel
theorem dX7_aimOf_39 : decode cX7_aimOf 39 = .ok (.invokevirtual 151, 3) := by decide +kernel
theorem dX7_aimOf_42 : decode cX7_aimOf 42 = .ok (.aload_n 0, 1) := by decide +kernel
theorem dX7_aimOf_43 : decode cX7_aimOf 43 = .ok (.getfield 28, 3) := by decide +kernel
theorem dX7_aimOf_46 : decode cX7_aimOf 46 = .ok (.iconst 0, 1) := by decide +kernel
theorem dX7_aimOf_47 : decode cX7_aimOf 47 = .ok (.iaload, 1) := by decide +kernel
theorem dX7_aimOf_48 : decode cX7_aimOf 48 = .ok (.aload_n 0, 1) := by decide +kernel
theorem dX7_aimOf_49 : decode cX7_aimOf 49 = .ok (.getfield 127, 3) := by decide +kernel
theorem dX7_aimOf_52 : decode cX7_aimOf 52 = .ok (.imul, 1) := by decide +kernel
theorem dX7_aimOf_53 : decode cX7_aimOf 53 = .ok (.isub, 1) := by decide +kernel
theorem dX7_aimOf_54 : decode cX7_aimOf 54 = .ok (.istore 4, 2) := by decide +kernel
theorem dX7_aimOf_56 : decode cX7_aimOf 56 = .ok (.aload_n 0, 1) := by decide +kernel
theorem dX7_aimOf_57 : decode cX7_aimOf 57 = .ok (.getfield 28, 3) := by decide +kernel
theorem dX7_aimOf_60 : decode cX7_aimOf 60 = .ok (.iconst 0, 1) := by decide +kernel
theorem dX7_aimOf_61 : decode cX7_aimOf 61 = .ok (.iaload, 1) := by decide +kernel
theorem dX7_aimOf_62 : decode cX7_aimOf 62 = .ok (.iload_n 3, 1) := by decide +kernel
theorem dX7_aimOf_63 : decode cX7_aimOf 63 = .ok (.ifCond .ne 13, 3) := by decide +kernel
theorem dX7_aimOf_66 : decode cX7_aimOf 66 = .ok (.iload 4, 2) := by decide +kernel
theorem dX7_aimOf_68 : decode cX7_aimOf 68 = .ok (.aload_n 0, 1) := by decide +kernel
theorem dX7_aimOf_69 : decode cX7_aimOf 69 = .ok (.getfield 127, 3) := by decide +kernel
theorem dX7_aimOf_72 : decode cX7_aimOf 72 = .ok (.idiv, 1) := by decide +kernel
theorem dX7_aimOf_73 : decode cX7_aimOf 73 = .ok (.goto 21, 3) := by decide +kernel
theorem dX7_aimOf_76 : decode cX7_aimOf 76 = .ok (.iload 4, 2) := by decide +kernel
theorem dX7_aimOf_78 : decode cX7_aimOf 78 = .ok (.aload_n 0, 1) := by decide +kernel
theorem dX7_aimOf_79 : decode cX7_aimOf 79 = .ok (.getfield 22, 3) := by decide +kernel
theorem dX7_aimOf_82 : decode cX7_aimOf 82 = .ok (.iload_n 1, 1) := by decide +kernel
theorem dX7_aimOf_83 : decode cX7_aimOf 83 = .ok (.iload_n 2, 1) := by decide +kernel
theorem dX7_aimOf_84 : decode cX7_aimOf 84 = .ok (.invokestatic 163, 3) := by decide +kernel
theorem dX7_aimOf_87 : decode cX7_aimOf 87 = .ok (.bipush 6, 2) := by decide +kernel
theorem dX7_aimOf_89 : decode cX7_aimOf 89 = .ok (.iadd, 1) := by decide +kernel
theorem dX7_aimOf_90 : decode cX7_aimOf 90 = .ok (.iaload, 1) := by decide +kernel
theorem dX7_aimOf_91 : decode cX7_aimOf 91 = .ok (.imul, 1) := by decide +kernel
theorem dX7_aimOf_92 : decode cX7_aimOf 92 = .ok (.iload_n 3, 1) := by decide +kernel
theorem dX7_aimOf_93 : decode cX7_aimOf 93 = .ok (.idiv, 1) := by decide +kernel
theorem dX7_aimOf_94 : decode cX7_aimOf 94 = .ok (.iadd, 1) := by decide +kernel
theorem dX7_aimOf_95 : decode cX7_aimOf 95 = .ok (.ireturn, 1) := by decide +kernel
set_option maxRecDepth 20000 in
theorem ggX7_updates_X7_delay : GoodIn wsX7_updates wsX7_delay := goodIn_r _ [6, 7, 14, 15, 16, 17, 18, 19, 20, 21, 22, 23, 24, 25, 26, 27, 28, 29, 30, 31, 32, 33, 34] (by decide +kernel) (by decide +kernel)
set_option maxRecDepth 20000 in
theorem gX7_updates_X7_delay : GoodIn wsX7_updates (wsV RX7 178 RX7 yX7_delay wsX7_delay) := goodIn_app (goodIn_of _ (by decide +kernel)) ggX7_updates_X7_delay
set_option maxRecDepth 20000 in
theorem ggX7_updates_X7_wayAt : GoodIn wsX7_updates wsX7_wayAt := goodIn_r _ [10] (by decide +kernel) (by decide +kernel)
set_option maxRecDepth 20000 in
theorem gX7_updates_X7_wayAt : GoodIn wsX7_updates (va_wsS RX7 140 yX7_wayAt wsX7_wayAt) := goodIn_app (goodIn_of _ (by decide +kernel)) ggX7_updates_X7_wayAt
set_option maxRecDepth 20000 in
theorem ggX7_updates_X7_lane : GoodIn wsX7_updates wsX7_lane := goodIn_r _ [13] (by decide +kernel) (by decide +kernel)
set_option maxRecDepth 20000 in
theorem gX7_updates_X7_lane : GoodIn wsX7_updates (va_wsS RX7 163 yX7_lane wsX7_lane) := goodIn_app (goodIn_of _ (by decide +kernel)) ggX7_updates_X7_lane
theorem dX7_updates_0 : decode cX7_updates 0 = .ok (.aload_n 0, 1) := by decide +kernel
theorem dX7_updates_1 : decode cX7_updates 1 = .ok (.getfield 22, 3) := by decide +kernel
theorem dX7_updates_4 : decode cX7_updates 4 = .ok (.bipush 63, 2) := by decide +kernel
theorem dX7_updates_6 : decode cX7_updates 6 = .ok (.iload_n 1, 1) := by decide +kernel
theorem dX7_updates_7 : decode cX7_updates 7 = .ok (.iadd, 1) := by decide +kernel
theorem dX7_updates_8 : decode cX7_updates 8 = .ok (.iaload, 1) := by decide +kernel
theorem dX7_updates_9 : decode cX7_updates 9 = .ok (.ifCond .le 31, 3) := by decide +kernel
theorem dX7_updates_12 : decode cX7_updates 12 = .ok (.aload_n 0, 1) := by decide +kernel
theorem dX7_updates_13 : decode cX7_updates 13 = .ok (.getfield 22, 3) := by decide +kernel
theorem dX7_updates_16 : decode cX7_updates 16 = .ok (.bipush 63, 2) := by decide +kernel
theorem dX7_updates_18 : decode cX7_updates 18 = .ok (.iload_n 1, 1) := by decide +kernel
theorem dX7_updates_19 : decode cX7_updates 19 = .ok (.iadd, 1) := by decide +kernel
theorem dX7_updates_20 : decode cX7_updates 20 = .ok (.dup2, 1) := by decide +kernel
theorem dX7_updates_21 : decode cX7_updates 21 = .ok (.iaload, 1) := by decide +kernel
theorem dX7_updates_22 : decode cX7_updates 22 = .ok (.iconst 1, 1) := by decide +kernel
theorem dX7_updates_23 : decode cX7_updates 23 = .ok (.isub, 1) := by decide +kernel
theorem dX7_updates_24 : decode cX7_updates 24 = .ok (.iastore, 1) := by decide +kernel
theorem dX7_updates_25 : decode cX7_updates 25 = .ok (.aload_n 0, 1) := by decide +kernel
theorem dX7_updates_26 : decode cX7_updates 26 = .ok (.getfield 22, 3) := by decide +kernel
theorem dX7_updates_29 : decode cX7_updates 29 = .ok (.sipush 1765, 3) := by decide +kernel
theorem dX7_updates_32 : decode cX7_updates 32 = .ok (.dup2, 1) := by decide +kernel
theorem dX7_updates_33 : decode cX7_updates 33 = .ok (.iaload, 1) := by decide +kernel
theorem dX7_updates_34 : decode cX7_updates 34 = .ok (.iconst 1, 1) := by decide +kernel
theorem dX7_updates_35 : decode cX7_updates 35 = .ok (.iadd, 1) := by decide +kernel
theorem dX7_updates_36 : decode cX7_updates 36 = .ok (.iastore, 1) := by decide +kernel
theorem dX7_updates_37 : decode cX7_updates 37 = .ok (.goto 42, 3) := by decide +kernel
theorem dX7_updates_40 : decode cX7_updates 40 = .ok (.aload_n 0, 1) := by decide +kernel
theorem dX7_updates_41 : decode cX7_updates 41 = .ok (.getfield 22, 3) := by decide +kernel
theorem dX7_updates_44 : decode cX7_updates 44 = .ok (.iload_n 1, 1) := by decide +kernel
theorem dX7_updates_45 : decode cX7_updates 45 = .ok (.aload_n 0, 1) := by decide +kernel
theorem dX7_updates_46 : decode cX7_updates 46 = .ok (.getfield 22, 3) := by decide +kernel
theorem dX7_updates_49 : decode cX7_updates 49 = .ok (.sipush 1764, 3) := by decide +kernel
theorem dX7_updates_52 : decode cX7_updates 52 = .ok (.iaload, 1) := by decide +kernel
theorem dX7_updates_53 : decode cX7_updates 53 = .ok (.aload_n 0, 1) := by decide +kernel
theorem dX7_updates_54 : decode cX7_updates 54 = .ok (.iload_n 1, 1) := by decide +kernel
theorem dX7_updates_55 : decode cX7_updates 55 = .ok (.invokevirtual 178, 3) := by decide +kernel
theorem dX7_updates_58 : decode cX7_updates 58 = .ok (.iadd, 1) := by decide +kernel
theorem dX7_updates_59 : decode cX7_updates 59 = .ok (.invokestatic 140, 3) := by decide +kernel
theorem dX7_updates_62 : decode cX7_updates 62 = .ok (.iconst 1, 1) := by decide +kernel
theorem dX7_updates_63 : decode cX7_updates 63 = .ok (.iadd, 1) := by decide +kernel
theorem dX7_updates_64 : decode cX7_updates 64 = .ok (.iload_n 2, 1) := by decide +kernel
theorem dX7_updates_65 : decode cX7_updates 65 = .ok (.iadd, 1) := by decide +kernel
theorem dX7_updates_66 : decode cX7_updates 66 = .ok (.aload_n 0, 1) := by decide +kernel
theorem dX7_updates_67 : decode cX7_updates 67 = .ok (.getfield 22, 3) := by decide +kernel
theorem dX7_updates_70 : decode cX7_updates 70 = .ok (.iload_n 1, 1) := by decide +kernel
theorem dX7_updates_71 : decode cX7_updates 71 = .ok (.iload_n 2, 1) := by decide +kernel
theorem dX7_updates_72 : decode cX7_updates 72 = .ok (.invokestatic 163, 3) := by decide +kernel
theorem dX7_updates_75 : decode cX7_updates 75 = .ok (.iconst 1, 1) := by decide +kernel
theorem dX7_updates_76 : decode cX7_updates 76 = .ok (.iadd, 1) := by decide +kernel
theorem dX7_updates_77 : decode cX7_updates 77 = .ok (.iaload, 1) := by decide +kernel
theorem dX7_updates_78 : decode cX7_updates 78 = .ok (.iastore, 1) := by decide +kernel
theorem dX7_updates_79 : decode cX7_updates 79 = .ok (.return_, 1) := by decide +kernel
set_option maxRecDepth 20000 in
theorem ggX7_goesFrom_X7_lane : GoodIn wsX7_goesFrom wsX7_lane := goodIn_r _ [6] (by decide +kernel) (by decide +kernel)
set_option maxRecDepth 20000 in
theorem gX7_goesFrom_X7_lane : GoodIn wsX7_goesFrom (va_wsS RX7 163 yX7_lane wsX7_lane) := goodIn_app (goodIn_of _ (by decide +kernel)) ggX7_goesFrom_X7_lane
theorem qxX7_goesFrom_0 : ∀ w ∈ ([.fieldLink RX7 22 "HopCreditsModel" "now" "[I", .fieldLink RX7 31 "HopCreditsModel" "hop" "[I", .methodLink RX7 163 yX7_lane, .static yX7_lane, .initialized RX7, .code yX7_lane cX7_lane 2 (some .int), .methodLink RX7 181 yX7_updates, .instanceMethod yX7_updates, .selects RX7 yX7_updates yX7_updates, .code yX7_updates cX7_updates 3 none, .methodLink RX7 178 yX7_delay, .instanceMethod yX7_delay, .selects RX7 yX7_delay yX7_delay, .code yX7_delay cX7_delay 2 (some .int), .methodLink RX7 140 yX7_wayAt, .static yX7_wayAt, .code yX7_wayAt cX7_wayAt 2 (some .int)] ++ wsX70), w ∈ wsX7_goesFrom := fun w h => List.mem_cons_of_mem _ h
theorem qxX7_goesFrom_1 : ∀ w ∈ [.fieldLink RX7 22 "HopCreditsModel" "now" "[I", .fieldLink RX7 31 "HopCreditsModel" "hop" "[I", .methodLink RX7 163 yX7_lane, .static yX7_lane, .initialized RX7, .code yX7_lane cX7_lane 2 (some .int), .methodLink RX7 181 yX7_updates, .instanceMethod yX7_updates, .selects RX7 yX7_updates yX7_updates, .code yX7_updates cX7_updates 3 none, .methodLink RX7 178 yX7_delay, .instanceMethod yX7_delay, .selects RX7 yX7_delay yX7_delay, .code yX7_delay cX7_delay 2 (some .int), .methodLink RX7 140 yX7_wayAt, .static yX7_wayAt, .code yX7_wayAt cX7_wayAt 2 (some .int)], w ∈ wsX7_goesFrom := in_l qxX7_goesFrom_0
theorem qxX7_goesFrom_2 : ∀ w ∈ wsX70, w ∈ wsX7_goesFrom := in_r qxX7_goesFrom_0
def pxX7_goesFrom : List (List Cond) := [[.fieldLink RX7 22 "HopCreditsModel" "now" "[I", .fieldLink RX7 31 "HopCreditsModel" "hop" "[I", .methodLink RX7 163 yX7_lane, .static yX7_lane, .initialized RX7, .code yX7_lane cX7_lane 2 (some .int), .methodLink RX7 181 yX7_updates, .instanceMethod yX7_updates, .selects RX7 yX7_updates yX7_updates, .code yX7_updates cX7_updates 3 none, .methodLink RX7 178 yX7_delay, .instanceMethod yX7_delay, .selects RX7 yX7_delay yX7_delay, .code yX7_delay cX7_delay 2 (some .int), .methodLink RX7 140 yX7_wayAt, .static yX7_wayAt, .code yX7_wayAt cX7_wayAt 2 (some .int)], wsX70]
theorem pxX7_goesFrom_in : ∀ q ∈ pxX7_goesFrom, ∀ w ∈ q, w ∈ wsX7_goesFrom := lp_c qxX7_goesFrom_1 (lp_c qxX7_goesFrom_2 (lp_n))
set_option maxRecDepth 20000 in
theorem ggX7_goesFrom_X7_updates : GoodIn wsX7_goesFrom wsX7_updates := goodIn_pp pxX7_goesFrom pxX7_goesFrom_in _ [(0, 9), (0, 0), (0, 10), (0, 11), (0, 12), (0, 4), (0, 13), (0, 1), (0, 14), (0, 15), (0, 16), (0, 2), (0, 3), (0, 5), (1, 0), (1, 1), (1, 2), (1, 3), (1, 4), (1, 5), (1, 6), (1, 7), (1, 8), (1, 9), (1, 10), (1, 11), (1, 12), (1, 13), (1, 14), (1, 15), (1, 16), (1, 17), (1, 18), (1, 19), (1, 20)] rfl (by decide +kernel)
set_option maxRecDepth 20000 in
theorem gX7_goesFrom_X7_updates : GoodIn wsX7_goesFrom (wsV RX7 181 RX7 yX7_updates wsX7_updates) := goodIn_app (goodIn_of _ (by decide +kernel)) ggX7_goesFrom_X7_updates
theorem dX7_goesFrom_0 : decode cX7_goesFrom 0 = .ok (.iload_n 1, 1) := by decide +kernel
theorem dX7_goesFrom_1 : decode cX7_goesFrom 1 = .ok (.iload_n 2, 1) := by decide +kernel
theorem dX7_goesFrom_2 : decode cX7_goesFrom 2 = .ok (.invokestatic 163, 3) := by decide +kernel
theorem dX7_goesFrom_5 : decode cX7_goesFrom 5 = .ok (.istore_n 3, 1) := by decide +kernel
theorem dX7_goesFrom_6 : decode cX7_goesFrom 6 = .ok (.aload_n 0, 1) := by decide +kernel
theorem dX7_goesFrom_7 : decode cX7_goesFrom 7 = .ok (.getfield 22, 3) := by decide +kernel
theorem dX7_goesFrom_10 : decode cX7_goesFrom 10 = .ok (.iload_n 3, 1) := by decide +kernel
theorem dX7_goesFrom_11 : decode cX7_goesFrom 11 = .ok (.iconst 1, 1) := by decide +kernel
theorem dX7_goesFrom_12 : decode cX7_goesFrom 12 = .ok (.iadd, 1) := by decide +kernel
theorem dX7_goesFrom_13 : decode cX7_goesFrom 13 = .ok (.aload_n 0, 1) := by decide +kernel
theorem dX7_goesFrom_14 : decode cX7_goesFrom 14 = .ok (.getfield 22, 3) := by decide +kernel
theorem dX7_goesFrom_17 : decode cX7_goesFrom 17 = .ok (.iload_n 3, 1) := by decide +kernel
theorem dX7_goesFrom_18 : decode cX7_goesFrom 18 = .ok (.iconst 1, 1) := by decide +kernel
theorem dX7_goesFrom_19 : decode cX7_goesFrom 19 = .ok (.iadd, 1) := by decide +kernel
theorem dX7_goesFrom_20 : decode cX7_goesFrom 20 = .ok (.iaload, 1) := by decide +kernel
theorem dX7_goesFrom_21 : decode cX7_goesFrom 21 = .ok (.iconst 1, 1) := by decide +kernel
theorem dX7_goesFrom_22 : decode cX7_goesFrom 22 = .ok (.iadd, 1) := by decide +kernel
theorem dX7_goesFrom_23 : decode cX7_goesFrom 23 = .ok (.bipush 64, 2) := by decide +kernel
theorem dX7_goesFrom_25 : decode cX7_goesFrom 25 = .ok (.irem, 1) := by decide +kernel
theorem dX7_goesFrom_26 : decode cX7_goesFrom 26 = .ok (.iastore, 1) := by decide +kernel
theorem dX7_goesFrom_27 : decode cX7_goesFrom 27 = .ok (.aload_n 0, 1) := by decide +kernel
theorem dX7_goesFrom_28 : decode cX7_goesFrom 28 = .ok (.getfield 22, 3) := by decide +kernel
theorem dX7_goesFrom_31 : decode cX7_goesFrom 31 = .ok (.iload_n 3, 1) := by decide +kernel
theorem dX7_goesFrom_32 : decode cX7_goesFrom 32 = .ok (.iconst 5, 1) := by decide +kernel
theorem dX7_goesFrom_33 : decode cX7_goesFrom 33 = .ok (.iadd, 1) := by decide +kernel
theorem dX7_goesFrom_34 : decode cX7_goesFrom 34 = .ok (.dup2, 1) := by decide +kernel
theorem dX7_goesFrom_35 : decode cX7_goesFrom 35 = .ok (.iaload, 1) := by decide +kernel
theorem dX7_goesFrom_36 : decode cX7_goesFrom 36 = .ok (.iconst 1, 1) := by decide +kernel
theorem dX7_goesFrom_37 : decode cX7_goesFrom 37 = .ok (.iadd, 1) := by decide +kernel
theorem dX7_goesFrom_38 : decode cX7_goesFrom 38 = .ok (.iastore, 1) := by decide +kernel
theorem dX7_goesFrom_39 : decode cX7_goesFrom 39 = .ok (.aload_n 0, 1) := by decide +kernel
theorem dX7_goesFrom_40 : decode cX7_goesFrom 40 = .ok (.getfield 22, 3) := by decide +kernel
theorem dX7_goesFrom_43 : decode cX7_goesFrom 43 = .ok (.iload_n 3, 1) := by decide +kernel
theorem dX7_goesFrom_44 : decode cX7_goesFrom 44 = .ok (.iconst 5, 1) := by decide +kernel
theorem dX7_goesFrom_45 : decode cX7_goesFrom 45 = .ok (.iadd, 1) := by decide +kernel
theorem dX7_goesFrom_46 : decode cX7_goesFrom 46 = .ok (.iaload, 1) := by decide +kernel
theorem dX7_goesFrom_47 : decode cX7_goesFrom 47 = .ok (.aload_n 0, 1) := by decide +kernel
theorem dX7_goesFrom_48 : decode cX7_goesFrom 48 = .ok (.getfield 31, 3) := by decide +kernel
theorem dX7_goesFrom_51 : decode cX7_goesFrom 51 = .ok (.iconst 3, 1) := by decide +kernel
theorem dX7_goesFrom_52 : decode cX7_goesFrom 52 = .ok (.iload_n 1, 1) := by decide +kernel
theorem dX7_goesFrom_53 : decode cX7_goesFrom 53 = .ok (.imul, 1) := by decide +kernel
theorem dX7_goesFrom_54 : decode cX7_goesFrom 54 = .ok (.iconst 2, 1) := by decide +kernel
theorem dX7_goesFrom_55 : decode cX7_goesFrom 55 = .ok (.iadd, 1) := by decide +kernel
theorem dX7_goesFrom_56 : decode cX7_goesFrom 56 = .ok (.iaload, 1) := by decide +kernel
theorem dX7_goesFrom_57 : decode cX7_goesFrom 57 = .ok (.if_icmp .ne 18, 3) := by decide +kernel
theorem dX7_goesFrom_60 : decode cX7_goesFrom 60 = .ok (.aload_n 0, 1) := by decide +kernel
theorem dX7_goesFrom_61 : decode cX7_goesFrom 61 = .ok (.getfield 22, 3) := by decide +kernel
theorem dX7_goesFrom_64 : decode cX7_goesFrom 64 = .ok (.iload_n 3, 1) := by decide +kernel
theorem dX7_goesFrom_65 : decode cX7_goesFrom 65 = .ok (.iconst 5, 1) := by decide +kernel
theorem dX7_goesFrom_66 : decode cX7_goesFrom 66 = .ok (.iadd, 1) := by decide +kernel
theorem dX7_goesFrom_67 : decode cX7_goesFrom 67 = .ok (.iconst 0, 1) := by decide +kernel
theorem dX7_goesFrom_68 : decode cX7_goesFrom 68 = .ok (.iastore, 1) := by decide +kernel
theorem dX7_goesFrom_69 : decode cX7_goesFrom 69 = .ok (.aload_n 0, 1) := by decide +kernel
theorem dX7_goesFrom_70 : decode cX7_goesFrom 70 = .ok (.iload_n 1, 1) := by decide +kernel
theorem dX7_goesFrom_71 : decode cX7_goesFrom 71 = .ok (.iload_n 2, 1) := by decide +kernel
theorem dX7_goesFrom_72 : decode cX7_goesFrom 72 = .ok (.invokevirtual 181, 3) := by decide +kernel
theorem dX7_goesFrom_75 : decode cX7_goesFrom 75 = .ok (.return_, 1) := by decide +kernel
set_option maxRecDepth 20000 in
theorem ggX7_probes_X7_delay : GoodIn wsX7_probes wsX7_delay := goodIn_r _ [6, 7, 14, 15, 16, 17, 18, 19, 20, 21, 22, 23, 24, 25, 26, 27, 28, 29, 30, 31, 32, 33, 34] (by decide +kernel) (by decide +kernel)
set_option maxRecDepth 20000 in
theorem gX7_probes_X7_delay : GoodIn wsX7_probes (wsV RX7 178 RX7 yX7_delay wsX7_delay) := goodIn_app (goodIn_of _ (by decide +kernel)) ggX7_probes_X7_delay
set_option maxRecDepth 20000 in
theorem ggX7_probes_X7_wayAt : GoodIn wsX7_probes wsX7_wayAt := goodIn_r _ [10] (by decide +kernel) (by decide +kernel)
set_option maxRecDepth 20000 in
theorem gX7_probes_X7_wayAt : GoodIn wsX7_probes (va_wsS RX7 140 yX7_wayAt wsX7_wayAt) := goodIn_app (goodIn_of _ (by decide +kernel)) ggX7_probes_X7_wayAt
set_option maxRecDepth 20000 in
theorem ggX7_probes_X7_lane : GoodIn wsX7_probes wsX7_lane := goodIn_r _ [13] (by decide +kernel) (by decide +kernel)
set_option maxRecDepth 20000 in
theorem gX7_probes_X7_lane : GoodIn wsX7_probes (va_wsS RX7 163 yX7_lane wsX7_lane) := goodIn_app (goodIn_of _ (by decide +kernel)) ggX7_probes_X7_lane
theorem dX7_probes_0 : decode cX7_probes 0 = .ok (.aload_n 0, 1) := by decide +kernel
theorem dX7_probes_1 : decode cX7_probes 1 = .ok (.getfield 22, 3) := by decide +kernel
theorem dX7_probes_4 : decode cX7_probes 4 = .ok (.iload_n 1, 1) := by decide +kernel
theorem dX7_probes_5 : decode cX7_probes 5 = .ok (.aload_n 0, 1) := by decide +kernel
theorem dX7_probes_6 : decode cX7_probes 6 = .ok (.getfield 22, 3) := by decide +kernel
theorem dX7_probes_9 : decode cX7_probes 9 = .ok (.sipush 1764, 3) := by decide +kernel
theorem dX7_probes_12 : decode cX7_probes 12 = .ok (.iaload, 1) := by decide +kernel
theorem dX7_probes_13 : decode cX7_probes 13 = .ok (.aload_n 0, 1) := by decide +kernel
theorem dX7_probes_14 : decode cX7_probes 14 = .ok (.iload_n 1, 1) := by decide +kernel
theorem dX7_probes_15 : decode cX7_probes 15 = .ok (.invokevirtual 178, 3) := by decide +kernel
theorem dX7_probes_18 : decode cX7_probes 18 = .ok (.iadd, 1) := by decide +kernel
theorem dX7_probes_19 : decode cX7_probes 19 = .ok (.invokestatic 140, 3) := by decide +kernel
theorem dX7_probes_22 : decode cX7_probes 22 = .ok (.iconst 4, 1) := by decide +kernel
theorem dX7_probes_23 : decode cX7_probes 23 = .ok (.iadd, 1) := by decide +kernel
theorem dX7_probes_24 : decode cX7_probes 24 = .ok (.dup2, 1) := by decide +kernel
theorem dX7_probes_25 : decode cX7_probes 25 = .ok (.iaload, 1) := by decide +kernel
theorem dX7_probes_26 : decode cX7_probes 26 = .ok (.iconst 1, 1) := by decide +kernel
theorem dX7_probes_27 : decode cX7_probes 27 = .ok (.iload_n 2, 1) := by decide +kernel
theorem dX7_probes_28 : decode cX7_probes 28 = .ok (.ishl, 1) := by decide +kernel
theorem dX7_probes_29 : decode cX7_probes 29 = .ok (.ior, 1) := by decide +kernel
theorem dX7_probes_30 : decode cX7_probes 30 = .ok (.iastore, 1) := by decide +kernel
theorem dX7_probes_31 : decode cX7_probes 31 = .ok (.aload_n 0, 1) := by decide +kernel
theorem dX7_probes_32 : decode cX7_probes 32 = .ok (.getfield 22, 3) := by decide +kernel
theorem dX7_probes_35 : decode cX7_probes 35 = .ok (.sipush 1766, 3) := by decide +kernel
theorem dX7_probes_38 : decode cX7_probes 38 = .ok (.dup2, 1) := by decide +kernel
theorem dX7_probes_39 : decode cX7_probes 39 = .ok (.iaload, 1) := by decide +kernel
theorem dX7_probes_40 : decode cX7_probes 40 = .ok (.iconst 1, 1) := by decide +kernel
theorem dX7_probes_41 : decode cX7_probes 41 = .ok (.iadd, 1) := by decide +kernel
theorem dX7_probes_42 : decode cX7_probes 42 = .ok (.iastore, 1) := by decide +kernel
theorem dX7_probes_43 : decode cX7_probes 43 = .ok (.aload_n 0, 1) := by decide +kernel
theorem dX7_probes_44 : decode cX7_probes 44 = .ok (.getfield 22, 3) := by decide +kernel
theorem dX7_probes_47 : decode cX7_probes 47 = .ok (.iload_n 1, 1) := by decide +kernel
theorem dX7_probes_48 : decode cX7_probes 48 = .ok (.iload_n 2, 1) := by decide +kernel
theorem dX7_probes_49 : decode cX7_probes 49 = .ok (.invokestatic 163, 3) := by decide +kernel
theorem dX7_probes_52 : decode cX7_probes 52 = .ok (.iconst 4, 1) := by decide +kernel
theorem dX7_probes_53 : decode cX7_probes 53 = .ok (.iadd, 1) := by decide +kernel
theorem dX7_probes_54 : decode cX7_probes 54 = .ok (.iconst 0, 1) := by decide +kernel
theorem dX7_probes_55 : decode cX7_probes 55 = .ok (.iastore, 1) := by decide +kernel
theorem dX7_probes_56 : decode cX7_probes 56 = .ok (.return_, 1) := by decide +kernel
set_option maxRecDepth 20000 in
theorem ggX7_arrives_X7_wayAt : GoodIn wsX7_arrives wsX7_wayAt := goodIn_r _ [6] (by decide +kernel) (by decide +kernel)
set_option maxRecDepth 20000 in
theorem gX7_arrives_X7_wayAt : GoodIn wsX7_arrives (va_wsS RX7 140 yX7_wayAt wsX7_wayAt) := goodIn_app (goodIn_of _ (by decide +kernel)) ggX7_arrives_X7_wayAt
set_option maxRecDepth 20000 in
theorem ggX7_arrives_X7_bufferAt : GoodIn wsX7_arrives wsX7_bufferAt := goodIn_r _ [9] (by decide +kernel) (by decide +kernel)
set_option maxRecDepth 20000 in
theorem gX7_arrives_X7_bufferAt : GoodIn wsX7_arrives (va_wsS RX7 184 yX7_bufferAt wsX7_bufferAt) := goodIn_app (goodIn_of _ (by decide +kernel)) ggX7_arrives_X7_bufferAt
set_option maxRecDepth 20000 in
theorem ggX7_arrives_X7_lane : GoodIn wsX7_arrives wsX7_lane := goodIn_r _ [12] (by decide +kernel) (by decide +kernel)
set_option maxRecDepth 20000 in
theorem gX7_arrives_X7_lane : GoodIn wsX7_arrives (va_wsS RX7 163 yX7_lane wsX7_lane) := goodIn_app (goodIn_of _ (by decide +kernel)) ggX7_arrives_X7_lane
set_option maxRecDepth 20000 in
theorem ggX7_arrives_X7_less : GoodIn wsX7_arrives wsX7_less := goodIn_r _ [15] (by decide +kernel) (by decide +kernel)
set_option maxRecDepth 20000 in
theorem gX7_arrives_X7_less : GoodIn wsX7_arrives (va_wsS RX7 166 yX7_less wsX7_less) := goodIn_app (goodIn_of _ (by decide +kernel)) ggX7_arrives_X7_less
theorem qxX7_arrives_0 : ∀ w ∈ ((wsX7_arrives_r1 ++ wsX7_arrives_r2) ++ wsX70), w ∈ wsX7_arrives := fun w h => List.mem_cons_of_mem _ h
theorem qxX7_arrives_1 : ∀ w ∈ (wsX7_arrives_r1 ++ wsX7_arrives_r2), w ∈ wsX7_arrives := in_l qxX7_arrives_0
theorem qxX7_arrives_2 : ∀ w ∈ wsX70, w ∈ wsX7_arrives := in_r qxX7_arrives_0
theorem qxX7_arrives_3 : ∀ w ∈ wsX7_arrives_r1, w ∈ wsX7_arrives := in_l qxX7_arrives_1
theorem qxX7_arrives_4 : ∀ w ∈ wsX7_arrives_r2, w ∈ wsX7_arrives := in_r qxX7_arrives_1
def pxX7_arrives : List (List Cond) := [wsX7_arrives_r1, wsX7_arrives_r2, wsX70]
theorem pxX7_arrives_in : ∀ q ∈ pxX7_arrives, ∀ w ∈ q, w ∈ wsX7_arrives := lp_c qxX7_arrives_3 (lp_c qxX7_arrives_4 (lp_c qxX7_arrives_2 (lp_n)))
set_option maxRecDepth 20000 in
theorem ggX7_arrives_X7_clearsWay : GoodIn wsX7_arrives wsX7_clearsWay := goodIn_pp pxX7_arrives pxX7_arrives_in _ [(0, 18), (0, 0), (0, 2), (0, 3), (0, 4), (0, 5), (2, 0), (2, 1), (2, 2), (2, 3), (2, 4), (2, 5), (2, 6), (2, 7), (2, 8), (2, 9), (2, 10), (2, 11), (2, 12), (2, 13), (2, 14), (2, 15), (2, 16), (2, 17), (2, 18), (2, 19), (2, 20)] rfl (by decide +kernel)
set_option maxRecDepth 20000 in
theorem gX7_arrives_X7_clearsWay : GoodIn wsX7_arrives (wsV RX7 159 RX7 yX7_clearsWay wsX7_clearsWay) := goodIn_app (goodIn_of _ (by decide +kernel)) ggX7_arrives_X7_clearsWay
set_option maxRecDepth 20000 in
theorem ggX7_arrives_X7_has : GoodIn wsX7_arrives wsX7_has := goodIn_r _ [22] (by decide +kernel) (by decide +kernel)
set_option maxRecDepth 20000 in
theorem gX7_arrives_X7_has : GoodIn wsX7_arrives (va_wsS RX7 95 yX7_has wsX7_has) := goodIn_app (goodIn_of _ (by decide +kernel)) ggX7_arrives_X7_has
set_option maxRecDepth 20000 in
theorem ggX7_arrives_X7_updates : GoodIn wsX7_arrives wsX7_updates := goodIn_pp pxX7_arrives pxX7_arrives_in _ [(1, 1), (0, 0), (1, 2), (1, 3), (1, 4), (0, 4), (1, 5), (1, 6), (0, 2), (0, 3), (0, 5), (0, 9), (0, 10), (0, 11), (2, 0), (2, 1), (2, 2), (2, 3), (2, 4), (2, 5), (2, 6), (2, 7), (2, 8), (2, 9), (2, 10), (2, 11), (2, 12), (2, 13), (2, 14), (2, 15), (2, 16), (2, 17), (2, 18), (2, 19), (2, 20)] rfl (by decide +kernel)
set_option maxRecDepth 20000 in
theorem gX7_arrives_X7_updates : GoodIn wsX7_arrives (wsV RX7 181 RX7 yX7_updates wsX7_updates) := goodIn_app (goodIn_of _ (by decide +kernel)) ggX7_arrives_X7_updates
theorem dX7_arrives_0 : decode cX7_arrives 0 = .ok (.iload_n 1, 1) := by decide +kernel
theorem dX7_arrives_1 : decode cX7_arrives 1 = .ok (.aload_n 0, 1) := by decide +kernel
theorem dX7_arrives_2 : decode cX7_arrives 2 = .ok (.getfield 22, 3) := by decide +kernel
theorem dX7_arrives_5 : decode cX7_arrives 5 = .ok (.sipush 1764, 3) := by decide +kernel
theorem dX7_arrives_8 : decode cX7_arrives 8 = .ok (.iaload, 1) := by decide +kernel
theorem dX7_arrives_9 : decode cX7_arrives 9 = .ok (.invokestatic 140, 3) := by decide +kernel
theorem dX7_arrives_12 : decode cX7_arrives 12 = .ok (.istore_n 2, 1) := by decide +kernel
theorem dX7_arrives_13 : decode cX7_arrives 13 = .ok (.aload_n 0, 1) := by decide +kernel
theorem dX7_arrives_14 : decode cX7_arrives 14 = .ok (.getfield 22, 3) := by decide +kernel
theorem dX7_arrives_17 : decode cX7_arrives 17 = .ok (.iload_n 2, 1) := by decide +kernel
theorem dX7_arrives_18 : decode cX7_arrives 18 = .ok (.iconst 0, 1) := by decide +kernel
theorem dX7_arrives_19 : decode cX7_arrives 19 = .ok (.iadd, 1) := by decide +kernel
theorem dX7_arrives_20 : decode cX7_arrives 20 = .ok (.iaload, 1) := by decide +kernel
theorem dX7_arrives_21 : decode cX7_arrives 21 = .ok (.istore_n 3, 1) := by decide +kernel
theorem dX7_arrives_22 : decode cX7_arrives 22 = .ok (.iload_n 3, 1) := by decide +kernel
theorem dX7_arrives_23 : decode cX7_arrives 23 = .ok (.iconst (-1), 1) := by decide +kernel
theorem dX7_arrives_24 : decode cX7_arrives 24 = .ok (.if_icmp .eq 19, 3) := by decide +kernel
theorem dX7_arrives_27 : decode cX7_arrives 27 = .ok (.aload_n 0, 1) := by decide +kernel
theorem dX7_arrives_28 : decode cX7_arrives 28 = .ok (.getfield 22, 3) := by decide +kernel
theorem dX7_arrives_31 : decode cX7_arrives 31 = .ok (.iload_n 1, 1) := by decide +kernel
theorem dX7_arrives_32 : decode cX7_arrives 32 = .ok (.iconst 1, 1) := by decide +kernel
theorem dX7_arrives_33 : decode cX7_arrives 33 = .ok (.iadd, 1) := by decide +kernel
theorem dX7_arrives_34 : decode cX7_arrives 34 = .ok (.iload_n 3, 1) := by decide +kernel
theorem dX7_arrives_35 : decode cX7_arrives 35 = .ok (.invokestatic 184, 3) := by decide +kernel
theorem dX7_arrives_38 : decode cX7_arrives 38 = .ok (.dup2, 1) := by decide +kernel
theorem dX7_arrives_39 : decode cX7_arrives 39 = .ok (.iaload, 1) := by decide +kernel
theorem dX7_arrives_40 : decode cX7_arrives 40 = .ok (.iconst 1, 1) := by decide +kernel
theorem dX7_arrives_41 : decode cX7_arrives 41 = .ok (.iadd, 1) := by decide +kernel
theorem dX7_arrives_42 : decode cX7_arrives 42 = .ok (.iastore, 1) := by decide +kernel
theorem dX7_arrives_43 : decode cX7_arrives 43 = .ok (.iconst 0, 1) := by decide +kernel
theorem dX7_arrives_44 : decode cX7_arrives 44 = .ok (.istore 4, 2) := by decide +kernel
theorem dX7_arrives_46 : decode cX7_arrives 46 = .ok (.iload 4, 2) := by decide +kernel
theorem dX7_arrives_48 : decode cX7_arrives 48 = .ok (.aload_n 0, 1) := by decide +kernel
theorem dX7_arrives_49 : decode cX7_arrives 49 = .ok (.getfield 127, 3) := by decide +kernel
theorem dX7_arrives_52 : decode cX7_arrives 52 = .ok (.if_icmp .ge 66, 3) := by decide +kernel
theorem dX7_arrives_55 : decode cX7_arrives 55 = .ok (.aload_n 0, 1) := by decide +kernel
theorem dX7_arrives_56 : decode cX7_arrives 56 = .ok (.getfield 22, 3) := by decide +kernel
theorem dX7_arrives_59 : decode cX7_arrives 59 = .ok (.iload_n 2, 1) := by decide +kernel
theorem dX7_arrives_60 : decode cX7_arrives 60 = .ok (.iconst 1, 1) := by decide +kernel
theorem dX7_arrives_61 : decode cX7_arrives 61 = .ok (.iadd, 1) := by decide +kernel
theorem dX7_arrives_62 : decode cX7_arrives 62 = .ok (.iload 4, 2) := by decide +kernel
theorem dX7_arrives_64 : decode cX7_arrives 64 = .ok (.iadd, 1) := by decide +kernel
theorem dX7_arrives_65 : decode cX7_arrives 65 = .ok (.iaload, 1) := by decide +kernel
theorem dX7_arrives_66 : decode cX7_arrives 66 = .ok (.istore 5, 2) := by decide +kernel
theorem dX7_arrives_68 : decode cX7_arrives 68 = .ok (.iload 5, 2) := by decide +kernel
theorem dX7_arrives_70 : decode cX7_arrives 70 = .ok (.iconst (-1), 1) := by decide +kernel
theorem dX7_arrives_71 : decode cX7_arrives 71 = .ok (.if_icmp .eq 41, 3) := by decide +kernel
theorem dX7_arrives_74 : decode cX7_arrives 74 = .ok (.iload 5, 2) := by decide +kernel
theorem dX7_arrives_76 : decode cX7_arrives 76 = .ok (.aload_n 0, 1) := by decide +kernel
theorem dX7_arrives_77 : decode cX7_arrives 77 = .ok (.getfield 22, 3) := by decide +kernel
theorem dX7_arrives_80 : decode cX7_arrives 80 = .ok (.iload_n 1, 1) := by decide +kernel
theorem dX7_arrives_81 : decode cX7_arrives 81 = .ok (.iload 4, 2) := by decide +kernel
theorem dX7_arrives_83 : decode cX7_arrives 83 = .ok (.invokestatic 163, 3) := by decide +kernel
theorem dX7_arrives_86 : decode cX7_arrives 86 = .ok (.iconst 2, 1) := by decide +kernel
theorem dX7_arrives_87 : decode cX7_arrives 87 = .ok (.iadd, 1) := by decide +kernel
theorem dX7_arrives_88 : decode cX7_arrives 88 = .ok (.iaload, 1) := by decide +kernel
theorem dX7_arrives_89 : decode cX7_arrives 89 = .ok (.invokestatic 166, 3) := by decide +kernel
theorem dX7_arrives_92 : decode cX7_arrives 92 = .ok (.bipush 32, 2) := by decide +kernel
theorem dX7_arrives_94 : decode cX7_arrives 94 = .ok (.if_icmp .ge 18, 3) := by decide +kernel
theorem dX7_arrives_97 : decode cX7_arrives 97 = .ok (.aload_n 0, 1) := by decide +kernel
theorem dX7_arrives_98 : decode cX7_arrives 98 = .ok (.getfield 22, 3) := by decide +kernel
theorem dX7_arrives_101 : decode cX7_arrives 101 = .ok (.iload_n 1, 1) := by decide +kernel
theorem dX7_arrives_102 : decode cX7_arrives 102 = .ok (.iload 4, 2) := by decide +kernel
theorem dX7_arrives_104 : decode cX7_arrives 104 = .ok (.invokestatic 163, 3) := by decide +kernel
theorem dX7_arrives_107 : decode cX7_arrives 107 = .ok (.iconst 2, 1) := by decide +kernel
theorem dX7_arrives_108 : decode cX7_arrives 108 = .ok (.iadd, 1) := by decide +kernel
theorem dX7_arrives_109 : decode cX7_arrives 109 = .ok (.iload 5, 2) := by decide +kernel
theorem dX7_arrives_111 : decode cX7_arrives 111 = .ok (.iastore, 1) := by decide +kernel
theorem dX7_arrives_112 : decode cX7_arrives 112 = .ok (.iinc 4 1, 3) := by decide +kernel
theorem dX7_arrives_115 : decode cX7_arrives 115 = .ok (.goto (-69), 3) := by decide +kernel
theorem dX7_arrives_118 : decode cX7_arrives 118 = .ok (.aload_n 0, 1) := by decide +kernel
theorem dX7_arrives_119 : decode cX7_arrives 119 = .ok (.getfield 22, 3) := by decide +kernel
theorem dX7_arrives_122 : decode cX7_arrives 122 = .ok (.iload_n 2, 1) := by decide +kernel
theorem dX7_arrives_123 : decode cX7_arrives 123 = .ok (.iconst 4, 1) := by decide +kernel
theorem dX7_arrives_124 : decode cX7_arrives 124 = .ok (.iadd, 1) := by decide +kernel
theorem dX7_arrives_125 : decode cX7_arrives 125 = .ok (.iaload, 1) := by decide +kernel
theorem dX7_arrives_126 : decode cX7_arrives 126 = .ok (.istore 4, 2) := by decide +kernel
theorem dX7_arrives_128 : decode cX7_arrives 128 = .ok (.aload_n 0, 1) := by decide +kernel
theorem dX7_arrives_129 : decode cX7_arrives 129 = .ok (.iload_n 1, 1) := by decide +kernel
theorem dX7_arrives_130 : decode cX7_arrives 130 = .ok (.aload_n 0, 1) := by decide +kernel
theorem dX7_arrives_131 : decode cX7_arrives 131 = .ok (.getfield 22, 3) := by decide +kernel
theorem dX7_arrives_134 : decode cX7_arrives 134 = .ok (.sipush 1764, 3) := by decide +kernel
theorem dX7_arrives_137 : decode cX7_arrives 137 = .ok (.iaload, 1) := by decide +kernel
theorem dX7_arrives_138 : decode cX7_arrives 138 = .ok (.invokevirtual 159, 3) := by decide +kernel
theorem dX7_arrives_141 : decode cX7_arrives 141 = .ok (.iconst 0, 1) := by decide +kernel
theorem dX7_arrives_142 : decode cX7_arrives 142 = .ok (.istore 5, 2) := by decide +kernel
theorem dX7_arrives_144 : decode cX7_arrives 144 = .ok (.iload 5, 2) := by decide +kernel
theorem dX7_arrives_146 : decode cX7_arrives 146 = .ok (.aload_n 0, 1) := by decide +kernel
theorem dX7_arrives_147 : decode cX7_arrives 147 = .ok (.getfield 127, 3) := by decide +kernel
theorem dX7_arrives_150 : decode cX7_arrives 150 = .ok (.if_icmp .ge 26, 3) := by decide +kernel
theorem dX7_arrives_153 : decode cX7_arrives 153 = .ok (.iload 4, 2) := by decide +kernel
theorem dX7_arrives_155 : decode cX7_arrives 155 = .ok (.iload 5, 2) := by decide +kernel
theorem dX7_arrives_157 : decode cX7_arrives 157 = .ok (.invokestatic 95, 3) := by decide +kernel
theorem dX7_arrives_160 : decode cX7_arrives 160 = .ok (.ifCond .eq 10, 3) := by decide +kernel
theorem dX7_arrives_163 : decode cX7_arrives 163 = .ok (.aload_n 0, 1) := by decide +kernel
theorem dX7_arrives_164 : decode cX7_arrives 164 = .ok (.iload_n 1, 1) := by decide +kernel
theorem dX7_arrives_165 : decode cX7_arrives 165 = .ok (.iload 5, 2) := by decide +kernel
theorem dX7_arrives_167 : decode cX7_arrives 167 = .ok (.invokevirtual 181, 3) := by decide +kernel
theorem dX7_arrives_170 : decode cX7_arrives 170 = .ok (.iinc 5 1, 3) := by decide +kernel
theorem dX7_arrives_173 : decode cX7_arrives 173 = .ok (.goto (-29), 3) := by decide +kernel
theorem dX7_arrives_176 : decode cX7_arrives 176 = .ok (.return_, 1) := by decide +kernel
set_option maxRecDepth 20000 in
theorem ggX7_comes_X7_circuitAt : GoodIn wsX7_comes wsX7_circuitAt := goodIn_r _ [5] (by decide +kernel) (by decide +kernel)
set_option maxRecDepth 20000 in
theorem gX7_comes_X7_circuitAt : GoodIn wsX7_comes (va_wsS RX7 147 yX7_circuitAt wsX7_circuitAt) := goodIn_app (goodIn_of _ (by decide +kernel)) ggX7_comes_X7_circuitAt
set_option maxRecDepth 20000 in
theorem ggX7_comes_X7_bufferAt : GoodIn wsX7_comes wsX7_bufferAt := goodIn_r _ [8] (by decide +kernel) (by decide +kernel)
set_option maxRecDepth 20000 in
theorem gX7_comes_X7_bufferAt : GoodIn wsX7_comes (va_wsS RX7 184 yX7_bufferAt wsX7_bufferAt) := goodIn_app (goodIn_of _ (by decide +kernel)) ggX7_comes_X7_bufferAt
theorem dX7_comes_0 : decode cX7_comes 0 = .ok (.iload_n 1, 1) := by decide +kernel
theorem dX7_comes_1 : decode cX7_comes 1 = .ok (.invokestatic 147, 3) := by decide +kernel
theorem dX7_comes_4 : decode cX7_comes 4 = .ok (.istore_n 2, 1) := by decide +kernel
theorem dX7_comes_5 : decode cX7_comes 5 = .ok (.aload_n 0, 1) := by decide +kernel
theorem dX7_comes_6 : decode cX7_comes 6 = .ok (.getfield 22, 3) := by decide +kernel
theorem dX7_comes_9 : decode cX7_comes 9 = .ok (.iload_n 2, 1) := by decide +kernel
theorem dX7_comes_10 : decode cX7_comes 10 = .ok (.iconst 0, 1) := by decide +kernel
theorem dX7_comes_11 : decode cX7_comes 11 = .ok (.iadd, 1) := by decide +kernel
theorem dX7_comes_12 : decode cX7_comes 12 = .ok (.iaload, 1) := by decide +kernel
theorem dX7_comes_13 : decode cX7_comes 13 = .ok (.istore_n 3, 1) := by decide +kernel
theorem dX7_comes_14 : decode cX7_comes 14 = .ok (.aload_n 0, 1) := by decide +kernel
theorem dX7_comes_15 : decode cX7_comes 15 = .ok (.getfield 22, 3) := by decide +kernel
theorem dX7_comes_18 : decode cX7_comes 18 = .ok (.sipush 1764, 3) := by decide +kernel
theorem dX7_comes_21 : decode cX7_comes 21 = .ok (.iaload, 1) := by decide +kernel
theorem dX7_comes_22 : decode cX7_comes 22 = .ok (.aload_n 0, 1) := by decide +kernel
theorem dX7_comes_23 : decode cX7_comes 23 = .ok (.getfield 22, 3) := by decide +kernel
theorem dX7_comes_26 : decode cX7_comes 26 = .ok (.iload_n 2, 1) := by decide +kernel
theorem dX7_comes_27 : decode cX7_comes 27 = .ok (.iconst 1, 1) := by decide +kernel
theorem dX7_comes_28 : decode cX7_comes 28 = .ok (.iadd, 1) := by decide +kernel
theorem dX7_comes_29 : decode cX7_comes 29 = .ok (.iaload, 1) := by decide +kernel
theorem dX7_comes_30 : decode cX7_comes 30 = .ok (.isub, 1) := by decide +kernel
theorem dX7_comes_31 : decode cX7_comes 31 = .ok (.istore 4, 2) := by decide +kernel
theorem dX7_comes_33 : decode cX7_comes 33 = .ok (.iload_n 3, 1) := by decide +kernel
theorem dX7_comes_34 : decode cX7_comes 34 = .ok (.ifCond .eq 15, 3) := by decide +kernel
theorem dX7_comes_37 : decode cX7_comes 37 = .ok (.iload 4, 2) := by decide +kernel
theorem dX7_comes_39 : decode cX7_comes 39 = .ok (.ifCond .lt 10, 3) := by decide +kernel
theorem dX7_comes_42 : decode cX7_comes 42 = .ok (.iload 4, 2) := by decide +kernel
theorem dX7_comes_44 : decode cX7_comes 44 = .ok (.iload_n 3, 1) := by decide +kernel
theorem dX7_comes_45 : decode cX7_comes 45 = .ok (.irem, 1) := by decide +kernel
theorem dX7_comes_46 : decode cX7_comes 46 = .ok (.ifCond .eq 4, 3) := by decide +kernel
theorem dX7_comes_49 : decode cX7_comes 49 = .ok (.return_, 1) := by decide +kernel
theorem dX7_comes_50 : decode cX7_comes 50 = .ok (.aload_n 0, 1) := by decide +kernel
theorem dX7_comes_51 : decode cX7_comes 51 = .ok (.getfield 22, 3) := by decide +kernel
theorem dX7_comes_54 : decode cX7_comes 54 = .ok (.iconst 0, 1) := by decide +kernel
theorem dX7_comes_55 : decode cX7_comes 55 = .ok (.iload_n 1, 1) := by decide +kernel
theorem dX7_comes_56 : decode cX7_comes 56 = .ok (.invokestatic 184, 3) := by decide +kernel
theorem dX7_comes_59 : decode cX7_comes 59 = .ok (.iaload, 1) := by decide +kernel
theorem dX7_comes_60 : decode cX7_comes 60 = .ok (.bipush 99, 2) := by decide +kernel
theorem dX7_comes_62 : decode cX7_comes 62 = .ok (.if_icmp .ne 16, 3) := by decide +kernel
theorem dX7_comes_65 : decode cX7_comes 65 = .ok (.aload_n 0, 1) := by decide +kernel
theorem dX7_comes_66 : decode cX7_comes 66 = .ok (.getfield 22, 3) := by decide +kernel
theorem dX7_comes_69 : decode cX7_comes 69 = .ok (.iload_n 2, 1) := by decide +kernel
theorem dX7_comes_70 : decode cX7_comes 70 = .ok (.iconst 4, 1) := by decide +kernel
theorem dX7_comes_71 : decode cX7_comes 71 = .ok (.iadd, 1) := by decide +kernel
theorem dX7_comes_72 : decode cX7_comes 72 = .ok (.dup2, 1) := by decide +kernel
theorem dX7_comes_73 : decode cX7_comes 73 = .ok (.iaload, 1) := by decide +kernel
theorem dX7_comes_74 : decode cX7_comes 74 = .ok (.iconst 1, 1) := by decide +kernel
theorem dX7_comes_75 : decode cX7_comes 75 = .ok (.iadd, 1) := by decide +kernel
theorem dX7_comes_76 : decode cX7_comes 76 = .ok (.iastore, 1) := by decide +kernel
theorem dX7_comes_77 : decode cX7_comes 77 = .ok (.return_, 1) := by decide +kernel
theorem dX7_comes_78 : decode cX7_comes 78 = .ok (.aload_n 0, 1) := by decide +kernel
theorem dX7_comes_79 : decode cX7_comes 79 = .ok (.getfield 22, 3) := by decide +kernel
theorem dX7_comes_82 : decode cX7_comes 82 = .ok (.sipush 228, 3) := by decide +kernel
theorem dX7_comes_85 : decode cX7_comes 85 = .ok (.sipush 512, 3) := by decide +kernel
theorem dX7_comes_88 : decode cX7_comes 88 = .ok (.iload_n 1, 1) := by decide +kernel
theorem dX7_comes_89 : decode cX7_comes 89 = .ok (.imul, 1) := by decide +kernel
theorem dX7_comes_90 : decode cX7_comes 90 = .ok (.iadd, 1) := by decide +kernel
theorem dX7_comes_91 : decode cX7_comes 91 = .ok (.aload_n 0, 1) := by decide +kernel
theorem dX7_comes_92 : decode cX7_comes 92 = .ok (.getfield 22, 3) := by decide +kernel
theorem dX7_comes_95 : decode cX7_comes 95 = .ok (.iload_n 2, 1) := by decide +kernel
theorem dX7_comes_96 : decode cX7_comes 96 = .ok (.iconst 3, 1) := by decide +kernel
theorem dX7_comes_97 : decode cX7_comes 97 = .ok (.iadd, 1) := by decide +kernel
theorem dX7_comes_98 : decode cX7_comes 98 = .ok (.iaload, 1) := by decide +kernel
theorem dX7_comes_99 : decode cX7_comes 99 = .ok (.sipush 512, 3) := by decide +kernel
theorem dX7_comes_102 : decode cX7_comes 102 = .ok (.irem, 1) := by decide +kernel
theorem dX7_comes_103 : decode cX7_comes 103 = .ok (.iadd, 1) := by decide +kernel
theorem dX7_comes_104 : decode cX7_comes 104 = .ok (.aload_n 0, 1) := by decide +kernel
theorem dX7_comes_105 : decode cX7_comes 105 = .ok (.getfield 22, 3) := by decide +kernel
theorem dX7_comes_108 : decode cX7_comes 108 = .ok (.sipush 1764, 3) := by decide +kernel
theorem dX7_comes_111 : decode cX7_comes 111 = .ok (.iaload, 1) := by decide +kernel
theorem dX7_comes_112 : decode cX7_comes 112 = .ok (.iastore, 1) := by decide +kernel
theorem dX7_comes_113 : decode cX7_comes 113 = .ok (.aload_n 0, 1) := by decide +kernel
theorem dX7_comes_114 : decode cX7_comes 114 = .ok (.getfield 22, 3) := by decide +kernel
theorem dX7_comes_117 : decode cX7_comes 117 = .ok (.iload_n 2, 1) := by decide +kernel
theorem dX7_comes_118 : decode cX7_comes 118 = .ok (.iconst 3, 1) := by decide +kernel
theorem dX7_comes_119 : decode cX7_comes 119 = .ok (.iadd, 1) := by decide +kernel
theorem dX7_comes_120 : decode cX7_comes 120 = .ok (.dup2, 1) := by decide +kernel
theorem dX7_comes_121 : decode cX7_comes 121 = .ok (.iaload, 1) := by decide +kernel
theorem dX7_comes_122 : decode cX7_comes 122 = .ok (.iconst 1, 1) := by decide +kernel
theorem dX7_comes_123 : decode cX7_comes 123 = .ok (.iadd, 1) := by decide +kernel
theorem dX7_comes_124 : decode cX7_comes 124 = .ok (.iastore, 1) := by decide +kernel
theorem dX7_comes_125 : decode cX7_comes 125 = .ok (.aload_n 0, 1) := by decide +kernel
theorem dX7_comes_126 : decode cX7_comes 126 = .ok (.getfield 22, 3) := by decide +kernel
theorem dX7_comes_129 : decode cX7_comes 129 = .ok (.iconst 0, 1) := by decide +kernel
theorem dX7_comes_130 : decode cX7_comes 130 = .ok (.iload_n 1, 1) := by decide +kernel
theorem dX7_comes_131 : decode cX7_comes 131 = .ok (.invokestatic 184, 3) := by decide +kernel
theorem dX7_comes_134 : decode cX7_comes 134 = .ok (.dup2, 1) := by decide +kernel
theorem dX7_comes_135 : decode cX7_comes 135 = .ok (.iaload, 1) := by decide +kernel
theorem dX7_comes_136 : decode cX7_comes 136 = .ok (.iconst 1, 1) := by decide +kernel
theorem dX7_comes_137 : decode cX7_comes 137 = .ok (.iadd, 1) := by decide +kernel
theorem dX7_comes_138 : decode cX7_comes 138 = .ok (.iastore, 1) := by decide +kernel
theorem dX7_comes_139 : decode cX7_comes 139 = .ok (.return_, 1) := by decide +kernel
set_option maxRecDepth 20000 in
theorem ggX7_isTaken_X7_circuitAt : GoodIn wsX7_isTaken wsX7_circuitAt := goodIn_r _ [10] (by decide +kernel) (by decide +kernel)
set_option maxRecDepth 20000 in
theorem gX7_isTaken_X7_circuitAt : GoodIn wsX7_isTaken (va_wsS RX7 147 yX7_circuitAt wsX7_circuitAt) := goodIn_app (goodIn_of _ (by decide +kernel)) ggX7_isTaken_X7_circuitAt
set_option maxRecDepth 20000 in
theorem ggX7_isTaken_X7_bufferAt : GoodIn wsX7_isTaken wsX7_bufferAt := goodIn_r _ [13] (by decide +kernel) (by decide +kernel)
set_option maxRecDepth 20000 in
theorem gX7_isTaken_X7_bufferAt : GoodIn wsX7_isTaken (va_wsS RX7 184 yX7_bufferAt wsX7_bufferAt) := goodIn_app (goodIn_of _ (by decide +kernel)) ggX7_isTaken_X7_bufferAt
theorem qxX7_isTaken_0 : ∀ w ∈ ((wsX7_isTaken_r1 ++ wsX7_isTaken_r2) ++ wsX70), w ∈ wsX7_isTaken := fun w h => List.mem_cons_of_mem _ h
theorem qxX7_isTaken_1 : ∀ w ∈ (wsX7_isTaken_r1 ++ wsX7_isTaken_r2), w ∈ wsX7_isTaken := in_l qxX7_isTaken_0
theorem qxX7_isTaken_2 : ∀ w ∈ wsX70, w ∈ wsX7_isTaken := in_r qxX7_isTaken_0
theorem qxX7_isTaken_3 : ∀ w ∈ wsX7_isTaken_r1, w ∈ wsX7_isTaken := in_l qxX7_isTaken_1
theorem qxX7_isTaken_4 : ∀ w ∈ wsX7_isTaken_r2, w ∈ wsX7_isTaken := in_r qxX7_isTaken_1
def pxX7_isTaken : List (List Cond) := [wsX7_isTaken_r1, wsX7_isTaken_r2, wsX70]
theorem pxX7_isTaken_in : ∀ q ∈ pxX7_isTaken, ∀ w ∈ q, w ∈ wsX7_isTaken := lp_c qxX7_isTaken_3 (lp_c qxX7_isTaken_4 (lp_c qxX7_isTaken_2 (lp_n)))
set_option maxRecDepth 20000 in
theorem ggX7_isTaken_X7_goesFrom : GoodIn wsX7_isTaken wsX7_goesFrom := goodIn_pp pxX7_isTaken pxX7_isTaken_in _ [(0, 16), (0, 0), (0, 17), (0, 18), (0, 19), (0, 8), (0, 20), (0, 21), (0, 22), (0, 23), (1, 0), (1, 1), (1, 2), (1, 3), (1, 4), (1, 5), (1, 6), (1, 7), (2, 0), (2, 1), (2, 2), (2, 3), (2, 4), (2, 5), (2, 6), (2, 7), (2, 8), (2, 9), (2, 10), (2, 11), (2, 12), (2, 13), (2, 14), (2, 15), (2, 16), (2, 17), (2, 18), (2, 19), (2, 20)] rfl (by decide +kernel)
set_option maxRecDepth 20000 in
theorem gX7_isTaken_X7_goesFrom : GoodIn wsX7_isTaken (wsV RX7 187 RX7 yX7_goesFrom wsX7_goesFrom) := goodIn_app (goodIn_of _ (by decide +kernel)) ggX7_isTaken_X7_goesFrom
theorem dX7_isTaken_0 : decode cX7_isTaken 0 = .ok (.iload_n 1, 1) := by decide +kernel
theorem dX7_isTaken_1 : decode cX7_isTaken 1 = .ok (.invokestatic 147, 3) := by decide +kernel
theorem dX7_isTaken_4 : decode cX7_isTaken 4 = .ok (.istore_n 2, 1) := by decide +kernel
theorem dX7_isTaken_5 : decode cX7_isTaken 5 = .ok (.aload_n 0, 1) := by decide +kernel
theorem dX7_isTaken_6 : decode cX7_isTaken 6 = .ok (.getfield 22, 3) := by decide +kernel
theorem dX7_isTaken_9 : decode cX7_isTaken 9 = .ok (.iload_n 2, 1) := by decide +kernel
theorem dX7_isTaken_10 : decode cX7_isTaken 10 = .ok (.iconst 2, 1) := by decide +kernel
theorem dX7_isTaken_11 : decode cX7_isTaken 11 = .ok (.iadd, 1) := by decide +kernel
theorem dX7_isTaken_12 : decode cX7_isTaken 12 = .ok (.iaload, 1) := by decide +kernel
theorem dX7_isTaken_13 : decode cX7_isTaken 13 = .ok (.ifCond .eq 39, 3) := by decide +kernel
theorem dX7_isTaken_16 : decode cX7_isTaken 16 = .ok (.aload_n 0, 1) := by decide +kernel
theorem dX7_isTaken_17 : decode cX7_isTaken 17 = .ok (.getfield 22, 3) := by decide +kernel
theorem dX7_isTaken_20 : decode cX7_isTaken 20 = .ok (.sipush 1764, 3) := by decide +kernel
theorem dX7_isTaken_23 : decode cX7_isTaken 23 = .ok (.iaload, 1) := by decide +kernel
theorem dX7_isTaken_24 : decode cX7_isTaken 24 = .ok (.aload_n 0, 1) := by decide +kernel
theorem dX7_isTaken_25 : decode cX7_isTaken 25 = .ok (.getfield 22, 3) := by decide +kernel
theorem dX7_isTaken_28 : decode cX7_isTaken 28 = .ok (.iload_n 2, 1) := by decide +kernel
theorem dX7_isTaken_29 : decode cX7_isTaken 29 = .ok (.iconst 2, 1) := by decide +kernel
theorem dX7_isTaken_30 : decode cX7_isTaken 30 = .ok (.iadd, 1) := by decide +kernel
theorem dX7_isTaken_31 : decode cX7_isTaken 31 = .ok (.iaload, 1) := by decide +kernel
theorem dX7_isTaken_32 : decode cX7_isTaken 32 = .ok (.irem, 1) := by decide +kernel
theorem dX7_isTaken_33 : decode cX7_isTaken 33 = .ok (.ifCond .ne 19, 3) := by decide +kernel
theorem dX7_isTaken_36 : decode cX7_isTaken 36 = .ok (.aload_n 0, 1) := by decide +kernel
theorem dX7_isTaken_37 : decode cX7_isTaken 37 = .ok (.getfield 22, 3) := by decide +kernel
theorem dX7_isTaken_40 : decode cX7_isTaken 40 = .ok (.aload_n 0, 1) := by decide +kernel
theorem dX7_isTaken_41 : decode cX7_isTaken 41 = .ok (.getfield 124, 3) := by decide +kernel
theorem dX7_isTaken_44 : decode cX7_isTaken 44 = .ok (.iload_n 1, 1) := by decide +kernel
theorem dX7_isTaken_45 : decode cX7_isTaken 45 = .ok (.invokestatic 184, 3) := by decide +kernel
theorem dX7_isTaken_48 : decode cX7_isTaken 48 = .ok (.iaload, 1) := by decide +kernel
theorem dX7_isTaken_49 : decode cX7_isTaken 49 = .ok (.ifCond .ne 4, 3) := by decide +kernel
theorem dX7_isTaken_52 : decode cX7_isTaken 52 = .ok (.return_, 1) := by decide +kernel
theorem dX7_isTaken_53 : decode cX7_isTaken 53 = .ok (.aload_n 0, 1) := by decide +kernel
theorem dX7_isTaken_54 : decode cX7_isTaken 54 = .ok (.getfield 22, 3) := by decide +kernel
theorem dX7_isTaken_57 : decode cX7_isTaken 57 = .ok (.aload_n 0, 1) := by decide +kernel
theorem dX7_isTaken_58 : decode cX7_isTaken 58 = .ok (.getfield 124, 3) := by decide +kernel
theorem dX7_isTaken_61 : decode cX7_isTaken 61 = .ok (.iload_n 1, 1) := by decide +kernel
theorem dX7_isTaken_62 : decode cX7_isTaken 62 = .ok (.invokestatic 184, 3) := by decide +kernel
theorem dX7_isTaken_65 : decode cX7_isTaken 65 = .ok (.dup2, 1) := by decide +kernel
theorem dX7_isTaken_66 : decode cX7_isTaken 66 = .ok (.iaload, 1) := by decide +kernel
theorem dX7_isTaken_67 : decode cX7_isTaken 67 = .ok (.iconst 1, 1) := by decide +kernel
theorem dX7_isTaken_68 : decode cX7_isTaken 68 = .ok (.isub, 1) := by decide +kernel
theorem dX7_isTaken_69 : decode cX7_isTaken 69 = .ok (.iastore, 1) := by decide +kernel
theorem dX7_isTaken_70 : decode cX7_isTaken 70 = .ok (.aload_n 0, 1) := by decide +kernel
theorem dX7_isTaken_71 : decode cX7_isTaken 71 = .ok (.getfield 22, 3) := by decide +kernel
theorem dX7_isTaken_74 : decode cX7_isTaken 74 = .ok (.sipush 1764, 3) := by decide +kernel
theorem dX7_isTaken_77 : decode cX7_isTaken 77 = .ok (.iaload, 1) := by decide +kernel
theorem dX7_isTaken_78 : decode cX7_isTaken 78 = .ok (.aload_n 0, 1) := by decide +kernel
theorem dX7_isTaken_79 : decode cX7_isTaken 79 = .ok (.getfield 22, 3) := by decide +kernel
theorem dX7_isTaken_82 : decode cX7_isTaken 82 = .ok (.sipush 228, 3) := by decide +kernel
theorem dX7_isTaken_85 : decode cX7_isTaken 85 = .ok (.sipush 512, 3) := by decide +kernel
theorem dX7_isTaken_88 : decode cX7_isTaken 88 = .ok (.iload_n 1, 1) := by decide +kernel
theorem dX7_isTaken_89 : decode cX7_isTaken 89 = .ok (.imul, 1) := by decide +kernel
theorem dX7_isTaken_90 : decode cX7_isTaken 90 = .ok (.iadd, 1) := by decide +kernel
theorem dX7_isTaken_91 : decode cX7_isTaken 91 = .ok (.aload_n 0, 1) := by decide +kernel
theorem dX7_isTaken_92 : decode cX7_isTaken 92 = .ok (.getfield 22, 3) := by decide +kernel
theorem dX7_isTaken_95 : decode cX7_isTaken 95 = .ok (.iload_n 2, 1) := by decide +kernel
theorem dX7_isTaken_96 : decode cX7_isTaken 96 = .ok (.iconst 5, 1) := by decide +kernel
theorem dX7_isTaken_97 : decode cX7_isTaken 97 = .ok (.iadd, 1) := by decide +kernel
theorem dX7_isTaken_98 : decode cX7_isTaken 98 = .ok (.iaload, 1) := by decide +kernel
theorem dX7_isTaken_99 : decode cX7_isTaken 99 = .ok (.sipush 512, 3) := by decide +kernel
theorem dX7_isTaken_102 : decode cX7_isTaken 102 = .ok (.irem, 1) := by decide +kernel
theorem dX7_isTaken_103 : decode cX7_isTaken 103 = .ok (.iadd, 1) := by decide +kernel
theorem dX7_isTaken_104 : decode cX7_isTaken 104 = .ok (.iaload, 1) := by decide +kernel
theorem dX7_isTaken_105 : decode cX7_isTaken 105 = .ok (.isub, 1) := by decide +kernel
theorem dX7_isTaken_106 : decode cX7_isTaken 106 = .ok (.istore_n 3, 1) := by decide +kernel
theorem dX7_isTaken_107 : decode cX7_isTaken 107 = .ok (.aload_n 0, 1) := by decide +kernel
theorem dX7_isTaken_108 : decode cX7_isTaken 108 = .ok (.getfield 22, 3) := by decide +kernel
theorem dX7_isTaken_111 : decode cX7_isTaken 111 = .ok (.iload_n 2, 1) := by decide +kernel
theorem dX7_isTaken_112 : decode cX7_isTaken 112 = .ok (.iconst 5, 1) := by decide +kernel
theorem dX7_isTaken_113 : decode cX7_isTaken 113 = .ok (.iadd, 1) := by decide +kernel
theorem dX7_isTaken_114 : decode cX7_isTaken 114 = .ok (.dup2, 1) := by decide +kernel
theorem dX7_isTaken_115 : decode cX7_isTaken 115 = .ok (.iaload, 1) := by decide +kernel
theorem dX7_isTaken_116 : decode cX7_isTaken 116 = .ok (.iconst 1, 1) := by decide +kernel
theorem dX7_isTaken_117 : decode cX7_isTaken 117 = .ok (.iadd, 1) := by decide +kernel
theorem dX7_isTaken_118 : decode cX7_isTaken 118 = .ok (.iastore, 1) := by decide +kernel
theorem dX7_isTaken_119 : decode cX7_isTaken 119 = .ok (.aload_n 0, 1) := by decide +kernel
theorem dX7_isTaken_120 : decode cX7_isTaken 120 = .ok (.getfield 22, 3) := by decide +kernel
theorem dX7_isTaken_123 : decode cX7_isTaken 123 = .ok (.iload_n 2, 1) := by decide +kernel
theorem dX7_isTaken_124 : decode cX7_isTaken 124 = .ok (.bipush 6, 2) := by decide +kernel
theorem dX7_isTaken_126 : decode cX7_isTaken 126 = .ok (.iadd, 1) := by decide +kernel
theorem dX7_isTaken_127 : decode cX7_isTaken 127 = .ok (.iload_n 3, 1) := by decide +kernel
theorem dX7_isTaken_128 : decode cX7_isTaken 128 = .ok (.iastore, 1) := by decide +kernel
theorem dX7_isTaken_129 : decode cX7_isTaken 129 = .ok (.aload_n 0, 1) := by decide +kernel
theorem dX7_isTaken_130 : decode cX7_isTaken 130 = .ok (.getfield 22, 3) := by decide +kernel
theorem dX7_isTaken_133 : decode cX7_isTaken 133 = .ok (.iload_n 2, 1) := by decide +kernel
theorem dX7_isTaken_134 : decode cX7_isTaken 134 = .ok (.bipush 7, 2) := by decide +kernel
theorem dX7_isTaken_136 : decode cX7_isTaken 136 = .ok (.iadd, 1) := by decide +kernel
theorem dX7_isTaken_137 : decode cX7_isTaken 137 = .ok (.aload_n 0, 1) := by decide +kernel
theorem dX7_isTaken_138 : decode cX7_isTaken 138 = .ok (.getfield 22, 3) := by decide +kernel
theorem dX7_isTaken_141 : decode cX7_isTaken 141 = .ok (.iload_n 2, 1) := by decide +kernel
theorem dX7_isTaken_142 : decode cX7_isTaken 142 = .ok (.bipush 7, 2) := by decide +kernel
theorem dX7_isTaken_144 : decode cX7_isTaken 144 = .ok (.iadd, 1) := by decide +kernel
theorem dX7_isTaken_145 : decode cX7_isTaken 145 = .ok (.iaload, 1) := by decide +kernel
theorem dX7_isTaken_146 : decode cX7_isTaken 146 = .ok (.iload_n 3, 1) := by decide +kernel
theorem dX7_isTaken_147 : decode cX7_isTaken 147 = .ok (.invokestatic 154, 3) := by decide +kernel
theorem dX7_isTaken_150 : decode cX7_isTaken 150 = .ok (.iastore, 1) := by decide +kernel
theorem dX7_isTaken_151 : decode cX7_isTaken 151 = .ok (.aload_n 0, 1) := by decide +kernel
theorem dX7_isTaken_152 : decode cX7_isTaken 152 = .ok (.getfield 22, 3) := by decide +kernel
theorem dX7_isTaken_155 : decode cX7_isTaken 155 = .ok (.iload_n 2, 1) := by decide +kernel
theorem dX7_isTaken_156 : decode cX7_isTaken 156 = .ok (.bipush 8, 2) := by decide +kernel
theorem dX7_isTaken_158 : decode cX7_isTaken 158 = .ok (.iadd, 1) := by decide +kernel
theorem dX7_isTaken_159 : decode cX7_isTaken 159 = .ok (.dup2, 1) := by decide +kernel
theorem dX7_isTaken_160 : decode cX7_isTaken 160 = .ok (.iaload, 1) := by decide +kernel
theorem dX7_isTaken_161 : decode cX7_isTaken 161 = .ok (.iload_n 3, 1) := by decide +kernel
theorem dX7_isTaken_162 : decode cX7_isTaken 162 = .ok (.iadd, 1) := by decide +kernel
theorem dX7_isTaken_163 : decode cX7_isTaken 163 = .ok (.iastore, 1) := by decide +kernel
theorem dX7_isTaken_164 : decode cX7_isTaken 164 = .ok (.aload_n 0, 1) := by decide +kernel
theorem dX7_isTaken_165 : decode cX7_isTaken 165 = .ok (.aload_n 0, 1) := by decide +kernel
theorem dX7_isTaken_166 : decode cX7_isTaken 166 = .ok (.getfield 124, 3) := by decide +kernel
theorem dX7_isTaken_169 : decode cX7_isTaken 169 = .ok (.iconst 1, 1) := by decide +kernel
theorem dX7_isTaken_170 : decode cX7_isTaken 170 = .ok (.isub, 1) := by decide +kernel
theorem dX7_isTaken_171 : decode cX7_isTaken 171 = .ok (.iload_n 1, 1) := by decide +kernel
theorem dX7_isTaken_172 : decode cX7_isTaken 172 = .ok (.invokevirtual 187, 3) := by decide +kernel
theorem dX7_isTaken_175 : decode cX7_isTaken 175 = .ok (.return_, 1) := by decide +kernel
set_option maxRecDepth 20000 in
theorem ggX7_sender_X7_bufferAt : GoodIn wsX7_sender wsX7_bufferAt := goodIn_r _ [6] (by decide +kernel) (by decide +kernel)
set_option maxRecDepth 20000 in
theorem gX7_sender_X7_bufferAt : GoodIn wsX7_sender (va_wsS RX7 184 yX7_bufferAt wsX7_bufferAt) := goodIn_app (goodIn_of _ (by decide +kernel)) ggX7_sender_X7_bufferAt
theorem qxX7_sender_0 : ∀ w ∈ ([.fieldLink RX7 22 "HopCreditsModel" "now" "[I", .fieldLink RX7 127 "HopCreditsModel" "circuits" "I", .methodLink RX7 184 yX7_bufferAt, .static yX7_bufferAt, .initialized RX7, .code yX7_bufferAt cX7_bufferAt 2 (some .int), .methodLink RX7 190 yX7_credit, .instanceMethod yX7_credit, .selects RX7 yX7_credit yX7_credit, .code yX7_credit cX7_credit 3 (some .int), .methodLink RX7 154 Lib.Math.max.name, .static Lib.Math.max.name, .initialized "java/lang/Math", .code Lib.Math.max.name Lib.Math.max.code 2 (some .int), .methodLink RX7 163 yX7_lane, .static yX7_lane, .code yX7_lane cX7_lane 2 (some .int), .methodLink RX7 169 yX7_outOf, .instanceMethod yX7_outOf, .selects RX7 yX7_outOf yX7_outOf, .code yX7_outOf cX7_outOf 3 (some .int), .methodLink RX7 166 yX7_less, .static yX7_less, .code yX7_less cX7_less 2 (some .int)] ++ wsX70), w ∈ wsX7_sender := fun w h => List.mem_cons_of_mem _ h
theorem qxX7_sender_1 : ∀ w ∈ [.fieldLink RX7 22 "HopCreditsModel" "now" "[I", .fieldLink RX7 127 "HopCreditsModel" "circuits" "I", .methodLink RX7 184 yX7_bufferAt, .static yX7_bufferAt, .initialized RX7, .code yX7_bufferAt cX7_bufferAt 2 (some .int), .methodLink RX7 190 yX7_credit, .instanceMethod yX7_credit, .selects RX7 yX7_credit yX7_credit, .code yX7_credit cX7_credit 3 (some .int), .methodLink RX7 154 Lib.Math.max.name, .static Lib.Math.max.name, .initialized "java/lang/Math", .code Lib.Math.max.name Lib.Math.max.code 2 (some .int), .methodLink RX7 163 yX7_lane, .static yX7_lane, .code yX7_lane cX7_lane 2 (some .int), .methodLink RX7 169 yX7_outOf, .instanceMethod yX7_outOf, .selects RX7 yX7_outOf yX7_outOf, .code yX7_outOf cX7_outOf 3 (some .int), .methodLink RX7 166 yX7_less, .static yX7_less, .code yX7_less cX7_less 2 (some .int)], w ∈ wsX7_sender := in_l qxX7_sender_0
theorem qxX7_sender_2 : ∀ w ∈ wsX70, w ∈ wsX7_sender := in_r qxX7_sender_0
def pxX7_sender : List (List Cond) := [[.fieldLink RX7 22 "HopCreditsModel" "now" "[I", .fieldLink RX7 127 "HopCreditsModel" "circuits" "I", .methodLink RX7 184 yX7_bufferAt, .static yX7_bufferAt, .initialized RX7, .code yX7_bufferAt cX7_bufferAt 2 (some .int), .methodLink RX7 190 yX7_credit, .instanceMethod yX7_credit, .selects RX7 yX7_credit yX7_credit, .code yX7_credit cX7_credit 3 (some .int), .methodLink RX7 154 Lib.Math.max.name, .static Lib.Math.max.name, .initialized "java/lang/Math", .code Lib.Math.max.name Lib.Math.max.code 2 (some .int), .methodLink RX7 163 yX7_lane, .static yX7_lane, .code yX7_lane cX7_lane 2 (some .int), .methodLink RX7 169 yX7_outOf, .instanceMethod yX7_outOf, .selects RX7 yX7_outOf yX7_outOf, .code yX7_outOf cX7_outOf 3 (some .int), .methodLink RX7 166 yX7_less, .static yX7_less, .code yX7_less cX7_less 2 (some .int)], wsX70]
theorem pxX7_sender_in : ∀ q ∈ pxX7_sender, ∀ w ∈ q, w ∈ wsX7_sender := lp_c qxX7_sender_1 (lp_c qxX7_sender_2 (lp_n))
set_option maxRecDepth 20000 in
theorem ggX7_sender_X7_credit : GoodIn wsX7_sender wsX7_credit := goodIn_pp pxX7_sender pxX7_sender_in _ [(0, 9), (0, 0), (0, 10), (0, 11), (0, 12), (0, 13), (0, 14), (0, 15), (0, 4), (0, 16), (0, 17), (0, 18), (0, 19), (0, 20), (0, 21), (0, 22), (0, 23), (1, 0), (1, 1), (1, 2), (1, 3), (1, 4), (1, 5), (1, 6), (1, 7), (1, 8), (1, 9), (1, 10), (1, 11), (1, 12), (1, 13), (1, 14), (1, 15), (1, 16), (1, 17), (1, 18), (1, 19), (1, 20)] rfl (by decide +kernel)
set_option maxRecDepth 20000 in
theorem gX7_sender_X7_credit : GoodIn wsX7_sender (wsV RX7 190 RX7 yX7_credit wsX7_credit) := goodIn_app (goodIn_of _ (by decide +kernel)) ggX7_sender_X7_credit
theorem dX7_sender_0 : decode cX7_sender 0 = .ok (.aload_n 0, 1) := by decide +kernel
theorem dX7_sender_1 : decode cX7_sender 1 = .ok (.getfield 22, 3) := by decide +kernel
theorem dX7_sender_4 : decode cX7_sender 4 = .ok (.bipush 66, 2) := by decide +kernel
theorem dX7_sender_6 : decode cX7_sender 6 = .ok (.iload_n 1, 1) := by decide +kernel
theorem dX7_sender_7 : decode cX7_sender 7 = .ok (.iadd, 1) := by decide +kernel
theorem dX7_sender_8 : decode cX7_sender 8 = .ok (.iaload, 1) := by decide +kernel
theorem dX7_sender_9 : decode cX7_sender 9 = .ok (.iconst 1, 1) := by decide +kernel
theorem dX7_sender_10 : decode cX7_sender 10 = .ok (.iadd, 1) := by decide +kernel
theorem dX7_sender_11 : decode cX7_sender 11 = .ok (.istore_n 2, 1) := by decide +kernel
theorem dX7_sender_12 : decode cX7_sender 12 = .ok (.iconst 0, 1) := by decide +kernel
theorem dX7_sender_13 : decode cX7_sender 13 = .ok (.istore_n 3, 1) := by decide +kernel
theorem dX7_sender_14 : decode cX7_sender 14 = .ok (.iload_n 3, 1) := by decide +kernel
theorem dX7_sender_15 : decode cX7_sender 15 = .ok (.aload_n 0, 1) := by decide +kernel
theorem dX7_sender_16 : decode cX7_sender 16 = .ok (.getfield 127, 3) := by decide +kernel
theorem dX7_sender_19 : decode cX7_sender 19 = .ok (.if_icmp .ge 46, 3) := by decide +kernel
theorem dX7_sender_22 : decode cX7_sender 22 = .ok (.iload_n 2, 1) := by decide +kernel
theorem dX7_sender_23 : decode cX7_sender 23 = .ok (.iload_n 3, 1) := by decide +kernel
theorem dX7_sender_24 : decode cX7_sender 24 = .ok (.iadd, 1) := by decide +kernel
theorem dX7_sender_25 : decode cX7_sender 25 = .ok (.aload_n 0, 1) := by decide +kernel
theorem dX7_sender_26 : decode cX7_sender 26 = .ok (.getfield 127, 3) := by decide +kernel
theorem dX7_sender_29 : decode cX7_sender 29 = .ok (.irem, 1) := by decide +kernel
theorem dX7_sender_30 : decode cX7_sender 30 = .ok (.istore 4, 2) := by decide +kernel
theorem dX7_sender_32 : decode cX7_sender 32 = .ok (.aload_n 0, 1) := by decide +kernel
theorem dX7_sender_33 : decode cX7_sender 33 = .ok (.getfield 22, 3) := by decide +kernel
theorem dX7_sender_36 : decode cX7_sender 36 = .ok (.iload_n 1, 1) := by decide +kernel
theorem dX7_sender_37 : decode cX7_sender 37 = .ok (.iload 4, 2) := by decide +kernel
theorem dX7_sender_39 : decode cX7_sender 39 = .ok (.invokestatic 184, 3) := by decide +kernel
theorem dX7_sender_42 : decode cX7_sender 42 = .ok (.iaload, 1) := by decide +kernel
theorem dX7_sender_43 : decode cX7_sender 43 = .ok (.ifCond .le 16, 3) := by decide +kernel
theorem dX7_sender_46 : decode cX7_sender 46 = .ok (.aload_n 0, 1) := by decide +kernel
theorem dX7_sender_47 : decode cX7_sender 47 = .ok (.iload_n 1, 1) := by decide +kernel
theorem dX7_sender_48 : decode cX7_sender 48 = .ok (.iload 4, 2) := by decide +kernel
theorem dX7_sender_50 : decode cX7_sender 50 = .ok (.invokevirtual 190, 3) := by decide +kernel
theorem dX7_sender_53 : decode cX7_sender 53 = .ok (.ifCond .le 6, 3) := by decide +kernel
theorem dX7_sender_56 : decode cX7_sender 56 = .ok (.iload 4, 2) := by decide +kernel
theorem dX7_sender_58 : decode cX7_sender 58 = .ok (.ireturn, 1) := by decide +kernel
theorem dX7_sender_59 : decode cX7_sender 59 = .ok (.iinc 3 1, 3) := by decide +kernel
theorem dX7_sender_62 : decode cX7_sender 62 = .ok (.goto (-48), 3) := by decide +kernel
theorem dX7_sender_65 : decode cX7_sender 65 = .ok (.iconst (-1), 1) := by decide +kernel
theorem dX7_sender_66 : decode cX7_sender 66 = .ok (.ireturn, 1) := by decide +kernel
theorem qxX7_sends_0 : ∀ w ∈ ((wsX7_sends_r1 ++ wsX7_sends_r2) ++ wsX70), w ∈ wsX7_sends := fun w h => List.mem_cons_of_mem _ h
theorem qxX7_sends_1 : ∀ w ∈ (wsX7_sends_r1 ++ wsX7_sends_r2), w ∈ wsX7_sends := in_l qxX7_sends_0
theorem qxX7_sends_2 : ∀ w ∈ wsX70, w ∈ wsX7_sends := in_r qxX7_sends_0
theorem qxX7_sends_3 : ∀ w ∈ wsX7_sends_r1, w ∈ wsX7_sends := in_l qxX7_sends_1
theorem qxX7_sends_4 : ∀ w ∈ wsX7_sends_r2, w ∈ wsX7_sends := in_r qxX7_sends_1
def pxX7_sends : List (List Cond) := [wsX7_sends_r1, wsX7_sends_r2, wsX70]
theorem pxX7_sends_in : ∀ q ∈ pxX7_sends, ∀ w ∈ q, w ∈ wsX7_sends := lp_c qxX7_sends_3 (lp_c qxX7_sends_4 (lp_c qxX7_sends_2 (lp_n)))
set_option maxRecDepth 20000 in
theorem ggX7_sends_X7_sender : GoodIn wsX7_sends wsX7_sender := goodIn_pp pxX7_sends pxX7_sends_in _ [(0, 5), (0, 0), (0, 6), (0, 7), (0, 8), (0, 4), (0, 9), (0, 10), (0, 11), (0, 12), (0, 13), (0, 14), (0, 15), (0, 16), (0, 17), (0, 18), (0, 19), (0, 20), (0, 21), (0, 22), (0, 23), (1, 0), (1, 1), (1, 2), (1, 3), (2, 0), (2, 1), (2, 2), (2, 3), (2, 4), (2, 5), (2, 6), (2, 7), (2, 8), (2, 9), (2, 10), (2, 11), (2, 12), (2, 13), (2, 14), (2, 15), (2, 16), (2, 17), (2, 18), (2, 19), (2, 20)] rfl (by decide +kernel)
set_option maxRecDepth 20000 in
theorem gX7_sends_X7_sender : GoodIn wsX7_sends (wsV RX7 193 RX7 yX7_sender wsX7_sender) := goodIn_app (goodIn_of _ (by decide +kernel)) ggX7_sends_X7_sender
set_option maxRecDepth 20000 in
theorem ggX7_sends_X7_lane : GoodIn wsX7_sends wsX7_lane := goodIn_r _ [21] (by decide +kernel) (by decide +kernel)
set_option maxRecDepth 20000 in
theorem gX7_sends_X7_lane : GoodIn wsX7_sends (va_wsS RX7 163 yX7_lane wsX7_lane) := goodIn_app (goodIn_of _ (by decide +kernel)) ggX7_sends_X7_lane
set_option maxRecDepth 20000 in
theorem ggX7_sends_X7_bufferAt : GoodIn wsX7_sends wsX7_bufferAt := goodIn_r _ [10] (by decide +kernel) (by decide +kernel)
set_option maxRecDepth 20000 in
theorem gX7_sends_X7_bufferAt : GoodIn wsX7_sends (va_wsS RX7 184 yX7_bufferAt wsX7_bufferAt) := goodIn_app (goodIn_of _ (by decide +kernel)) ggX7_sends_X7_bufferAt
set_option maxRecDepth 20000 in
theorem ggX7_sends_X7_delay : GoodIn wsX7_sends wsX7_delay := goodIn_r _ [32, 33, 45, 46, 47, 48, 49, 50, 51, 52, 53, 54, 55, 56, 57, 58, 59, 60, 61, 62, 63, 64, 65] (by decide +kernel) (by decide +kernel)
set_option maxRecDepth 20000 in
theorem gX7_sends_X7_delay : GoodIn wsX7_sends (wsV RX7 178 RX7 yX7_delay wsX7_delay) := goodIn_app (goodIn_of _ (by decide +kernel)) ggX7_sends_X7_delay
set_option maxRecDepth 20000 in
theorem ggX7_sends_X7_wayAt : GoodIn wsX7_sends wsX7_wayAt := goodIn_r _ [36] (by decide +kernel) (by decide +kernel)
set_option maxRecDepth 20000 in
theorem gX7_sends_X7_wayAt : GoodIn wsX7_sends (va_wsS RX7 140 yX7_wayAt wsX7_wayAt) := goodIn_app (goodIn_of _ (by decide +kernel)) ggX7_sends_X7_wayAt
set_option maxRecDepth 20000 in
theorem ggX7_sends_X7_goesFrom : GoodIn wsX7_sends wsX7_goesFrom := goodIn_pp pxX7_sends pxX7_sends_in _ [(1, 15), (0, 0), (1, 8), (0, 18), (0, 19), (0, 4), (0, 20), (1, 16), (1, 17), (1, 18), (1, 19), (1, 4), (1, 5), (1, 6), (1, 7), (1, 9), (1, 10), (1, 11), (2, 0), (2, 1), (2, 2), (2, 3), (2, 4), (2, 5), (2, 6), (2, 7), (2, 8), (2, 9), (2, 10), (2, 11), (2, 12), (2, 13), (2, 14), (2, 15), (2, 16), (2, 17), (2, 18), (2, 19), (2, 20)] rfl (by decide +kernel)
set_option maxRecDepth 20000 in
theorem gX7_sends_X7_goesFrom : GoodIn wsX7_sends (wsV RX7 187 RX7 yX7_goesFrom wsX7_goesFrom) := goodIn_app (goodIn_of _ (by decide +kernel)) ggX7_sends_X7_goesFrom
theorem dX7_sends_0 : decode cX7_sends 0 = .ok (.aload_n 0, 1) := by decide +kernel
theorem dX7_sends_1 : decode cX7_sends 1 = .ok (.iload_n 1, 1) := by decide +kernel
theorem dX7_sends_2 : decode cX7_sends 2 = .ok (.invokevirtual 193, 3) := by decide +kernel
theorem dX7_sends_5 : decode cX7_sends 5 = .ok (.istore_n 2, 1) := by decide +kernel
theorem dX7_sends_6 : decode cX7_sends 6 = .ok (.iload_n 2, 1) := by decide +kernel
theorem dX7_sends_7 : decode cX7_sends 7 = .ok (.iconst (-1), 1) := by decide +kernel
theorem dX7_sends_8 : decode cX7_sends 8 = .ok (.if_icmp .ne 4, 3) := by decide +kernel
theorem dX7_sends_11 : decode cX7_sends 11 = .ok (.return_, 1) := by decide +kernel
theorem dX7_sends_12 : decode cX7_sends 12 = .ok (.iload_n 1, 1) := by decide +kernel
theorem dX7_sends_13 : decode cX7_sends 13 = .ok (.iload_n 2, 1) := by decide +kernel
theorem dX7_sends_14 : decode cX7_sends 14 = .ok (.invokestatic 163, 3) := by decide +kernel
theorem dX7_sends_17 : decode cX7_sends 17 = .ok (.istore_n 3, 1) := by decide +kernel
theorem dX7_sends_18 : decode cX7_sends 18 = .ok (.aload_n 0, 1) := by decide +kernel
theorem dX7_sends_19 : decode cX7_sends 19 = .ok (.getfield 22, 3) := by decide +kernel
theorem dX7_sends_22 : decode cX7_sends 22 = .ok (.bipush 66, 2) := by decide +kernel
theorem dX7_sends_24 : decode cX7_sends 24 = .ok (.iload_n 1, 1) := by decide +kernel
theorem dX7_sends_25 : decode cX7_sends 25 = .ok (.iadd, 1) := by decide +kernel
theorem dX7_sends_26 : decode cX7_sends 26 = .ok (.iload_n 2, 1) := by decide +kernel
theorem dX7_sends_27 : decode cX7_sends 27 = .ok (.iastore, 1) := by decide +kernel
theorem dX7_sends_28 : decode cX7_sends 28 = .ok (.aload_n 0, 1) := by decide +kernel
theorem dX7_sends_29 : decode cX7_sends 29 = .ok (.getfield 22, 3) := by decide +kernel
theorem dX7_sends_32 : decode cX7_sends 32 = .ok (.iload_n 1, 1) := by decide +kernel
theorem dX7_sends_33 : decode cX7_sends 33 = .ok (.iload_n 2, 1) := by decide +kernel
theorem dX7_sends_34 : decode cX7_sends 34 = .ok (.invokestatic 184, 3) := by decide +kernel
theorem dX7_sends_37 : decode cX7_sends 37 = .ok (.dup2, 1) := by decide +kernel
theorem dX7_sends_38 : decode cX7_sends 38 = .ok (.iaload, 1) := by decide +kernel
theorem dX7_sends_39 : decode cX7_sends 39 = .ok (.iconst 1, 1) := by decide +kernel
theorem dX7_sends_40 : decode cX7_sends 40 = .ok (.isub, 1) := by decide +kernel
theorem dX7_sends_41 : decode cX7_sends 41 = .ok (.iastore, 1) := by decide +kernel
theorem dX7_sends_42 : decode cX7_sends 42 = .ok (.aload_n 0, 1) := by decide +kernel
theorem dX7_sends_43 : decode cX7_sends 43 = .ok (.getfield 22, 3) := by decide +kernel
theorem dX7_sends_46 : decode cX7_sends 46 = .ok (.iload_n 3, 1) := by decide +kernel
theorem dX7_sends_47 : decode cX7_sends 47 = .ok (.iconst 0, 1) := by decide +kernel
theorem dX7_sends_48 : decode cX7_sends 48 = .ok (.iadd, 1) := by decide +kernel
theorem dX7_sends_49 : decode cX7_sends 49 = .ok (.aload_n 0, 1) := by decide +kernel
theorem dX7_sends_50 : decode cX7_sends 50 = .ok (.getfield 22, 3) := by decide +kernel
theorem dX7_sends_53 : decode cX7_sends 53 = .ok (.iload_n 3, 1) := by decide +kernel
theorem dX7_sends_54 : decode cX7_sends 54 = .ok (.iconst 0, 1) := by decide +kernel
theorem dX7_sends_55 : decode cX7_sends 55 = .ok (.iadd, 1) := by decide +kernel
theorem dX7_sends_56 : decode cX7_sends 56 = .ok (.iaload, 1) := by decide +kernel
theorem dX7_sends_57 : decode cX7_sends 57 = .ok (.iconst 1, 1) := by decide +kernel
theorem dX7_sends_58 : decode cX7_sends 58 = .ok (.iadd, 1) := by decide +kernel
theorem dX7_sends_59 : decode cX7_sends 59 = .ok (.bipush 64, 2) := by decide +kernel
theorem dX7_sends_61 : decode cX7_sends 61 = .ok (.irem, 1) := by decide +kernel
theorem dX7_sends_62 : decode cX7_sends 62 = .ok (.iastore, 1) := by decide +kernel
theorem dX7_sends_63 : decode cX7_sends 63 = .ok (.aload_n 0, 1) := by decide +kernel
theorem dX7_sends_64 : decode cX7_sends 64 = .ok (.getfield 22, 3) := by decide +kernel
theorem dX7_sends_67 : decode cX7_sends 67 = .ok (.iload_n 3, 1) := by decide +kernel
theorem dX7_sends_68 : decode cX7_sends 68 = .ok (.bipush 6, 2) := by decide +kernel
theorem dX7_sends_70 : decode cX7_sends 70 = .ok (.iadd, 1) := by decide +kernel
theorem dX7_sends_71 : decode cX7_sends 71 = .ok (.dup2, 1) := by decide +kernel
theorem dX7_sends_72 : decode cX7_sends 72 = .ok (.iaload, 1) := by decide +kernel
theorem dX7_sends_73 : decode cX7_sends 73 = .ok (.iconst 1, 1) := by decide +kernel
theorem dX7_sends_74 : decode cX7_sends 74 = .ok (.iadd, 1) := by decide +kernel
theorem dX7_sends_75 : decode cX7_sends 75 = .ok (.iastore, 1) := by decide +kernel
theorem dX7_sends_76 : decode cX7_sends 76 = .ok (.aload_n 0, 1) := by decide +kernel
theorem dX7_sends_77 : decode cX7_sends 77 = .ok (.getfield 22, 3) := by decide +kernel
theorem dX7_sends_80 : decode cX7_sends 80 = .ok (.iload_n 1, 1) := by decide +kernel
theorem dX7_sends_81 : decode cX7_sends 81 = .ok (.aload_n 0, 1) := by decide +kernel
theorem dX7_sends_82 : decode cX7_sends 82 = .ok (.getfield 22, 3) := by decide +kernel
theorem dX7_sends_85 : decode cX7_sends 85 = .ok (.sipush 1764, 3) := by decide +kernel
theorem dX7_sends_88 : decode cX7_sends 88 = .ok (.iaload, 1) := by decide +kernel
theorem dX7_sends_89 : decode cX7_sends 89 = .ok (.aload_n 0, 1) := by decide +kernel
theorem dX7_sends_90 : decode cX7_sends 90 = .ok (.iload_n 1, 1) := by decide +kernel
theorem dX7_sends_91 : decode cX7_sends 91 = .ok (.invokevirtual 178, 3) := by decide +kernel
theorem dX7_sends_94 : decode cX7_sends 94 = .ok (.iadd, 1) := by decide +kernel
theorem dX7_sends_95 : decode cX7_sends 95 = .ok (.invokestatic 140, 3) := by decide +kernel
theorem dX7_sends_98 : decode cX7_sends 98 = .ok (.iconst 0, 1) := by decide +kernel
theorem dX7_sends_99 : decode cX7_sends 99 = .ok (.iadd, 1) := by decide +kernel
theorem dX7_sends_100 : decode cX7_sends 100 = .ok (.iload_n 2, 1) := by decide +kernel
theorem dX7_sends_101 : decode cX7_sends 101 = .ok (.iastore, 1) := by decide +kernel
theorem dX7_sends_102 : decode cX7_sends 102 = .ok (.iload_n 1, 1) := by decide +kernel
theorem dX7_sends_103 : decode cX7_sends 103 = .ok (.ifCond .le 11, 3) := by decide +kernel
theorem dX7_sends_106 : decode cX7_sends 106 = .ok (.aload_n 0, 1) := by decide +kernel
theorem dX7_sends_107 : decode cX7_sends 107 = .ok (.iload_n 1, 1) := by decide +kernel
theorem dX7_sends_108 : decode cX7_sends 108 = .ok (.iconst 1, 1) := by decide +kernel
theorem dX7_sends_109 : decode cX7_sends 109 = .ok (.isub, 1) := by decide +kernel
theorem dX7_sends_110 : decode cX7_sends 110 = .ok (.iload_n 2, 1) := by decide +kernel
theorem dX7_sends_111 : decode cX7_sends 111 = .ok (.invokevirtual 187, 3) := by decide +kernel
theorem dX7_sends_114 : decode cX7_sends 114 = .ok (.return_, 1) := by decide +kernel
set_option maxRecDepth 20000 in
theorem ggX7_isHeld_X7_bufferAt : GoodIn wsX7_isHeld wsX7_bufferAt := goodIn_r _ [5] (by decide +kernel) (by decide +kernel)
set_option maxRecDepth 20000 in
theorem gX7_isHeld_X7_bufferAt : GoodIn wsX7_isHeld (va_wsS RX7 184 yX7_bufferAt wsX7_bufferAt) := goodIn_app (goodIn_of _ (by decide +kernel)) ggX7_isHeld_X7_bufferAt
theorem qxX7_isHeld_0 : ∀ w ∈ ([.fieldLink RX7 22 "HopCreditsModel" "now" "[I", .methodLink RX7 184 yX7_bufferAt, .static yX7_bufferAt, .initialized RX7, .code yX7_bufferAt cX7_bufferAt 2 (some .int), .methodLink RX7 190 yX7_credit, .instanceMethod yX7_credit, .selects RX7 yX7_credit yX7_credit, .code yX7_credit cX7_credit 3 (some .int), .methodLink RX7 154 Lib.Math.max.name, .static Lib.Math.max.name, .initialized "java/lang/Math", .code Lib.Math.max.name Lib.Math.max.code 2 (some .int), .methodLink RX7 163 yX7_lane, .static yX7_lane, .code yX7_lane cX7_lane 2 (some .int), .methodLink RX7 169 yX7_outOf, .instanceMethod yX7_outOf, .selects RX7 yX7_outOf yX7_outOf, .code yX7_outOf cX7_outOf 3 (some .int), .methodLink RX7 166 yX7_less, .static yX7_less, .code yX7_less cX7_less 2 (some .int)] ++ wsX70), w ∈ wsX7_isHeld := fun w h => List.mem_cons_of_mem _ h
theorem qxX7_isHeld_1 : ∀ w ∈ [.fieldLink RX7 22 "HopCreditsModel" "now" "[I", .methodLink RX7 184 yX7_bufferAt, .static yX7_bufferAt, .initialized RX7, .code yX7_bufferAt cX7_bufferAt 2 (some .int), .methodLink RX7 190 yX7_credit, .instanceMethod yX7_credit, .selects RX7 yX7_credit yX7_credit, .code yX7_credit cX7_credit 3 (some .int), .methodLink RX7 154 Lib.Math.max.name, .static Lib.Math.max.name, .initialized "java/lang/Math", .code Lib.Math.max.name Lib.Math.max.code 2 (some .int), .methodLink RX7 163 yX7_lane, .static yX7_lane, .code yX7_lane cX7_lane 2 (some .int), .methodLink RX7 169 yX7_outOf, .instanceMethod yX7_outOf, .selects RX7 yX7_outOf yX7_outOf, .code yX7_outOf cX7_outOf 3 (some .int), .methodLink RX7 166 yX7_less, .static yX7_less, .code yX7_less cX7_less 2 (some .int)], w ∈ wsX7_isHeld := in_l qxX7_isHeld_0
theorem qxX7_isHeld_2 : ∀ w ∈ wsX70, w ∈ wsX7_isHeld := in_r qxX7_isHeld_0
def pxX7_isHeld : List (List Cond) := [[.fieldLink RX7 22 "HopCreditsModel" "now" "[I", .methodLink RX7 184 yX7_bufferAt, .static yX7_bufferAt, .initialized RX7, .code yX7_bufferAt cX7_bufferAt 2 (some .int), .methodLink RX7 190 yX7_credit, .instanceMethod yX7_credit, .selects RX7 yX7_credit yX7_credit, .code yX7_credit cX7_credit 3 (some .int), .methodLink RX7 154 Lib.Math.max.name, .static Lib.Math.max.name, .initialized "java/lang/Math", .code Lib.Math.max.name Lib.Math.max.code 2 (some .int), .methodLink RX7 163 yX7_lane, .static yX7_lane, .code yX7_lane cX7_lane 2 (some .int), .methodLink RX7 169 yX7_outOf, .instanceMethod yX7_outOf, .selects RX7 yX7_outOf yX7_outOf, .code yX7_outOf cX7_outOf 3 (some .int), .methodLink RX7 166 yX7_less, .static yX7_less, .code yX7_less cX7_less 2 (some .int)], wsX70]
theorem pxX7_isHeld_in : ∀ q ∈ pxX7_isHeld, ∀ w ∈ q, w ∈ wsX7_isHeld := lp_c qxX7_isHeld_1 (lp_c qxX7_isHeld_2 (lp_n))
set_option maxRecDepth 20000 in
theorem ggX7_isHeld_X7_credit : GoodIn wsX7_isHeld wsX7_credit := goodIn_pp pxX7_isHeld pxX7_isHeld_in _ [(0, 8), (0, 0), (0, 9), (0, 10), (0, 11), (0, 12), (0, 13), (0, 14), (0, 3), (0, 15), (0, 16), (0, 17), (0, 18), (0, 19), (0, 20), (0, 21), (0, 22), (1, 0), (1, 1), (1, 2), (1, 3), (1, 4), (1, 5), (1, 6), (1, 7), (1, 8), (1, 9), (1, 10), (1, 11), (1, 12), (1, 13), (1, 14), (1, 15), (1, 16), (1, 17), (1, 18), (1, 19), (1, 20)] rfl (by decide +kernel)
set_option maxRecDepth 20000 in
theorem gX7_isHeld_X7_credit : GoodIn wsX7_isHeld (wsV RX7 190 RX7 yX7_credit wsX7_credit) := goodIn_app (goodIn_of _ (by decide +kernel)) ggX7_isHeld_X7_credit
theorem dX7_isHeld_0 : decode cX7_isHeld 0 = .ok (.aload_n 0, 1) := by decide +kernel
theorem dX7_isHeld_1 : decode cX7_isHeld 1 = .ok (.getfield 22, 3) := by decide +kernel
theorem dX7_isHeld_4 : decode cX7_isHeld 4 = .ok (.iload_n 1, 1) := by decide +kernel
theorem dX7_isHeld_5 : decode cX7_isHeld 5 = .ok (.iload_n 2, 1) := by decide +kernel
theorem dX7_isHeld_6 : decode cX7_isHeld 6 = .ok (.invokestatic 184, 3) := by decide +kernel
theorem dX7_isHeld_9 : decode cX7_isHeld 9 = .ok (.iaload, 1) := by decide +kernel
theorem dX7_isHeld_10 : decode cX7_isHeld 10 = .ok (.ifCond .le 16, 3) := by decide +kernel
theorem dX7_isHeld_13 : decode cX7_isHeld 13 = .ok (.aload_n 0, 1) := by decide +kernel
theorem dX7_isHeld_14 : decode cX7_isHeld 14 = .ok (.iload_n 1, 1) := by decide +kernel
theorem dX7_isHeld_15 : decode cX7_isHeld 15 = .ok (.iload_n 2, 1) := by decide +kernel
theorem dX7_isHeld_16 : decode cX7_isHeld 16 = .ok (.invokevirtual 190, 3) := by decide +kernel
theorem dX7_isHeld_19 : decode cX7_isHeld 19 = .ok (.ifCond .ne 7, 3) := by decide +kernel
theorem dX7_isHeld_22 : decode cX7_isHeld 22 = .ok (.iconst 1, 1) := by decide +kernel
theorem dX7_isHeld_23 : decode cX7_isHeld 23 = .ok (.goto 4, 3) := by decide +kernel
theorem dX7_isHeld_26 : decode cX7_isHeld 26 = .ok (.iconst 0, 1) := by decide +kernel
theorem dX7_isHeld_27 : decode cX7_isHeld 27 = .ok (.ireturn, 1) := by decide +kernel
set_option maxRecDepth 20000 in
theorem ggX7_waits_X7_lane : GoodIn wsX7_waits wsX7_lane := goodIn_r _ [7] (by decide +kernel) (by decide +kernel)
set_option maxRecDepth 20000 in
theorem gX7_waits_X7_lane : GoodIn wsX7_waits (va_wsS RX7 163 yX7_lane wsX7_lane) := goodIn_app (goodIn_of _ (by decide +kernel)) ggX7_waits_X7_lane
theorem qxX7_waits_0 : ∀ w ∈ ((wsX7_waits_r1 ++ wsX7_waits_r2) ++ wsX70), w ∈ wsX7_waits := fun w h => List.mem_cons_of_mem _ h
theorem qxX7_waits_1 : ∀ w ∈ (wsX7_waits_r1 ++ wsX7_waits_r2), w ∈ wsX7_waits := in_l qxX7_waits_0
theorem qxX7_waits_2 : ∀ w ∈ wsX70, w ∈ wsX7_waits := in_r qxX7_waits_0
theorem qxX7_waits_3 : ∀ w ∈ wsX7_waits_r1, w ∈ wsX7_waits := in_l qxX7_waits_1
theorem qxX7_waits_4 : ∀ w ∈ wsX7_waits_r2, w ∈ wsX7_waits := in_r qxX7_waits_1
def pxX7_waits : List (List Cond) := [wsX7_waits_r1, wsX7_waits_r2, wsX70]
theorem pxX7_waits_in : ∀ q ∈ pxX7_waits, ∀ w ∈ q, w ∈ wsX7_waits := lp_c qxX7_waits_3 (lp_c qxX7_waits_4 (lp_c qxX7_waits_2 (lp_n)))
set_option maxRecDepth 20000 in
theorem ggX7_waits_X7_isHeld : GoodIn wsX7_waits wsX7_isHeld := goodIn_pp pxX7_waits pxX7_waits_in _ [(0, 10), (0, 1), (0, 11), (0, 12), (0, 5), (0, 13), (0, 14), (0, 15), (0, 16), (0, 17), (0, 18), (0, 19), (0, 20), (0, 21), (0, 3), (0, 4), (0, 6), (0, 22), (0, 23), (1, 0), (1, 1), (1, 2), (1, 3), (1, 4), (2, 0), (2, 1), (2, 2), (2, 3), (2, 4), (2, 5), (2, 6), (2, 7), (2, 8), (2, 9), (2, 10), (2, 11), (2, 12), (2, 13), (2, 14), (2, 15), (2, 16), (2, 17), (2, 18), (2, 19), (2, 20)] rfl (by decide +kernel)
set_option maxRecDepth 20000 in
theorem gX7_waits_X7_isHeld : GoodIn wsX7_waits (wsV RX7 196 RX7 yX7_isHeld wsX7_isHeld) := goodIn_app (goodIn_of _ (by decide +kernel)) ggX7_waits_X7_isHeld
set_option maxRecDepth 20000 in
theorem ggX7_waits_X7_probes : GoodIn wsX7_waits wsX7_probes := goodIn_pp pxX7_waits pxX7_waits_in _ [(1, 8), (0, 1), (1, 9), (1, 10), (1, 11), (0, 5), (1, 12), (1, 13), (1, 14), (1, 15), (1, 16), (0, 3), (0, 4), (0, 6), (2, 0), (2, 1), (2, 2), (2, 3), (2, 4), (2, 5), (2, 6), (2, 7), (2, 8), (2, 9), (2, 10), (2, 11), (2, 12), (2, 13), (2, 14), (2, 15), (2, 16), (2, 17), (2, 18), (2, 19), (2, 20)] rfl (by decide +kernel)
set_option maxRecDepth 20000 in
theorem gX7_waits_X7_probes : GoodIn wsX7_waits (wsV RX7 199 RX7 yX7_probes wsX7_probes) := goodIn_app (goodIn_of _ (by decide +kernel)) ggX7_waits_X7_probes
theorem dX7_waits_0 : decode cX7_waits 0 = .ok (.iconst 0, 1) := by decide +kernel
theorem dX7_waits_1 : decode cX7_waits 1 = .ok (.istore_n 2, 1) := by decide +kernel
theorem dX7_waits_2 : decode cX7_waits 2 = .ok (.iload_n 2, 1) := by decide +kernel
theorem dX7_waits_3 : decode cX7_waits 3 = .ok (.aload_n 0, 1) := by decide +kernel
theorem dX7_waits_4 : decode cX7_waits 4 = .ok (.getfield 127, 3) := by decide +kernel
theorem dX7_waits_7 : decode cX7_waits 7 = .ok (.if_icmp .ge 78, 3) := by decide +kernel
theorem dX7_waits_10 : decode cX7_waits 10 = .ok (.iload_n 1, 1) := by decide +kernel
theorem dX7_waits_11 : decode cX7_waits 11 = .ok (.iload_n 2, 1) := by decide +kernel
theorem dX7_waits_12 : decode cX7_waits 12 = .ok (.invokestatic 163, 3) := by decide +kernel
theorem dX7_waits_15 : decode cX7_waits 15 = .ok (.istore_n 3, 1) := by decide +kernel
theorem dX7_waits_16 : decode cX7_waits 16 = .ok (.aload_n 0, 1) := by decide +kernel
theorem dX7_waits_17 : decode cX7_waits 17 = .ok (.getfield 22, 3) := by decide +kernel
theorem dX7_waits_20 : decode cX7_waits 20 = .ok (.iload_n 3, 1) := by decide +kernel
theorem dX7_waits_21 : decode cX7_waits 21 = .ok (.iconst 4, 1) := by decide +kernel
theorem dX7_waits_22 : decode cX7_waits 22 = .ok (.iadd, 1) := by decide +kernel
theorem dX7_waits_23 : decode cX7_waits 23 = .ok (.aload_n 0, 1) := by decide +kernel
theorem dX7_waits_24 : decode cX7_waits 24 = .ok (.iload_n 1, 1) := by decide +kernel
theorem dX7_waits_25 : decode cX7_waits 25 = .ok (.iload_n 2, 1) := by decide +kernel
theorem dX7_waits_26 : decode cX7_waits 26 = .ok (.invokevirtual 196, 3) := by decide +kernel
theorem dX7_waits_29 : decode cX7_waits 29 = .ok (.ifCond .eq 16, 3) := by decide +kernel
theorem dX7_waits_32 : decode cX7_waits 32 = .ok (.aload_n 0, 1) := by decide +kernel
theorem dX7_waits_33 : decode cX7_waits 33 = .ok (.getfield 22, 3) := by decide +kernel
theorem dX7_waits_36 : decode cX7_waits 36 = .ok (.iload_n 3, 1) := by decide +kernel
theorem dX7_waits_37 : decode cX7_waits 37 = .ok (.iconst 4, 1) := by decide +kernel
theorem dX7_waits_38 : decode cX7_waits 38 = .ok (.iadd, 1) := by decide +kernel
theorem dX7_waits_39 : decode cX7_waits 39 = .ok (.iaload, 1) := by decide +kernel
theorem dX7_waits_40 : decode cX7_waits 40 = .ok (.iconst 1, 1) := by decide +kernel
theorem dX7_waits_41 : decode cX7_waits 41 = .ok (.iadd, 1) := by decide +kernel
theorem dX7_waits_42 : decode cX7_waits 42 = .ok (.goto 4, 3) := by decide +kernel
theorem dX7_waits_45 : decode cX7_waits 45 = .ok (.iconst 0, 1) := by decide +kernel
theorem dX7_waits_46 : decode cX7_waits 46 = .ok (.iastore, 1) := by decide +kernel
theorem dX7_waits_47 : decode cX7_waits 47 = .ok (.aload_n 0, 1) := by decide +kernel
theorem dX7_waits_48 : decode cX7_waits 48 = .ok (.getfield 28, 3) := by decide +kernel
theorem dX7_waits_51 : decode cX7_waits 51 = .ok (.iconst 2, 1) := by decide +kernel
theorem dX7_waits_52 : decode cX7_waits 52 = .ok (.iaload, 1) := by decide +kernel
theorem dX7_waits_53 : decode cX7_waits 53 = .ok (.ifCond .le 26, 3) := by decide +kernel
theorem dX7_waits_56 : decode cX7_waits 56 = .ok (.aload_n 0, 1) := by decide +kernel
theorem dX7_waits_57 : decode cX7_waits 57 = .ok (.getfield 22, 3) := by decide +kernel
theorem dX7_waits_60 : decode cX7_waits 60 = .ok (.iload_n 3, 1) := by decide +kernel
theorem dX7_waits_61 : decode cX7_waits 61 = .ok (.iconst 4, 1) := by decide +kernel
theorem dX7_waits_62 : decode cX7_waits 62 = .ok (.iadd, 1) := by decide +kernel
theorem dX7_waits_63 : decode cX7_waits 63 = .ok (.iaload, 1) := by decide +kernel
theorem dX7_waits_64 : decode cX7_waits 64 = .ok (.aload_n 0, 1) := by decide +kernel
theorem dX7_waits_65 : decode cX7_waits 65 = .ok (.getfield 28, 3) := by decide +kernel
theorem dX7_waits_68 : decode cX7_waits 68 = .ok (.iconst 2, 1) := by decide +kernel
theorem dX7_waits_69 : decode cX7_waits 69 = .ok (.iaload, 1) := by decide +kernel
theorem dX7_waits_70 : decode cX7_waits 70 = .ok (.if_icmp .ne 9, 3) := by decide +kernel
theorem dX7_waits_73 : decode cX7_waits 73 = .ok (.aload_n 0, 1) := by decide +kernel
theorem dX7_waits_74 : decode cX7_waits 74 = .ok (.iload_n 1, 1) := by decide +kernel
theorem dX7_waits_75 : decode cX7_waits 75 = .ok (.iload_n 2, 1) := by decide +kernel
theorem dX7_waits_76 : decode cX7_waits 76 = .ok (.invokevirtual 199, 3) := by decide +kernel
theorem dX7_waits_79 : decode cX7_waits 79 = .ok (.iinc 2 1, 3) := by decide +kernel
theorem dX7_waits_82 : decode cX7_waits 82 = .ok (.goto (-80), 3) := by decide +kernel
theorem dX7_waits_85 : decode cX7_waits 85 = .ok (.return_, 1) := by decide +kernel
theorem qxX7_adapts_0 : ∀ w ∈ ((wsX7_adapts_r1 ++ wsX7_adapts_r2) ++ wsX70), w ∈ wsX7_adapts := fun w h => List.mem_cons_of_mem _ h
theorem qxX7_adapts_1 : ∀ w ∈ (wsX7_adapts_r1 ++ wsX7_adapts_r2), w ∈ wsX7_adapts := in_l qxX7_adapts_0
theorem qxX7_adapts_2 : ∀ w ∈ wsX70, w ∈ wsX7_adapts := in_r qxX7_adapts_0
theorem qxX7_adapts_3 : ∀ w ∈ wsX7_adapts_r1, w ∈ wsX7_adapts := in_l qxX7_adapts_1
theorem qxX7_adapts_4 : ∀ w ∈ wsX7_adapts_r2, w ∈ wsX7_adapts := in_r qxX7_adapts_1
def pxX7_adapts : List (List Cond) := [wsX7_adapts_r1, wsX7_adapts_r2, wsX70]
theorem pxX7_adapts_in : ∀ q ∈ pxX7_adapts, ∀ w ∈ q, w ∈ wsX7_adapts := lp_c qxX7_adapts_3 (lp_c qxX7_adapts_4 (lp_c qxX7_adapts_2 (lp_n)))
set_option maxRecDepth 20000 in
theorem ggX7_adapts_X7_aimOf : GoodIn wsX7_adapts wsX7_aimOf := goodIn_pp pxX7_adapts pxX7_adapts_in _ [(0, 14), (0, 0), (0, 2), (0, 15), (0, 16), (0, 17), (0, 13), (0, 18), (0, 19), (0, 20), (0, 21), (0, 22), (0, 23), (2, 0), (2, 1), (2, 2), (2, 3), (2, 4), (2, 5), (2, 6), (2, 7), (2, 8), (2, 9), (2, 10), (2, 11), (2, 12), (2, 13), (2, 14), (2, 15), (2, 16), (2, 17), (2, 18), (2, 19), (2, 20)] rfl (by decide +kernel)
set_option maxRecDepth 20000 in
theorem gX7_adapts_X7_aimOf : GoodIn wsX7_adapts (wsV RX7 202 RX7 yX7_aimOf wsX7_aimOf) := goodIn_app (goodIn_of _ (by decide +kernel)) ggX7_adapts_X7_aimOf
set_option maxRecDepth 20000 in
theorem ggX7_adapts_X7_lane : GoodIn wsX7_adapts wsX7_lane := goodIn_r _ [19] (by decide +kernel) (by decide +kernel)
set_option maxRecDepth 20000 in
theorem gX7_adapts_X7_lane : GoodIn wsX7_adapts (va_wsS RX7 163 yX7_lane wsX7_lane) := goodIn_app (goodIn_of _ (by decide +kernel)) ggX7_adapts_X7_lane
set_option maxRecDepth 20000 in
theorem ggX7_adapts_X7_leftFor : GoodIn wsX7_adapts wsX7_leftFor := goodIn_pp pxX7_adapts pxX7_adapts_in _ [(1, 3), (0, 0), (0, 2), (0, 7), (0, 8), (0, 5), (0, 9), (0, 19), (0, 20), (0, 21), (0, 13), (0, 22), (0, 23), (0, 16), (0, 17), (0, 18), (1, 4), (1, 5), (1, 6), (1, 7), (1, 8), (1, 9), (1, 10), (2, 0), (2, 1), (2, 2), (2, 3), (2, 4), (2, 5), (2, 6), (2, 7), (2, 8), (2, 9), (2, 10), (2, 11), (2, 12), (2, 13), (2, 14), (2, 15), (2, 16), (2, 17), (2, 18), (2, 19), (2, 20)] rfl (by decide +kernel)
set_option maxRecDepth 20000 in
theorem gX7_adapts_X7_leftFor : GoodIn wsX7_adapts (wsV RX7 172 RX7 yX7_leftFor wsX7_leftFor) := goodIn_app (goodIn_of _ (by decide +kernel)) ggX7_adapts_X7_leftFor
theorem dX7_adapts_0 : decode cX7_adapts 0 = .ok (.iconst 0, 1) := by decide +kernel
theorem dX7_adapts_1 : decode cX7_adapts 1 = .ok (.istore_n 2, 1) := by decide +kernel
theorem dX7_adapts_2 : decode cX7_adapts 2 = .ok (.iload_n 2, 1) := by decide +kernel
theorem dX7_adapts_3 : decode cX7_adapts 3 = .ok (.aload_n 0, 1) := by decide +kernel
theorem dX7_adapts_4 : decode cX7_adapts 4 = .ok (.getfield 127, 3) := by decide +kernel
theorem dX7_adapts_7 : decode cX7_adapts 7 = .ok (.if_icmp .ge 21, 3) := by decide +kernel
theorem dX7_adapts_10 : decode cX7_adapts 10 = .ok (.aload_n 0, 1) := by decide +kernel
theorem dX7_adapts_11 : decode cX7_adapts 11 = .ok (.getfield 34, 3) := by decide +kernel
theorem dX7_adapts_14 : decode cX7_adapts 14 = .ok (.iload_n 2, 1) := by decide +kernel
theorem dX7_adapts_15 : decode cX7_adapts 15 = .ok (.aload_n 0, 1) := by decide +kernel
theorem dX7_adapts_16 : decode cX7_adapts 16 = .ok (.iload_n 1, 1) := by decide +kernel
theorem dX7_adapts_17 : decode cX7_adapts 17 = .ok (.iload_n 2, 1) := by decide +kernel
theorem dX7_adapts_18 : decode cX7_adapts 18 = .ok (.invokevirtual 202, 3) := by decide +kernel
theorem dX7_adapts_21 : decode cX7_adapts 21 = .ok (.iastore, 1) := by decide +kernel
theorem dX7_adapts_22 : decode cX7_adapts 22 = .ok (.iinc 2 1, 3) := by decide +kernel
theorem dX7_adapts_25 : decode cX7_adapts 25 = .ok (.goto (-23), 3) := by decide +kernel
theorem dX7_adapts_28 : decode cX7_adapts 28 = .ok (.iconst 0, 1) := by decide +kernel
theorem dX7_adapts_29 : decode cX7_adapts 29 = .ok (.istore_n 2, 1) := by decide +kernel
theorem dX7_adapts_30 : decode cX7_adapts 30 = .ok (.iload_n 2, 1) := by decide +kernel
theorem dX7_adapts_31 : decode cX7_adapts 31 = .ok (.aload_n 0, 1) := by decide +kernel
theorem dX7_adapts_32 : decode cX7_adapts 32 = .ok (.getfield 127, 3) := by decide +kernel
theorem dX7_adapts_35 : decode cX7_adapts 35 = .ok (.if_icmp .ge 50, 3) := by decide +kernel
theorem dX7_adapts_38 : decode cX7_adapts 38 = .ok (.iload_n 1, 1) := by decide +kernel
theorem dX7_adapts_39 : decode cX7_adapts 39 = .ok (.iload_n 2, 1) := by decide +kernel
theorem dX7_adapts_40 : decode cX7_adapts 40 = .ok (.invokestatic 163, 3) := by decide +kernel
theorem dX7_adapts_43 : decode cX7_adapts 43 = .ok (.istore_n 3, 1) := by decide +kernel
theorem dX7_adapts_44 : decode cX7_adapts 44 = .ok (.aload_n 0, 1) := by decide +kernel
theorem dX7_adapts_45 : decode cX7_adapts 45 = .ok (.getfield 22, 3) := by decide +kernel
theorem dX7_adapts_48 : decode cX7_adapts 48 = .ok (.iload_n 3, 1) := by decide +kernel
theorem dX7_adapts_49 : decode cX7_adapts 49 = .ok (.iconst 3, 1) := by decide +kernel
theorem dX7_adapts_50 : decode cX7_adapts 50 = .ok (.iadd, 1) := by decide +kernel
theorem dX7_adapts_51 : decode cX7_adapts 51 = .ok (.aload_n 0, 1) := by decide +kernel
theorem dX7_adapts_52 : decode cX7_adapts 52 = .ok (.getfield 22, 3) := by decide +kernel
theorem dX7_adapts_55 : decode cX7_adapts 55 = .ok (.iload_n 3, 1) := by decide +kernel
theorem dX7_adapts_56 : decode cX7_adapts 56 = .ok (.iconst 3, 1) := by decide +kernel
theorem dX7_adapts_57 : decode cX7_adapts 57 = .ok (.iadd, 1) := by decide +kernel
theorem dX7_adapts_58 : decode cX7_adapts 58 = .ok (.iaload, 1) := by decide +kernel
theorem dX7_adapts_59 : decode cX7_adapts 59 = .ok (.aload_n 0, 1) := by decide +kernel
theorem dX7_adapts_60 : decode cX7_adapts 60 = .ok (.getfield 34, 3) := by decide +kernel
theorem dX7_adapts_63 : decode cX7_adapts 63 = .ok (.iload_n 2, 1) := by decide +kernel
theorem dX7_adapts_64 : decode cX7_adapts 64 = .ok (.iaload, 1) := by decide +kernel
theorem dX7_adapts_65 : decode cX7_adapts 65 = .ok (.invokestatic 175, 3) := by decide +kernel
theorem dX7_adapts_68 : decode cX7_adapts 68 = .ok (.iastore, 1) := by decide +kernel
theorem dX7_adapts_69 : decode cX7_adapts 69 = .ok (.aload_n 0, 1) := by decide +kernel
theorem dX7_adapts_70 : decode cX7_adapts 70 = .ok (.getfield 22, 3) := by decide +kernel
theorem dX7_adapts_73 : decode cX7_adapts 73 = .ok (.iload_n 3, 1) := by decide +kernel
theorem dX7_adapts_74 : decode cX7_adapts 74 = .ok (.bipush 6, 2) := by decide +kernel
theorem dX7_adapts_76 : decode cX7_adapts 76 = .ok (.iadd, 1) := by decide +kernel
theorem dX7_adapts_77 : decode cX7_adapts 77 = .ok (.iconst 0, 1) := by decide +kernel
theorem dX7_adapts_78 : decode cX7_adapts 78 = .ok (.iastore, 1) := by decide +kernel
theorem dX7_adapts_79 : decode cX7_adapts 79 = .ok (.iinc 2 1, 3) := by decide +kernel
theorem dX7_adapts_82 : decode cX7_adapts 82 = .ok (.goto (-52), 3) := by decide +kernel
theorem dX7_adapts_85 : decode cX7_adapts 85 = .ok (.iconst 0, 1) := by decide +kernel
theorem dX7_adapts_86 : decode cX7_adapts 86 = .ok (.istore_n 2, 1) := by decide +kernel
theorem dX7_adapts_87 : decode cX7_adapts 87 = .ok (.iload_n 2, 1) := by decide +kernel
theorem dX7_adapts_88 : decode cX7_adapts 88 = .ok (.aload_n 0, 1) := by decide +kernel
theorem dX7_adapts_89 : decode cX7_adapts 89 = .ok (.getfield 127, 3) := by decide +kernel
theorem dX7_adapts_92 : decode cX7_adapts 92 = .ok (.if_icmp .ge 49, 3) := by decide +kernel
theorem dX7_adapts_95 : decode cX7_adapts 95 = .ok (.iload_n 1, 1) := by decide +kernel
theorem dX7_adapts_96 : decode cX7_adapts 96 = .ok (.iload_n 2, 1) := by decide +kernel
theorem dX7_adapts_97 : decode cX7_adapts 97 = .ok (.invokestatic 163, 3) := by decide +kernel
theorem dX7_adapts_100 : decode cX7_adapts 100 = .ok (.istore_n 3, 1) := by decide +kernel
theorem dX7_adapts_101 : decode cX7_adapts 101 = .ok (.aload_n 0, 1) := by decide +kernel
theorem dX7_adapts_102 : decode cX7_adapts 102 = .ok (.getfield 22, 3) := by decide +kernel
theorem dX7_adapts_105 : decode cX7_adapts 105 = .ok (.iload_n 3, 1) := by decide +kernel
theorem dX7_adapts_106 : decode cX7_adapts 106 = .ok (.iconst 3, 1) := by decide +kernel
theorem dX7_adapts_107 : decode cX7_adapts 107 = .ok (.iadd, 1) := by decide +kernel
theorem dX7_adapts_108 : decode cX7_adapts 108 = .ok (.aload_n 0, 1) := by decide +kernel
theorem dX7_adapts_109 : decode cX7_adapts 109 = .ok (.getfield 22, 3) := by decide +kernel
theorem dX7_adapts_112 : decode cX7_adapts 112 = .ok (.iload_n 3, 1) := by decide +kernel
theorem dX7_adapts_113 : decode cX7_adapts 113 = .ok (.iconst 3, 1) := by decide +kernel
theorem dX7_adapts_114 : decode cX7_adapts 114 = .ok (.iadd, 1) := by decide +kernel
theorem dX7_adapts_115 : decode cX7_adapts 115 = .ok (.iaload, 1) := by decide +kernel
theorem dX7_adapts_116 : decode cX7_adapts 116 = .ok (.aload_n 0, 1) := by decide +kernel
theorem dX7_adapts_117 : decode cX7_adapts 117 = .ok (.getfield 34, 3) := by decide +kernel
theorem dX7_adapts_120 : decode cX7_adapts 120 = .ok (.iload_n 2, 1) := by decide +kernel
theorem dX7_adapts_121 : decode cX7_adapts 121 = .ok (.iaload, 1) := by decide +kernel
theorem dX7_adapts_122 : decode cX7_adapts 122 = .ok (.aload_n 0, 1) := by decide +kernel
theorem dX7_adapts_123 : decode cX7_adapts 123 = .ok (.iload_n 1, 1) := by decide +kernel
theorem dX7_adapts_124 : decode cX7_adapts 124 = .ok (.iload_n 2, 1) := by decide +kernel
theorem dX7_adapts_125 : decode cX7_adapts 125 = .ok (.invokevirtual 172, 3) := by decide +kernel
theorem dX7_adapts_128 : decode cX7_adapts 128 = .ok (.invokestatic 175, 3) := by decide +kernel
theorem dX7_adapts_131 : decode cX7_adapts 131 = .ok (.invokestatic 154, 3) := by decide +kernel
theorem dX7_adapts_134 : decode cX7_adapts 134 = .ok (.iastore, 1) := by decide +kernel
theorem dX7_adapts_135 : decode cX7_adapts 135 = .ok (.iinc 2 1, 3) := by decide +kernel
theorem dX7_adapts_138 : decode cX7_adapts 138 = .ok (.goto (-51), 3) := by decide +kernel
theorem dX7_adapts_141 : decode cX7_adapts 141 = .ok (.return_, 1) := by decide +kernel
theorem qxX7_ticks_0 : ∀ w ∈ ((wsX7_ticks_r1 ++ (wsX7_ticks_r2 ++ (wsX7_ticks_r3 ++ (wsX7_ticks_r4 ++ wsX7_ticks_r5)))) ++ wsX70), w ∈ wsX7_ticks := fun w h => List.mem_cons_of_mem _ h
theorem qxX7_ticks_1 : ∀ w ∈ (wsX7_ticks_r1 ++ (wsX7_ticks_r2 ++ (wsX7_ticks_r3 ++ (wsX7_ticks_r4 ++ wsX7_ticks_r5)))), w ∈ wsX7_ticks := in_l qxX7_ticks_0
theorem qxX7_ticks_2 : ∀ w ∈ wsX70, w ∈ wsX7_ticks := in_r qxX7_ticks_0
theorem qxX7_ticks_3 : ∀ w ∈ wsX7_ticks_r1, w ∈ wsX7_ticks := in_l qxX7_ticks_1
theorem qxX7_ticks_4 : ∀ w ∈ (wsX7_ticks_r2 ++ (wsX7_ticks_r3 ++ (wsX7_ticks_r4 ++ wsX7_ticks_r5))), w ∈ wsX7_ticks := in_r qxX7_ticks_1
theorem qxX7_ticks_5 : ∀ w ∈ wsX7_ticks_r2, w ∈ wsX7_ticks := in_l qxX7_ticks_4
theorem qxX7_ticks_6 : ∀ w ∈ (wsX7_ticks_r3 ++ (wsX7_ticks_r4 ++ wsX7_ticks_r5)), w ∈ wsX7_ticks := in_r qxX7_ticks_4
theorem qxX7_ticks_7 : ∀ w ∈ wsX7_ticks_r3, w ∈ wsX7_ticks := in_l qxX7_ticks_6
theorem qxX7_ticks_8 : ∀ w ∈ (wsX7_ticks_r4 ++ wsX7_ticks_r5), w ∈ wsX7_ticks := in_r qxX7_ticks_6
theorem qxX7_ticks_9 : ∀ w ∈ wsX7_ticks_r4, w ∈ wsX7_ticks := in_l qxX7_ticks_8
theorem qxX7_ticks_10 : ∀ w ∈ wsX7_ticks_r5, w ∈ wsX7_ticks := in_r qxX7_ticks_8
def pxX7_ticks : List (List Cond) := [wsX7_ticks_r1, wsX7_ticks_r2, wsX7_ticks_r3, wsX7_ticks_r4, wsX7_ticks_r5, wsX70]
theorem pxX7_ticks_in : ∀ q ∈ pxX7_ticks, ∀ w ∈ q, w ∈ wsX7_ticks := lp_c qxX7_ticks_3 (lp_c qxX7_ticks_5 (lp_c qxX7_ticks_7 (lp_c qxX7_ticks_9 (lp_c qxX7_ticks_10 (lp_c qxX7_ticks_2 (lp_n))))))
set_option maxRecDepth 20000 in
theorem ggX7_ticks_X7_arrives : GoodIn wsX7_ticks wsX7_arrives := goodIn_pp pxX7_ticks pxX7_ticks_in _ [(0, 8), (0, 3), (0, 1), (0, 9), (0, 10), (0, 7), (0, 11), (0, 12), (0, 13), (0, 14), (0, 15), (0, 16), (0, 17), (0, 18), (0, 19), (0, 20), (0, 21), (0, 22), (0, 23), (1, 0), (1, 1), (1, 2), (1, 3), (1, 4), (1, 5), (1, 6), (1, 7), (1, 8), (1, 9), (1, 10), (1, 11), (1, 12), (5, 0), (5, 1), (5, 2), (5, 3), (5, 4), (5, 5), (5, 6), (5, 7), (5, 8), (5, 9), (5, 10), (5, 11), (5, 12), (5, 13), (5, 14), (5, 15), (5, 16), (5, 17), (5, 18), (5, 19), (5, 20)] rfl (by decide +kernel)
set_option maxRecDepth 20000 in
theorem gX7_ticks_X7_arrives : GoodIn wsX7_ticks (wsV RX7 205 RX7 yX7_arrives wsX7_arrives) := goodIn_app (goodIn_of _ (by decide +kernel)) ggX7_ticks_X7_arrives
set_option maxRecDepth 20000 in
theorem ggX7_ticks_X7_comes : GoodIn wsX7_ticks wsX7_comes := goodIn_pp pxX7_ticks pxX7_ticks_in _ [(1, 16), (0, 3), (1, 17), (1, 18), (0, 7), (1, 19), (0, 12), (0, 13), (0, 14), (5, 0), (5, 1), (5, 2), (5, 3), (5, 4), (5, 5), (5, 6), (5, 7), (5, 8), (5, 9), (5, 10), (5, 11), (5, 12), (5, 13), (5, 14), (5, 15), (5, 16), (5, 17), (5, 18), (5, 19), (5, 20)] rfl (by decide +kernel)
set_option maxRecDepth 20000 in
theorem gX7_ticks_X7_comes : GoodIn wsX7_ticks (wsV RX7 208 RX7 yX7_comes wsX7_comes) := goodIn_app (goodIn_of _ (by decide +kernel)) ggX7_ticks_X7_comes
set_option maxRecDepth 20000 in
theorem ggX7_ticks_X7_isTaken : GoodIn wsX7_ticks wsX7_isTaken := goodIn_pp pxX7_ticks pxX7_ticks_in _ [(1, 23), (0, 3), (0, 0), (2, 0), (2, 1), (2, 2), (2, 3), (1, 17), (1, 18), (0, 7), (1, 19), (0, 12), (0, 13), (0, 14), (2, 4), (2, 5), (2, 6), (2, 7), (1, 12), (0, 15), (0, 16), (0, 17), (1, 4), (1, 5), (1, 6), (1, 7), (1, 8), (1, 9), (1, 10), (1, 11), (0, 9), (0, 10), (0, 11), (5, 0), (5, 1), (5, 2), (5, 3), (5, 4), (5, 5), (5, 6), (5, 7), (5, 8), (5, 9), (5, 10), (5, 11), (5, 12), (5, 13), (5, 14), (5, 15), (5, 16), (5, 17), (5, 18), (5, 19), (5, 20)] rfl (by decide +kernel)
set_option maxRecDepth 20000 in
theorem gX7_ticks_X7_isTaken : GoodIn wsX7_ticks (wsV RX7 211 RX7 yX7_isTaken wsX7_isTaken) := goodIn_app (goodIn_of _ (by decide +kernel)) ggX7_ticks_X7_isTaken
set_option maxRecDepth 20000 in
theorem ggX7_ticks_X7_sends : GoodIn wsX7_ticks wsX7_sends := goodIn_pp pxX7_ticks pxX7_ticks_in _ [(2, 11), (0, 3), (2, 12), (2, 13), (2, 14), (0, 7), (2, 15), (0, 1), (0, 12), (0, 13), (0, 14), (2, 16), (2, 17), (2, 18), (2, 19), (2, 0), (2, 1), (2, 2), (2, 3), (0, 15), (0, 16), (0, 17), (2, 20), (2, 21), (2, 22), (2, 23), (0, 18), (0, 19), (0, 20), (1, 8), (1, 9), (1, 10), (1, 11), (1, 12), (0, 9), (0, 10), (0, 11), (2, 4), (2, 5), (2, 6), (2, 7), (1, 4), (1, 5), (1, 6), (1, 7), (5, 0), (5, 1), (5, 2), (5, 3), (5, 4), (5, 5), (5, 6), (5, 7), (5, 8), (5, 9), (5, 10), (5, 11), (5, 12), (5, 13), (5, 14), (5, 15), (5, 16), (5, 17), (5, 18), (5, 19), (5, 20)] rfl (by decide +kernel)
set_option maxRecDepth 20000 in
theorem gX7_ticks_X7_sends : GoodIn wsX7_ticks (wsV RX7 214 RX7 yX7_sends wsX7_sends) := goodIn_app (goodIn_of _ (by decide +kernel)) ggX7_ticks_X7_sends
set_option maxRecDepth 20000 in
theorem ggX7_ticks_X7_waits : GoodIn wsX7_ticks wsX7_waits := goodIn_pp pxX7_ticks pxX7_ticks_in _ [(3, 3), (0, 1), (0, 3), (0, 2), (0, 15), (0, 16), (0, 7), (0, 17), (3, 4), (3, 5), (3, 6), (3, 7), (0, 12), (0, 13), (0, 14), (2, 16), (2, 17), (2, 18), (2, 19), (2, 0), (2, 1), (2, 2), (2, 3), (2, 20), (2, 21), (2, 22), (2, 23), (0, 18), (0, 19), (0, 20), (3, 8), (3, 9), (3, 10), (3, 11), (1, 8), (1, 9), (1, 10), (1, 11), (1, 12), (0, 9), (0, 10), (0, 11), (5, 0), (5, 1), (5, 2), (5, 3), (5, 4), (5, 5), (5, 6), (5, 7), (5, 8), (5, 9), (5, 10), (5, 11), (5, 12), (5, 13), (5, 14), (5, 15), (5, 16), (5, 17), (5, 18), (5, 19), (5, 20)] rfl (by decide +kernel)
set_option maxRecDepth 20000 in
theorem gX7_ticks_X7_waits : GoodIn wsX7_ticks (wsV RX7 217 RX7 yX7_waits wsX7_waits) := goodIn_app (goodIn_of _ (by decide +kernel)) ggX7_ticks_X7_waits
set_option maxRecDepth 20000 in
theorem ggX7_ticks_X7_adapts : GoodIn wsX7_ticks wsX7_adapts := goodIn_pp pxX7_ticks pxX7_ticks_in _ [(3, 15), (0, 1), (3, 16), (0, 3), (3, 17), (3, 18), (2, 2), (3, 19), (2, 0), (2, 1), (2, 3), (3, 20), (3, 21), (3, 22), (0, 7), (3, 23), (0, 2), (0, 15), (0, 16), (0, 17), (4, 0), (4, 1), (4, 2), (4, 3), (1, 12), (4, 4), (4, 5), (4, 6), (4, 7), (2, 20), (2, 21), (2, 22), (2, 23), (0, 18), (0, 19), (0, 20), (5, 0), (5, 1), (5, 2), (5, 3), (5, 4), (5, 5), (5, 6), (5, 7), (5, 8), (5, 9), (5, 10), (5, 11), (5, 12), (5, 13), (5, 14), (5, 15), (5, 16), (5, 17), (5, 18), (5, 19), (5, 20)] rfl (by decide +kernel)
set_option maxRecDepth 20000 in
theorem gX7_ticks_X7_adapts : GoodIn wsX7_ticks (wsV RX7 220 RX7 yX7_adapts wsX7_adapts) := goodIn_app (goodIn_of _ (by decide +kernel)) ggX7_ticks_X7_adapts
theorem dX7_ticks_0 : decode cX7_ticks 0 = .ok (.iconst 0, 1) := by decide +kernel
theorem dX7_ticks_1 : decode cX7_ticks 1 = .ok (.istore_n 1, 1) := by decide +kernel
theorem dX7_ticks_2 : decode cX7_ticks 2 = .ok (.iload_n 1, 1) := by decide +kernel
theorem dX7_ticks_3 : decode cX7_ticks 3 = .ok (.aload_n 0, 1) := by decide +kernel
theorem dX7_ticks_4 : decode cX7_ticks 4 = .ok (.getfield 124, 3) := by decide +kernel
theorem dX7_ticks_7 : decode cX7_ticks 7 = .ok (.if_icmp .ge 14, 3) := by decide +kernel
theorem dX7_ticks_10 : decode cX7_ticks 10 = .ok (.aload_n 0, 1) := by decide +kernel
theorem dX7_ticks_11 : decode cX7_ticks 11 = .ok (.iload_n 1, 1) := by decide +kernel
theorem dX7_ticks_12 : decode cX7_ticks 12 = .ok (.invokevirtual 205, 3) := by decide +kernel
theorem dX7_ticks_15 : decode cX7_ticks 15 = .ok (.iinc 1 1, 3) := by decide +kernel
theorem dX7_ticks_18 : decode cX7_ticks 18 = .ok (.goto (-16), 3) := by decide +kernel
theorem dX7_ticks_21 : decode cX7_ticks 21 = .ok (.iconst 0, 1) := by decide +kernel
theorem dX7_ticks_22 : decode cX7_ticks 22 = .ok (.istore_n 1, 1) := by decide +kernel
theorem dX7_ticks_23 : decode cX7_ticks 23 = .ok (.iload_n 1, 1) := by decide +kernel
theorem dX7_ticks_24 : decode cX7_ticks 24 = .ok (.aload_n 0, 1) := by decide +kernel
theorem dX7_ticks_25 : decode cX7_ticks 25 = .ok (.getfield 127, 3) := by decide +kernel
theorem dX7_ticks_28 : decode cX7_ticks 28 = .ok (.if_icmp .ge 14, 3) := by decide +kernel
theorem dX7_ticks_31 : decode cX7_ticks 31 = .ok (.aload_n 0, 1) := by decide +kernel
theorem dX7_ticks_32 : decode cX7_ticks 32 = .ok (.iload_n 1, 1) := by decide +kernel
theorem dX7_ticks_33 : decode cX7_ticks 33 = .ok (.invokevirtual 208, 3) := by decide +kernel
theorem dX7_ticks_36 : decode cX7_ticks 36 = .ok (.iinc 1 1, 3) := by decide +kernel
theorem dX7_ticks_39 : decode cX7_ticks 39 = .ok (.goto (-16), 3) := by decide +kernel
theorem dX7_ticks_42 : decode cX7_ticks 42 = .ok (.iconst 0, 1) := by decide +kernel
theorem dX7_ticks_43 : decode cX7_ticks 43 = .ok (.istore_n 1, 1) := by decide +kernel
theorem dX7_ticks_44 : decode cX7_ticks 44 = .ok (.iload_n 1, 1) := by decide +kernel
theorem dX7_ticks_45 : decode cX7_ticks 45 = .ok (.aload_n 0, 1) := by decide +kernel
theorem dX7_ticks_46 : decode cX7_ticks 46 = .ok (.getfield 127, 3) := by decide +kernel
theorem dX7_ticks_49 : decode cX7_ticks 49 = .ok (.if_icmp .ge 14, 3) := by decide +kernel
theorem dX7_ticks_52 : decode cX7_ticks 52 = .ok (.aload_n 0, 1) := by decide +kernel
theorem dX7_ticks_53 : decode cX7_ticks 53 = .ok (.iload_n 1, 1) := by decide +kernel
theorem dX7_ticks_54 : decode cX7_ticks 54 = .ok (.invokevirtual 211, 3) := by decide +kernel
theorem dX7_ticks_57 : decode cX7_ticks 57 = .ok (.iinc 1 1, 3) := by decide +kernel
theorem dX7_ticks_60 : decode cX7_ticks 60 = .ok (.goto (-16), 3) := by decide +kernel
theorem dX7_ticks_63 : decode cX7_ticks 63 = .ok (.aload_n 0, 1) := by decide +kernel
theorem dX7_ticks_64 : decode cX7_ticks 64 = .ok (.getfield 124, 3) := by decide +kernel
theorem dX7_ticks_67 : decode cX7_ticks 67 = .ok (.iconst 1, 1) := by decide +kernel
theorem dX7_ticks_68 : decode cX7_ticks 68 = .ok (.isub, 1) := by decide +kernel
theorem dX7_ticks_69 : decode cX7_ticks 69 = .ok (.istore_n 1, 1) := by decide +kernel
theorem dX7_ticks_70 : decode cX7_ticks 70 = .ok (.iload_n 1, 1) := by decide +kernel
theorem dX7_ticks_71 : decode cX7_ticks 71 = .ok (.ifCond .lt 19, 3) := by decide +kernel
theorem dX7_ticks_74 : decode cX7_ticks 74 = .ok (.aload_n 0, 1) := by decide +kernel
theorem dX7_ticks_75 : decode cX7_ticks 75 = .ok (.iload_n 1, 1) := by decide +kernel
theorem dX7_ticks_76 : decode cX7_ticks 76 = .ok (.invokevirtual 214, 3) := by decide +kernel
theorem dX7_ticks_79 : decode cX7_ticks 79 = .ok (.aload_n 0, 1) := by decide +kernel
theorem dX7_ticks_80 : decode cX7_ticks 80 = .ok (.iload_n 1, 1) := by decide +kernel
theorem dX7_ticks_81 : decode cX7_ticks 81 = .ok (.invokevirtual 217, 3) := by decide +kernel
theorem dX7_ticks_84 : decode cX7_ticks 84 = .ok (.iinc 1 (-1), 3) := by decide +kernel
theorem dX7_ticks_87 : decode cX7_ticks 87 = .ok (.goto (-17), 3) := by decide +kernel
theorem dX7_ticks_90 : decode cX7_ticks 90 = .ok (.aload_n 0, 1) := by decide +kernel
theorem dX7_ticks_91 : decode cX7_ticks 91 = .ok (.getfield 28, 3) := by decide +kernel
theorem dX7_ticks_94 : decode cX7_ticks 94 = .ok (.iconst 1, 1) := by decide +kernel
theorem dX7_ticks_95 : decode cX7_ticks 95 = .ok (.iaload, 1) := by decide +kernel
theorem dX7_ticks_96 : decode cX7_ticks 96 = .ok (.ifCond .le 44, 3) := by decide +kernel
theorem dX7_ticks_99 : decode cX7_ticks 99 = .ok (.aload_n 0, 1) := by decide +kernel
theorem dX7_ticks_100 : decode cX7_ticks 100 = .ok (.getfield 22, 3) := by decide +kernel
theorem dX7_ticks_103 : decode cX7_ticks 103 = .ok (.sipush 1764, 3) := by decide +kernel
theorem dX7_ticks_106 : decode cX7_ticks 106 = .ok (.iaload, 1) := by decide +kernel
theorem dX7_ticks_107 : decode cX7_ticks 107 = .ok (.iconst 1, 1) := by decide +kernel
theorem dX7_ticks_108 : decode cX7_ticks 108 = .ok (.iadd, 1) := by decide +kernel
theorem dX7_ticks_109 : decode cX7_ticks 109 = .ok (.aload_n 0, 1) := by decide +kernel
theorem dX7_ticks_110 : decode cX7_ticks 110 = .ok (.getfield 28, 3) := by decide +kernel
theorem dX7_ticks_113 : decode cX7_ticks 113 = .ok (.iconst 1, 1) := by decide +kernel
theorem dX7_ticks_114 : decode cX7_ticks 114 = .ok (.iaload, 1) := by decide +kernel
theorem dX7_ticks_115 : decode cX7_ticks 115 = .ok (.irem, 1) := by decide +kernel
theorem dX7_ticks_116 : decode cX7_ticks 116 = .ok (.ifCond .ne 24, 3) := by decide +kernel
theorem dX7_ticks_119 : decode cX7_ticks 119 = .ok (.iconst 0, 1) := by decide +kernel
theorem dX7_ticks_120 : decode cX7_ticks 120 = .ok (.istore_n 1, 1) := by decide +kernel
theorem dX7_ticks_121 : decode cX7_ticks 121 = .ok (.iload_n 1, 1) := by decide +kernel
theorem dX7_ticks_122 : decode cX7_ticks 122 = .ok (.aload_n 0, 1) := by decide +kernel
theorem dX7_ticks_123 : decode cX7_ticks 123 = .ok (.getfield 124, 3) := by decide +kernel
theorem dX7_ticks_126 : decode cX7_ticks 126 = .ok (.if_icmp .ge 14, 3) := by decide +kernel
theorem dX7_ticks_129 : decode cX7_ticks 129 = .ok (.aload_n 0, 1) := by decide +kernel
theorem dX7_ticks_130 : decode cX7_ticks 130 = .ok (.iload_n 1, 1) := by decide +kernel
theorem dX7_ticks_131 : decode cX7_ticks 131 = .ok (.invokevirtual 220, 3) := by decide +kernel
theorem dX7_ticks_134 : decode cX7_ticks 134 = .ok (.iinc 1 1, 3) := by decide +kernel
theorem dX7_ticks_137 : decode cX7_ticks 137 = .ok (.goto (-16), 3) := by decide +kernel
theorem dX7_ticks_140 : decode cX7_ticks 140 = .ok (.aload_n 0, 1) := by decide +kernel
theorem dX7_ticks_141 : decode cX7_ticks 141 = .ok (.getfield 22, 3) := by decide +kernel
theorem dX7_ticks_144 : decode cX7_ticks 144 = .ok (.sipush 1764, 3) := by decide +kernel
theorem dX7_ticks_147 : decode cX7_ticks 147 = .ok (.dup2, 1) := by decide +kernel
theorem dX7_ticks_148 : decode cX7_ticks 148 = .ok (.iaload, 1) := by decide +kernel
theorem dX7_ticks_149 : decode cX7_ticks 149 = .ok (.iconst 1, 1) := by decide +kernel
theorem dX7_ticks_150 : decode cX7_ticks 150 = .ok (.iadd, 1) := by decide +kernel
theorem dX7_ticks_151 : decode cX7_ticks 151 = .ok (.iastore, 1) := by decide +kernel
theorem dX7_ticks_152 : decode cX7_ticks 152 = .ok (.return_, 1) := by decide +kernel
theorem dX7_refuses_0 : decode cX7_refuses 0 = .ok (.aload_n 0, 1) := by decide +kernel
theorem dX7_refuses_1 : decode cX7_refuses 1 = .ok (.getfield 25, 3) := by decide +kernel
theorem dX7_refuses_4 : decode cX7_refuses 4 = .ok (.iload_n 1, 1) := by decide +kernel
theorem dX7_refuses_5 : decode cX7_refuses 5 = .ok (.dup2, 1) := by decide +kernel
theorem dX7_refuses_6 : decode cX7_refuses 6 = .ok (.iaload, 1) := by decide +kernel
theorem dX7_refuses_7 : decode cX7_refuses 7 = .ok (.iconst 1, 1) := by decide +kernel
theorem dX7_refuses_8 : decode cX7_refuses 8 = .ok (.iadd, 1) := by decide +kernel
theorem dX7_refuses_9 : decode cX7_refuses 9 = .ok (.iastore, 1) := by decide +kernel
theorem dX7_refuses_10 : decode cX7_refuses 10 = .ok (.iconst (-1), 1) := by decide +kernel
theorem dX7_refuses_11 : decode cX7_refuses 11 = .ok (.ireturn, 1) := by decide +kernel
set_option maxRecDepth 20000 in
theorem ggX7_go_X7_isNet : GoodIn wsX7_go wsX7_isNet := goodIn_r _ [7, 8, 122, 123, 124, 125, 126, 127, 128, 129, 130, 131, 132, 133, 134, 135, 136, 137, 138, 139, 140, 141, 142] (by decide +kernel) (by decide +kernel)
set_option maxRecDepth 20000 in
theorem gX7_go_X7_isNet : GoodIn wsX7_go (wsV RX7 136 RX7 yX7_isNet wsX7_isNet) := goodIn_app (goodIn_of _ (by decide +kernel)) ggX7_go_X7_isNet
set_option maxRecDepth 20000 in
theorem ggX7_go_X7_refuses : GoodIn wsX7_go wsX7_refuses := goodIn_r _ [12, 13, 122, 123, 124, 125, 126, 127, 128, 129, 130, 131, 132, 133, 134, 135, 136, 137, 138, 139, 140, 141, 142] (by decide +kernel) (by decide +kernel)
set_option maxRecDepth 20000 in
theorem gX7_go_X7_refuses : GoodIn wsX7_go (wsV RX7 223 RX7 yX7_refuses wsX7_refuses) := goodIn_app (goodIn_of _ (by decide +kernel)) ggX7_go_X7_refuses
set_option maxRecDepth 20000 in
theorem ggX7_go_X7_in : GoodIn wsX7_go wsX7_in := goodIn_r _ [16] (by decide +kernel) (by decide +kernel)
set_option maxRecDepth 20000 in
theorem gX7_go_X7_in : GoodIn wsX7_go (va_wsS RX7 60 yX7_in wsX7_in) := goodIn_app (goodIn_of _ (by decide +kernel)) ggX7_go_X7_in
theorem qxX7_go_0 : ∀ w ∈ ((wsX7_go_r1 ++ (wsX7_go_r2 ++ (wsX7_go_r3 ++ (wsX7_go_r4 ++ (wsX7_go_r5 ++ wsX7_go_r6))))) ++ wsX70), w ∈ wsX7_go := fun w h => List.mem_cons_of_mem _ h
theorem qxX7_go_1 : ∀ w ∈ (wsX7_go_r1 ++ (wsX7_go_r2 ++ (wsX7_go_r3 ++ (wsX7_go_r4 ++ (wsX7_go_r5 ++ wsX7_go_r6))))), w ∈ wsX7_go := in_l qxX7_go_0
theorem qxX7_go_2 : ∀ w ∈ wsX70, w ∈ wsX7_go := in_r qxX7_go_0
theorem qxX7_go_3 : ∀ w ∈ wsX7_go_r1, w ∈ wsX7_go := in_l qxX7_go_1
theorem qxX7_go_4 : ∀ w ∈ (wsX7_go_r2 ++ (wsX7_go_r3 ++ (wsX7_go_r4 ++ (wsX7_go_r5 ++ wsX7_go_r6)))), w ∈ wsX7_go := in_r qxX7_go_1
theorem qxX7_go_5 : ∀ w ∈ wsX7_go_r2, w ∈ wsX7_go := in_l qxX7_go_4
theorem qxX7_go_6 : ∀ w ∈ (wsX7_go_r3 ++ (wsX7_go_r4 ++ (wsX7_go_r5 ++ wsX7_go_r6))), w ∈ wsX7_go := in_r qxX7_go_4
theorem qxX7_go_7 : ∀ w ∈ wsX7_go_r3, w ∈ wsX7_go := in_l qxX7_go_6
theorem qxX7_go_8 : ∀ w ∈ (wsX7_go_r4 ++ (wsX7_go_r5 ++ wsX7_go_r6)), w ∈ wsX7_go := in_r qxX7_go_6
theorem qxX7_go_9 : ∀ w ∈ wsX7_go_r4, w ∈ wsX7_go := in_l qxX7_go_8
theorem qxX7_go_10 : ∀ w ∈ (wsX7_go_r5 ++ wsX7_go_r6), w ∈ wsX7_go := in_r qxX7_go_8
theorem qxX7_go_11 : ∀ w ∈ wsX7_go_r5, w ∈ wsX7_go := in_l qxX7_go_10
theorem qxX7_go_12 : ∀ w ∈ wsX7_go_r6, w ∈ wsX7_go := in_r qxX7_go_10
def pxX7_go : List (List Cond) := [wsX7_go_r1, wsX7_go_r2, wsX7_go_r3, wsX7_go_r4, wsX7_go_r5, wsX7_go_r6, wsX70]
theorem pxX7_go_in : ∀ q ∈ pxX7_go, ∀ w ∈ q, w ∈ wsX7_go := lp_c qxX7_go_3 (lp_c qxX7_go_5 (lp_c qxX7_go_7 (lp_c qxX7_go_9 (lp_c qxX7_go_11 (lp_c qxX7_go_12 (lp_c qxX7_go_2 (lp_n)))))))
set_option maxRecDepth 20000 in
theorem ggX7_go_X7_ticks : GoodIn wsX7_go wsX7_ticks := goodIn_pp pxX7_go pxX7_go_in _ [(0, 19), (0, 7), (0, 20), (0, 21), (0, 1), (0, 22), (0, 23), (1, 0), (0, 5), (1, 1), (1, 2), (1, 3), (1, 4), (1, 5), (1, 6), (1, 7), (1, 8), (1, 9), (1, 10), (1, 11), (1, 12), (1, 13), (1, 14), (1, 15), (1, 16), (1, 17), (1, 18), (1, 19), (1, 20), (1, 21), (1, 22), (1, 23), (2, 0), (2, 1), (2, 2), (2, 3), (2, 4), (2, 5), (2, 6), (2, 7), (2, 8), (2, 9), (2, 10), (2, 11), (2, 12), (2, 13), (2, 14), (2, 15), (2, 16), (2, 17), (2, 18), (2, 19), (2, 20), (2, 21), (2, 22), (2, 23), (3, 0), (3, 1), (3, 2), (3, 3), (3, 4), (3, 5), (3, 6), (3, 7), (3, 8), (3, 9), (3, 10), (3, 11), (3, 12), (3, 13), (3, 14), (3, 15), (3, 16), (3, 17), (3, 18), (3, 19), (3, 20), (3, 21), (3, 22), (3, 23), (4, 0), (4, 1), (4, 2), (4, 3), (4, 4), (4, 5), (4, 6), (4, 7), (4, 8), (4, 9), (4, 10), (4, 11), (4, 12), (4, 13), (4, 14), (4, 15), (4, 16), (4, 17), (4, 18), (4, 19), (4, 20), (4, 21), (4, 22), (4, 23), (5, 0), (6, 0), (6, 1), (6, 2), (6, 3), (6, 4), (6, 5), (6, 6), (6, 7), (6, 8), (6, 9), (6, 10), (6, 11), (6, 12), (6, 13), (6, 14), (6, 15), (6, 16), (6, 17), (6, 18), (6, 19), (6, 20)] rfl (by decide +kernel)
set_option maxRecDepth 20000 in
theorem gX7_go_X7_ticks : GoodIn wsX7_go (wsV RX7 226 RX7 yX7_ticks wsX7_ticks) := goodIn_app (goodIn_of _ (by decide +kernel)) ggX7_go_X7_ticks
theorem dX7_go_0 : decode cX7_go 0 = .ok (.aload_n 0, 1) := by decide +kernel
theorem dX7_go_1 : decode cX7_go 1 = .ok (.iconst 0, 1) := by decide +kernel
theorem dX7_go_2 : decode cX7_go 2 = .ok (.putfield 49, 3) := by decide +kernel
theorem dX7_go_5 : decode cX7_go 5 = .ok (.aload_n 0, 1) := by decide +kernel
theorem dX7_go_6 : decode cX7_go 6 = .ok (.invokevirtual 136, 3) := by decide +kernel
theorem dX7_go_9 : decode cX7_go 9 = .ok (.ifCond .ne 9, 3) := by decide +kernel
theorem dX7_go_12 : decode cX7_go 12 = .ok (.aload_n 0, 1) := by decide +kernel
theorem dX7_go_13 : decode cX7_go 13 = .ok (.iconst 0, 1) := by decide +kernel
theorem dX7_go_14 : decode cX7_go 14 = .ok (.invokevirtual 223, 3) := by decide +kernel
theorem dX7_go_17 : decode cX7_go 17 = .ok (.ireturn, 1) := by decide +kernel
theorem dX7_go_18 : decode cX7_go 18 = .ok (.iload_n 1, 1) := by decide +kernel
theorem dX7_go_19 : decode cX7_go 19 = .ok (.iconst 1, 1) := by decide +kernel
theorem dX7_go_20 : decode cX7_go 20 = .ok (.bipush 60, 2) := by decide +kernel
theorem dX7_go_22 : decode cX7_go 22 = .ok (.invokestatic 60, 3) := by decide +kernel
theorem dX7_go_25 : decode cX7_go 25 = .ok (.ifCond .ne 9, 3) := by decide +kernel
theorem dX7_go_28 : decode cX7_go 28 = .ok (.aload_n 0, 1) := by decide +kernel
theorem dX7_go_29 : decode cX7_go 29 = .ok (.iconst 1, 1) := by decide +kernel
theorem dX7_go_30 : decode cX7_go 30 = .ok (.invokevirtual 223, 3) := by decide +kernel
theorem dX7_go_33 : decode cX7_go 33 = .ok (.ireturn, 1) := by decide +kernel
theorem dX7_go_34 : decode cX7_go 34 = .ok (.iconst 0, 1) := by decide +kernel
theorem dX7_go_35 : decode cX7_go 35 = .ok (.istore_n 2, 1) := by decide +kernel
theorem dX7_go_36 : decode cX7_go 36 = .ok (.iload_n 2, 1) := by decide +kernel
theorem dX7_go_37 : decode cX7_go 37 = .ok (.iload_n 1, 1) := by decide +kernel
theorem dX7_go_38 : decode cX7_go 38 = .ok (.if_icmp .ge 13, 3) := by decide +kernel
theorem dX7_go_41 : decode cX7_go 41 = .ok (.aload_n 0, 1) := by decide +kernel
theorem dX7_go_42 : decode cX7_go 42 = .ok (.invokevirtual 226, 3) := by decide +kernel
theorem dX7_go_45 : decode cX7_go 45 = .ok (.iinc 2 1, 3) := by decide +kernel
theorem dX7_go_48 : decode cX7_go 48 = .ok (.goto (-12), 3) := by decide +kernel
theorem dX7_go_51 : decode cX7_go 51 = .ok (.aload_n 0, 1) := by decide +kernel
theorem dX7_go_52 : decode cX7_go 52 = .ok (.getfield 22, 3) := by decide +kernel
theorem dX7_go_55 : decode cX7_go 55 = .ok (.sipush 1764, 3) := by decide +kernel
theorem dX7_go_58 : decode cX7_go 58 = .ok (.iaload, 1) := by decide +kernel
theorem dX7_go_59 : decode cX7_go 59 = .ok (.ireturn, 1) := by decide +kernel
theorem qxX7_jam_0 : ∀ w ∈ ([.fieldLink RX7 49 "HopCreditsModel" "thrown" "I", .fieldLink RX7 22 "HopCreditsModel" "now" "[I", .methodLink RX7 130 yX7_isHop, .instanceMethod yX7_isHop, .selects RX7 yX7_isHop yX7_isHop, .initialized RX7, .code yX7_isHop cX7_isHop 2 (some .boolean), .fieldLink RX7 124 "HopCreditsModel" "hops" "I", .methodLink RX7 60 yX7_in, .static yX7_in, .code yX7_in cX7_in 3 (some .boolean), .methodLink RX7 223 yX7_refuses, .instanceMethod yX7_refuses, .selects RX7 yX7_refuses yX7_refuses, .code yX7_refuses cX7_refuses 2 (some .int), .fieldLink RX7 25 "HopCreditsModel" "refused" "[I"] ++ wsX70), w ∈ wsX7_jam := fun w h => List.mem_cons_of_mem _ h
theorem qxX7_jam_1 : ∀ w ∈ [.fieldLink RX7 49 "HopCreditsModel" "thrown" "I", .fieldLink RX7 22 "HopCreditsModel" "now" "[I", .methodLink RX7 130 yX7_isHop, .instanceMethod yX7_isHop, .selects RX7 yX7_isHop yX7_isHop, .initialized RX7, .code yX7_isHop cX7_isHop 2 (some .boolean), .fieldLink RX7 124 "HopCreditsModel" "hops" "I", .methodLink RX7 60 yX7_in, .static yX7_in, .code yX7_in cX7_in 3 (some .boolean), .methodLink RX7 223 yX7_refuses, .instanceMethod yX7_refuses, .selects RX7 yX7_refuses yX7_refuses, .code yX7_refuses cX7_refuses 2 (some .int), .fieldLink RX7 25 "HopCreditsModel" "refused" "[I"], w ∈ wsX7_jam := in_l qxX7_jam_0
theorem qxX7_jam_2 : ∀ w ∈ wsX70, w ∈ wsX7_jam := in_r qxX7_jam_0
def pxX7_jam : List (List Cond) := [[.fieldLink RX7 49 "HopCreditsModel" "thrown" "I", .fieldLink RX7 22 "HopCreditsModel" "now" "[I", .methodLink RX7 130 yX7_isHop, .instanceMethod yX7_isHop, .selects RX7 yX7_isHop yX7_isHop, .initialized RX7, .code yX7_isHop cX7_isHop 2 (some .boolean), .fieldLink RX7 124 "HopCreditsModel" "hops" "I", .methodLink RX7 60 yX7_in, .static yX7_in, .code yX7_in cX7_in 3 (some .boolean), .methodLink RX7 223 yX7_refuses, .instanceMethod yX7_refuses, .selects RX7 yX7_refuses yX7_refuses, .code yX7_refuses cX7_refuses 2 (some .int), .fieldLink RX7 25 "HopCreditsModel" "refused" "[I"], wsX70]
theorem pxX7_jam_in : ∀ q ∈ pxX7_jam, ∀ w ∈ q, w ∈ wsX7_jam := lp_c qxX7_jam_1 (lp_c qxX7_jam_2 (lp_n))
set_option maxRecDepth 20000 in
theorem ggX7_jam_X7_isHop : GoodIn wsX7_jam wsX7_isHop := goodIn_pp pxX7_jam pxX7_jam_in _ [(0, 6), (0, 7), (0, 8), (0, 9), (0, 5), (0, 10), (1, 0), (1, 1), (1, 2), (1, 3), (1, 4), (1, 5), (1, 6), (1, 7), (1, 8), (1, 9), (1, 10), (1, 11), (1, 12), (1, 13), (1, 14), (1, 15), (1, 16), (1, 17), (1, 18), (1, 19), (1, 20)] rfl (by decide +kernel)
set_option maxRecDepth 20000 in
theorem gX7_jam_X7_isHop : GoodIn wsX7_jam (wsV RX7 130 RX7 yX7_isHop wsX7_isHop) := goodIn_app (goodIn_of _ (by decide +kernel)) ggX7_jam_X7_isHop
set_option maxRecDepth 20000 in
theorem ggX7_jam_X7_refuses : GoodIn wsX7_jam wsX7_refuses := goodIn_r _ [15, 16, 17, 18, 19, 20, 21, 22, 23, 24, 25, 26, 27, 28, 29, 30, 31, 32, 33, 34, 35, 36, 37] (by decide +kernel) (by decide +kernel)
set_option maxRecDepth 20000 in
theorem gX7_jam_X7_refuses : GoodIn wsX7_jam (wsV RX7 223 RX7 yX7_refuses wsX7_refuses) := goodIn_app (goodIn_of _ (by decide +kernel)) ggX7_jam_X7_refuses
set_option maxRecDepth 20000 in
theorem ggX7_jam_X7_in : GoodIn wsX7_jam wsX7_in := goodIn_r _ [11] (by decide +kernel) (by decide +kernel)
set_option maxRecDepth 20000 in
theorem gX7_jam_X7_in : GoodIn wsX7_jam (va_wsS RX7 60 yX7_in wsX7_in) := goodIn_app (goodIn_of _ (by decide +kernel)) ggX7_jam_X7_in
theorem dX7_jam_0 : decode cX7_jam 0 = .ok (.aload_n 0, 1) := by decide +kernel
theorem dX7_jam_1 : decode cX7_jam 1 = .ok (.iconst 0, 1) := by decide +kernel
theorem dX7_jam_2 : decode cX7_jam 2 = .ok (.putfield 49, 3) := by decide +kernel
theorem dX7_jam_5 : decode cX7_jam 5 = .ok (.aload_n 0, 1) := by decide +kernel
theorem dX7_jam_6 : decode cX7_jam 6 = .ok (.iload_n 1, 1) := by decide +kernel
theorem dX7_jam_7 : decode cX7_jam 7 = .ok (.invokevirtual 130, 3) := by decide +kernel
theorem dX7_jam_10 : decode cX7_jam 10 = .ok (.ifCond .ne 9, 3) := by decide +kernel
theorem dX7_jam_13 : decode cX7_jam 13 = .ok (.aload_n 0, 1) := by decide +kernel
theorem dX7_jam_14 : decode cX7_jam 14 = .ok (.iconst 0, 1) := by decide +kernel
theorem dX7_jam_15 : decode cX7_jam 15 = .ok (.invokevirtual 223, 3) := by decide +kernel
theorem dX7_jam_18 : decode cX7_jam 18 = .ok (.ireturn, 1) := by decide +kernel
theorem dX7_jam_19 : decode cX7_jam 19 = .ok (.aload_n 0, 1) := by decide +kernel
theorem dX7_jam_20 : decode cX7_jam 20 = .ok (.getfield 22, 3) := by decide +kernel
theorem dX7_jam_23 : decode cX7_jam 23 = .ok (.bipush 63, 2) := by decide +kernel
theorem dX7_jam_25 : decode cX7_jam 25 = .ok (.iload_n 1, 1) := by decide +kernel
theorem dX7_jam_26 : decode cX7_jam 26 = .ok (.iadd, 1) := by decide +kernel
theorem dX7_jam_27 : decode cX7_jam 27 = .ok (.iaload, 1) := by decide +kernel
theorem dX7_jam_28 : decode cX7_jam 28 = .ok (.istore_n 3, 1) := by decide +kernel
theorem dX7_jam_29 : decode cX7_jam 29 = .ok (.iload_n 2, 1) := by decide +kernel
theorem dX7_jam_30 : decode cX7_jam 30 = .ok (.iconst 0, 1) := by decide +kernel
theorem dX7_jam_31 : decode cX7_jam 31 = .ok (.bipush 9, 2) := by decide +kernel
theorem dX7_jam_33 : decode cX7_jam 33 = .ok (.invokestatic 60, 3) := by decide +kernel
theorem dX7_jam_36 : decode cX7_jam 36 = .ok (.ifCond .ne 9, 3) := by decide +kernel
theorem dX7_jam_39 : decode cX7_jam 39 = .ok (.aload_n 0, 1) := by decide +kernel
theorem dX7_jam_40 : decode cX7_jam 40 = .ok (.iconst 1, 1) := by decide +kernel
theorem dX7_jam_41 : decode cX7_jam 41 = .ok (.invokevirtual 223, 3) := by decide +kernel
theorem dX7_jam_44 : decode cX7_jam 44 = .ok (.ireturn, 1) := by decide +kernel
theorem dX7_jam_45 : decode cX7_jam 45 = .ok (.iload_n 2, 1) := by decide +kernel
theorem dX7_jam_46 : decode cX7_jam 46 = .ok (.iload_n 3, 1) := by decide +kernel
