set_option maxRecDepth 20000 in
theorem ggX7_items_X7_number : GoodIn wsX7_items wsX7_number := goodIn_r _ [36, 1, 2, 11, 12, 13, 6, 14, 15, 16, 17, 18, 19, 20, 37, 38, 39, 40, 41, 42, 43, 44, 45, 46, 47, 48, 49, 50, 51, 52, 53, 54, 55, 56, 57, 58, 59, 60, 61, 62, 63, 64, 65, 66, 67] (by decide +kernel) (by decide +kernel)
set_option maxRecDepth 20000 in
theorem gX7_items_X7_number : GoodIn wsX7_items (wsV RX7 105 RX7 yX7_number wsX7_number) := goodIn_app (goodIn_of _ (by decide +kernel)) ggX7_items_X7_number
theorem dX7_items_0 : decode cX7_items 0 = .ok (.aload_n 0, 1) := by decide +kernel
theorem dX7_items_1 : decode cX7_items 1 = .ok (.iload_n 1, 1) := by decide +kernel
theorem dX7_items_2 : decode cX7_items 2 = .ok (.aload_n 2, 1) := by decide +kernel
theorem dX7_items_3 : decode cX7_items 3 = .ok (.iload_n 3, 1) := by decide +kernel
theorem dX7_items_4 : decode cX7_items 4 = .ok (.invokevirtual 88, 3) := by decide +kernel
theorem dX7_items_7 : decode cX7_items 7 = .ok (.iconst 0, 1) := by decide +kernel
theorem dX7_items_8 : decode cX7_items 8 = .ok (.istore 4, 2) := by decide +kernel
theorem dX7_items_10 : decode cX7_items 10 = .ok (.iload_n 1, 1) := by decide +kernel
theorem dX7_items_11 : decode cX7_items 11 = .ok (.aload_n 0, 1) := by decide +kernel
theorem dX7_items_12 : decode cX7_items 12 = .ok (.invokevirtual 74, 3) := by decide +kernel
theorem dX7_items_15 : decode cX7_items 15 = .ok (.invokestatic 92, 3) := by decide +kernel
theorem dX7_items_18 : decode cX7_items 18 = .ok (.istore 5, 2) := by decide +kernel
theorem dX7_items_20 : decode cX7_items 20 = .ok (.aload_n 0, 1) := by decide +kernel
theorem dX7_items_21 : decode cX7_items 21 = .ok (.getfield 71, 3) := by decide +kernel
theorem dX7_items_24 : decode cX7_items 24 = .ok (.iconst (-1), 1) := by decide +kernel
theorem dX7_items_25 : decode cX7_items 25 = .ok (.if_icmp .ne 73, 3) := by decide +kernel
theorem dX7_items_28 : decode cX7_items 28 = .ok (.iload 5, 2) := by decide +kernel
theorem dX7_items_30 : decode cX7_items 30 = .ok (.iconst (-1), 1) := by decide +kernel
theorem dX7_items_31 : decode cX7_items 31 = .ok (.if_icmp .eq 67, 3) := by decide +kernel
theorem dX7_items_34 : decode cX7_items 34 = .ok (.iload 4, 2) := by decide +kernel
theorem dX7_items_36 : decode cX7_items 36 = .ok (.iload 5, 2) := by decide +kernel
theorem dX7_items_38 : decode cX7_items 38 = .ok (.invokestatic 95, 3) := by decide +kernel
theorem dX7_items_41 : decode cX7_items 41 = .ok (.ifCond .ne 57, 3) := by decide +kernel
theorem dX7_items_44 : decode cX7_items 44 = .ok (.iload 4, 2) := by decide +kernel
theorem dX7_items_46 : decode cX7_items 46 = .ok (.iconst 1, 1) := by decide +kernel
theorem dX7_items_47 : decode cX7_items 47 = .ok (.iload 5, 2) := by decide +kernel
theorem dX7_items_49 : decode cX7_items 49 = .ok (.ishl, 1) := by decide +kernel
theorem dX7_items_50 : decode cX7_items 50 = .ok (.ior, 1) := by decide +kernel
theorem dX7_items_51 : decode cX7_items 51 = .ok (.istore 4, 2) := by decide +kernel
theorem dX7_items_53 : decode cX7_items 53 = .ok (.aload_n 0, 1) := by decide +kernel
theorem dX7_items_54 : decode cX7_items 54 = .ok (.dup, 1) := by decide +kernel
theorem dX7_items_55 : decode cX7_items 55 = .ok (.getfield 64, 3) := by decide +kernel
theorem dX7_items_58 : decode cX7_items 58 = .ok (.iconst 1, 1) := by decide +kernel
theorem dX7_items_59 : decode cX7_items 59 = .ok (.iadd, 1) := by decide +kernel
theorem dX7_items_60 : decode cX7_items 60 = .ok (.putfield 64, 3) := by decide +kernel
theorem dX7_items_63 : decode cX7_items 63 = .ok (.aload_n 2, 1) := by decide +kernel
theorem dX7_items_64 : decode cX7_items 64 = .ok (.iload_n 3, 1) := by decide +kernel
theorem dX7_items_65 : decode cX7_items 65 = .ok (.iload 5, 2) := by decide +kernel
theorem dX7_items_67 : decode cX7_items 67 = .ok (.iadd, 1) := by decide +kernel
theorem dX7_items_68 : decode cX7_items 68 = .ok (.aload_n 0, 1) := by decide +kernel
theorem dX7_items_69 : decode cX7_items 69 = .ok (.iload_n 1, 1) := by decide +kernel
theorem dX7_items_70 : decode cX7_items 70 = .ok (.iload 5, 2) := by decide +kernel
theorem dX7_items_72 : decode cX7_items 72 = .ok (.invokestatic 99, 3) := by decide +kernel
theorem dX7_items_75 : decode cX7_items 75 = .ok (.iload_n 1, 1) := by decide +kernel
theorem dX7_items_76 : decode cX7_items 76 = .ok (.iload 5, 2) := by decide +kernel
theorem dX7_items_78 : decode cX7_items 78 = .ok (.invokestatic 102, 3) := by decide +kernel
theorem dX7_items_81 : decode cX7_items 81 = .ok (.invokevirtual 105, 3) := by decide +kernel
theorem dX7_items_84 : decode cX7_items 84 = .ok (.iastore, 1) := by decide +kernel
theorem dX7_items_85 : decode cX7_items 85 = .ok (.iload_n 1, 1) := by decide +kernel
theorem dX7_items_86 : decode cX7_items 86 = .ok (.aload_n 0, 1) := by decide +kernel
theorem dX7_items_87 : decode cX7_items 87 = .ok (.invokevirtual 74, 3) := by decide +kernel
theorem dX7_items_90 : decode cX7_items 90 = .ok (.invokestatic 92, 3) := by decide +kernel
theorem dX7_items_93 : decode cX7_items 93 = .ok (.istore 5, 2) := by decide +kernel
theorem dX7_items_95 : decode cX7_items 95 = .ok (.goto (-75), 3) := by decide +kernel
theorem dX7_items_98 : decode cX7_items 98 = .ok (.return_, 1) := by decide +kernel
set_option maxRecDepth 20000 in
theorem ggX7_clause_X7_ahead : GoodIn wsX7_clause wsX7_ahead := goodIn_r _ [11, 1, 12, 13, 14, 10, 15, 16, 17, 56, 57, 58, 59, 60, 61, 62, 63, 64, 65, 66, 67, 68, 69, 70, 71, 72, 73, 74, 75, 76] (by decide +kernel) (by decide +kernel)
set_option maxRecDepth 20000 in
theorem gX7_clause_X7_ahead : GoodIn wsX7_clause (wsV RX7 74 RX7 yX7_ahead wsX7_ahead) := goodIn_app (goodIn_of _ (by decide +kernel)) ggX7_clause_X7_ahead
set_option maxRecDepth 20000 in
theorem ggX7_clause_X7_items : GoodIn wsX7_clause wsX7_items := goodIn_r _ [21, 22, 1, 23, 24, 25, 10, 26, 27, 28, 29, 7, 8, 9, 11, 12, 13, 14, 15, 16, 17, 30, 31, 32, 33, 34, 35, 36, 37, 38, 39, 40, 41, 42, 43, 44, 45, 46, 47, 48, 49, 50, 51, 52, 53, 54, 55, 56, 57, 58, 59, 60, 61, 62, 63, 64, 65, 66, 67, 68, 69, 70, 71, 72, 73, 74, 75, 76] (by decide +kernel) (by decide +kernel)
set_option maxRecDepth 20000 in
theorem gX7_clause_X7_items : GoodIn wsX7_clause (wsV RX7 108 RX7 yX7_items wsX7_items) := goodIn_app (goodIn_of _ (by decide +kernel)) ggX7_clause_X7_items
set_option maxRecDepth 20000 in
theorem ggX7_clause_X7_bad : GoodIn wsX7_clause wsX7_bad := goodIn_r _ [52, 22, 1, 56, 57, 58, 59, 60, 61, 62, 63, 64, 65, 66, 67, 68, 69, 70, 71, 72, 73, 74, 75, 76] (by decide +kernel) (by decide +kernel)
set_option maxRecDepth 20000 in
theorem gX7_clause_X7_bad : GoodIn wsX7_clause (wsV RX7 81 RX7 yX7_bad wsX7_bad) := goodIn_app (goodIn_of _ (by decide +kernel)) ggX7_clause_X7_bad
theorem dX7_clause_0 : decode cX7_clause 0 = .ok (.aload_n 0, 1) := by decide +kernel
theorem dX7_clause_1 : decode cX7_clause 1 = .ok (.invokevirtual 74, 3) := by decide +kernel
theorem dX7_clause_4 : decode cX7_clause 4 = .ok (.istore_n 2, 1) := by decide +kernel
theorem dX7_clause_5 : decode cX7_clause 5 = .ok (.iload_n 2, 1) := by decide +kernel
theorem dX7_clause_6 : decode cX7_clause 6 = .ok (.bipush 110, 2) := by decide +kernel
theorem dX7_clause_8 : decode cX7_clause 8 = .ok (.if_icmp .ne 30, 3) := by decide +kernel
theorem dX7_clause_11 : decode cX7_clause 11 = .ok (.iload_n 1, 1) := by decide +kernel
theorem dX7_clause_12 : decode cX7_clause 12 = .ok (.ifCond .eq 26, 3) := by decide +kernel
theorem dX7_clause_15 : decode cX7_clause 15 = .ok (.aload_n 0, 1) := by decide +kernel
theorem dX7_clause_16 : decode cX7_clause 16 = .ok (.dup, 1) := by decide +kernel
theorem dX7_clause_17 : decode cX7_clause 17 = .ok (.getfield 64, 3) := by decide +kernel
theorem dX7_clause_20 : decode cX7_clause 20 = .ok (.iconst 1, 1) := by decide +kernel
theorem dX7_clause_21 : decode cX7_clause 21 = .ok (.iadd, 1) := by decide +kernel
theorem dX7_clause_22 : decode cX7_clause 22 = .ok (.putfield 64, 3) := by decide +kernel
theorem dX7_clause_25 : decode cX7_clause 25 = .ok (.aload_n 0, 1) := by decide +kernel
theorem dX7_clause_26 : decode cX7_clause 26 = .ok (.iconst 0, 1) := by decide +kernel
theorem dX7_clause_27 : decode cX7_clause 27 = .ok (.aload_n 0, 1) := by decide +kernel
theorem dX7_clause_28 : decode cX7_clause 28 = .ok (.getfield 13, 3) := by decide +kernel
theorem dX7_clause_31 : decode cX7_clause 31 = .ok (.iconst 0, 1) := by decide +kernel
theorem dX7_clause_32 : decode cX7_clause 32 = .ok (.invokevirtual 108, 3) := by decide +kernel
theorem dX7_clause_35 : decode cX7_clause 35 = .ok (.goto 111, 3) := by decide +kernel
theorem dX7_clause_38 : decode cX7_clause 38 = .ok (.iload_n 2, 1) := by decide +kernel
theorem dX7_clause_39 : decode cX7_clause 39 = .ok (.bipush 104, 2) := by decide +kernel
theorem dX7_clause_41 : decode cX7_clause 41 = .ok (.if_icmp .ne 49, 3) := by decide +kernel
theorem dX7_clause_44 : decode cX7_clause 44 = .ok (.aload_n 0, 1) := by decide +kernel
theorem dX7_clause_45 : decode cX7_clause 45 = .ok (.getfield 111, 3) := by decide +kernel
theorem dX7_clause_48 : decode cX7_clause 48 = .ok (.iconst 3, 1) := by decide +kernel
theorem dX7_clause_49 : decode cX7_clause 49 = .ok (.if_icmp .ge 41, 3) := by decide +kernel
theorem dX7_clause_52 : decode cX7_clause 52 = .ok (.aload_n 0, 1) := by decide +kernel
theorem dX7_clause_53 : decode cX7_clause 53 = .ok (.dup, 1) := by decide +kernel
theorem dX7_clause_54 : decode cX7_clause 54 = .ok (.getfield 64, 3) := by decide +kernel
theorem dX7_clause_57 : decode cX7_clause 57 = .ok (.iconst 1, 1) := by decide +kernel
theorem dX7_clause_58 : decode cX7_clause 58 = .ok (.iadd, 1) := by decide +kernel
theorem dX7_clause_59 : decode cX7_clause 59 = .ok (.putfield 64, 3) := by decide +kernel
theorem dX7_clause_62 : decode cX7_clause 62 = .ok (.aload_n 0, 1) := by decide +kernel
theorem dX7_clause_63 : decode cX7_clause 63 = .ok (.iconst 1, 1) := by decide +kernel
theorem dX7_clause_64 : decode cX7_clause 64 = .ok (.aload_n 0, 1) := by decide +kernel
theorem dX7_clause_65 : decode cX7_clause 65 = .ok (.getfield 16, 3) := by decide +kernel
theorem dX7_clause_68 : decode cX7_clause 68 = .ok (.iconst 3, 1) := by decide +kernel
theorem dX7_clause_69 : decode cX7_clause 69 = .ok (.aload_n 0, 1) := by decide +kernel
theorem dX7_clause_70 : decode cX7_clause 70 = .ok (.getfield 111, 3) := by decide +kernel
theorem dX7_clause_73 : decode cX7_clause 73 = .ok (.imul, 1) := by decide +kernel
theorem dX7_clause_74 : decode cX7_clause 74 = .ok (.invokevirtual 108, 3) := by decide +kernel
theorem dX7_clause_77 : decode cX7_clause 77 = .ok (.aload_n 0, 1) := by decide +kernel
theorem dX7_clause_78 : decode cX7_clause 78 = .ok (.dup, 1) := by decide +kernel
theorem dX7_clause_79 : decode cX7_clause 79 = .ok (.getfield 111, 3) := by decide +kernel
theorem dX7_clause_82 : decode cX7_clause 82 = .ok (.iconst 1, 1) := by decide +kernel
theorem dX7_clause_83 : decode cX7_clause 83 = .ok (.iadd, 1) := by decide +kernel
theorem dX7_clause_84 : decode cX7_clause 84 = .ok (.putfield 111, 3) := by decide +kernel
theorem dX7_clause_87 : decode cX7_clause 87 = .ok (.goto 59, 3) := by decide +kernel
theorem dX7_clause_90 : decode cX7_clause 90 = .ok (.iload_n 2, 1) := by decide +kernel
theorem dX7_clause_91 : decode cX7_clause 91 = .ok (.bipush 99, 2) := by decide +kernel
theorem dX7_clause_93 : decode cX7_clause 93 = .ok (.if_icmp .ne 49, 3) := by decide +kernel
theorem dX7_clause_96 : decode cX7_clause 96 = .ok (.aload_n 0, 1) := by decide +kernel
theorem dX7_clause_97 : decode cX7_clause 97 = .ok (.getfield 114, 3) := by decide +kernel
theorem dX7_clause_100 : decode cX7_clause 100 = .ok (.iconst 3, 1) := by decide +kernel
theorem dX7_clause_101 : decode cX7_clause 101 = .ok (.if_icmp .ge 41, 3) := by decide +kernel
theorem dX7_clause_104 : decode cX7_clause 104 = .ok (.aload_n 0, 1) := by decide +kernel
theorem dX7_clause_105 : decode cX7_clause 105 = .ok (.dup, 1) := by decide +kernel
theorem dX7_clause_106 : decode cX7_clause 106 = .ok (.getfield 64, 3) := by decide +kernel
theorem dX7_clause_109 : decode cX7_clause 109 = .ok (.iconst 1, 1) := by decide +kernel
theorem dX7_clause_110 : decode cX7_clause 110 = .ok (.iadd, 1) := by decide +kernel
theorem dX7_clause_111 : decode cX7_clause 111 = .ok (.putfield 64, 3) := by decide +kernel
theorem dX7_clause_114 : decode cX7_clause 114 = .ok (.aload_n 0, 1) := by decide +kernel
theorem dX7_clause_115 : decode cX7_clause 115 = .ok (.iconst 2, 1) := by decide +kernel
theorem dX7_clause_116 : decode cX7_clause 116 = .ok (.aload_n 0, 1) := by decide +kernel
theorem dX7_clause_117 : decode cX7_clause 117 = .ok (.getfield 19, 3) := by decide +kernel
theorem dX7_clause_120 : decode cX7_clause 120 = .ok (.iconst 3, 1) := by decide +kernel
theorem dX7_clause_121 : decode cX7_clause 121 = .ok (.aload_n 0, 1) := by decide +kernel
theorem dX7_clause_122 : decode cX7_clause 122 = .ok (.getfield 114, 3) := by decide +kernel
theorem dX7_clause_125 : decode cX7_clause 125 = .ok (.imul, 1) := by decide +kernel
theorem dX7_clause_126 : decode cX7_clause 126 = .ok (.invokevirtual 108, 3) := by decide +kernel
theorem dX7_clause_129 : decode cX7_clause 129 = .ok (.aload_n 0, 1) := by decide +kernel
theorem dX7_clause_130 : decode cX7_clause 130 = .ok (.dup, 1) := by decide +kernel
theorem dX7_clause_131 : decode cX7_clause 131 = .ok (.getfield 114, 3) := by decide +kernel
theorem dX7_clause_134 : decode cX7_clause 134 = .ok (.iconst 1, 1) := by decide +kernel
theorem dX7_clause_135 : decode cX7_clause 135 = .ok (.iadd, 1) := by decide +kernel
theorem dX7_clause_136 : decode cX7_clause 136 = .ok (.putfield 114, 3) := by decide +kernel
theorem dX7_clause_139 : decode cX7_clause 139 = .ok (.goto 7, 3) := by decide +kernel
theorem dX7_clause_142 : decode cX7_clause 142 = .ok (.aload_n 0, 1) := by decide +kernel
theorem dX7_clause_143 : decode cX7_clause 143 = .ok (.invokevirtual 81, 3) := by decide +kernel
theorem dX7_clause_146 : decode cX7_clause 146 = .ok (.return_, 1) := by decide +kernel
set_option maxRecDepth 20000 in
theorem ggX7_readNet_X7_laysUsual : GoodIn wsX7_readNet wsX7_laysUsual := goodIn_r _ [10, 11, 12, 9, 13] (by decide +kernel) (by decide +kernel)
set_option maxRecDepth 20000 in
theorem gX7_readNet_X7_laysUsual : GoodIn wsX7_readNet (wsV RX7 88 RX7 yX7_laysUsual wsX7_laysUsual) := goodIn_app (goodIn_of _ (by decide +kernel)) ggX7_readNet_X7_laysUsual
set_option maxRecDepth 20000 in
theorem ggX7_readNet_X7_clause : GoodIn wsX7_readNet wsX7_clause := goodIn_r _ [17, 1, 5, 3, 18, 4, 19, 20, 21, 22, 9, 23, 24, 25, 26, 27, 28, 29, 30, 31, 32, 33, 2, 6, 7, 8, 10, 11, 12, 13, 34, 35, 36, 37, 38, 39, 40, 41, 42, 43, 44, 45, 46, 47, 48, 49, 50, 51, 52, 53, 54, 55, 56, 57, 58, 59, 60, 61, 62, 63, 64, 65, 66, 67, 68, 69, 70, 71, 72, 73, 74, 75, 76, 77, 78, 79, 80] (by decide +kernel) (by decide +kernel)
set_option maxRecDepth 20000 in
theorem gX7_readNet_X7_clause : GoodIn wsX7_readNet (wsV RX7 117 RX7 yX7_clause wsX7_clause) := goodIn_app (goodIn_of _ (by decide +kernel)) ggX7_readNet_X7_clause
set_option maxRecDepth 20000 in
theorem ggX7_readNet_X7_ahead : GoodIn wsX7_readNet wsX7_ahead := goodIn_r _ [23, 1, 24, 25, 26, 9, 27, 28, 29, 60, 61, 62, 63, 64, 65, 66, 67, 68, 69, 70, 71, 72, 73, 74, 75, 76, 77, 78, 79, 80] (by decide +kernel) (by decide +kernel)
set_option maxRecDepth 20000 in
theorem gX7_readNet_X7_ahead : GoodIn wsX7_readNet (wsV RX7 74 RX7 yX7_ahead wsX7_ahead) := goodIn_app (goodIn_of _ (by decide +kernel)) ggX7_readNet_X7_ahead
set_option maxRecDepth 20000 in
theorem ggX7_readNet_X7_bad : GoodIn wsX7_readNet wsX7_bad := goodIn_r _ [56, 2, 1, 60, 61, 62, 63, 64, 65, 66, 67, 68, 69, 70, 71, 72, 73, 74, 75, 76, 77, 78, 79, 80] (by decide +kernel) (by decide +kernel)
set_option maxRecDepth 20000 in
theorem gX7_readNet_X7_bad : GoodIn wsX7_readNet (wsV RX7 81 RX7 yX7_bad wsX7_bad) := goodIn_app (goodIn_of _ (by decide +kernel)) ggX7_readNet_X7_bad
theorem dX7_readNet_0 : decode cX7_readNet 0 = .ok (.aload_n 0, 1) := by decide +kernel
theorem dX7_readNet_1 : decode cX7_readNet 1 = .ok (.iconst 0, 1) := by decide +kernel
theorem dX7_readNet_2 : decode cX7_readNet 2 = .ok (.putfield 64, 3) := by decide +kernel
theorem dX7_readNet_5 : decode cX7_readNet 5 = .ok (.aload_n 0, 1) := by decide +kernel
theorem dX7_readNet_6 : decode cX7_readNet 6 = .ok (.iconst (-1), 1) := by decide +kernel
theorem dX7_readNet_7 : decode cX7_readNet 7 = .ok (.putfield 71, 3) := by decide +kernel
theorem dX7_readNet_10 : decode cX7_readNet 10 = .ok (.aload_n 0, 1) := by decide +kernel
theorem dX7_readNet_11 : decode cX7_readNet 11 = .ok (.iconst 0, 1) := by decide +kernel
theorem dX7_readNet_12 : decode cX7_readNet 12 = .ok (.putfield 111, 3) := by decide +kernel
theorem dX7_readNet_15 : decode cX7_readNet 15 = .ok (.aload_n 0, 1) := by decide +kernel
theorem dX7_readNet_16 : decode cX7_readNet 16 = .ok (.iconst 0, 1) := by decide +kernel
theorem dX7_readNet_17 : decode cX7_readNet 17 = .ok (.putfield 114, 3) := by decide +kernel
theorem dX7_readNet_20 : decode cX7_readNet 20 = .ok (.aload_n 0, 1) := by decide +kernel
theorem dX7_readNet_21 : decode cX7_readNet 21 = .ok (.iconst 0, 1) := by decide +kernel
theorem dX7_readNet_22 : decode cX7_readNet 22 = .ok (.aload_n 0, 1) := by decide +kernel
theorem dX7_readNet_23 : decode cX7_readNet 23 = .ok (.getfield 13, 3) := by decide +kernel
theorem dX7_readNet_26 : decode cX7_readNet 26 = .ok (.iconst 0, 1) := by decide +kernel
theorem dX7_readNet_27 : decode cX7_readNet 27 = .ok (.invokevirtual 88, 3) := by decide +kernel
theorem dX7_readNet_30 : decode cX7_readNet 30 = .ok (.iconst 1, 1) := by decide +kernel
theorem dX7_readNet_31 : decode cX7_readNet 31 = .ok (.istore_n 1, 1) := by decide +kernel
theorem dX7_readNet_32 : decode cX7_readNet 32 = .ok (.iconst 1, 1) := by decide +kernel
theorem dX7_readNet_33 : decode cX7_readNet 33 = .ok (.istore_n 2, 1) := by decide +kernel
theorem dX7_readNet_34 : decode cX7_readNet 34 = .ok (.iload_n 2, 1) := by decide +kernel
theorem dX7_readNet_35 : decode cX7_readNet 35 = .ok (.ifCond .eq 54, 3) := by decide +kernel
theorem dX7_readNet_38 : decode cX7_readNet 38 = .ok (.aload_n 0, 1) := by decide +kernel
theorem dX7_readNet_39 : decode cX7_readNet 39 = .ok (.iload_n 1, 1) := by decide +kernel
theorem dX7_readNet_40 : decode cX7_readNet 40 = .ok (.invokevirtual 117, 3) := by decide +kernel
theorem dX7_readNet_43 : decode cX7_readNet 43 = .ok (.iconst 0, 1) := by decide +kernel
theorem dX7_readNet_44 : decode cX7_readNet 44 = .ok (.istore_n 1, 1) := by decide +kernel
theorem dX7_readNet_45 : decode cX7_readNet 45 = .ok (.aload_n 0, 1) := by decide +kernel
theorem dX7_readNet_46 : decode cX7_readNet 46 = .ok (.getfield 71, 3) := by decide +kernel
theorem dX7_readNet_49 : decode cX7_readNet 49 = .ok (.iconst (-1), 1) := by decide +kernel
theorem dX7_readNet_50 : decode cX7_readNet 50 = .ok (.if_icmp .ne 16, 3) := by decide +kernel
theorem dX7_readNet_53 : decode cX7_readNet 53 = .ok (.aload_n 0, 1) := by decide +kernel
theorem dX7_readNet_54 : decode cX7_readNet 54 = .ok (.invokevirtual 74, 3) := by decide +kernel
theorem dX7_readNet_57 : decode cX7_readNet 57 = .ok (.bipush 59, 2) := by decide +kernel
theorem dX7_readNet_59 : decode cX7_readNet 59 = .ok (.if_icmp .ne 7, 3) := by decide +kernel
theorem dX7_readNet_62 : decode cX7_readNet 62 = .ok (.iconst 1, 1) := by decide +kernel
theorem dX7_readNet_63 : decode cX7_readNet 63 = .ok (.goto 4, 3) := by decide +kernel
theorem dX7_readNet_66 : decode cX7_readNet 66 = .ok (.iconst 0, 1) := by decide +kernel
theorem dX7_readNet_67 : decode cX7_readNet 67 = .ok (.istore_n 2, 1) := by decide +kernel
theorem dX7_readNet_68 : decode cX7_readNet 68 = .ok (.aload_n 0, 1) := by decide +kernel
theorem dX7_readNet_69 : decode cX7_readNet 69 = .ok (.dup, 1) := by decide +kernel
theorem dX7_readNet_70 : decode cX7_readNet 70 = .ok (.getfield 64, 3) := by decide +kernel
theorem dX7_readNet_73 : decode cX7_readNet 73 = .ok (.iload_n 2, 1) := by decide +kernel
theorem dX7_readNet_74 : decode cX7_readNet 74 = .ok (.ifCond .eq 7, 3) := by decide +kernel
theorem dX7_readNet_77 : decode cX7_readNet 77 = .ok (.iconst 1, 1) := by decide +kernel
theorem dX7_readNet_78 : decode cX7_readNet 78 = .ok (.goto 4, 3) := by decide +kernel
theorem dX7_readNet_81 : decode cX7_readNet 81 = .ok (.iconst 0, 1) := by decide +kernel
theorem dX7_readNet_82 : decode cX7_readNet 82 = .ok (.iadd, 1) := by decide +kernel
theorem dX7_readNet_83 : decode cX7_readNet 83 = .ok (.putfield 64, 3) := by decide +kernel
theorem dX7_readNet_86 : decode cX7_readNet 86 = .ok (.goto (-52), 3) := by decide +kernel
theorem dX7_readNet_89 : decode cX7_readNet 89 = .ok (.aload_n 0, 1) := by decide +kernel
theorem dX7_readNet_90 : decode cX7_readNet 90 = .ok (.getfield 71, 3) := by decide +kernel
theorem dX7_readNet_93 : decode cX7_readNet 93 = .ok (.iconst (-1), 1) := by decide +kernel
theorem dX7_readNet_94 : decode cX7_readNet 94 = .ok (.if_icmp .ne 15, 3) := by decide +kernel
theorem dX7_readNet_97 : decode cX7_readNet 97 = .ok (.aload_n 0, 1) := by decide +kernel
theorem dX7_readNet_98 : decode cX7_readNet 98 = .ok (.invokevirtual 74, 3) := by decide +kernel
theorem dX7_readNet_101 : decode cX7_readNet 101 = .ok (.iconst (-1), 1) := by decide +kernel
theorem dX7_readNet_102 : decode cX7_readNet 102 = .ok (.if_icmp .eq 7, 3) := by decide +kernel
theorem dX7_readNet_105 : decode cX7_readNet 105 = .ok (.aload_n 0, 1) := by decide +kernel
theorem dX7_readNet_106 : decode cX7_readNet 106 = .ok (.invokevirtual 81, 3) := by decide +kernel
theorem dX7_readNet_109 : decode cX7_readNet 109 = .ok (.aload_n 0, 1) := by decide +kernel
theorem dX7_readNet_110 : decode cX7_readNet 110 = .ok (.getfield 71, 3) := by decide +kernel
theorem dX7_readNet_113 : decode cX7_readNet 113 = .ok (.ireturn, 1) := by decide +kernel
set_option maxRecDepth 20000 in
theorem ggX7_fault_X7_readNet : GoodIn wsX7_fault wsX7_readNet := goodIn_r _ [6, 7, 8, 9, 10, 11, 12, 13, 14, 5, 15, 16, 17, 18, 19, 20, 21, 22, 23, 24, 25, 26, 27, 28, 29, 30, 31, 32, 33, 34, 35, 36, 37, 38, 39, 40, 41, 42, 43, 44, 45, 46, 47, 48, 49, 50, 51, 52, 53, 54, 55, 56, 57, 58, 59, 60, 61, 62, 63, 64, 65, 66, 67, 68, 69, 70, 71, 72, 73, 74, 75, 76, 77, 78, 79, 80, 81, 82, 83, 84, 85] (by decide +kernel) (by decide +kernel)
set_option maxRecDepth 20000 in
theorem gX7_fault_X7_readNet : GoodIn wsX7_fault (wsV RX7 121 RX7 yX7_readNet wsX7_readNet) := goodIn_app (goodIn_of _ (by decide +kernel)) ggX7_fault_X7_readNet
theorem dX7_fault_0 : decode cX7_fault 0 = .ok (.aload_n 0, 1) := by decide +kernel
theorem dX7_fault_1 : decode cX7_fault 1 = .ok (.iconst 0, 1) := by decide +kernel
theorem dX7_fault_2 : decode cX7_fault 2 = .ok (.putfield 49, 3) := by decide +kernel
theorem dX7_fault_5 : decode cX7_fault 5 = .ok (.aload_n 0, 1) := by decide +kernel
theorem dX7_fault_6 : decode cX7_fault 6 = .ok (.invokevirtual 121, 3) := by decide +kernel
theorem dX7_fault_9 : decode cX7_fault 9 = .ok (.ireturn, 1) := by decide +kernel
theorem dX7_isNet_0 : decode cX7_isNet 0 = .ok (.aload_n 0, 1) := by decide +kernel
theorem dX7_isNet_1 : decode cX7_isNet 1 = .ok (.getfield 124, 3) := by decide +kernel
theorem dX7_isNet_4 : decode cX7_isNet 4 = .ok (.ifCond .le 7, 3) := by decide +kernel
theorem dX7_isNet_7 : decode cX7_isNet 7 = .ok (.iconst 1, 1) := by decide +kernel
theorem dX7_isNet_8 : decode cX7_isNet 8 = .ok (.goto 4, 3) := by decide +kernel
theorem dX7_isNet_11 : decode cX7_isNet 11 = .ok (.iconst 0, 1) := by decide +kernel
theorem dX7_isNet_12 : decode cX7_isNet 12 = .ok (.ireturn, 1) := by decide +kernel
set_option maxRecDepth 20000 in
theorem ggX7_isHop_X7_in : GoodIn wsX7_isHop wsX7_in := goodIn_r _ [5] (by decide +kernel) (by decide +kernel)
set_option maxRecDepth 20000 in
theorem gX7_isHop_X7_in : GoodIn wsX7_isHop (va_wsS RX7 60 yX7_in wsX7_in) := goodIn_app (goodIn_of _ (by decide +kernel)) ggX7_isHop_X7_in
theorem dX7_isHop_0 : decode cX7_isHop 0 = .ok (.iload_n 1, 1) := by decide +kernel
theorem dX7_isHop_1 : decode cX7_isHop 1 = .ok (.iconst 0, 1) := by decide +kernel
theorem dX7_isHop_2 : decode cX7_isHop 2 = .ok (.aload_n 0, 1) := by decide +kernel
theorem dX7_isHop_3 : decode cX7_isHop 3 = .ok (.getfield 124, 3) := by decide +kernel
theorem dX7_isHop_6 : decode cX7_isHop 6 = .ok (.iconst 1, 1) := by decide +kernel
theorem dX7_isHop_7 : decode cX7_isHop 7 = .ok (.isub, 1) := by decide +kernel
theorem dX7_isHop_8 : decode cX7_isHop 8 = .ok (.invokestatic 60, 3) := by decide +kernel
theorem dX7_isHop_11 : decode cX7_isHop 11 = .ok (.ireturn, 1) := by decide +kernel
set_option maxRecDepth 20000 in
theorem ggX7_isCircuit_X7_in : GoodIn wsX7_isCircuit wsX7_in := goodIn_r _ [5] (by decide +kernel) (by decide +kernel)
set_option maxRecDepth 20000 in
theorem gX7_isCircuit_X7_in : GoodIn wsX7_isCircuit (va_wsS RX7 60 yX7_in wsX7_in) := goodIn_app (goodIn_of _ (by decide +kernel)) ggX7_isCircuit_X7_in
theorem dX7_isCircuit_0 : decode cX7_isCircuit 0 = .ok (.iload_n 1, 1) := by decide +kernel
theorem dX7_isCircuit_1 : decode cX7_isCircuit 1 = .ok (.iconst 0, 1) := by decide +kernel
theorem dX7_isCircuit_2 : decode cX7_isCircuit 2 = .ok (.aload_n 0, 1) := by decide +kernel
theorem dX7_isCircuit_3 : decode cX7_isCircuit 3 = .ok (.getfield 127, 3) := by decide +kernel
theorem dX7_isCircuit_6 : decode cX7_isCircuit 6 = .ok (.iconst 1, 1) := by decide +kernel
theorem dX7_isCircuit_7 : decode cX7_isCircuit 7 = .ok (.isub, 1) := by decide +kernel
theorem dX7_isCircuit_8 : decode cX7_isCircuit 8 = .ok (.invokestatic 60, 3) := by decide +kernel
theorem dX7_isCircuit_11 : decode cX7_isCircuit 11 = .ok (.ireturn, 1) := by decide +kernel
set_option maxRecDepth 20000 in
theorem ggX7_isLane_X7_isHop : GoodIn wsX7_isLane wsX7_isHop := goodIn_r _ [5, 6, 7, 8, 4, 9, 15, 16, 17, 18, 19, 20, 21, 22, 23, 24, 25, 26, 27, 28, 29, 30, 31, 32, 33, 34, 35] (by decide +kernel) (by decide +kernel)
set_option maxRecDepth 20000 in
theorem gX7_isLane_X7_isHop : GoodIn wsX7_isLane (wsV RX7 130 RX7 yX7_isHop wsX7_isHop) := goodIn_app (goodIn_of _ (by decide +kernel)) ggX7_isLane_X7_isHop
set_option maxRecDepth 20000 in
theorem ggX7_isLane_X7_isCircuit : GoodIn wsX7_isLane wsX7_isCircuit := goodIn_r _ [13, 14, 7, 8, 4, 9, 15, 16, 17, 18, 19, 20, 21, 22, 23, 24, 25, 26, 27, 28, 29, 30, 31, 32, 33, 34, 35] (by decide +kernel) (by decide +kernel)
set_option maxRecDepth 20000 in
theorem gX7_isLane_X7_isCircuit : GoodIn wsX7_isLane (wsV RX7 133 RX7 yX7_isCircuit wsX7_isCircuit) := goodIn_app (goodIn_of _ (by decide +kernel)) ggX7_isLane_X7_isCircuit
theorem dX7_isLane_0 : decode cX7_isLane 0 = .ok (.aload_n 0, 1) := by decide +kernel
theorem dX7_isLane_1 : decode cX7_isLane 1 = .ok (.iload_n 1, 1) := by decide +kernel
theorem dX7_isLane_2 : decode cX7_isLane 2 = .ok (.invokevirtual 130, 3) := by decide +kernel
theorem dX7_isLane_5 : decode cX7_isLane 5 = .ok (.ifCond .eq 15, 3) := by decide +kernel
theorem dX7_isLane_8 : decode cX7_isLane 8 = .ok (.aload_n 0, 1) := by decide +kernel
theorem dX7_isLane_9 : decode cX7_isLane 9 = .ok (.iload_n 2, 1) := by decide +kernel
theorem dX7_isLane_10 : decode cX7_isLane 10 = .ok (.invokevirtual 133, 3) := by decide +kernel
theorem dX7_isLane_13 : decode cX7_isLane 13 = .ok (.ifCond .eq 7, 3) := by decide +kernel
theorem dX7_isLane_16 : decode cX7_isLane 16 = .ok (.iconst 1, 1) := by decide +kernel
theorem dX7_isLane_17 : decode cX7_isLane 17 = .ok (.goto 4, 3) := by decide +kernel
theorem dX7_isLane_20 : decode cX7_isLane 20 = .ok (.iconst 0, 1) := by decide +kernel
theorem dX7_isLane_21 : decode cX7_isLane 21 = .ok (.ireturn, 1) := by decide +kernel
set_option maxRecDepth 20000 in
theorem ggX7_isNode_X7_isNet : GoodIn wsX7_isNode wsX7_isNet := goodIn_r _ [6, 1, 10, 11, 12, 13, 14, 15, 16, 17, 18, 19, 20, 21, 22, 23, 24, 25, 26, 27, 28, 29, 30] (by decide +kernel) (by decide +kernel)
set_option maxRecDepth 20000 in
theorem gX7_isNode_X7_isNet : GoodIn wsX7_isNode (wsV RX7 136 RX7 yX7_isNet wsX7_isNet) := goodIn_app (goodIn_of _ (by decide +kernel)) ggX7_isNode_X7_isNet
set_option maxRecDepth 20000 in
theorem ggX7_isNode_X7_in : GoodIn wsX7_isNode wsX7_in := goodIn_r _ [9] (by decide +kernel) (by decide +kernel)
set_option maxRecDepth 20000 in
theorem gX7_isNode_X7_in : GoodIn wsX7_isNode (va_wsS RX7 60 yX7_in wsX7_in) := goodIn_app (goodIn_of _ (by decide +kernel)) ggX7_isNode_X7_in
theorem dX7_isNode_0 : decode cX7_isNode 0 = .ok (.aload_n 0, 1) := by decide +kernel
theorem dX7_isNode_1 : decode cX7_isNode 1 = .ok (.invokevirtual 136, 3) := by decide +kernel
theorem dX7_isNode_4 : decode cX7_isNode 4 = .ok (.ifCond .eq 19, 3) := by decide +kernel
theorem dX7_isNode_7 : decode cX7_isNode 7 = .ok (.iload_n 1, 1) := by decide +kernel
theorem dX7_isNode_8 : decode cX7_isNode 8 = .ok (.iconst 0, 1) := by decide +kernel
theorem dX7_isNode_9 : decode cX7_isNode 9 = .ok (.aload_n 0, 1) := by decide +kernel
theorem dX7_isNode_10 : decode cX7_isNode 10 = .ok (.getfield 124, 3) := by decide +kernel
theorem dX7_isNode_13 : decode cX7_isNode 13 = .ok (.invokestatic 60, 3) := by decide +kernel
theorem dX7_isNode_16 : decode cX7_isNode 16 = .ok (.ifCond .eq 7, 3) := by decide +kernel
theorem dX7_isNode_19 : decode cX7_isNode 19 = .ok (.iconst 1, 1) := by decide +kernel
theorem dX7_isNode_20 : decode cX7_isNode 20 = .ok (.goto 4, 3) := by decide +kernel
theorem dX7_isNode_23 : decode cX7_isNode 23 = .ok (.iconst 0, 1) := by decide +kernel
theorem dX7_isNode_24 : decode cX7_isNode 24 = .ok (.ireturn, 1) := by decide +kernel
theorem dX7_lane_0 : decode cX7_lane 0 = .ok (.bipush 7, 2) := by decide +kernel
theorem dX7_lane_2 : decode cX7_lane 2 = .ok (.iconst 3, 1) := by decide +kernel
theorem dX7_lane_3 : decode cX7_lane 3 = .ok (.iload_n 0, 1) := by decide +kernel
theorem dX7_lane_4 : decode cX7_lane 4 = .ok (.imul, 1) := by decide +kernel
theorem dX7_lane_5 : decode cX7_lane 5 = .ok (.iload_n 1, 1) := by decide +kernel
theorem dX7_lane_6 : decode cX7_lane 6 = .ok (.iadd, 1) := by decide +kernel
theorem dX7_lane_7 : decode cX7_lane 7 = .ok (.imul, 1) := by decide +kernel
theorem dX7_lane_8 : decode cX7_lane 8 = .ok (.ireturn, 1) := by decide +kernel
theorem dX7_bufferAt_0 : decode cX7_bufferAt 0 = .ok (.sipush 189, 3) := by decide +kernel
theorem dX7_bufferAt_3 : decode cX7_bufferAt 3 = .ok (.iconst 3, 1) := by decide +kernel
theorem dX7_bufferAt_4 : decode cX7_bufferAt 4 = .ok (.iload_n 0, 1) := by decide +kernel
theorem dX7_bufferAt_5 : decode cX7_bufferAt 5 = .ok (.imul, 1) := by decide +kernel
theorem dX7_bufferAt_6 : decode cX7_bufferAt 6 = .ok (.iadd, 1) := by decide +kernel
theorem dX7_bufferAt_7 : decode cX7_bufferAt 7 = .ok (.iload_n 1, 1) := by decide +kernel
theorem dX7_bufferAt_8 : decode cX7_bufferAt 8 = .ok (.iadd, 1) := by decide +kernel
theorem dX7_bufferAt_9 : decode cX7_bufferAt 9 = .ok (.ireturn, 1) := by decide +kernel
theorem dX7_circuitAt_0 : decode cX7_circuitAt 0 = .ok (.sipush 201, 3) := by decide +kernel
theorem dX7_circuitAt_3 : decode cX7_circuitAt 3 = .ok (.bipush 9, 2) := by decide +kernel
theorem dX7_circuitAt_5 : decode cX7_circuitAt 5 = .ok (.iload_n 0, 1) := by decide +kernel
theorem dX7_circuitAt_6 : decode cX7_circuitAt 6 = .ok (.imul, 1) := by decide +kernel
theorem dX7_circuitAt_7 : decode cX7_circuitAt 7 = .ok (.iadd, 1) := by decide +kernel
theorem dX7_circuitAt_8 : decode cX7_circuitAt 8 = .ok (.ireturn, 1) := by decide +kernel
theorem dX7_wayAt_0 : decode cX7_wayAt 0 = .ok (.bipush 69, 2) := by decide +kernel
theorem dX7_wayAt_2 : decode cX7_wayAt 2 = .ok (.iconst 5, 1) := by decide +kernel
theorem dX7_wayAt_3 : decode cX7_wayAt 3 = .ok (.bipush 8, 2) := by decide +kernel
theorem dX7_wayAt_5 : decode cX7_wayAt 5 = .ok (.iload_n 0, 1) := by decide +kernel
theorem dX7_wayAt_6 : decode cX7_wayAt 6 = .ok (.imul, 1) := by decide +kernel
theorem dX7_wayAt_7 : decode cX7_wayAt 7 = .ok (.iload_n 1, 1) := by decide +kernel
theorem dX7_wayAt_8 : decode cX7_wayAt 8 = .ok (.bipush 8, 2) := by decide +kernel
theorem dX7_wayAt_10 : decode cX7_wayAt 10 = .ok (.irem, 1) := by decide +kernel
theorem dX7_wayAt_11 : decode cX7_wayAt 11 = .ok (.iadd, 1) := by decide +kernel
theorem dX7_wayAt_12 : decode cX7_wayAt 12 = .ok (.imul, 1) := by decide +kernel
theorem dX7_wayAt_13 : decode cX7_wayAt 13 = .ok (.iadd, 1) := by decide +kernel
theorem dX7_wayAt_14 : decode cX7_wayAt 14 = .ok (.ireturn, 1) := by decide +kernel
theorem dX7_delay_0 : decode cX7_delay 0 = .ok (.aload_n 0, 1) := by decide +kernel
theorem dX7_delay_1 : decode cX7_delay 1 = .ok (.getfield 31, 3) := by decide +kernel
theorem dX7_delay_4 : decode cX7_delay 4 = .ok (.iconst 3, 1) := by decide +kernel
theorem dX7_delay_5 : decode cX7_delay 5 = .ok (.iload_n 1, 1) := by decide +kernel
theorem dX7_delay_6 : decode cX7_delay 6 = .ok (.imul, 1) := by decide +kernel
theorem dX7_delay_7 : decode cX7_delay 7 = .ok (.iconst 0, 1) := by decide +kernel
theorem dX7_delay_8 : decode cX7_delay 8 = .ok (.iadd, 1) := by decide +kernel
theorem dX7_delay_9 : decode cX7_delay 9 = .ok (.iaload, 1) := by decide +kernel
theorem dX7_delay_10 : decode cX7_delay 10 = .ok (.ireturn, 1) := by decide +kernel
theorem dX7_pool_0 : decode cX7_pool 0 = .ok (.aload_n 0, 1) := by decide +kernel
theorem dX7_pool_1 : decode cX7_pool 1 = .ok (.getfield 31, 3) := by decide +kernel
theorem dX7_pool_4 : decode cX7_pool 4 = .ok (.iconst 3, 1) := by decide +kernel
theorem dX7_pool_5 : decode cX7_pool 5 = .ok (.iload_n 1, 1) := by decide +kernel
theorem dX7_pool_6 : decode cX7_pool 6 = .ok (.imul, 1) := by decide +kernel
theorem dX7_pool_7 : decode cX7_pool 7 = .ok (.iconst 1, 1) := by decide +kernel
theorem dX7_pool_8 : decode cX7_pool 8 = .ok (.iadd, 1) := by decide +kernel
theorem dX7_pool_9 : decode cX7_pool 9 = .ok (.iaload, 1) := by decide +kernel
theorem dX7_pool_10 : decode cX7_pool 10 = .ok (.ireturn, 1) := by decide +kernel
set_option maxRecDepth 20000 in
theorem ggX7_clearsWay_X7_wayAt : GoodIn wsX7_clearsWay wsX7_wayAt := goodIn_r _ [5] (by decide +kernel) (by decide +kernel)
set_option maxRecDepth 20000 in
theorem gX7_clearsWay_X7_wayAt : GoodIn wsX7_clearsWay (va_wsS RX7 140 yX7_wayAt wsX7_wayAt) := goodIn_app (goodIn_of _ (by decide +kernel)) ggX7_clearsWay_X7_wayAt
theorem dX7_clearsWay_0 : decode cX7_clearsWay 0 = .ok (.iload_n 1, 1) := by decide +kernel
theorem dX7_clearsWay_1 : decode cX7_clearsWay 1 = .ok (.iload_n 2, 1) := by decide +kernel
theorem dX7_clearsWay_2 : decode cX7_clearsWay 2 = .ok (.invokestatic 140, 3) := by decide +kernel
theorem dX7_clearsWay_5 : decode cX7_clearsWay 5 = .ok (.istore_n 3, 1) := by decide +kernel
theorem dX7_clearsWay_6 : decode cX7_clearsWay 6 = .ok (.aload_n 0, 1) := by decide +kernel
theorem dX7_clearsWay_7 : decode cX7_clearsWay 7 = .ok (.getfield 22, 3) := by decide +kernel
theorem dX7_clearsWay_10 : decode cX7_clearsWay 10 = .ok (.iload_n 3, 1) := by decide +kernel
theorem dX7_clearsWay_11 : decode cX7_clearsWay 11 = .ok (.iconst 0, 1) := by decide +kernel
theorem dX7_clearsWay_12 : decode cX7_clearsWay 12 = .ok (.iadd, 1) := by decide +kernel
theorem dX7_clearsWay_13 : decode cX7_clearsWay 13 = .ok (.iconst (-1), 1) := by decide +kernel
theorem dX7_clearsWay_14 : decode cX7_clearsWay 14 = .ok (.iastore, 1) := by decide +kernel
theorem dX7_clearsWay_15 : decode cX7_clearsWay 15 = .ok (.aload_n 0, 1) := by decide +kernel
theorem dX7_clearsWay_16 : decode cX7_clearsWay 16 = .ok (.getfield 22, 3) := by decide +kernel
theorem dX7_clearsWay_19 : decode cX7_clearsWay 19 = .ok (.iload_n 3, 1) := by decide +kernel
theorem dX7_clearsWay_20 : decode cX7_clearsWay 20 = .ok (.iconst 4, 1) := by decide +kernel
theorem dX7_clearsWay_21 : decode cX7_clearsWay 21 = .ok (.iadd, 1) := by decide +kernel
theorem dX7_clearsWay_22 : decode cX7_clearsWay 22 = .ok (.iconst 0, 1) := by decide +kernel
theorem dX7_clearsWay_23 : decode cX7_clearsWay 23 = .ok (.iastore, 1) := by decide +kernel
theorem dX7_clearsWay_24 : decode cX7_clearsWay 24 = .ok (.iconst 0, 1) := by decide +kernel
theorem dX7_clearsWay_25 : decode cX7_clearsWay 25 = .ok (.istore 4, 2) := by decide +kernel
theorem dX7_clearsWay_27 : decode cX7_clearsWay 27 = .ok (.iload 4, 2) := by decide +kernel
theorem dX7_clearsWay_29 : decode cX7_clearsWay 29 = .ok (.iconst 3, 1) := by decide +kernel
theorem dX7_clearsWay_30 : decode cX7_clearsWay 30 = .ok (.if_icmp .ge 21, 3) := by decide +kernel
theorem dX7_clearsWay_33 : decode cX7_clearsWay 33 = .ok (.aload_n 0, 1) := by decide +kernel
theorem dX7_clearsWay_34 : decode cX7_clearsWay 34 = .ok (.getfield 22, 3) := by decide +kernel
theorem dX7_clearsWay_37 : decode cX7_clearsWay 37 = .ok (.iload_n 3, 1) := by decide +kernel
theorem dX7_clearsWay_38 : decode cX7_clearsWay 38 = .ok (.iconst 1, 1) := by decide +kernel
theorem dX7_clearsWay_39 : decode cX7_clearsWay 39 = .ok (.iadd, 1) := by decide +kernel
theorem dX7_clearsWay_40 : decode cX7_clearsWay 40 = .ok (.iload 4, 2) := by decide +kernel
theorem dX7_clearsWay_42 : decode cX7_clearsWay 42 = .ok (.iadd, 1) := by decide +kernel
theorem dX7_clearsWay_43 : decode cX7_clearsWay 43 = .ok (.iconst (-1), 1) := by decide +kernel
theorem dX7_clearsWay_44 : decode cX7_clearsWay 44 = .ok (.iastore, 1) := by decide +kernel
theorem dX7_clearsWay_45 : decode cX7_clearsWay 45 = .ok (.iinc 4 1, 3) := by decide +kernel
theorem dX7_clearsWay_48 : decode cX7_clearsWay 48 = .ok (.goto (-21), 3) := by decide +kernel
theorem dX7_clearsWay_51 : decode cX7_clearsWay 51 = .ok (.return_, 1) := by decide +kernel
set_option maxRecDepth 20000 in
theorem ggX7_net_X7_readNet : GoodIn wsX7_net wsX7_readNet := goodIn_r _ [16, 17, 18, 3, 5, 11, 19, 20, 21, 15, 22, 23, 24, 25, 26, 27, 28, 29, 4, 6, 30, 31, 32, 33, 34, 35, 36, 37, 2, 38, 39, 40, 41, 42, 43, 44, 45, 46, 47, 48, 49, 50, 51, 52, 53, 54, 55, 56, 57, 58, 59, 60, 61, 62, 63, 64, 65, 66, 67, 68, 95, 96, 97, 98, 99, 100, 101, 102, 103, 104, 105, 106, 107, 108, 109, 110, 111, 112, 113, 114, 115] (by decide +kernel) (by decide +kernel)
set_option maxRecDepth 20000 in
theorem gX7_net_X7_readNet : GoodIn wsX7_net (wsV RX7 121 RX7 yX7_readNet wsX7_readNet) := goodIn_app (goodIn_of _ (by decide +kernel)) ggX7_net_X7_readNet
set_option maxRecDepth 20000 in
theorem ggX7_net_X7_laysUsual : GoodIn wsX7_net wsX7_laysUsual := goodIn_r _ [22, 23, 24, 15, 25] (by decide +kernel) (by decide +kernel)
set_option maxRecDepth 20000 in
theorem gX7_net_X7_laysUsual : GoodIn wsX7_net (wsV RX7 88 RX7 yX7_laysUsual wsX7_laysUsual) := goodIn_app (goodIn_of _ (by decide +kernel)) ggX7_net_X7_laysUsual
set_option maxRecDepth 20000 in
theorem ggX7_net_X7_laysHop : GoodIn wsX7_net wsX7_laysHop := goodIn_r _ [72, 73, 4, 10, 8, 74, 75, 76, 77, 9, 78, 79, 80, 15, 81, 82, 83, 84, 85, 86, 87, 88, 89, 90, 91, 95, 96, 97, 98, 99, 100, 101, 102, 103, 104, 105, 106, 107, 108, 109, 110, 111, 112, 113, 114, 115] (by decide +kernel) (by decide +kernel)
set_option maxRecDepth 20000 in
theorem gX7_net_X7_laysHop : GoodIn wsX7_net (wsV RX7 143 RX7 yX7_laysHop wsX7_laysHop) := goodIn_app (goodIn_of _ (by decide +kernel)) ggX7_net_X7_laysHop
set_option maxRecDepth 20000 in
theorem ggX7_net_X7_circuitAt : GoodIn wsX7_net wsX7_circuitAt := goodIn_r _ [94] (by decide +kernel) (by decide +kernel)
set_option maxRecDepth 20000 in
theorem gX7_net_X7_circuitAt : GoodIn wsX7_net (va_wsS RX7 147 yX7_circuitAt wsX7_circuitAt) := goodIn_app (goodIn_of _ (by decide +kernel)) ggX7_net_X7_circuitAt
theorem dX7_net_0 : decode cX7_net 0 = .ok (.aload_n 0, 1) := by decide +kernel
theorem dX7_net_1 : decode cX7_net 1 = .ok (.iconst 0, 1) := by decide +kernel
theorem dX7_net_2 : decode cX7_net 2 = .ok (.putfield 49, 3) := by decide +kernel
theorem dX7_net_5 : decode cX7_net 5 = .ok (.aload_n 0, 1) := by decide +kernel
theorem dX7_net_6 : decode cX7_net 6 = .ok (.invokevirtual 121, 3) := by decide +kernel
theorem dX7_net_9 : decode cX7_net 9 = .ok (.iconst (-1), 1) := by decide +kernel
theorem dX7_net_10 : decode cX7_net 10 = .ok (.if_icmp .eq 5, 3) := by decide +kernel
theorem dX7_net_13 : decode cX7_net 13 = .ok (.iconst (-1), 1) := by decide +kernel
theorem dX7_net_14 : decode cX7_net 14 = .ok (.ireturn, 1) := by decide +kernel
theorem dX7_net_15 : decode cX7_net 15 = .ok (.aload_n 0, 1) := by decide +kernel
theorem dX7_net_16 : decode cX7_net 16 = .ok (.iconst 0, 1) := by decide +kernel
theorem dX7_net_17 : decode cX7_net 17 = .ok (.putfield 57, 3) := by decide +kernel
theorem dX7_net_20 : decode cX7_net 20 = .ok (.aload_n 0, 1) := by decide +kernel
theorem dX7_net_21 : decode cX7_net 21 = .ok (.getfield 111, 3) := by decide +kernel
theorem dX7_net_24 : decode cX7_net 24 = .ok (.ifCond .ne 18, 3) := by decide +kernel
theorem dX7_net_27 : decode cX7_net 27 = .ok (.aload_n 0, 1) := by decide +kernel
theorem dX7_net_28 : decode cX7_net 28 = .ok (.iconst 1, 1) := by decide +kernel
theorem dX7_net_29 : decode cX7_net 29 = .ok (.aload_n 0, 1) := by decide +kernel
theorem dX7_net_30 : decode cX7_net 30 = .ok (.getfield 16, 3) := by decide +kernel
theorem dX7_net_33 : decode cX7_net 33 = .ok (.iconst 0, 1) := by decide +kernel
theorem dX7_net_34 : decode cX7_net 34 = .ok (.invokevirtual 88, 3) := by decide +kernel
theorem dX7_net_37 : decode cX7_net 37 = .ok (.aload_n 0, 1) := by decide +kernel
theorem dX7_net_38 : decode cX7_net 38 = .ok (.iconst 1, 1) := by decide +kernel
theorem dX7_net_39 : decode cX7_net 39 = .ok (.putfield 111, 3) := by decide +kernel
theorem dX7_net_42 : decode cX7_net 42 = .ok (.aload_n 0, 1) := by decide +kernel
theorem dX7_net_43 : decode cX7_net 43 = .ok (.getfield 114, 3) := by decide +kernel
theorem dX7_net_46 : decode cX7_net 46 = .ok (.ifCond .ne 18, 3) := by decide +kernel
theorem dX7_net_49 : decode cX7_net 49 = .ok (.aload_n 0, 1) := by decide +kernel
theorem dX7_net_50 : decode cX7_net 50 = .ok (.iconst 2, 1) := by decide +kernel
theorem dX7_net_51 : decode cX7_net 51 = .ok (.aload_n 0, 1) := by decide +kernel
theorem dX7_net_52 : decode cX7_net 52 = .ok (.getfield 19, 3) := by decide +kernel
theorem dX7_net_55 : decode cX7_net 55 = .ok (.iconst 0, 1) := by decide +kernel
theorem dX7_net_56 : decode cX7_net 56 = .ok (.invokevirtual 88, 3) := by decide +kernel
theorem dX7_net_59 : decode cX7_net 59 = .ok (.aload_n 0, 1) := by decide +kernel
theorem dX7_net_60 : decode cX7_net 60 = .ok (.iconst 1, 1) := by decide +kernel
theorem dX7_net_61 : decode cX7_net 61 = .ok (.putfield 114, 3) := by decide +kernel
theorem dX7_net_64 : decode cX7_net 64 = .ok (.aload_n 0, 1) := by decide +kernel
theorem dX7_net_65 : decode cX7_net 65 = .ok (.aload_n 0, 1) := by decide +kernel
theorem dX7_net_66 : decode cX7_net 66 = .ok (.getfield 111, 3) := by decide +kernel
theorem dX7_net_69 : decode cX7_net 69 = .ok (.putfield 124, 3) := by decide +kernel
theorem dX7_net_72 : decode cX7_net 72 = .ok (.aload_n 0, 1) := by decide +kernel
theorem dX7_net_73 : decode cX7_net 73 = .ok (.aload_n 0, 1) := by decide +kernel
theorem dX7_net_74 : decode cX7_net 74 = .ok (.getfield 114, 3) := by decide +kernel
theorem dX7_net_77 : decode cX7_net 77 = .ok (.putfield 127, 3) := by decide +kernel
theorem dX7_net_80 : decode cX7_net 80 = .ok (.iconst 0, 1) := by decide +kernel
theorem dX7_net_81 : decode cX7_net 81 = .ok (.istore_n 1, 1) := by decide +kernel
theorem dX7_net_82 : decode cX7_net 82 = .ok (.iload_n 1, 1) := by decide +kernel
theorem dX7_net_83 : decode cX7_net 83 = .ok (.sipush 1767, 3) := by decide +kernel
theorem dX7_net_86 : decode cX7_net 86 = .ok (.if_icmp .ge 16, 3) := by decide +kernel
theorem dX7_net_89 : decode cX7_net 89 = .ok (.aload_n 0, 1) := by decide +kernel
theorem dX7_net_90 : decode cX7_net 90 = .ok (.getfield 22, 3) := by decide +kernel
theorem dX7_net_93 : decode cX7_net 93 = .ok (.iload_n 1, 1) := by decide +kernel
theorem dX7_net_94 : decode cX7_net 94 = .ok (.iconst 0, 1) := by decide +kernel
theorem dX7_net_95 : decode cX7_net 95 = .ok (.iastore, 1) := by decide +kernel
theorem dX7_net_96 : decode cX7_net 96 = .ok (.iinc 1 1, 3) := by decide +kernel
theorem dX7_net_99 : decode cX7_net 99 = .ok (.goto (-17), 3) := by decide +kernel
theorem dX7_net_102 : decode cX7_net 102 = .ok (.iconst 0, 1) := by decide +kernel
theorem dX7_net_103 : decode cX7_net 103 = .ok (.istore_n 1, 1) := by decide +kernel
theorem dX7_net_104 : decode cX7_net 104 = .ok (.iload_n 1, 1) := by decide +kernel
theorem dX7_net_105 : decode cX7_net 105 = .ok (.iconst 3, 1) := by decide +kernel
theorem dX7_net_106 : decode cX7_net 106 = .ok (.if_icmp .ge 21, 3) := by decide +kernel
theorem dX7_net_109 : decode cX7_net 109 = .ok (.aload_n 0, 1) := by decide +kernel
theorem dX7_net_110 : decode cX7_net 110 = .ok (.getfield 28, 3) := by decide +kernel
theorem dX7_net_113 : decode cX7_net 113 = .ok (.iload_n 1, 1) := by decide +kernel
theorem dX7_net_114 : decode cX7_net 114 = .ok (.aload_n 0, 1) := by decide +kernel
theorem dX7_net_115 : decode cX7_net 115 = .ok (.getfield 13, 3) := by decide +kernel
theorem dX7_net_118 : decode cX7_net 118 = .ok (.iload_n 1, 1) := by decide +kernel
theorem dX7_net_119 : decode cX7_net 119 = .ok (.iaload, 1) := by decide +kernel
theorem dX7_net_120 : decode cX7_net 120 = .ok (.iastore, 1) := by decide +kernel
theorem dX7_net_121 : decode cX7_net 121 = .ok (.iinc 1 1, 3) := by decide +kernel
theorem dX7_net_124 : decode cX7_net 124 = .ok (.goto (-20), 3) := by decide +kernel
theorem dX7_net_127 : decode cX7_net 127 = .ok (.iconst 0, 1) := by decide +kernel
theorem dX7_net_128 : decode cX7_net 128 = .ok (.istore_n 1, 1) := by decide +kernel
theorem dX7_net_129 : decode cX7_net 129 = .ok (.iload_n 1, 1) := by decide +kernel
theorem dX7_net_130 : decode cX7_net 130 = .ok (.aload_n 0, 1) := by decide +kernel
theorem dX7_net_131 : decode cX7_net 131 = .ok (.getfield 124, 3) := by decide +kernel
theorem dX7_net_134 : decode cX7_net 134 = .ok (.if_icmp .ge 14, 3) := by decide +kernel
theorem dX7_net_137 : decode cX7_net 137 = .ok (.aload_n 0, 1) := by decide +kernel
theorem dX7_net_138 : decode cX7_net 138 = .ok (.iload_n 1, 1) := by decide +kernel
theorem dX7_net_139 : decode cX7_net 139 = .ok (.invokevirtual 143, 3) := by decide +kernel
theorem dX7_net_142 : decode cX7_net 142 = .ok (.iinc 1 1, 3) := by decide +kernel
theorem dX7_net_145 : decode cX7_net 145 = .ok (.goto (-16), 3) := by decide +kernel
theorem dX7_net_148 : decode cX7_net 148 = .ok (.iconst 0, 1) := by decide +kernel
theorem dX7_net_149 : decode cX7_net 149 = .ok (.istore_n 1, 1) := by decide +kernel
theorem dX7_net_150 : decode cX7_net 150 = .ok (.iload_n 1, 1) := by decide +kernel
theorem dX7_net_151 : decode cX7_net 151 = .ok (.aload_n 0, 1) := by decide +kernel
theorem dX7_net_152 : decode cX7_net 152 = .ok (.getfield 127, 3) := by decide +kernel
theorem dX7_net_155 : decode cX7_net 155 = .ok (.if_icmp .ge 56, 3) := by decide +kernel
theorem dX7_net_158 : decode cX7_net 158 = .ok (.iconst 0, 1) := by decide +kernel
theorem dX7_net_159 : decode cX7_net 159 = .ok (.istore_n 2, 1) := by decide +kernel
theorem dX7_net_160 : decode cX7_net 160 = .ok (.iload_n 2, 1) := by decide +kernel
theorem dX7_net_161 : decode cX7_net 161 = .ok (.iconst 3, 1) := by decide +kernel
theorem dX7_net_162 : decode cX7_net 162 = .ok (.if_icmp .ge 30, 3) := by decide +kernel
theorem dX7_net_165 : decode cX7_net 165 = .ok (.aload_n 0, 1) := by decide +kernel
theorem dX7_net_166 : decode cX7_net 166 = .ok (.getfield 22, 3) := by decide +kernel
theorem dX7_net_169 : decode cX7_net 169 = .ok (.iload_n 1, 1) := by decide +kernel
theorem dX7_net_170 : decode cX7_net 170 = .ok (.invokestatic 147, 3) := by decide +kernel
theorem dX7_net_173 : decode cX7_net 173 = .ok (.iload_n 2, 1) := by decide +kernel
theorem dX7_net_174 : decode cX7_net 174 = .ok (.iadd, 1) := by decide +kernel
theorem dX7_net_175 : decode cX7_net 175 = .ok (.aload_n 0, 1) := by decide +kernel
theorem dX7_net_176 : decode cX7_net 176 = .ok (.getfield 19, 3) := by decide +kernel
theorem dX7_net_179 : decode cX7_net 179 = .ok (.iconst 3, 1) := by decide +kernel
theorem dX7_net_180 : decode cX7_net 180 = .ok (.iload_n 1, 1) := by decide +kernel
theorem dX7_net_181 : decode cX7_net 181 = .ok (.imul, 1) := by decide +kernel
theorem dX7_net_182 : decode cX7_net 182 = .ok (.iload_n 2, 1) := by decide +kernel
theorem dX7_net_183 : decode cX7_net 183 = .ok (.iadd, 1) := by decide +kernel
theorem dX7_net_184 : decode cX7_net 184 = .ok (.iaload, 1) := by decide +kernel
theorem dX7_net_185 : decode cX7_net 185 = .ok (.iastore, 1) := by decide +kernel
theorem dX7_net_186 : decode cX7_net 186 = .ok (.iinc 2 1, 3) := by decide +kernel
theorem dX7_net_189 : decode cX7_net 189 = .ok (.goto (-29), 3) := by decide +kernel
theorem dX7_net_192 : decode cX7_net 192 = .ok (.aload_n 0, 1) := by decide +kernel
theorem dX7_net_193 : decode cX7_net 193 = .ok (.getfield 22, 3) := by decide +kernel
theorem dX7_net_196 : decode cX7_net 196 = .ok (.iload_n 1, 1) := by decide +kernel
theorem dX7_net_197 : decode cX7_net 197 = .ok (.invokestatic 147, 3) := by decide +kernel
theorem dX7_net_200 : decode cX7_net 200 = .ok (.bipush 6, 2) := by decide +kernel
theorem dX7_net_202 : decode cX7_net 202 = .ok (.iadd, 1) := by decide +kernel
theorem dX7_net_203 : decode cX7_net 203 = .ok (.iconst (-1), 1) := by decide +kernel
theorem dX7_net_204 : decode cX7_net 204 = .ok (.iastore, 1) := by decide +kernel
theorem dX7_net_205 : decode cX7_net 205 = .ok (.iinc 1 1, 3) := by decide +kernel
theorem dX7_net_208 : decode cX7_net 208 = .ok (.goto (-58), 3) := by decide +kernel
theorem dX7_net_211 : decode cX7_net 211 = .ok (.aload_n 0, 1) := by decide +kernel
theorem dX7_net_212 : decode cX7_net 212 = .ok (.getfield 127, 3) := by decide +kernel
theorem dX7_net_215 : decode cX7_net 215 = .ok (.ireturn, 1) := by decide +kernel
set_option maxRecDepth 20000 in
theorem ggX7_laysHop_X7_pool : GoodIn wsX7_laysHop wsX7_pool := goodIn_r _ [14, 1, 25, 26, 27, 28, 29, 30, 31, 32, 33, 34, 35, 36, 37, 38, 39, 40, 41, 42, 43, 44, 45] (by decide +kernel) (by decide +kernel)
set_option maxRecDepth 20000 in
theorem gX7_laysHop_X7_pool : GoodIn wsX7_laysHop (wsV RX7 151 RX7 yX7_pool wsX7_pool) := goodIn_app (goodIn_of _ (by decide +kernel)) ggX7_laysHop_X7_pool
set_option maxRecDepth 20000 in
theorem ggX7_laysHop_X7_clearsWay : GoodIn wsX7_laysHop wsX7_clearsWay := goodIn_r _ [18, 9, 19, 20, 13, 21, 25, 26, 27, 28, 29, 30, 31, 32, 33, 34, 35, 36, 37, 38, 39, 40, 41, 42, 43, 44, 45] (by decide +kernel) (by decide +kernel)
set_option maxRecDepth 20000 in
theorem gX7_laysHop_X7_clearsWay : GoodIn wsX7_laysHop (wsV RX7 159 RX7 yX7_clearsWay wsX7_clearsWay) := goodIn_app (goodIn_of _ (by decide +kernel)) ggX7_laysHop_X7_clearsWay
set_option maxRecDepth 20000 in
theorem ggX7_laysHop_X7_lane : GoodIn wsX7_laysHop wsX7_lane := goodIn_r _ [24] (by decide +kernel) (by decide +kernel)
set_option maxRecDepth 20000 in
theorem gX7_laysHop_X7_lane : GoodIn wsX7_laysHop (va_wsS RX7 163 yX7_lane wsX7_lane) := goodIn_app (goodIn_of _ (by decide +kernel)) ggX7_laysHop_X7_lane
theorem dX7_laysHop_0 : decode cX7_laysHop 0 = .ok (.iconst 0, 1) := by decide +kernel
theorem dX7_laysHop_1 : decode cX7_laysHop 1 = .ok (.istore_n 2, 1) := by decide +kernel
theorem dX7_laysHop_2 : decode cX7_laysHop 2 = .ok (.iload_n 2, 1) := by decide +kernel
theorem dX7_laysHop_3 : decode cX7_laysHop 3 = .ok (.iconst 3, 1) := by decide +kernel
theorem dX7_laysHop_4 : decode cX7_laysHop 4 = .ok (.if_icmp .ge 29, 3) := by decide +kernel
theorem dX7_laysHop_7 : decode cX7_laysHop 7 = .ok (.aload_n 0, 1) := by decide +kernel
theorem dX7_laysHop_8 : decode cX7_laysHop 8 = .ok (.getfield 31, 3) := by decide +kernel
theorem dX7_laysHop_11 : decode cX7_laysHop 11 = .ok (.iconst 3, 1) := by decide +kernel
theorem dX7_laysHop_12 : decode cX7_laysHop 12 = .ok (.iload_n 1, 1) := by decide +kernel
theorem dX7_laysHop_13 : decode cX7_laysHop 13 = .ok (.imul, 1) := by decide +kernel
theorem dX7_laysHop_14 : decode cX7_laysHop 14 = .ok (.iload_n 2, 1) := by decide +kernel
theorem dX7_laysHop_15 : decode cX7_laysHop 15 = .ok (.iadd, 1) := by decide +kernel
theorem dX7_laysHop_16 : decode cX7_laysHop 16 = .ok (.aload_n 0, 1) := by decide +kernel
theorem dX7_laysHop_17 : decode cX7_laysHop 17 = .ok (.getfield 16, 3) := by decide +kernel
theorem dX7_laysHop_20 : decode cX7_laysHop 20 = .ok (.iconst 3, 1) := by decide +kernel
theorem dX7_laysHop_21 : decode cX7_laysHop 21 = .ok (.iload_n 1, 1) := by decide +kernel
theorem dX7_laysHop_22 : decode cX7_laysHop 22 = .ok (.imul, 1) := by decide +kernel
theorem dX7_laysHop_23 : decode cX7_laysHop 23 = .ok (.iload_n 2, 1) := by decide +kernel
theorem dX7_laysHop_24 : decode cX7_laysHop 24 = .ok (.iadd, 1) := by decide +kernel
theorem dX7_laysHop_25 : decode cX7_laysHop 25 = .ok (.iaload, 1) := by decide +kernel
theorem dX7_laysHop_26 : decode cX7_laysHop 26 = .ok (.iastore, 1) := by decide +kernel
theorem dX7_laysHop_27 : decode cX7_laysHop 27 = .ok (.iinc 2 1, 3) := by decide +kernel
theorem dX7_laysHop_30 : decode cX7_laysHop 30 = .ok (.goto (-28), 3) := by decide +kernel
theorem dX7_laysHop_33 : decode cX7_laysHop 33 = .ok (.aload_n 0, 1) := by decide +kernel
theorem dX7_laysHop_34 : decode cX7_laysHop 34 = .ok (.getfield 31, 3) := by decide +kernel
theorem dX7_laysHop_37 : decode cX7_laysHop 37 = .ok (.iconst 3, 1) := by decide +kernel
theorem dX7_laysHop_38 : decode cX7_laysHop 38 = .ok (.iload_n 1, 1) := by decide +kernel
theorem dX7_laysHop_39 : decode cX7_laysHop 39 = .ok (.imul, 1) := by decide +kernel
theorem dX7_laysHop_40 : decode cX7_laysHop 40 = .ok (.iconst 1, 1) := by decide +kernel
theorem dX7_laysHop_41 : decode cX7_laysHop 41 = .ok (.iadd, 1) := by decide +kernel
theorem dX7_laysHop_42 : decode cX7_laysHop 42 = .ok (.aload_n 0, 1) := by decide +kernel
theorem dX7_laysHop_43 : decode cX7_laysHop 43 = .ok (.iload_n 1, 1) := by decide +kernel
theorem dX7_laysHop_44 : decode cX7_laysHop 44 = .ok (.invokevirtual 151, 3) := by decide +kernel
theorem dX7_laysHop_47 : decode cX7_laysHop 47 = .ok (.aload_n 0, 1) := by decide +kernel
theorem dX7_laysHop_48 : decode cX7_laysHop 48 = .ok (.getfield 28, 3) := by decide +kernel
theorem dX7_laysHop_51 : decode cX7_laysHop 51 = .ok (.iconst 0, 1) := by decide +kernel
theorem dX7_laysHop_52 : decode cX7_laysHop 52 = .ok (.iaload, 1) := by decide +kernel
theorem dX7_laysHop_53 : decode cX7_laysHop 53 = .ok (.aload_n 0, 1) := by decide +kernel
theorem dX7_laysHop_54 : decode cX7_laysHop 54 = .ok (.getfield 127, 3) := by decide +kernel
theorem dX7_laysHop_57 : decode cX7_laysHop 57 = .ok (.imul, 1) := by decide +kernel
theorem dX7_laysHop_58 : decode cX7_laysHop 58 = .ok (.invokestatic 154, 3) := by decide +kernel
theorem dX7_laysHop_61 : decode cX7_laysHop 61 = .ok (.iastore, 1) := by decide +kernel
theorem dX7_laysHop_62 : decode cX7_laysHop 62 = .ok (.aload_n 0, 1) := by decide +kernel
theorem dX7_laysHop_63 : decode cX7_laysHop 63 = .ok (.getfield 22, 3) := by decide +kernel
theorem dX7_laysHop_66 : decode cX7_laysHop 66 = .ok (.bipush 66, 2) := by decide +kernel
theorem dX7_laysHop_68 : decode cX7_laysHop 68 = .ok (.iload_n 1, 1) := by decide +kernel
theorem dX7_laysHop_69 : decode cX7_laysHop 69 = .ok (.iadd, 1) := by decide +kernel
theorem dX7_laysHop_70 : decode cX7_laysHop 70 = .ok (.iconst (-1), 1) := by decide +kernel
theorem dX7_laysHop_71 : decode cX7_laysHop 71 = .ok (.iastore, 1) := by decide +kernel
theorem dX7_laysHop_72 : decode cX7_laysHop 72 = .ok (.iconst 0, 1) := by decide +kernel
theorem dX7_laysHop_73 : decode cX7_laysHop 73 = .ok (.istore_n 2, 1) := by decide +kernel
theorem dX7_laysHop_74 : decode cX7_laysHop 74 = .ok (.iload_n 2, 1) := by decide +kernel
theorem dX7_laysHop_75 : decode cX7_laysHop 75 = .ok (.bipush 8, 2) := by decide +kernel
theorem dX7_laysHop_77 : decode cX7_laysHop 77 = .ok (.if_icmp .ge 15, 3) := by decide +kernel
theorem dX7_laysHop_80 : decode cX7_laysHop 80 = .ok (.aload_n 0, 1) := by decide +kernel
theorem dX7_laysHop_81 : decode cX7_laysHop 81 = .ok (.iload_n 1, 1) := by decide +kernel
theorem dX7_laysHop_82 : decode cX7_laysHop 82 = .ok (.iload_n 2, 1) := by decide +kernel
theorem dX7_laysHop_83 : decode cX7_laysHop 83 = .ok (.invokevirtual 159, 3) := by decide +kernel
theorem dX7_laysHop_86 : decode cX7_laysHop 86 = .ok (.iinc 2 1, 3) := by decide +kernel
theorem dX7_laysHop_89 : decode cX7_laysHop 89 = .ok (.goto (-15), 3) := by decide +kernel
theorem dX7_laysHop_92 : decode cX7_laysHop 92 = .ok (.iconst 0, 1) := by decide +kernel
theorem dX7_laysHop_93 : decode cX7_laysHop 93 = .ok (.istore_n 2, 1) := by decide +kernel
theorem dX7_laysHop_94 : decode cX7_laysHop 94 = .ok (.iload_n 2, 1) := by decide +kernel
theorem dX7_laysHop_95 : decode cX7_laysHop 95 = .ok (.aload_n 0, 1) := by decide +kernel
theorem dX7_laysHop_96 : decode cX7_laysHop 96 = .ok (.getfield 127, 3) := by decide +kernel
theorem dX7_laysHop_99 : decode cX7_laysHop 99 = .ok (.if_icmp .ge 31, 3) := by decide +kernel
theorem dX7_laysHop_102 : decode cX7_laysHop 102 = .ok (.aload_n 0, 1) := by decide +kernel
theorem dX7_laysHop_103 : decode cX7_laysHop 103 = .ok (.getfield 22, 3) := by decide +kernel
theorem dX7_laysHop_106 : decode cX7_laysHop 106 = .ok (.iload_n 1, 1) := by decide +kernel
theorem dX7_laysHop_107 : decode cX7_laysHop 107 = .ok (.iload_n 2, 1) := by decide +kernel
theorem dX7_laysHop_108 : decode cX7_laysHop 108 = .ok (.invokestatic 163, 3) := by decide +kernel
theorem dX7_laysHop_111 : decode cX7_laysHop 111 = .ok (.iconst 3, 1) := by decide +kernel
theorem dX7_laysHop_112 : decode cX7_laysHop 112 = .ok (.iadd, 1) := by decide +kernel
theorem dX7_laysHop_113 : decode cX7_laysHop 113 = .ok (.aload_n 0, 1) := by decide +kernel
theorem dX7_laysHop_114 : decode cX7_laysHop 114 = .ok (.iload_n 1, 1) := by decide +kernel
theorem dX7_laysHop_115 : decode cX7_laysHop 115 = .ok (.invokevirtual 151, 3) := by decide +kernel
theorem dX7_laysHop_118 : decode cX7_laysHop 118 = .ok (.aload_n 0, 1) := by decide +kernel
theorem dX7_laysHop_119 : decode cX7_laysHop 119 = .ok (.getfield 127, 3) := by decide +kernel
theorem dX7_laysHop_122 : decode cX7_laysHop 122 = .ok (.idiv, 1) := by decide +kernel
theorem dX7_laysHop_123 : decode cX7_laysHop 123 = .ok (.iastore, 1) := by decide +kernel
theorem dX7_laysHop_124 : decode cX7_laysHop 124 = .ok (.iinc 2 1, 3) := by decide +kernel
theorem dX7_laysHop_127 : decode cX7_laysHop 127 = .ok (.goto (-33), 3) := by decide +kernel
theorem dX7_laysHop_130 : decode cX7_laysHop 130 = .ok (.return_, 1) := by decide +kernel
set_option maxRecDepth 20000 in
theorem ggX7_outOf_X7_lane : GoodIn wsX7_outOf wsX7_lane := goodIn_r _ [5] (by decide +kernel) (by decide +kernel)
set_option maxRecDepth 20000 in
theorem gX7_outOf_X7_lane : GoodIn wsX7_outOf (va_wsS RX7 163 yX7_lane wsX7_lane) := goodIn_app (goodIn_of _ (by decide +kernel)) ggX7_outOf_X7_lane
set_option maxRecDepth 20000 in
theorem ggX7_outOf_X7_less : GoodIn wsX7_outOf wsX7_less := goodIn_r _ [8] (by decide +kernel) (by decide +kernel)
set_option maxRecDepth 20000 in
theorem gX7_outOf_X7_less : GoodIn wsX7_outOf (va_wsS RX7 166 yX7_less wsX7_less) := goodIn_app (goodIn_of _ (by decide +kernel)) ggX7_outOf_X7_less
theorem dX7_outOf_0 : decode cX7_outOf 0 = .ok (.aload_n 0, 1) := by decide +kernel
theorem dX7_outOf_1 : decode cX7_outOf 1 = .ok (.getfield 22, 3) := by decide +kernel
theorem dX7_outOf_4 : decode cX7_outOf 4 = .ok (.iload_n 1, 1) := by decide +kernel
theorem dX7_outOf_5 : decode cX7_outOf 5 = .ok (.iload_n 2, 1) := by decide +kernel
theorem dX7_outOf_6 : decode cX7_outOf 6 = .ok (.invokestatic 163, 3) := by decide +kernel
theorem dX7_outOf_9 : decode cX7_outOf 9 = .ok (.iconst 0, 1) := by decide +kernel
theorem dX7_outOf_10 : decode cX7_outOf 10 = .ok (.iadd, 1) := by decide +kernel
theorem dX7_outOf_11 : decode cX7_outOf 11 = .ok (.iaload, 1) := by decide +kernel
theorem dX7_outOf_12 : decode cX7_outOf 12 = .ok (.aload_n 0, 1) := by decide +kernel
theorem dX7_outOf_13 : decode cX7_outOf 13 = .ok (.getfield 22, 3) := by decide +kernel
theorem dX7_outOf_16 : decode cX7_outOf 16 = .ok (.iload_n 1, 1) := by decide +kernel
theorem dX7_outOf_17 : decode cX7_outOf 17 = .ok (.iload_n 2, 1) := by decide +kernel
theorem dX7_outOf_18 : decode cX7_outOf 18 = .ok (.invokestatic 163, 3) := by decide +kernel
theorem dX7_outOf_21 : decode cX7_outOf 21 = .ok (.iconst 2, 1) := by decide +kernel
theorem dX7_outOf_22 : decode cX7_outOf 22 = .ok (.iadd, 1) := by decide +kernel
theorem dX7_outOf_23 : decode cX7_outOf 23 = .ok (.iaload, 1) := by decide +kernel
theorem dX7_outOf_24 : decode cX7_outOf 24 = .ok (.invokestatic 166, 3) := by decide +kernel
theorem dX7_outOf_27 : decode cX7_outOf 27 = .ok (.ireturn, 1) := by decide +kernel
set_option maxRecDepth 20000 in
theorem ggX7_credit_X7_lane : GoodIn wsX7_credit wsX7_lane := goodIn_r _ [9] (by decide +kernel) (by decide +kernel)
set_option maxRecDepth 20000 in
theorem gX7_credit_X7_lane : GoodIn wsX7_credit (va_wsS RX7 163 yX7_lane wsX7_lane) := goodIn_app (goodIn_of _ (by decide +kernel)) ggX7_credit_X7_lane
set_option maxRecDepth 20000 in
theorem ggX7_credit_X7_outOf : GoodIn wsX7_credit wsX7_outOf := goodIn_r _ [13, 1, 6, 7, 8, 9, 14, 15, 16, 17, 18, 19, 20, 21, 22, 23, 24, 25, 26, 27, 28, 29, 30, 31, 32, 33, 34, 35, 36, 37] (by decide +kernel) (by decide +kernel)
set_option maxRecDepth 20000 in
theorem gX7_credit_X7_outOf : GoodIn wsX7_credit (wsV RX7 169 RX7 yX7_outOf wsX7_outOf) := goodIn_app (goodIn_of _ (by decide +kernel)) ggX7_credit_X7_outOf
theorem dX7_credit_0 : decode cX7_credit 0 = .ok (.iconst 0, 1) := by decide +kernel
theorem dX7_credit_1 : decode cX7_credit 1 = .ok (.aload_n 0, 1) := by decide +kernel
theorem dX7_credit_2 : decode cX7_credit 2 = .ok (.getfield 22, 3) := by decide +kernel
theorem dX7_credit_5 : decode cX7_credit 5 = .ok (.iload_n 1, 1) := by decide +kernel
theorem dX7_credit_6 : decode cX7_credit 6 = .ok (.iload_n 2, 1) := by decide +kernel
theorem dX7_credit_7 : decode cX7_credit 7 = .ok (.invokestatic 163, 3) := by decide +kernel
theorem dX7_credit_10 : decode cX7_credit 10 = .ok (.iconst 3, 1) := by decide +kernel
theorem dX7_credit_11 : decode cX7_credit 11 = .ok (.iadd, 1) := by decide +kernel
theorem dX7_credit_12 : decode cX7_credit 12 = .ok (.iaload, 1) := by decide +kernel
theorem dX7_credit_13 : decode cX7_credit 13 = .ok (.aload_n 0, 1) := by decide +kernel
theorem dX7_credit_14 : decode cX7_credit 14 = .ok (.iload_n 1, 1) := by decide +kernel
theorem dX7_credit_15 : decode cX7_credit 15 = .ok (.iload_n 2, 1) := by decide +kernel
theorem dX7_credit_16 : decode cX7_credit 16 = .ok (.invokevirtual 169, 3) := by decide +kernel
theorem dX7_credit_19 : decode cX7_credit 19 = .ok (.isub, 1) := by decide +kernel
theorem dX7_credit_20 : decode cX7_credit 20 = .ok (.invokestatic 154, 3) := by decide +kernel
theorem dX7_credit_23 : decode cX7_credit 23 = .ok (.ireturn, 1) := by decide +kernel
set_option maxRecDepth 20000 in
theorem ggX7_leftFor_X7_pool : GoodIn wsX7_leftFor wsX7_pool := goodIn_r _ [11, 12, 23, 24, 25, 26, 27, 28, 29, 30, 31, 32, 33, 34, 35, 36, 37, 38, 39, 40, 41, 42, 43] (by decide +kernel) (by decide +kernel)
set_option maxRecDepth 20000 in
theorem gX7_leftFor_X7_pool : GoodIn wsX7_leftFor (wsV RX7 151 RX7 yX7_pool wsX7_pool) := goodIn_app (goodIn_of _ (by decide +kernel)) ggX7_leftFor_X7_pool
set_option maxRecDepth 20000 in
theorem ggX7_leftFor_X7_lane : GoodIn wsX7_leftFor wsX7_lane := goodIn_r _ [15] (by decide +kernel) (by decide +kernel)
set_option maxRecDepth 20000 in
theorem gX7_leftFor_X7_lane : GoodIn wsX7_leftFor (va_wsS RX7 163 yX7_lane wsX7_lane) := goodIn_app (goodIn_of _ (by decide +kernel)) ggX7_leftFor_X7_lane
set_option maxRecDepth 20000 in
theorem ggX7_leftFor_X7_outOf : GoodIn wsX7_leftFor wsX7_outOf := goodIn_r _ [19, 2, 13, 14, 10, 15, 20, 21, 22, 23, 24, 25, 26, 27, 28, 29, 30, 31, 32, 33, 34, 35, 36, 37, 38, 39, 40, 41, 42, 43] (by decide +kernel) (by decide +kernel)
set_option maxRecDepth 20000 in
theorem gX7_leftFor_X7_outOf : GoodIn wsX7_leftFor (wsV RX7 169 RX7 yX7_outOf wsX7_outOf) := goodIn_app (goodIn_of _ (by decide +kernel)) ggX7_leftFor_X7_outOf
theorem dX7_leftFor_0 : decode cX7_leftFor 0 = .ok (.aload_n 0, 1) := by decide +kernel
theorem dX7_leftFor_1 : decode cX7_leftFor 1 = .ok (.iload_n 1, 1) := by decide +kernel
theorem dX7_leftFor_2 : decode cX7_leftFor 2 = .ok (.invokevirtual 151, 3) := by decide +kernel
theorem dX7_leftFor_5 : decode cX7_leftFor 5 = .ok (.istore_n 3, 1) := by decide +kernel
theorem dX7_leftFor_6 : decode cX7_leftFor 6 = .ok (.iconst 0, 1) := by decide +kernel
theorem dX7_leftFor_7 : decode cX7_leftFor 7 = .ok (.istore 4, 2) := by decide +kernel
theorem dX7_leftFor_9 : decode cX7_leftFor 9 = .ok (.iload 4, 2) := by decide +kernel
theorem dX7_leftFor_11 : decode cX7_leftFor 11 = .ok (.aload_n 0, 1) := by decide +kernel
theorem dX7_leftFor_12 : decode cX7_leftFor 12 = .ok (.getfield 127, 3) := by decide +kernel
theorem dX7_leftFor_15 : decode cX7_leftFor 15 = .ok (.if_icmp .ge 45, 3) := by decide +kernel
theorem dX7_leftFor_18 : decode cX7_leftFor 18 = .ok (.iload_n 3, 1) := by decide +kernel
theorem dX7_leftFor_19 : decode cX7_leftFor 19 = .ok (.iload 4, 2) := by decide +kernel
theorem dX7_leftFor_21 : decode cX7_leftFor 21 = .ok (.iload_n 2, 1) := by decide +kernel
theorem dX7_leftFor_22 : decode cX7_leftFor 22 = .ok (.if_icmp .ne 7, 3) := by decide +kernel
theorem dX7_leftFor_25 : decode cX7_leftFor 25 = .ok (.iconst 0, 1) := by decide +kernel
theorem dX7_leftFor_26 : decode cX7_leftFor 26 = .ok (.goto 26, 3) := by decide +kernel
theorem dX7_leftFor_29 : decode cX7_leftFor 29 = .ok (.aload_n 0, 1) := by decide +kernel
theorem dX7_leftFor_30 : decode cX7_leftFor 30 = .ok (.getfield 22, 3) := by decide +kernel
theorem dX7_leftFor_33 : decode cX7_leftFor 33 = .ok (.iload_n 1, 1) := by decide +kernel
theorem dX7_leftFor_34 : decode cX7_leftFor 34 = .ok (.iload 4, 2) := by decide +kernel
theorem dX7_leftFor_36 : decode cX7_leftFor 36 = .ok (.invokestatic 163, 3) := by decide +kernel
theorem dX7_leftFor_39 : decode cX7_leftFor 39 = .ok (.iconst 3, 1) := by decide +kernel
theorem dX7_leftFor_40 : decode cX7_leftFor 40 = .ok (.iadd, 1) := by decide +kernel
theorem dX7_leftFor_41 : decode cX7_leftFor 41 = .ok (.iaload, 1) := by decide +kernel
theorem dX7_leftFor_42 : decode cX7_leftFor 42 = .ok (.aload_n 0, 1) := by decide +kernel
theorem dX7_leftFor_43 : decode cX7_leftFor 43 = .ok (.iload_n 1, 1) := by decide +kernel
theorem dX7_leftFor_44 : decode cX7_leftFor 44 = .ok (.iload 4, 2) := by decide +kernel
theorem dX7_leftFor_46 : decode cX7_leftFor 46 = .ok (.invokevirtual 169, 3) := by decide +kernel
theorem dX7_leftFor_49 : decode cX7_leftFor 49 = .ok (.invokestatic 154, 3) := by decide +kernel
theorem dX7_leftFor_52 : decode cX7_leftFor 52 = .ok (.isub, 1) := by decide +kernel
theorem dX7_leftFor_53 : decode cX7_leftFor 53 = .ok (.istore_n 3, 1) := by decide +kernel
theorem dX7_leftFor_54 : decode cX7_leftFor 54 = .ok (.iinc 4 1, 3) := by decide +kernel
theorem dX7_leftFor_57 : decode cX7_leftFor 57 = .ok (.goto (-48), 3) := by decide +kernel
theorem dX7_leftFor_60 : decode cX7_leftFor 60 = .ok (.iload_n 3, 1) := by decide +kernel
theorem dX7_leftFor_61 : decode cX7_leftFor 61 = .ok (.ireturn, 1) := by decide +kernel
set_option maxRecDepth 20000 in
theorem ggX7_roomFor_X7_lane : GoodIn wsX7_roomFor wsX7_lane := goodIn_r _ [12] (by decide +kernel) (by decide +kernel)
set_option maxRecDepth 20000 in
theorem gX7_roomFor_X7_lane : GoodIn wsX7_roomFor (va_wsS RX7 163 yX7_lane wsX7_lane) := goodIn_app (goodIn_of _ (by decide +kernel)) ggX7_roomFor_X7_lane
set_option maxRecDepth 20000 in
theorem ggX7_roomFor_X7_pool : GoodIn wsX7_roomFor wsX7_pool := goodIn_r _ [16, 17, 30, 31, 32, 33, 34, 35, 36, 37, 38, 39, 40, 41, 42, 43, 44, 45, 46, 47, 48, 49, 50] (by decide +kernel) (by decide +kernel)
set_option maxRecDepth 20000 in
theorem gX7_roomFor_X7_pool : GoodIn wsX7_roomFor (wsV RX7 151 RX7 yX7_pool wsX7_pool) := goodIn_app (goodIn_of _ (by decide +kernel)) ggX7_roomFor_X7_pool
set_option maxRecDepth 20000 in
theorem ggX7_roomFor_X7_leftFor : GoodIn wsX7_roomFor wsX7_leftFor := goodIn_r _ [21, 22, 1, 6, 7, 4, 8, 13, 14, 15, 11, 16, 17, 9, 10, 12, 23, 24, 25, 26, 27, 28, 29, 30, 31, 32, 33, 34, 35, 36, 37, 38, 39, 40, 41, 42, 43, 44, 45, 46, 47, 48, 49, 50] (by decide +kernel) (by decide +kernel)
set_option maxRecDepth 20000 in
theorem gX7_roomFor_X7_leftFor : GoodIn wsX7_roomFor (wsV RX7 172 RX7 yX7_leftFor wsX7_leftFor) := goodIn_app (goodIn_of _ (by decide +kernel)) ggX7_roomFor_X7_leftFor
theorem dX7_roomFor_0 : decode cX7_roomFor 0 = .ok (.aload_n 0, 1) := by decide +kernel
theorem dX7_roomFor_1 : decode cX7_roomFor 1 = .ok (.getfield 22, 3) := by decide +kernel
theorem dX7_roomFor_4 : decode cX7_roomFor 4 = .ok (.iload_n 1, 1) := by decide +kernel
theorem dX7_roomFor_5 : decode cX7_roomFor 5 = .ok (.iload_n 2, 1) := by decide +kernel
theorem dX7_roomFor_6 : decode cX7_roomFor 6 = .ok (.invokestatic 163, 3) := by decide +kernel
theorem dX7_roomFor_9 : decode cX7_roomFor 9 = .ok (.iconst 3, 1) := by decide +kernel
theorem dX7_roomFor_10 : decode cX7_roomFor 10 = .ok (.iadd, 1) := by decide +kernel
theorem dX7_roomFor_11 : decode cX7_roomFor 11 = .ok (.iaload, 1) := by decide +kernel
theorem dX7_roomFor_12 : decode cX7_roomFor 12 = .ok (.aload_n 0, 1) := by decide +kernel
theorem dX7_roomFor_13 : decode cX7_roomFor 13 = .ok (.iload_n 1, 1) := by decide +kernel
theorem dX7_roomFor_14 : decode cX7_roomFor 14 = .ok (.invokevirtual 151, 3) := by decide +kernel
theorem dX7_roomFor_17 : decode cX7_roomFor 17 = .ok (.aload_n 0, 1) := by decide +kernel
theorem dX7_roomFor_18 : decode cX7_roomFor 18 = .ok (.iload_n 1, 1) := by decide +kernel
theorem dX7_roomFor_19 : decode cX7_roomFor 19 = .ok (.iload_n 2, 1) := by decide +kernel
theorem dX7_roomFor_20 : decode cX7_roomFor 20 = .ok (.invokevirtual 172, 3) := by decide +kernel
theorem dX7_roomFor_23 : decode cX7_roomFor 23 = .ok (.invokestatic 175, 3) := by decide +kernel
theorem dX7_roomFor_26 : decode cX7_roomFor 26 = .ok (.invokestatic 154, 3) := by decide +kernel
theorem dX7_roomFor_29 : decode cX7_roomFor 29 = .ok (.ireturn, 1) := by decide +kernel
set_option maxRecDepth 20000 in
theorem ggX7_aimOf_X7_lane : GoodIn wsX7_aimOf wsX7_lane := goodIn_r _ [7] (by decide +kernel) (by decide +kernel)
set_option maxRecDepth 20000 in
theorem gX7_aimOf_X7_lane : GoodIn wsX7_aimOf (va_wsS RX7 163 yX7_lane wsX7_lane) := goodIn_app (goodIn_of _ (by decide +kernel)) ggX7_aimOf_X7_lane
set_option maxRecDepth 20000 in
theorem ggX7_aimOf_X7_pool : GoodIn wsX7_aimOf wsX7_pool := goodIn_r _ [11, 12, 13, 14, 15, 16, 17, 18, 19, 20, 21, 22, 23, 24, 25, 26, 27, 28, 29, 30, 31, 32, 33] (by decide +kernel) (by decide +kernel)
set_option maxRecDepth 20000 in
theorem gX7_aimOf_X7_pool : GoodIn wsX7_aimOf (wsV RX7 151 RX7 yX7_pool wsX7_pool) := goodIn_app (goodIn_of _ (by decide +kernel)) ggX7_aimOf_X7_pool
theorem dX7_aimOf_0 : decode cX7_aimOf 0 = .ok (.iconst 0, 1) := by decide +kernel
theorem dX7_aimOf_1 : decode cX7_aimOf 1 = .ok (.istore_n 3, 1) := by decide +kernel
theorem dX7_aimOf_2 : decode cX7_aimOf 2 = .ok (.iconst 0, 1) := by decide +kernel
theorem dX7_aimOf_3 : decode cX7_aimOf 3 = .ok (.istore 4, 2) := by decide +kernel
theorem dX7_aimOf_5 : decode cX7_aimOf 5 = .ok (.iload 4, 2) := by decide +kernel
theorem dX7_aimOf_7 : decode cX7_aimOf 7 = .ok (.aload_n 0, 1) := by decide +kernel
theorem dX7_aimOf_8 : decode cX7_aimOf 8 = .ok (.getfield 127, 3) := by decide +kernel
theorem dX7_aimOf_11 : decode cX7_aimOf 11 = .ok (.if_icmp .ge 26, 3) := by decide +kernel
theorem dX7_aimOf_14 : decode cX7_aimOf 14 = .ok (.iload_n 3, 1) := by decide +kernel
theorem dX7_aimOf_15 : decode cX7_aimOf 15 = .ok (.aload_n 0, 1) := by decide +kernel
theorem dX7_aimOf_16 : decode cX7_aimOf 16 = .ok (.getfield 22, 3) := by decide +kernel
theorem dX7_aimOf_19 : decode cX7_aimOf 19 = .ok (.iload_n 1, 1) := by decide +kernel
theorem dX7_aimOf_20 : decode cX7_aimOf 20 = .ok (.iload 4, 2) := by decide +kernel
theorem dX7_aimOf_22 : decode cX7_aimOf 22 = .ok (.invokestatic 163, 3) := by decide +kernel
theorem dX7_aimOf_25 : decode cX7_aimOf 25 = .ok (.bipush 6, 2) := by decide +kernel
theorem dX7_aimOf_27 : decode cX7_aimOf 27 = .ok (.iadd, 1) := by decide +kernel
theorem dX7_aimOf_28 : decode cX7_aimOf 28 = .ok (.iaload, 1) := by decide +kernel
theorem dX7_aimOf_29 : decode cX7_aimOf 29 = .ok (.iadd, 1) := by decide +kernel
theorem dX7_aimOf_30 : decode cX7_aimOf 30 = .ok (.istore_n 3, 1) := by decide +kernel
theorem dX7_aimOf_31 : decode cX7_aimOf 31 = .ok (.iinc 4 1, 3) := by decide +kernel
theorem dX7_aimOf_34 : decode cX7_aimOf 34 = .ok (.goto (-29), 3) := by decide +kernel
theorem dX7_aimOf_37 : decode cX7_aimOf 37 = .ok (.aload_n 0, 1) := by decide +kernel
theorem dX7_aimOf_38 : decode cX7_aimOf 38 = .ok (.iload_n 1, 1) := by decide +kernel
theorem dX7_aimOf_39 : decode cX7_aimOf 39 = .ok (.invokevirtual 151, 3) := by decide +kernel
theorem dX7_aimOf_42 : decode cX7_aimOf 42 = .ok (.aload_n 0, 1) := by decide +kernel
theorem dX7_aimOf_43 : decode cX7_aimOf 43 = .ok (.getfield 28, 3) := by decide +kernel
theorem dX7_aimOf_46 : decode cX7_aimOf 46 = .ok (.iconst 0, 1) := by decide +kernel
theorem dX7_aimOf_47 : decode cX7_aimOf 47 = .ok (.iaload, 1) := by decide +kernel
theorem dX7_aimOf_48 : decode cX7_aimOf 48 = .ok (.aload_n 0, 1) := by decide +kernel
theorem dX7_aimOf_49 : decode cX7_aimOf 49 = .ok (.getfield 127, 3) := by decide +kernel
theorem dX7_aimOf_52 : decode cX7_aimOf 52 = .ok (.imul, 1) := by decide +kernel
theorem dX7_aimOf_53 : decode cX7_aimOf 53 = .ok (.isub, 1) := by decide +kernel
theorem dX7_aimOf_54 : decode cX7_aimOf 54 = .ok (.istore 4, 2) := by decide +kernel
theorem dX7_aimOf_56 : decode cX7_aimOf 56 = .ok (.aload_n 0, 1) := by decide +kernel
theorem dX7_aimOf_57 : decode cX7_aimOf 57 = .ok (.getfield 28, 3) := by decide +kernel
theorem dX7_aimOf_60 : decode cX7_aimOf 60 = .ok (.iconst 0, 1) := by decide +kernel
theorem dX7_aimOf_61 : decode cX7_aimOf 61 = .ok (.iaload, 1) := by decide +kernel
theorem dX7_aimOf_62 : decode cX7_aimOf 62 = .ok (.iload_n 3, 1) := by decide +kernel
theorem dX7_aimOf_63 : decode cX7_aimOf 63 = .ok (.ifCond .ne 13, 3) := by decide +kernel
theorem dX7_aimOf_66 : decode cX7_aimOf 66 = .ok (.iload 4, 2) := by decide +kernel
theorem dX7_aimOf_68 : decode cX7_aimOf 68 = .ok (.aload_n 0, 1) := by decide +kernel
theorem dX7_aimOf_69 : decode cX7_aimOf 69 = .ok (.getfield 127, 3) := by decide +kernel
theorem dX7_aimOf_72 : decode cX7_aimOf 72 = .ok (.idiv, 1) := by decide +kernel
theorem dX7_aimOf_73 : decode cX7_aimOf 73 = .ok (.goto 21, 3) := by decide +kernel
theorem dX7_aimOf_76 : decode cX7_aimOf 76 = .ok (.iload 4, 2) := by decide +kernel
theorem dX7_aimOf_78 : decode cX7_aimOf 78 = .ok (.aload_n 0, 1) := by decide +kernel
theorem dX7_aimOf_79 : decode cX7_aimOf 79 = .ok (.getfield 22, 3) := by decide +kernel
theorem dX7_aimOf_82 : decode cX7_aimOf 82 = .ok (.iload_n 1, 1) := by decide +kernel
theorem dX7_aimOf_83 : decode cX7_aimOf 83 = .ok (.iload_n 2, 1) := by decide +kernel
theorem dX7_aimOf_84 : decode cX7_aimOf 84 = .ok (.invokestatic 163, 3) := by decide +kernel
theorem dX7_aimOf_87 : decode cX7_aimOf 87 = .ok (.bipush 6, 2) := by decide +kernel
theorem dX7_aimOf_89 : decode cX7_aimOf 89 = .ok (.iadd, 1) := by decide +kernel
theorem dX7_aimOf_90 : decode cX7_aimOf 90 = .ok (.iaload, 1) := by decide +kernel
theorem dX7_aimOf_91 : decode cX7_aimOf 91 = .ok (.imul, 1) := by decide +kernel
theorem dX7_aimOf_92 : decode cX7_aimOf 92 = .ok (.iload_n 3, 1) := by decide +kernel
theorem dX7_aimOf_93 : decode cX7_aimOf 93 = .ok (.idiv, 1) := by decide +kernel
theorem dX7_aimOf_94 : decode cX7_aimOf 94 = .ok (.iadd, 1) := by decide +kernel
theorem dX7_aimOf_95 : decode cX7_aimOf 95 = .ok (.ireturn, 1) := by decide +kernel
set_option maxRecDepth 20000 in
theorem ggX7_updates_X7_delay : GoodIn wsX7_updates wsX7_delay := goodIn_r _ [6, 7, 14, 15, 16, 17, 18, 19, 20, 21, 22, 23, 24, 25, 26, 27, 28, 29, 30, 31, 32, 33, 34] (by decide +kernel) (by decide +kernel)
set_option maxRecDepth 20000 in
theorem gX7_updates_X7_delay : GoodIn wsX7_updates (wsV RX7 178 RX7 yX7_delay wsX7_delay) := goodIn_app (goodIn_of _ (by decide +kernel)) ggX7_updates_X7_delay
set_option maxRecDepth 20000 in
theorem ggX7_updates_X7_wayAt : GoodIn wsX7_updates wsX7_wayAt := goodIn_r _ [10] (by decide +kernel) (by decide +kernel)
set_option maxRecDepth 20000 in
theorem gX7_updates_X7_wayAt : GoodIn wsX7_updates (va_wsS RX7 140 yX7_wayAt wsX7_wayAt) := goodIn_app (goodIn_of _ (by decide +kernel)) ggX7_updates_X7_wayAt
set_option maxRecDepth 20000 in
theorem ggX7_updates_X7_lane : GoodIn wsX7_updates wsX7_lane := goodIn_r _ [13] (by decide +kernel) (by decide +kernel)
set_option maxRecDepth 20000 in
theorem gX7_updates_X7_lane : GoodIn wsX7_updates (va_wsS RX7 163 yX7_lane wsX7_lane) := goodIn_app (goodIn_of _ (by decide +kernel)) ggX7_updates_X7_lane
theorem dX7_updates_0 : decode cX7_updates 0 = .ok (.aload_n 0, 1) := by decide +kernel
theorem dX7_updates_1 : decode cX7_updates 1 = .ok (.getfield 22, 3) := by decide +kernel
theorem dX7_updates_4 : decode cX7_updates 4 = .ok (.bipush 63, 2) := by decide +kernel
theorem dX7_updates_6 : decode cX7_updates 6 = .ok (.iload_n 1, 1) := by decide +kernel
theorem dX7_updates_7 : decode cX7_updates 7 = .ok (.iadd, 1) := by decide +kernel
theorem dX7_updates_8 : decode cX7_updates 8 = .ok (.iaload, 1) := by decide +kernel
theorem dX7_updates_9 : decode cX7_updates 9 = .ok (.ifCond .le 31, 3) := by decide +kernel
theorem dX7_updates_12 : decode cX7_updates 12 = .ok (.aload_n 0, 1) := by decide +kernel
theorem dX7_updates_13 : decode cX7_updates 13 = .ok (.getfield 22, 3) := by decide +kernel
theorem dX7_updates_16 : decode cX7_updates 16 = .ok (.bipush 63, 2) := by decide +kernel
theorem dX7_updates_18 : decode cX7_updates 18 = .ok (.iload_n 1, 1) := by decide +kernel
theorem dX7_updates_19 : decode cX7_updates 19 = .ok (.iadd, 1) := by decide +kernel
theorem dX7_updates_20 : decode cX7_updates 20 = .ok (.dup2, 1) := by decide +kernel
theorem dX7_updates_21 : decode cX7_updates 21 = .ok (.iaload, 1) := by decide +kernel
theorem dX7_updates_22 : decode cX7_updates 22 = .ok (.iconst 1, 1) := by decide +kernel
theorem dX7_updates_23 : decode cX7_updates 23 = .ok (.isub, 1) := by decide +kernel
theorem dX7_updates_24 : decode cX7_updates 24 = .ok (.iastore, 1) := by decide +kernel
theorem dX7_updates_25 : decode cX7_updates 25 = .ok (.aload_n 0, 1) := by decide +kernel
theorem dX7_updates_26 : decode cX7_updates 26 = .ok (.getfield 22, 3) := by decide +kernel
theorem dX7_updates_29 : decode cX7_updates 29 = .ok (.sipush 1765, 3) := by decide +kernel
theorem dX7_updates_32 : decode cX7_updates 32 = .ok (.dup2, 1) := by decide +kernel
theorem dX7_updates_33 : decode cX7_updates 33 = .ok (.iaload, 1) := by decide +kernel
theorem dX7_updates_34 : decode cX7_updates 34 = .ok (.iconst 1, 1) := by decide +kernel
theorem dX7_updates_35 : decode cX7_updates 35 = .ok (.iadd, 1) := by decide +kernel
theorem dX7_updates_36 : decode cX7_updates 36 = .ok (.iastore, 1) := by decide +kernel
theorem dX7_updates_37 : decode cX7_updates 37 = .ok (.goto 42, 3) := by decide +kernel
theorem dX7_updates_40 : decode cX7_updates 40 = .ok (.aload_n 0, 1) := by decide +kernel
theorem dX7_updates_41 : decode cX7_updates 41 = .ok (.getfield 22, 3) := by decide +kernel
theorem dX7_updates_44 : decode cX7_updates 44 = .ok (.iload_n 1, 1) := by decide +kernel
theorem dX7_updates_45 : decode cX7_updates 45 = .ok (.aload_n 0, 1) := by decide +kernel
theorem dX7_updates_46 : decode cX7_updates 46 = .ok (.getfield 22, 3) := by decide +kernel
theorem dX7_updates_49 : decode cX7_updates 49 = .ok (.sipush 1764, 3) := by decide +kernel
theorem dX7_updates_52 : decode cX7_updates 52 = .ok (.iaload, 1) := by decide +kernel
theorem dX7_updates_53 : decode cX7_updates 53 = .ok (.aload_n 0, 1) := by decide +kernel
theorem dX7_updates_54 : decode cX7_updates 54 = .ok (.iload_n 1, 1) := by decide +kernel
theorem dX7_updates_55 : decode cX7_updates 55 = .ok (.invokevirtual 178, 3) := by decide +kernel
theorem dX7_updates_58 : decode cX7_updates 58 = .ok (.iadd, 1) := by decide +kernel
theorem dX7_updates_59 : decode cX7_updates 59 = .ok (.invokestatic 140, 3) := by decide +kernel
theorem dX7_updates_62 : decode cX7_updates 62 = .ok (.iconst 1, 1) := by decide +kernel
theorem dX7_updates_63 : decode cX7_updates 63 = .ok (.iadd, 1) := by decide +kernel
theorem dX7_updates_64 : decode cX7_updates 64 = .ok (.iload_n 2, 1) := by decide +kernel
theorem dX7_updates_65 : decode cX7_updates 65 = .ok (.iadd, 1) := by decide +kernel
theorem dX7_updates_66 : decode cX7_updates 66 = .ok (.aload_n 0, 1) := by decide +kernel
theorem dX7_updates_67 : decode cX7_updates 67 = .ok (.getfield 22, 3) := by decide +kernel
theorem dX7_updates_70 : decode cX7_updates 70 = .ok (.iload_n 1, 1) := by decide +kernel
theorem dX7_updates_71 : decode cX7_updates 71 = .ok (.iload_n 2, 1) := by decide +kernel
theorem dX7_updates_72 : decode cX7_updates 72 = .ok (.invokestatic 163, 3) := by decide +kernel
theorem dX7_updates_75 : decode cX7_updates 75 = .ok (.iconst 1, 1) := by decide +kernel
theorem dX7_updates_76 : decode cX7_updates 76 = .ok (.iadd, 1) := by decide +kernel
theorem dX7_updates_77 : decode cX7_updates 77 = .ok (.iaload, 1) := by decide +kernel
theorem dX7_updates_78 : decode cX7_updates 78 = .ok (.iastore, 1) := by decide +kernel
theorem dX7_updates_79 : decode cX7_updates 79 = .ok (.return_, 1) := by decide +kernel
set_option maxRecDepth 20000 in
theorem ggX7_goesFrom_X7_lane : GoodIn wsX7_goesFrom wsX7_lane := goodIn_r _ [6] (by decide +kernel) (by decide +kernel)
set_option maxRecDepth 20000 in
theorem gX7_goesFrom_X7_lane : GoodIn wsX7_goesFrom (va_wsS RX7 163 yX7_lane wsX7_lane) := goodIn_app (goodIn_of _ (by decide +kernel)) ggX7_goesFrom_X7_lane
set_option maxRecDepth 20000 in
theorem ggX7_goesFrom_X7_updates : GoodIn wsX7_goesFrom wsX7_updates := goodIn_r _ [10, 1, 11, 12, 13, 5, 14, 2, 15, 16, 17, 3, 4, 6, 18, 19, 20, 21, 22, 23, 24, 25, 26, 27, 28, 29, 30, 31, 32, 33, 34, 35, 36, 37, 38] (by decide +kernel) (by decide +kernel)
set_option maxRecDepth 20000 in
theorem gX7_goesFrom_X7_updates : GoodIn wsX7_goesFrom (wsV RX7 181 RX7 yX7_updates wsX7_updates) := goodIn_app (goodIn_of _ (by decide +kernel)) ggX7_goesFrom_X7_updates
theorem dX7_goesFrom_0 : decode cX7_goesFrom 0 = .ok (.iload_n 1, 1) := by decide +kernel
theorem dX7_goesFrom_1 : decode cX7_goesFrom 1 = .ok (.iload_n 2, 1) := by decide +kernel
theorem dX7_goesFrom_2 : decode cX7_goesFrom 2 = .ok (.invokestatic 163, 3) := by decide +kernel
theorem dX7_goesFrom_5 : decode cX7_goesFrom 5 = .ok (.istore_n 3, 1) := by decide +kernel
theorem dX7_goesFrom_6 : decode cX7_goesFrom 6 = .ok (.aload_n 0, 1) := by decide +kernel
theorem dX7_goesFrom_7 : decode cX7_goesFrom 7 = .ok (.getfield 22, 3) := by decide +kernel
theorem dX7_goesFrom_10 : decode cX7_goesFrom 10 = .ok (.iload_n 3, 1) := by decide +kernel
theorem dX7_goesFrom_11 : decode cX7_goesFrom 11 = .ok (.iconst 1, 1) := by decide +kernel
theorem dX7_goesFrom_12 : decode cX7_goesFrom 12 = .ok (.iadd, 1) := by decide +kernel
theorem dX7_goesFrom_13 : decode cX7_goesFrom 13 = .ok (.aload_n 0, 1) := by decide +kernel
theorem dX7_goesFrom_14 : decode cX7_goesFrom 14 = .ok (.getfield 22, 3) := by decide +kernel
theorem dX7_goesFrom_17 : decode cX7_goesFrom 17 = .ok (.iload_n 3, 1) := by decide +kernel
theorem dX7_goesFrom_18 : decode cX7_goesFrom 18 = .ok (.iconst 1, 1) := by decide +kernel
theorem dX7_goesFrom_19 : decode cX7_goesFrom 19 = .ok (.iadd, 1) := by decide +kernel
theorem dX7_goesFrom_20 : decode cX7_goesFrom 20 = .ok (.iaload, 1) := by decide +kernel
theorem dX7_goesFrom_21 : decode cX7_goesFrom 21 = .ok (.iconst 1, 1) := by decide +kernel
theorem dX7_goesFrom_22 : decode cX7_goesFrom 22 = .ok (.iadd, 1) := by decide +kernel
theorem dX7_goesFrom_23 : decode cX7_goesFrom 23 = .ok (.bipush 64, 2) := by decide +kernel
theorem dX7_goesFrom_25 : decode cX7_goesFrom 25 = .ok (.irem, 1) := by decide +kernel
theorem dX7_goesFrom_26 : decode cX7_goesFrom 26 = .ok (.iastore, 1) := by decide +kernel
theorem dX7_goesFrom_27 : decode cX7_goesFrom 27 = .ok (.aload_n 0, 1) := by decide +kernel
theorem dX7_goesFrom_28 : decode cX7_goesFrom 28 = .ok (.getfield 22, 3) := by decide +kernel
theorem dX7_goesFrom_31 : decode cX7_goesFrom 31 = .ok (.iload_n 3, 1) := by decide +kernel
theorem dX7_goesFrom_32 : decode cX7_goesFrom 32 = .ok (.iconst 5, 1) := by decide +kernel
theorem dX7_goesFrom_33 : decode cX7_goesFrom 33 = .ok (.iadd, 1) := by decide +kernel
theorem dX7_goesFrom_34 : decode cX7_goesFrom 34 = .ok (.dup2, 1) := by decide +kernel
theorem dX7_goesFrom_35 : decode cX7_goesFrom 35 = .ok (.iaload, 1) := by decide +kernel
theorem dX7_goesFrom_36 : decode cX7_goesFrom 36 = .ok (.iconst 1, 1) := by decide +kernel
theorem dX7_goesFrom_37 : decode cX7_goesFrom 37 = .ok (.iadd, 1) := by decide +kernel
theorem dX7_goesFrom_38 : decode cX7_goesFrom 38 = .ok (.iastore, 1) := by decide +kernel
theorem dX7_goesFrom_39 : decode cX7_goesFrom 39 = .ok (.aload_n 0, 1) := by decide +kernel
theorem dX7_goesFrom_40 : decode cX7_goesFrom 40 = .ok (.getfield 22, 3) := by decide +kernel
theorem dX7_goesFrom_43 : decode cX7_goesFrom 43 = .ok (.iload_n 3, 1) := by decide +kernel
theorem dX7_goesFrom_44 : decode cX7_goesFrom 44 = .ok (.iconst 5, 1) := by decide +kernel
theorem dX7_goesFrom_45 : decode cX7_goesFrom 45 = .ok (.iadd, 1) := by decide +kernel
theorem dX7_goesFrom_46 : decode cX7_goesFrom 46 = .ok (.iaload, 1) := by decide +kernel
theorem dX7_goesFrom_47 : decode cX7_goesFrom 47 = .ok (.aload_n 0, 1) := by decide +kernel
theorem dX7_goesFrom_48 : decode cX7_goesFrom 48 = .ok (.getfield 31, 3) := by decide +kernel
theorem dX7_goesFrom_51 : decode cX7_goesFrom 51 = .ok (.iconst 3, 1) := by decide +kernel
theorem dX7_goesFrom_52 : decode cX7_goesFrom 52 = .ok (.iload_n 1, 1) := by decide +kernel
theorem dX7_goesFrom_53 : decode cX7_goesFrom 53 = .ok (.imul, 1) := by decide +kernel
theorem dX7_goesFrom_54 : decode cX7_goesFrom 54 = .ok (.iconst 2, 1) := by decide +kernel
theorem dX7_goesFrom_55 : decode cX7_goesFrom 55 = .ok (.iadd, 1) := by decide +kernel
theorem dX7_goesFrom_56 : decode cX7_goesFrom 56 = .ok (.iaload, 1) := by decide +kernel
theorem dX7_goesFrom_57 : decode cX7_goesFrom 57 = .ok (.if_icmp .ne 18, 3) := by decide +kernel
theorem dX7_goesFrom_60 : decode cX7_goesFrom 60 = .ok (.aload_n 0, 1) := by decide +kernel
theorem dX7_goesFrom_61 : decode cX7_goesFrom 61 = .ok (.getfield 22, 3) := by decide +kernel
theorem dX7_goesFrom_64 : decode cX7_goesFrom 64 = .ok (.iload_n 3, 1) := by decide +kernel
theorem dX7_goesFrom_65 : decode cX7_goesFrom 65 = .ok (.iconst 5, 1) := by decide +kernel
theorem dX7_goesFrom_66 : decode cX7_goesFrom 66 = .ok (.iadd, 1) := by decide +kernel
theorem dX7_goesFrom_67 : decode cX7_goesFrom 67 = .ok (.iconst 0, 1) := by decide +kernel
theorem dX7_goesFrom_68 : decode cX7_goesFrom 68 = .ok (.iastore, 1) := by decide +kernel
theorem dX7_goesFrom_69 : decode cX7_goesFrom 69 = .ok (.aload_n 0, 1) := by decide +kernel
theorem dX7_goesFrom_70 : decode cX7_goesFrom 70 = .ok (.iload_n 1, 1) := by decide +kernel
theorem dX7_goesFrom_71 : decode cX7_goesFrom 71 = .ok (.iload_n 2, 1) := by decide +kernel
theorem dX7_goesFrom_72 : decode cX7_goesFrom 72 = .ok (.invokevirtual 181, 3) := by decide +kernel
theorem dX7_goesFrom_75 : decode cX7_goesFrom 75 = .ok (.return_, 1) := by decide +kernel
set_option maxRecDepth 20000 in
theorem ggX7_probes_X7_delay : GoodIn wsX7_probes wsX7_delay := goodIn_r _ [6, 7, 14, 15, 16, 17, 18, 19, 20, 21, 22, 23, 24, 25, 26, 27, 28, 29, 30, 31, 32, 33, 34] (by decide +kernel) (by decide +kernel)
set_option maxRecDepth 20000 in
theorem gX7_probes_X7_delay : GoodIn wsX7_probes (wsV RX7 178 RX7 yX7_delay wsX7_delay) := goodIn_app (goodIn_of _ (by decide +kernel)) ggX7_probes_X7_delay
set_option maxRecDepth 20000 in
theorem ggX7_probes_X7_wayAt : GoodIn wsX7_probes wsX7_wayAt := goodIn_r _ [10] (by decide +kernel) (by decide +kernel)
set_option maxRecDepth 20000 in
theorem gX7_probes_X7_wayAt : GoodIn wsX7_probes (va_wsS RX7 140 yX7_wayAt wsX7_wayAt) := goodIn_app (goodIn_of _ (by decide +kernel)) ggX7_probes_X7_wayAt
set_option maxRecDepth 20000 in
theorem ggX7_probes_X7_lane : GoodIn wsX7_probes wsX7_lane := goodIn_r _ [13] (by decide +kernel) (by decide +kernel)
set_option maxRecDepth 20000 in
theorem gX7_probes_X7_lane : GoodIn wsX7_probes (va_wsS RX7 163 yX7_lane wsX7_lane) := goodIn_app (goodIn_of _ (by decide +kernel)) ggX7_probes_X7_lane
theorem dX7_probes_0 : decode cX7_probes 0 = .ok (.aload_n 0, 1) := by decide +kernel
theorem dX7_probes_1 : decode cX7_probes 1 = .ok (.getfield 22, 3) := by decide +kernel
theorem dX7_probes_4 : decode cX7_probes 4 = .ok (.iload_n 1, 1) := by decide +kernel
theorem dX7_probes_5 : decode cX7_probes 5 = .ok (.aload_n 0, 1) := by decide +kernel
theorem dX7_probes_6 : decode cX7_probes 6 = .ok (.getfield 22, 3) := by decide +kernel
theorem dX7_probes_9 : decode cX7_probes 9 = .ok (.sipush 1764, 3) := by decide +kernel
theorem dX7_probes_12 : decode cX7_probes 12 = .ok (.iaload, 1) := by decide +kernel
theorem dX7_probes_13 : decode cX7_probes 13 = .ok (.aload_n 0, 1) := by decide +kernel
theorem dX7_probes_14 : decode cX7_probes 14 = .ok (.iload_n 1, 1) := by decide +kernel
theorem dX7_probes_15 : decode cX7_probes 15 = .ok (.invokevirtual 178, 3) := by decide +kernel
theorem dX7_probes_18 : decode cX7_probes 18 = .ok (.iadd, 1) := by decide +kernel
theorem dX7_probes_19 : decode cX7_probes 19 = .ok (.invokestatic 140, 3) := by decide +kernel
theorem dX7_probes_22 : decode cX7_probes 22 = .ok (.iconst 4, 1) := by decide +kernel
theorem dX7_probes_23 : decode cX7_probes 23 = .ok (.iadd, 1) := by decide +kernel
theorem dX7_probes_24 : decode cX7_probes 24 = .ok (.dup2, 1) := by decide +kernel
theorem dX7_probes_25 : decode cX7_probes 25 = .ok (.iaload, 1) := by decide +kernel
theorem dX7_probes_26 : decode cX7_probes 26 = .ok (.iconst 1, 1) := by decide +kernel
theorem dX7_probes_27 : decode cX7_probes 27 = .ok (.iload_n 2, 1) := by decide +kernel
theorem dX7_probes_28 : decode cX7_probes 28 = .ok (.ishl, 1) := by decide +kernel
theorem dX7_probes_29 : decode cX7_probes 29 = .ok (.ior, 1) := by decide +kernel
theorem dX7_probes_30 : decode cX7_probes 30 = .ok (.iastore, 1) := by decide +kernel
theorem dX7_probes_31 : decode cX7_probes 31 = .ok (.aload_n 0, 1) := by decide +kernel
theorem dX7_probes_32 : decode cX7_probes 32 = .ok (.getfield 22, 3) := by decide +kernel
theorem dX7_probes_35 : decode cX7_probes 35 = .ok (.sipush 1766, 3) := by decide +kernel
theorem dX7_probes_38 : decode cX7_probes 38 = .ok (.dup2, 1) := by decide +kernel
theorem dX7_probes_39 : decode cX7_probes 39 = .ok (.iaload, 1) := by decide +kernel
theorem dX7_probes_40 : decode cX7_probes 40 = .ok (.iconst 1, 1) := by decide +kernel
theorem dX7_probes_41 : decode cX7_probes 41 = .ok (.iadd, 1) := by decide +kernel
theorem dX7_probes_42 : decode cX7_probes 42 = .ok (.iastore, 1) := by decide +kernel
theorem dX7_probes_43 : decode cX7_probes 43 = .ok (.aload_n 0, 1) := by decide +kernel
theorem dX7_probes_44 : decode cX7_probes 44 = .ok (.getfield 22, 3) := by decide +kernel
theorem dX7_probes_47 : decode cX7_probes 47 = .ok (.iload_n 1, 1) := by decide +kernel
theorem dX7_probes_48 : decode cX7_probes 48 = .ok (.iload_n 2, 1) := by decide +kernel
theorem dX7_probes_49 : decode cX7_probes 49 = .ok (.invokestatic 163, 3) := by decide +kernel
theorem dX7_probes_52 : decode cX7_probes 52 = .ok (.iconst 4, 1) := by decide +kernel
theorem dX7_probes_53 : decode cX7_probes 53 = .ok (.iadd, 1) := by decide +kernel
theorem dX7_probes_54 : decode cX7_probes 54 = .ok (.iconst 0, 1) := by decide +kernel
theorem dX7_probes_55 : decode cX7_probes 55 = .ok (.iastore, 1) := by decide +kernel
theorem dX7_probes_56 : decode cX7_probes 56 = .ok (.return_, 1) := by decide +kernel
set_option maxRecDepth 20000 in
theorem ggX7_arrives_X7_wayAt : GoodIn wsX7_arrives wsX7_wayAt := goodIn_r _ [6] (by decide +kernel) (by decide +kernel)
set_option maxRecDepth 20000 in
theorem gX7_arrives_X7_wayAt : GoodIn wsX7_arrives (va_wsS RX7 140 yX7_wayAt wsX7_wayAt) := goodIn_app (goodIn_of _ (by decide +kernel)) ggX7_arrives_X7_wayAt
set_option maxRecDepth 20000 in
theorem ggX7_arrives_X7_bufferAt : GoodIn wsX7_arrives wsX7_bufferAt := goodIn_r _ [9] (by decide +kernel) (by decide +kernel)
set_option maxRecDepth 20000 in
theorem gX7_arrives_X7_bufferAt : GoodIn wsX7_arrives (va_wsS RX7 184 yX7_bufferAt wsX7_bufferAt) := goodIn_app (goodIn_of _ (by decide +kernel)) ggX7_arrives_X7_bufferAt
set_option maxRecDepth 20000 in
theorem ggX7_arrives_X7_lane : GoodIn wsX7_arrives wsX7_lane := goodIn_r _ [12] (by decide +kernel) (by decide +kernel)
set_option maxRecDepth 20000 in
theorem gX7_arrives_X7_lane : GoodIn wsX7_arrives (va_wsS RX7 163 yX7_lane wsX7_lane) := goodIn_app (goodIn_of _ (by decide +kernel)) ggX7_arrives_X7_lane
set_option maxRecDepth 20000 in
theorem ggX7_arrives_X7_less : GoodIn wsX7_arrives wsX7_less := goodIn_r _ [15] (by decide +kernel) (by decide +kernel)
set_option maxRecDepth 20000 in
theorem gX7_arrives_X7_less : GoodIn wsX7_arrives (va_wsS RX7 166 yX7_less wsX7_less) := goodIn_app (goodIn_of _ (by decide +kernel)) ggX7_arrives_X7_less
set_option maxRecDepth 20000 in
theorem ggX7_arrives_X7_clearsWay : GoodIn wsX7_arrives wsX7_clearsWay := goodIn_r _ [19, 1, 3, 4, 5, 6, 32, 33, 34, 35, 36, 37, 38, 39, 40, 41, 42, 43, 44, 45, 46, 47, 48, 49, 50, 51, 52] (by decide +kernel) (by decide +kernel)
set_option maxRecDepth 20000 in
theorem gX7_arrives_X7_clearsWay : GoodIn wsX7_arrives (wsV RX7 159 RX7 yX7_clearsWay wsX7_clearsWay) := goodIn_app (goodIn_of _ (by decide +kernel)) ggX7_arrives_X7_clearsWay
set_option maxRecDepth 20000 in
theorem ggX7_arrives_X7_has : GoodIn wsX7_arrives wsX7_has := goodIn_r _ [22] (by decide +kernel) (by decide +kernel)
set_option maxRecDepth 20000 in
theorem gX7_arrives_X7_has : GoodIn wsX7_arrives (va_wsS RX7 95 yX7_has wsX7_has) := goodIn_app (goodIn_of _ (by decide +kernel)) ggX7_arrives_X7_has
set_option maxRecDepth 20000 in
theorem ggX7_arrives_X7_updates : GoodIn wsX7_arrives wsX7_updates := goodIn_r _ [26, 1, 27, 28, 29, 5, 30, 31, 3, 4, 6, 10, 11, 12, 32, 33, 34, 35, 36, 37, 38, 39, 40, 41, 42, 43, 44, 45, 46, 47, 48, 49, 50, 51, 52] (by decide +kernel) (by decide +kernel)
set_option maxRecDepth 20000 in
theorem gX7_arrives_X7_updates : GoodIn wsX7_arrives (wsV RX7 181 RX7 yX7_updates wsX7_updates) := goodIn_app (goodIn_of _ (by decide +kernel)) ggX7_arrives_X7_updates
theorem dX7_arrives_0 : decode cX7_arrives 0 = .ok (.iload_n 1, 1) := by decide +kernel
theorem dX7_arrives_1 : decode cX7_arrives 1 = .ok (.aload_n 0, 1) := by decide +kernel
theorem dX7_arrives_2 : decode cX7_arrives 2 = .ok (.getfield 22, 3) := by decide +kernel
theorem dX7_arrives_5 : decode cX7_arrives 5 = .ok (.sipush 1764, 3) := by decide +kernel
theorem dX7_arrives_8 : decode cX7_arrives 8 = .ok (.iaload, 1) := by decide +kernel
theorem dX7_arrives_9 : decode cX7_arrives 9 = .ok (.invokestatic 140, 3) := by decide +kernel
theorem dX7_arrives_12 : decode cX7_arrives 12 = .ok (.istore_n 2, 1) := by decide +kernel
theorem dX7_arrives_13 : decode cX7_arrives 13 = .ok (.aload_n 0, 1) := by decide +kernel
theorem dX7_arrives_14 : decode cX7_arrives 14 = .ok (.getfield 22, 3) := by decide +kernel
theorem dX7_arrives_17 : decode cX7_arrives 17 = .ok (.iload_n 2, 1) := by decide +kernel
theorem dX7_arrives_18 : decode cX7_arrives 18 = .ok (.iconst 0, 1) := by decide +kernel
theorem dX7_arrives_19 : decode cX7_arrives 19 = .ok (.iadd, 1) := by decide +kernel
theorem dX7_arrives_20 : decode cX7_arrives 20 = .ok (.iaload, 1) := by decide +kernel
theorem dX7_arrives_21 : decode cX7_arrives 21 = .ok (.istore_n 3, 1) := by decide +kernel
theorem dX7_arrives_22 : decode cX7_arrives 22 = .ok (.iload_n 3, 1) := by decide +kernel
theorem dX7_arrives_23 : decode cX7_arrives 23 = .ok (.iconst (-1), 1) := by decide +kernel
theorem dX7_arrives_24 : decode cX7_arrives 24 = .ok (.if_icmp .eq 19, 3) := by decide +kernel
theorem dX7_arrives_27 : decode cX7_arrives 27 = .ok (.aload_n 0, 1) := by decide +kernel
theorem dX7_arrives_28 : decode cX7_arrives 28 = .ok (.getfield 22, 3) := by decide +kernel
theorem dX7_arrives_31 : decode cX7_arrives 31 = .ok (.iload_n 1, 1) := by decide +kernel
theorem dX7_arrives_32 : decode cX7_arrives 32 = .ok (.iconst 1, 1) := by decide +kernel
theorem dX7_arrives_33 : decode cX7_arrives 33 = .ok (.iadd, 1) := by decide +kernel
theorem dX7_arrives_34 : decode cX7_arrives 34 = .ok (.iload_n 3, 1) := by decide +kernel
theorem dX7_arrives_35 : decode cX7_arrives 35 = .ok (.invokestatic 184, 3) := by decide +kernel
theorem dX7_arrives_38 : decode cX7_arrives 38 = .ok (.dup2, 1) := by decide +kernel
theorem dX7_arrives_39 : decode cX7_arrives 39 = .ok (.iaload, 1) := by decide +kernel
theorem dX7_arrives_40 : decode cX7_arrives 40 = .ok (.iconst 1, 1) := by decide +kernel
theorem dX7_arrives_41 : decode cX7_arrives 41 = .ok (.iadd, 1) := by decide +kernel
theorem dX7_arrives_42 : decode cX7_arrives 42 = .ok (.iastore, 1) := by decide +kernel
theorem dX7_arrives_43 : decode cX7_arrives 43 = .ok (.iconst 0, 1) := by decide +kernel
theorem dX7_arrives_44 : decode cX7_arrives 44 = .ok (.istore 4, 2) := by decide +kernel
theorem dX7_arrives_46 : decode cX7_arrives 46 = .ok (.iload 4, 2) := by decide +kernel
theorem dX7_arrives_48 : decode cX7_arrives 48 = .ok (.aload_n 0, 1) := by decide +kernel
theorem dX7_arrives_49 : decode cX7_arrives 49 = .ok (.getfield 127, 3) := by decide +kernel
theorem dX7_arrives_52 : decode cX7_arrives 52 = .ok (.if_icmp .ge 66, 3) := by decide +kernel
theorem dX7_arrives_55 : decode cX7_arrives 55 = .ok (.aload_n 0, 1) := by decide +kernel
theorem dX7_arrives_56 : decode cX7_arrives 56 = .ok (.getfield 22, 3) := by decide +kernel
theorem dX7_arrives_59 : decode cX7_arrives 59 = .ok (.iload_n 2, 1) := by decide +kernel
theorem dX7_arrives_60 : decode cX7_arrives 60 = .ok (.iconst 1, 1) := by decide +kernel
theorem dX7_arrives_61 : decode cX7_arrives 61 = .ok (.iadd, 1) := by decide +kernel
theorem dX7_arrives_62 : decode cX7_arrives 62 = .ok (.iload 4, 2) := by decide +kernel
theorem dX7_arrives_64 : decode cX7_arrives 64 = .ok (.iadd, 1) := by decide +kernel
theorem dX7_arrives_65 : decode cX7_arrives 65 = .ok (.iaload, 1) := by decide +kernel
theorem dX7_arrives_66 : decode cX7_arrives 66 = .ok (.istore 5, 2) := by decide +kernel
theorem dX7_arrives_68 : decode cX7_arrives 68 = .ok (.iload 5, 2) := by decide +kernel
theorem dX7_arrives_70 : decode cX7_arrives 70 = .ok (.iconst (-1), 1) := by decide +kernel
theorem dX7_arrives_71 : decode cX7_arrives 71 = .ok (.if_icmp .eq 41, 3) := by decide +kernel
theorem dX7_arrives_74 : decode cX7_arrives 74 = .ok (.iload 5, 2) := by decide +kernel
theorem dX7_arrives_76 : decode cX7_arrives 76 = .ok (.aload_n 0, 1) := by decide +kernel
theorem dX7_arrives_77 : decode cX7_arrives 77 = .ok (.getfield 22, 3) := by decide +kernel
theorem dX7_arrives_80 : decode cX7_arrives 80 = .ok (.iload_n 1, 1) := by decide +kernel
theorem dX7_arrives_81 : decode cX7_arrives 81 = .ok (.iload 4, 2) := by decide +kernel
theorem dX7_arrives_83 : decode cX7_arrives 83 = .ok (.invokestatic 163, 3) := by decide +kernel
theorem dX7_arrives_86 : decode cX7_arrives 86 = .ok (.iconst 2, 1) := by decide +kernel
theorem dX7_arrives_87 : decode cX7_arrives 87 = .ok (.iadd, 1) := by decide +kernel
theorem dX7_arrives_88 : decode cX7_arrives 88 = .ok (.iaload, 1) := by decide +kernel
theorem dX7_arrives_89 : decode cX7_arrives 89 = .ok (.invokestatic 166, 3) := by decide +kernel
theorem dX7_arrives_92 : decode cX7_arrives 92 = .ok (.bipush 32, 2) := by decide +kernel
theorem dX7_arrives_94 : decode cX7_arrives 94 = .ok (.if_icmp .ge 18, 3) := by decide +kernel
theorem dX7_arrives_97 : decode cX7_arrives 97 = .ok (.aload_n 0, 1) := by decide +kernel
theorem dX7_arrives_98 : decode cX7_arrives 98 = .ok (.getfield 22, 3) := by decide +kernel
theorem dX7_arrives_101 : decode cX7_arrives 101 = .ok (.iload_n 1, 1) := by decide +kernel
theorem dX7_arrives_102 : decode cX7_arrives 102 = .ok (.iload 4, 2) := by decide +kernel
theorem dX7_arrives_104 : decode cX7_arrives 104 = .ok (.invokestatic 163, 3) := by decide +kernel
theorem dX7_arrives_107 : decode cX7_arrives 107 = .ok (.iconst 2, 1) := by decide +kernel
theorem dX7_arrives_108 : decode cX7_arrives 108 = .ok (.iadd, 1) := by decide +kernel
theorem dX7_arrives_109 : decode cX7_arrives 109 = .ok (.iload 5, 2) := by decide +kernel
theorem dX7_arrives_111 : decode cX7_arrives 111 = .ok (.iastore, 1) := by decide +kernel
theorem dX7_arrives_112 : decode cX7_arrives 112 = .ok (.iinc 4 1, 3) := by decide +kernel
theorem dX7_arrives_115 : decode cX7_arrives 115 = .ok (.goto (-69), 3) := by decide +kernel
theorem dX7_arrives_118 : decode cX7_arrives 118 = .ok (.aload_n 0, 1) := by decide +kernel
theorem dX7_arrives_119 : decode cX7_arrives 119 = .ok (.getfield 22, 3) := by decide +kernel
theorem dX7_arrives_122 : decode cX7_arrives 122 = .ok (.iload_n 2, 1) := by decide +kernel
theorem dX7_arrives_123 : decode cX7_arrives 123 = .ok (.iconst 4, 1) := by decide +kernel
theorem dX7_arrives_124 : decode cX7_arrives 124 = .ok (.iadd, 1) := by decide +kernel
theorem dX7_arrives_125 : decode cX7_arrives 125 = .ok (.iaload, 1) := by decide +kernel
theorem dX7_arrives_126 : decode cX7_arrives 126 = .ok (.istore 4, 2) := by decide +kernel
theorem dX7_arrives_128 : decode cX7_arrives 128 = .ok (.aload_n 0, 1) := by decide +kernel
theorem dX7_arrives_129 : decode cX7_arrives 129 = .ok (.iload_n 1, 1) := by decide +kernel
theorem dX7_arrives_130 : decode cX7_arrives 130 = .ok (.aload_n 0, 1) := by decide +kernel
theorem dX7_arrives_131 : decode cX7_arrives 131 = .ok (.getfield 22, 3) := by decide +kernel
theorem dX7_arrives_134 : decode cX7_arrives 134 = .ok (.sipush 1764, 3) := by decide +kernel
theorem dX7_arrives_137 : decode cX7_arrives 137 = .ok (.iaload, 1) := by decide +kernel
theorem dX7_arrives_138 : decode cX7_arrives 138 = .ok (.invokevirtual 159, 3) := by decide +kernel
theorem dX7_arrives_141 : decode cX7_arrives 141 = .ok (.iconst 0, 1) := by decide +kernel
theorem dX7_arrives_142 : decode cX7_arrives 142 = .ok (.istore 5, 2) := by decide +kernel
theorem dX7_arrives_144 : decode cX7_arrives 144 = .ok (.iload 5, 2) := by decide +kernel
theorem dX7_arrives_146 : decode cX7_arrives 146 = .ok (.aload_n 0, 1) := by decide +kernel
theorem dX7_arrives_147 : decode cX7_arrives 147 = .ok (.getfield 127, 3) := by decide +kernel
theorem dX7_arrives_150 : decode cX7_arrives 150 = .ok (.if_icmp .ge 26, 3) := by decide +kernel
theorem dX7_arrives_153 : decode cX7_arrives 153 = .ok (.iload 4, 2) := by decide +kernel
theorem dX7_arrives_155 : decode cX7_arrives 155 = .ok (.iload 5, 2) := by decide +kernel
theorem dX7_arrives_157 : decode cX7_arrives 157 = .ok (.invokestatic 95, 3) := by decide +kernel
theorem dX7_arrives_160 : decode cX7_arrives 160 = .ok (.ifCond .eq 10, 3) := by decide +kernel
theorem dX7_arrives_163 : decode cX7_arrives 163 = .ok (.aload_n 0, 1) := by decide +kernel
theorem dX7_arrives_164 : decode cX7_arrives 164 = .ok (.iload_n 1, 1) := by decide +kernel
theorem dX7_arrives_165 : decode cX7_arrives 165 = .ok (.iload 5, 2) := by decide +kernel
theorem dX7_arrives_167 : decode cX7_arrives 167 = .ok (.invokevirtual 181, 3) := by decide +kernel
theorem dX7_arrives_170 : decode cX7_arrives 170 = .ok (.iinc 5 1, 3) := by decide +kernel
theorem dX7_arrives_173 : decode cX7_arrives 173 = .ok (.goto (-29), 3) := by decide +kernel
theorem dX7_arrives_176 : decode cX7_arrives 176 = .ok (.return_, 1) := by decide +kernel
set_option maxRecDepth 20000 in
theorem ggX7_comes_X7_circuitAt : GoodIn wsX7_comes wsX7_circuitAt := goodIn_r _ [5] (by decide +kernel) (by decide +kernel)
set_option maxRecDepth 20000 in
theorem gX7_comes_X7_circuitAt : GoodIn wsX7_comes (va_wsS RX7 147 yX7_circuitAt wsX7_circuitAt) := goodIn_app (goodIn_of _ (by decide +kernel)) ggX7_comes_X7_circuitAt
set_option maxRecDepth 20000 in
theorem ggX7_comes_X7_bufferAt : GoodIn wsX7_comes wsX7_bufferAt := goodIn_r _ [8] (by decide +kernel) (by decide +kernel)
set_option maxRecDepth 20000 in
theorem gX7_comes_X7_bufferAt : GoodIn wsX7_comes (va_wsS RX7 184 yX7_bufferAt wsX7_bufferAt) := goodIn_app (goodIn_of _ (by decide +kernel)) ggX7_comes_X7_bufferAt
theorem dX7_comes_0 : decode cX7_comes 0 = .ok (.iload_n 1, 1) := by decide +kernel
theorem dX7_comes_1 : decode cX7_comes 1 = .ok (.invokestatic 147, 3) := by decide +kernel
theorem dX7_comes_4 : decode cX7_comes 4 = .ok (.istore_n 2, 1) := by decide +kernel
theorem dX7_comes_5 : decode cX7_comes 5 = .ok (.aload_n 0, 1) := by decide +kernel
theorem dX7_comes_6 : decode cX7_comes 6 = .ok (.getfield 22, 3) := by decide +kernel
theorem dX7_comes_9 : decode cX7_comes 9 = .ok (.iload_n 2, 1) := by decide +kernel
theorem dX7_comes_10 : decode cX7_comes 10 = .ok (.iconst 0, 1) := by decide +kernel
theorem dX7_comes_11 : decode cX7_comes 11 = .ok (.iadd, 1) := by decide +kernel
theorem dX7_comes_12 : decode cX7_comes 12 = .ok (.iaload, 1) := by decide +kernel
theorem dX7_comes_13 : decode cX7_comes 13 = .ok (.istore_n 3, 1) := by decide +kernel
theorem dX7_comes_14 : decode cX7_comes 14 = .ok (.aload_n 0, 1) := by decide +kernel
theorem dX7_comes_15 : decode cX7_comes 15 = .ok (.getfield 22, 3) := by decide +kernel
theorem dX7_comes_18 : decode cX7_comes 18 = .ok (.sipush 1764, 3) := by decide +kernel
theorem dX7_comes_21 : decode cX7_comes 21 = .ok (.iaload, 1) := by decide +kernel
theorem dX7_comes_22 : decode cX7_comes 22 = .ok (.aload_n 0, 1) := by decide +kernel
theorem dX7_comes_23 : decode cX7_comes 23 = .ok (.getfield 22, 3) := by decide +kernel
theorem dX7_comes_26 : decode cX7_comes 26 = .ok (.iload_n 2, 1) := by decide +kernel
theorem dX7_comes_27 : decode cX7_comes 27 = .ok (.iconst 1, 1) := by decide +kernel
theorem dX7_comes_28 : decode cX7_comes 28 = .ok (.iadd, 1) := by decide +kernel
theorem dX7_comes_29 : decode cX7_comes 29 = .ok (.iaload, 1) := by decide +kernel
theorem dX7_comes_30 : decode cX7_comes 30 = .ok (.isub, 1) := by decide +kernel
theorem dX7_comes_31 : decode cX7_comes 31 = .ok (.istore 4, 2) := by decide +kernel
theorem dX7_comes_33 : decode cX7_comes 33 = .ok (.iload_n 3, 1) := by decide +kernel
theorem dX7_comes_34 : decode cX7_comes 34 = .ok (.ifCond .eq 15, 3) := by decide +kernel
theorem dX7_comes_37 : decode cX7_comes 37 = .ok (.iload 4, 2) := by decide +kernel
theorem dX7_comes_39 : decode cX7_comes 39 = .ok (.ifCond .lt 10, 3) := by decide +kernel
theorem dX7_comes_42 : decode cX7_comes 42 = .ok (.iload 4, 2) := by decide +kernel
theorem dX7_comes_44 : decode cX7_comes 44 = .ok (.iload_n 3, 1) := by decide +kernel
theorem dX7_comes_45 : decode cX7_comes 45 = .ok (.irem, 1) := by decide +kernel
theorem dX7_comes_46 : decode cX7_comes 46 = .ok (.ifCond .eq 4, 3) := by decide +kernel
theorem dX7_comes_49 : decode cX7_comes 49 = .ok (.return_, 1) := by decide +kernel
theorem dX7_comes_50 : decode cX7_comes 50 = .ok (.aload_n 0, 1) := by decide +kernel
theorem dX7_comes_51 : decode cX7_comes 51 = .ok (.getfield 22, 3) := by decide +kernel
theorem dX7_comes_54 : decode cX7_comes 54 = .ok (.iconst 0, 1) := by decide +kernel
theorem dX7_comes_55 : decode cX7_comes 55 = .ok (.iload_n 1, 1) := by decide +kernel
theorem dX7_comes_56 : decode cX7_comes 56 = .ok (.invokestatic 184, 3) := by decide +kernel
theorem dX7_comes_59 : decode cX7_comes 59 = .ok (.iaload, 1) := by decide +kernel
theorem dX7_comes_60 : decode cX7_comes 60 = .ok (.bipush 99, 2) := by decide +kernel
theorem dX7_comes_62 : decode cX7_comes 62 = .ok (.if_icmp .ne 16, 3) := by decide +kernel
theorem dX7_comes_65 : decode cX7_comes 65 = .ok (.aload_n 0, 1) := by decide +kernel
theorem dX7_comes_66 : decode cX7_comes 66 = .ok (.getfield 22, 3) := by decide +kernel
theorem dX7_comes_69 : decode cX7_comes 69 = .ok (.iload_n 2, 1) := by decide +kernel
theorem dX7_comes_70 : decode cX7_comes 70 = .ok (.iconst 4, 1) := by decide +kernel
theorem dX7_comes_71 : decode cX7_comes 71 = .ok (.iadd, 1) := by decide +kernel
theorem dX7_comes_72 : decode cX7_comes 72 = .ok (.dup2, 1) := by decide +kernel
theorem dX7_comes_73 : decode cX7_comes 73 = .ok (.iaload, 1) := by decide +kernel
theorem dX7_comes_74 : decode cX7_comes 74 = .ok (.iconst 1, 1) := by decide +kernel
theorem dX7_comes_75 : decode cX7_comes 75 = .ok (.iadd, 1) := by decide +kernel
theorem dX7_comes_76 : decode cX7_comes 76 = .ok (.iastore, 1) := by decide +kernel
theorem dX7_comes_77 : decode cX7_comes 77 = .ok (.return_, 1) := by decide +kernel
theorem dX7_comes_78 : decode cX7_comes 78 = .ok (.aload_n 0, 1) := by decide +kernel
theorem dX7_comes_79 : decode cX7_comes 79 = .ok (.getfield 22, 3) := by decide +kernel
theorem dX7_comes_82 : decode cX7_comes 82 = .ok (.sipush 228, 3) := by decide +kernel
theorem dX7_comes_85 : decode cX7_comes 85 = .ok (.sipush 512, 3) := by decide +kernel
theorem dX7_comes_88 : decode cX7_comes 88 = .ok (.iload_n 1, 1) := by decide +kernel
theorem dX7_comes_89 : decode cX7_comes 89 = .ok (.imul, 1) := by decide +kernel
theorem dX7_comes_90 : decode cX7_comes 90 = .ok (.iadd, 1) := by decide +kernel
theorem dX7_comes_91 : decode cX7_comes 91 = .ok (.aload_n 0, 1) := by decide +kernel
theorem dX7_comes_92 : decode cX7_comes 92 = .ok (.getfield 22, 3) := by decide +kernel
theorem dX7_comes_95 : decode cX7_comes 95 = .ok (.iload_n 2, 1) := by decide +kernel
theorem dX7_comes_96 : decode cX7_comes 96 = .ok (.iconst 3, 1) := by decide +kernel
theorem dX7_comes_97 : decode cX7_comes 97 = .ok (.iadd, 1) := by decide +kernel
theorem dX7_comes_98 : decode cX7_comes 98 = .ok (.iaload, 1) := by decide +kernel
theorem dX7_comes_99 : decode cX7_comes 99 = .ok (.sipush 512, 3) := by decide +kernel
theorem dX7_comes_102 : decode cX7_comes 102 = .ok (.irem, 1) := by decide +kernel
theorem dX7_comes_103 : decode cX7_comes 103 = .ok (.iadd, 1) := by decide +kernel
theorem dX7_comes_104 : decode cX7_comes 104 = .ok (.aload_n 0, 1) := by decide +kernel
theorem dX7_comes_105 : decode cX7_comes 105 = .ok (.getfield 22, 3) := by decide +kernel
theorem dX7_comes_108 : decode cX7_comes 108 = .ok (.sipush 1764, 3) := by decide +kernel
theorem dX7_comes_111 : decode cX7_comes 111 = .ok (.iaload, 1) := by decide +kernel
theorem dX7_comes_112 : decode cX7_comes 112 = .ok (.iastore, 1) := by decide +kernel
theorem dX7_comes_113 : decode cX7_comes 113 = .ok (.aload_n 0, 1) := by decide +kernel
theorem dX7_comes_114 : decode cX7_comes 114 = .ok (.getfield 22, 3) := by decide +kernel
theorem dX7_comes_117 : decode cX7_comes 117 = .ok (.iload_n 2, 1) := by decide +kernel
theorem dX7_comes_118 : decode cX7_comes 118 = .ok (.iconst 3, 1) := by decide +kernel
theorem dX7_comes_119 : decode cX7_comes 119 = .ok (.iadd, 1) := by decide +kernel
theorem dX7_comes_120 : decode cX7_comes 120 = .ok (.dup2, 1) := by decide +kernel
theorem dX7_comes_121 : decode cX7_comes 121 = .ok (.iaload, 1) := by decide +kernel
theorem dX7_comes_122 : decode cX7_comes 122 = .ok (.iconst 1, 1) := by decide +kernel
theorem dX7_comes_123 : decode cX7_comes 123 = .ok (.iadd, 1) := by decide +kernel
theorem dX7_comes_124 : decode cX7_comes 124 = .ok (.iastore, 1) := by decide +kernel
theorem dX7_comes_125 : decode cX7_comes 125 = .ok (.aload_n 0, 1) := by decide +kernel
theorem dX7_comes_126 : decode cX7_comes 126 = .ok (.getfield 22, 3) := by decide +kernel
theorem dX7_comes_129 : decode cX7_comes 129 = .ok (.iconst 0, 1) := by decide +kernel
theorem dX7_comes_130 : decode cX7_comes 130 = .ok (.iload_n 1, 1) := by decide +kernel
theorem dX7_comes_131 : decode cX7_comes 131 = .ok (.invokestatic 184, 3) := by decide +kernel
theorem dX7_comes_134 : decode cX7_comes 134 = .ok (.dup2, 1) := by decide +kernel
theorem dX7_comes_135 : decode cX7_comes 135 = .ok (.iaload, 1) := by decide +kernel
theorem dX7_comes_136 : decode cX7_comes 136 = .ok (.iconst 1, 1) := by decide +kernel
theorem dX7_comes_137 : decode cX7_comes 137 = .ok (.iadd, 1) := by decide +kernel
theorem dX7_comes_138 : decode cX7_comes 138 = .ok (.iastore, 1) := by decide +kernel
theorem dX7_comes_139 : decode cX7_comes 139 = .ok (.return_, 1) := by decide +kernel
set_option maxRecDepth 20000 in
theorem ggX7_isTaken_X7_circuitAt : GoodIn wsX7_isTaken wsX7_circuitAt := goodIn_r _ [10] (by decide +kernel) (by decide +kernel)
set_option maxRecDepth 20000 in
theorem gX7_isTaken_X7_circuitAt : GoodIn wsX7_isTaken (va_wsS RX7 147 yX7_circuitAt wsX7_circuitAt) := goodIn_app (goodIn_of _ (by decide +kernel)) ggX7_isTaken_X7_circuitAt
set_option maxRecDepth 20000 in
theorem ggX7_isTaken_X7_bufferAt : GoodIn wsX7_isTaken wsX7_bufferAt := goodIn_r _ [13] (by decide +kernel) (by decide +kernel)
set_option maxRecDepth 20000 in
theorem gX7_isTaken_X7_bufferAt : GoodIn wsX7_isTaken (va_wsS RX7 184 yX7_bufferAt wsX7_bufferAt) := goodIn_app (goodIn_of _ (by decide +kernel)) ggX7_isTaken_X7_bufferAt
set_option maxRecDepth 20000 in
theorem ggX7_isTaken_X7_goesFrom : GoodIn wsX7_isTaken wsX7_goesFrom := goodIn_r _ [17, 1, 18, 19, 20, 9, 21, 22, 23, 24, 25, 26, 27, 28, 29, 30, 31, 32, 33, 34, 35, 36, 37, 38, 39, 40, 41, 42, 43, 44, 45, 46, 47, 48, 49, 50, 51, 52, 53] (by decide +kernel) (by decide +kernel)
set_option maxRecDepth 20000 in
theorem gX7_isTaken_X7_goesFrom : GoodIn wsX7_isTaken (wsV RX7 187 RX7 yX7_goesFrom wsX7_goesFrom) := goodIn_app (goodIn_of _ (by decide +kernel)) ggX7_isTaken_X7_goesFrom
theorem dX7_isTaken_0 : decode cX7_isTaken 0 = .ok (.iload_n 1, 1) := by decide +kernel
theorem dX7_isTaken_1 : decode cX7_isTaken 1 = .ok (.invokestatic 147, 3) := by decide +kernel
theorem dX7_isTaken_4 : decode cX7_isTaken 4 = .ok (.istore_n 2, 1) := by decide +kernel
theorem dX7_isTaken_5 : decode cX7_isTaken 5 = .ok (.aload_n 0, 1) := by decide +kernel
theorem dX7_isTaken_6 : decode cX7_isTaken 6 = .ok (.getfield 22, 3) := by decide +kernel
theorem dX7_isTaken_9 : decode cX7_isTaken 9 = .ok (.iload_n 2, 1) := by decide +kernel
theorem dX7_isTaken_10 : decode cX7_isTaken 10 = .ok (.iconst 2, 1) := by decide +kernel
theorem dX7_isTaken_11 : decode cX7_isTaken 11 = .ok (.iadd, 1) := by decide +kernel
theorem dX7_isTaken_12 : decode cX7_isTaken 12 = .ok (.iaload, 1) := by decide +kernel
theorem dX7_isTaken_13 : decode cX7_isTaken 13 = .ok (.ifCond .eq 39, 3) := by decide +kernel
theorem dX7_isTaken_16 : decode cX7_isTaken 16 = .ok (.aload_n 0, 1) := by decide +kernel
theorem dX7_isTaken_17 : decode cX7_isTaken 17 = .ok (.getfield 22, 3) := by decide +kernel
theorem dX7_isTaken_20 : decode cX7_isTaken 20 = .ok (.sipush 1764, 3) := by decide +kernel
theorem dX7_isTaken_23 : decode cX7_isTaken 23 = .ok (.iaload, 1) := by decide +kernel
theorem dX7_isTaken_24 : decode cX7_isTaken 24 = .ok (.aload_n 0, 1) := by decide +kernel
theorem dX7_isTaken_25 : decode cX7_isTaken 25 = .ok (.getfield 22, 3) := by decide +kernel
theorem dX7_isTaken_28 : decode cX7_isTaken 28 = .ok (.iload_n 2, 1) := by decide +kernel
theorem dX7_isTaken_29 : decode cX7_isTaken 29 = .ok (.iconst 2, 1) := by decide +kernel
theorem dX7_isTaken_30 : decode cX7_isTaken 30 = .ok (.iadd, 1) := by decide +kernel
theorem dX7_isTaken_31 : decode cX7_isTaken 31 = .ok (.iaload, 1) := by decide +kernel
theorem dX7_isTaken_32 : decode cX7_isTaken 32 = .ok (.irem, 1) := by decide +kernel
theorem dX7_isTaken_33 : decode cX7_isTaken 33 = .ok (.ifCond .ne 19, 3) := by decide +kernel
theorem dX7_isTaken_36 : decode cX7_isTaken 36 = .ok (.aload_n 0, 1) := by decide +kernel
theorem dX7_isTaken_37 : decode cX7_isTaken 37 = .ok (.getfield 22, 3) := by decide +kernel
theorem dX7_isTaken_40 : decode cX7_isTaken 40 = .ok (.aload_n 0, 1) := by decide +kernel
theorem dX7_isTaken_41 : decode cX7_isTaken 41 = .ok (.getfield 124, 3) := by decide +kernel
theorem dX7_isTaken_44 : decode cX7_isTaken 44 = .ok (.iload_n 1, 1) := by decide +kernel
theorem dX7_isTaken_45 : decode cX7_isTaken 45 = .ok (.invokestatic 184, 3) := by decide +kernel
theorem dX7_isTaken_48 : decode cX7_isTaken 48 = .ok (.iaload, 1) := by decide +kernel
theorem dX7_isTaken_49 : decode cX7_isTaken 49 = .ok (.ifCond .ne 4, 3) := by decide +kernel
theorem dX7_isTaken_52 : decode cX7_isTaken 52 = .ok (.return_, 1) := by decide +kernel
theorem dX7_isTaken_53 : decode cX7_isTaken 53 = .ok (.aload_n 0, 1) := by decide +kernel
theorem dX7_isTaken_54 : decode cX7_isTaken 54 = .ok (.getfield 22, 3) := by decide +kernel
theorem dX7_isTaken_57 : decode cX7_isTaken 57 = .ok (.aload_n 0, 1) := by decide +kernel
theorem dX7_isTaken_58 : decode cX7_isTaken 58 = .ok (.getfield 124, 3) := by decide +kernel
theorem dX7_isTaken_61 : decode cX7_isTaken 61 = .ok (.iload_n 1, 1) := by decide +kernel
theorem dX7_isTaken_62 : decode cX7_isTaken 62 = .ok (.invokestatic 184, 3) := by decide +kernel
theorem dX7_isTaken_65 : decode cX7_isTaken 65 = .ok (.dup2, 1) := by decide +kernel
theorem dX7_isTaken_66 : decode cX7_isTaken 66 = .ok (.iaload, 1) := by decide +kernel
theorem dX7_isTaken_67 : decode cX7_isTaken 67 = .ok (.iconst 1, 1) := by decide +kernel
theorem dX7_isTaken_68 : decode cX7_isTaken 68 = .ok (.isub, 1) := by decide +kernel
theorem dX7_isTaken_69 : decode cX7_isTaken 69 = .ok (.iastore, 1) := by decide +kernel
theorem dX7_isTaken_70 : decode cX7_isTaken 70 = .ok (.aload_n 0, 1) := by decide +kernel
theorem dX7_isTaken_71 : decode cX7_isTaken 71 = .ok (.getfield 22, 3) := by decide +kernel
theorem dX7_isTaken_74 : decode cX7_isTaken 74 = .ok (.sipush 1764, 3) := by decide +kernel
theorem dX7_isTaken_77 : decode cX7_isTaken 77 = .ok (.iaload, 1) := by decide +kernel
theorem dX7_isTaken_78 : decode cX7_isTaken 78 = .ok (.aload_n 0, 1) := by decide +kernel
theorem dX7_isTaken_79 : decode cX7_isTaken 79 = .ok (.getfield 22, 3) := by decide +kernel
theorem dX7_isTaken_82 : decode cX7_isTaken 82 = .ok (.sipush 228, 3) := by decide +kernel
theorem dX7_isTaken_85 : decode cX7_isTaken 85 = .ok (.sipush 512, 3) := by decide +kernel
theorem dX7_isTaken_88 : decode cX7_isTaken 88 = .ok (.iload_n 1, 1) := by decide +kernel
theorem dX7_isTaken_89 : decode cX7_isTaken 89 = .ok (.imul, 1) := by decide +kernel
theorem dX7_isTaken_90 : decode cX7_isTaken 90 = .ok (.iadd, 1) := by decide +kernel
theorem dX7_isTaken_91 : decode cX7_isTaken 91 = .ok (.aload_n 0, 1) := by decide +kernel
theorem dX7_isTaken_92 : decode cX7_isTaken 92 = .ok (.getfield 22, 3) := by decide +kernel
theorem dX7_isTaken_95 : decode cX7_isTaken 95 = .ok (.iload_n 2, 1) := by decide +kernel
theorem dX7_isTaken_96 : decode cX7_isTaken 96 = .ok (.iconst 5, 1) := by decide +kernel
theorem dX7_isTaken_97 : decode cX7_isTaken 97 = .ok (.iadd, 1) := by decide +kernel
theorem dX7_isTaken_98 : decode cX7_isTaken 98 = .ok (.iaload, 1) := by decide +kernel
theorem dX7_isTaken_99 : decode cX7_isTaken 99 = .ok (.sipush 512, 3) := by decide +kernel
theorem dX7_isTaken_102 : decode cX7_isTaken 102 = .ok (.irem, 1) := by decide +kernel
theorem dX7_isTaken_103 : decode cX7_isTaken 103 = .ok (.iadd, 1) := by decide +kernel
theorem dX7_isTaken_104 : decode cX7_isTaken 104 = .ok (.iaload, 1) := by decide +kernel
theorem dX7_isTaken_105 : decode cX7_isTaken 105 = .ok (.isub, 1) := by decide +kernel
theorem dX7_isTaken_106 : decode cX7_isTaken 106 = .ok (.istore_n 3, 1) := by decide +kernel
theorem dX7_isTaken_107 : decode cX7_isTaken 107 = .ok (.aload_n 0, 1) := by decide +kernel
theorem dX7_isTaken_108 : decode cX7_isTaken 108 = .ok (.getfield 22, 3) := by decide +kernel
theorem dX7_isTaken_111 : decode cX7_isTaken 111 = .ok (.iload_n 2, 1) := by decide +kernel
theorem dX7_isTaken_112 : decode cX7_isTaken 112 = .ok (.iconst 5, 1) := by decide +kernel
theorem dX7_isTaken_113 : decode cX7_isTaken 113 = .ok (.iadd, 1) := by decide +kernel
theorem dX7_isTaken_114 : decode cX7_isTaken 114 = .ok (.dup2, 1) := by decide +kernel
theorem dX7_isTaken_115 : decode cX7_isTaken 115 = .ok (.iaload, 1) := by decide +kernel
theorem dX7_isTaken_116 : decode cX7_isTaken 116 = .ok (.iconst 1, 1) := by decide +kernel
theorem dX7_isTaken_117 : decode cX7_isTaken 117 = .ok (.iadd, 1) := by decide +kernel
theorem dX7_isTaken_118 : decode cX7_isTaken 118 = .ok (.iastore, 1) := by decide +kernel
theorem dX7_isTaken_119 : decode cX7_isTaken 119 = .ok (.aload_n 0, 1) := by decide +kernel
theorem dX7_isTaken_120 : decode cX7_isTaken 120 = .ok (.getfield 22, 3) := by decide +kernel
theorem dX7_isTaken_123 : decode cX7_isTaken 123 = .ok (.iload_n 2, 1) := by decide +kernel
theorem dX7_isTaken_124 : decode cX7_isTaken 124 = .ok (.bipush 6, 2) := by decide +kernel
theorem dX7_isTaken_126 : decode cX7_isTaken 126 = .ok (.iadd, 1) := by decide +kernel
theorem dX7_isTaken_127 : decode cX7_isTaken 127 = .ok (.iload_n 3, 1) := by decide +kernel
theorem dX7_isTaken_128 : decode cX7_isTaken 128 = .ok (.iastore, 1) := by decide +kernel
theorem dX7_isTaken_129 : decode cX7_isTaken 129 = .ok (.aload_n 0, 1) := by decide +kernel
theorem dX7_isTaken_130 : decode cX7_isTaken 130 = .ok (.getfield 22, 3) := by decide +kernel
theorem dX7_isTaken_133 : decode cX7_isTaken 133 = .ok (.iload_n 2, 1) := by decide +kernel
theorem dX7_isTaken_134 : decode cX7_isTaken 134 = .ok (.bipush 7, 2) := by decide +kernel
theorem dX7_isTaken_136 : decode cX7_isTaken 136 = .ok (.iadd, 1) := by decide +kernel
theorem dX7_isTaken_137 : decode cX7_isTaken 137 = .ok (.aload_n 0, 1) := by decide +kernel
theorem dX7_isTaken_138 : decode cX7_isTaken 138 = .ok (.getfield 22, 3) := by decide +kernel
theorem dX7_isTaken_141 : decode cX7_isTaken 141 = .ok (.iload_n 2, 1) := by decide +kernel
theorem dX7_isTaken_142 : decode cX7_isTaken 142 = .ok (.bipush 7, 2) := by decide +kernel
theorem dX7_isTaken_144 : decode cX7_isTaken 144 = .ok (.iadd, 1) := by decide +kernel
theorem dX7_isTaken_145 : decode cX7_isTaken 145 = .ok (.iaload, 1) := by decide +kernel
theorem dX7_isTaken_146 : decode cX7_isTaken 146 = .ok (.iload_n 3, 1) := by decide +kernel
theorem dX7_isTaken_147 : decode cX7_isTaken 147 = .ok (.invokestatic 154, 3) := by decide +kernel
theorem dX7_isTaken_150 : decode cX7_isTaken 150 = .ok (.iastore, 1) := by decide +kernel
theorem dX7_isTaken_151 : decode cX7_isTaken 151 = .ok (.aload_n 0, 1) := by decide +kernel
theorem dX7_isTaken_152 : decode cX7_isTaken 152 = .ok (.getfield 22, 3) := by decide +kernel
theorem dX7_isTaken_155 : decode cX7_isTaken 155 = .ok (.iload_n 2, 1) := by decide +kernel
theorem dX7_isTaken_156 : decode cX7_isTaken 156 = .ok (.bipush 8, 2) := by decide +kernel
theorem dX7_isTaken_158 : decode cX7_isTaken 158 = .ok (.iadd, 1) := by decide +kernel
theorem dX7_isTaken_159 : decode cX7_isTaken 159 = .ok (.dup2, 1) := by decide +kernel
theorem dX7_isTaken_160 : decode cX7_isTaken 160 = .ok (.iaload, 1) := by decide +kernel
theorem dX7_isTaken_161 : decode cX7_isTaken 161 = .ok (.iload_n 3, 1) := by decide +kernel
theorem dX7_isTaken_162 : decode cX7_isTaken 162 = .ok (.iadd, 1) := by decide +kernel
theorem dX7_isTaken_163 : decode cX7_isTaken 163 = .ok (.iastore, 1) := by decide +kernel
theorem dX7_isTaken_164 : decode cX7_isTaken 164 = .ok (.aload_n 0, 1) := by decide +kernel
theorem dX7_isTaken_165 : decode cX7_isTaken 165 = .ok (.aload_n 0, 1) := by decide +kernel
theorem dX7_isTaken_166 : decode cX7_isTaken 166 = .ok (.getfield 124, 3) := by decide +kernel
theorem dX7_isTaken_169 : decode cX7_isTaken 169 = .ok (.iconst 1, 1) := by decide +kernel
theorem dX7_isTaken_170 : decode cX7_isTaken 170 = .ok (.isub, 1) := by decide +kernel
theorem dX7_isTaken_171 : decode cX7_isTaken 171 = .ok (.iload_n 1, 1) := by decide +kernel
theorem dX7_isTaken_172 : decode cX7_isTaken 172 = .ok (.invokevirtual 187, 3) := by decide +kernel
theorem dX7_isTaken_175 : decode cX7_isTaken 175 = .ok (.return_, 1) := by decide +kernel
set_option maxRecDepth 20000 in
theorem ggX7_sender_X7_bufferAt : GoodIn wsX7_sender wsX7_bufferAt := goodIn_r _ [6] (by decide +kernel) (by decide +kernel)
set_option maxRecDepth 20000 in
theorem gX7_sender_X7_bufferAt : GoodIn wsX7_sender (va_wsS RX7 184 yX7_bufferAt wsX7_bufferAt) := goodIn_app (goodIn_of _ (by decide +kernel)) ggX7_sender_X7_bufferAt
set_option maxRecDepth 20000 in
theorem ggX7_sender_X7_credit : GoodIn wsX7_sender wsX7_credit := goodIn_r _ [10, 1, 11, 12, 13, 14, 15, 16, 5, 17, 18, 19, 20, 21, 22, 23, 24, 25, 26, 27, 28, 29, 30, 31, 32, 33, 34, 35, 36, 37, 38, 39, 40, 41, 42, 43, 44, 45] (by decide +kernel) (by decide +kernel)
set_option maxRecDepth 20000 in
theorem gX7_sender_X7_credit : GoodIn wsX7_sender (wsV RX7 190 RX7 yX7_credit wsX7_credit) := goodIn_app (goodIn_of _ (by decide +kernel)) ggX7_sender_X7_credit
theorem dX7_sender_0 : decode cX7_sender 0 = .ok (.aload_n 0, 1) := by decide +kernel
theorem dX7_sender_1 : decode cX7_sender 1 = .ok (.getfield 22, 3) := by decide +kernel
theorem dX7_sender_4 : decode cX7_sender 4 = .ok (.bipush 66, 2) := by decide +kernel
theorem dX7_sender_6 : decode cX7_sender 6 = .ok (.iload_n 1, 1) := by decide +kernel
theorem dX7_sender_7 : decode cX7_sender 7 = .ok (.iadd, 1) := by decide +kernel
theorem dX7_sender_8 : decode cX7_sender 8 = .ok (.iaload, 1) := by decide +kernel
theorem dX7_sender_9 : decode cX7_sender 9 = .ok (.iconst 1, 1) := by decide +kernel
theorem dX7_sender_10 : decode cX7_sender 10 = .ok (.iadd, 1) := by decide +kernel
theorem dX7_sender_11 : decode cX7_sender 11 = .ok (.istore_n 2, 1) := by decide +kernel
theorem dX7_sender_12 : decode cX7_sender 12 = .ok (.iconst 0, 1) := by decide +kernel
theorem dX7_sender_13 : decode cX7_sender 13 = .ok (.istore_n 3, 1) := by decide +kernel
theorem dX7_sender_14 : decode cX7_sender 14 = .ok (.iload_n 3, 1) := by decide +kernel
theorem dX7_sender_15 : decode cX7_sender 15 = .ok (.aload_n 0, 1) := by decide +kernel
theorem dX7_sender_16 : decode cX7_sender 16 = .ok (.getfield 127, 3) := by decide +kernel
theorem dX7_sender_19 : decode cX7_sender 19 = .ok (.if_icmp .ge 46, 3) := by decide +kernel
theorem dX7_sender_22 : decode cX7_sender 22 = .ok (.iload_n 2, 1) := by decide +kernel
theorem dX7_sender_23 : decode cX7_sender 23 = .ok (.iload_n 3, 1) := by decide +kernel
theorem dX7_sender_24 : decode cX7_sender 24 = .ok (.iadd, 1) := by decide +kernel
theorem dX7_sender_25 : decode cX7_sender 25 = .ok (.aload_n 0, 1) := by decide +kernel
theorem dX7_sender_26 : decode cX7_sender 26 = .ok (.getfield 127, 3) := by decide +kernel
theorem dX7_sender_29 : decode cX7_sender 29 = .ok (.irem, 1) := by decide +kernel
theorem dX7_sender_30 : decode cX7_sender 30 = .ok (.istore 4, 2) := by decide +kernel
theorem dX7_sender_32 : decode cX7_sender 32 = .ok (.aload_n 0, 1) := by decide +kernel
theorem dX7_sender_33 : decode cX7_sender 33 = .ok (.getfield 22, 3) := by decide +kernel
theorem dX7_sender_36 : decode cX7_sender 36 = .ok (.iload_n 1, 1) := by decide +kernel
theorem dX7_sender_37 : decode cX7_sender 37 = .ok (.iload 4, 2) := by decide +kernel
theorem dX7_sender_39 : decode cX7_sender 39 = .ok (.invokestatic 184, 3) := by decide +kernel
theorem dX7_sender_42 : decode cX7_sender 42 = .ok (.iaload, 1) := by decide +kernel
theorem dX7_sender_43 : decode cX7_sender 43 = .ok (.ifCond .le 16, 3) := by decide +kernel
theorem dX7_sender_46 : decode cX7_sender 46 = .ok (.aload_n 0, 1) := by decide +kernel
theorem dX7_sender_47 : decode cX7_sender 47 = .ok (.iload_n 1, 1) := by decide +kernel
theorem dX7_sender_48 : decode cX7_sender 48 = .ok (.iload 4, 2) := by decide +kernel
theorem dX7_sender_50 : decode cX7_sender 50 = .ok (.invokevirtual 190, 3) := by decide +kernel
theorem dX7_sender_53 : decode cX7_sender 53 = .ok (.ifCond .le 6, 3) := by decide +kernel
theorem dX7_sender_56 : decode cX7_sender 56 = .ok (.iload 4, 2) := by decide +kernel
theorem dX7_sender_58 : decode cX7_sender 58 = .ok (.ireturn, 1) := by decide +kernel
theorem dX7_sender_59 : decode cX7_sender 59 = .ok (.iinc 3 1, 3) := by decide +kernel
theorem dX7_sender_62 : decode cX7_sender 62 = .ok (.goto (-48), 3) := by decide +kernel
theorem dX7_sender_65 : decode cX7_sender 65 = .ok (.iconst (-1), 1) := by decide +kernel
theorem dX7_sender_66 : decode cX7_sender 66 = .ok (.ireturn, 1) := by decide +kernel
set_option maxRecDepth 20000 in
theorem ggX7_sends_X7_sender : GoodIn wsX7_sends wsX7_sender := goodIn_r _ [6, 1, 7, 8, 9, 5, 10, 11, 12, 13, 14, 15, 16, 17, 18, 19, 20, 21, 22, 23, 24, 25, 26, 27, 28, 45, 46, 47, 48, 49, 50, 51, 52, 53, 54, 55, 56, 57, 58, 59, 60, 61, 62, 63, 64, 65] (by decide +kernel) (by decide +kernel)
set_option maxRecDepth 20000 in
theorem gX7_sends_X7_sender : GoodIn wsX7_sends (wsV RX7 193 RX7 yX7_sender wsX7_sender) := goodIn_app (goodIn_of _ (by decide +kernel)) ggX7_sends_X7_sender
set_option maxRecDepth 20000 in
theorem ggX7_sends_X7_lane : GoodIn wsX7_sends wsX7_lane := goodIn_r _ [21] (by decide +kernel) (by decide +kernel)
set_option maxRecDepth 20000 in
theorem gX7_sends_X7_lane : GoodIn wsX7_sends (va_wsS RX7 163 yX7_lane wsX7_lane) := goodIn_app (goodIn_of _ (by decide +kernel)) ggX7_sends_X7_lane
set_option maxRecDepth 20000 in
theorem ggX7_sends_X7_bufferAt : GoodIn wsX7_sends wsX7_bufferAt := goodIn_r _ [10] (by decide +kernel) (by decide +kernel)
set_option maxRecDepth 20000 in
theorem gX7_sends_X7_bufferAt : GoodIn wsX7_sends (va_wsS RX7 184 yX7_bufferAt wsX7_bufferAt) := goodIn_app (goodIn_of _ (by decide +kernel)) ggX7_sends_X7_bufferAt
set_option maxRecDepth 20000 in
theorem ggX7_sends_X7_delay : GoodIn wsX7_sends wsX7_delay := goodIn_r _ [32, 33, 45, 46, 47, 48, 49, 50, 51, 52, 53, 54, 55, 56, 57, 58, 59, 60, 61, 62, 63, 64, 65] (by decide +kernel) (by decide +kernel)
set_option maxRecDepth 20000 in
theorem gX7_sends_X7_delay : GoodIn wsX7_sends (wsV RX7 178 RX7 yX7_delay wsX7_delay) := goodIn_app (goodIn_of _ (by decide +kernel)) ggX7_sends_X7_delay
set_option maxRecDepth 20000 in
theorem ggX7_sends_X7_wayAt : GoodIn wsX7_sends wsX7_wayAt := goodIn_r _ [36] (by decide +kernel) (by decide +kernel)
set_option maxRecDepth 20000 in
theorem gX7_sends_X7_wayAt : GoodIn wsX7_sends (va_wsS RX7 140 yX7_wayAt wsX7_wayAt) := goodIn_app (goodIn_of _ (by decide +kernel)) ggX7_sends_X7_wayAt
set_option maxRecDepth 20000 in
theorem ggX7_sends_X7_goesFrom : GoodIn wsX7_sends wsX7_goesFrom := goodIn_r _ [40, 1, 33, 19, 20, 5, 21, 41, 42, 43, 44, 29, 30, 31, 32, 34, 35, 36, 45, 46, 47, 48, 49, 50, 51, 52, 53, 54, 55, 56, 57, 58, 59, 60, 61, 62, 63, 64, 65] (by decide +kernel) (by decide +kernel)
set_option maxRecDepth 20000 in
theorem gX7_sends_X7_goesFrom : GoodIn wsX7_sends (wsV RX7 187 RX7 yX7_goesFrom wsX7_goesFrom) := goodIn_app (goodIn_of _ (by decide +kernel)) ggX7_sends_X7_goesFrom
theorem dX7_sends_0 : decode cX7_sends 0 = .ok (.aload_n 0, 1) := by decide +kernel
theorem dX7_sends_1 : decode cX7_sends 1 = .ok (.iload_n 1, 1) := by decide +kernel
theorem dX7_sends_2 : decode cX7_sends 2 = .ok (.invokevirtual 193, 3) := by decide +kernel
theorem dX7_sends_5 : decode cX7_sends 5 = .ok (.istore_n 2, 1) := by decide +kernel
theorem dX7_sends_6 : decode cX7_sends 6 = .ok (.iload_n 2, 1) := by decide +kernel
theorem dX7_sends_7 : decode cX7_sends 7 = .ok (.iconst (-1), 1) := by decide +kernel
theorem dX7_sends_8 : decode cX7_sends 8 = .ok (.if_icmp .ne 4, 3) := by decide +kernel
theorem dX7_sends_11 : decode cX7_sends 11 = .ok (.return_, 1) := by decide +kernel
theorem dX7_sends_12 : decode cX7_sends 12 = .ok (.iload_n 1, 1) := by decide +kernel
theorem dX7_sends_13 : decode cX7_sends 13 = .ok (.iload_n 2, 1) := by decide +kernel
theorem dX7_sends_14 : decode cX7_sends 14 = .ok (.invokestatic 163, 3) := by decide +kernel
theorem dX7_sends_17 : decode cX7_sends 17 = .ok (.istore_n 3, 1) := by decide +kernel
theorem dX7_sends_18 : decode cX7_sends 18 = .ok (.aload_n 0, 1) := by decide +kernel
theorem dX7_sends_19 : decode cX7_sends 19 = .ok (.getfield 22, 3) := by decide +kernel
theorem dX7_sends_22 : decode cX7_sends 22 = .ok (.bipush 66, 2) := by decide +kernel
theorem dX7_sends_24 : decode cX7_sends 24 = .ok (.iload_n 1, 1) := by decide +kernel
theorem dX7_sends_25 : decode cX7_sends 25 = .ok (.iadd, 1) := by decide +kernel
theorem dX7_sends_26 : decode cX7_sends 26 = .ok (.iload_n 2, 1) := by decide +kernel
theorem dX7_sends_27 : decode cX7_sends 27 = .ok (.iastore, 1) := by decide +kernel
theorem dX7_sends_28 : decode cX7_sends 28 = .ok (.aload_n 0, 1) := by decide +kernel
theorem dX7_sends_29 : decode cX7_sends 29 = .ok (.getfield 22, 3) := by decide +kernel
theorem dX7_sends_32 : decode cX7_sends 32 = .ok (.iload_n 1, 1) := by decide +kernel
theorem dX7_sends_33 : decode cX7_sends 33 = .ok (.iload_n 2, 1) := by decide +kernel
theorem dX7_sends_34 : decode cX7_sends 34 = .ok (.invokestatic 184, 3) := by decide +kernel
theorem dX7_sends_37 : decode cX7_sends 37 = .ok (.dup2, 1) := by decide +kernel
theorem dX7_sends_38 : decode cX7_sends 38 = .ok (.iaload, 1) := by decide +kernel
theorem dX7_sends_39 : decode cX7_sends 39 = .ok (.iconst 1, 1) := by decide +kernel
theorem dX7_sends_40 : decode cX7_sends 40 = .ok (.isub, 1) := by decide +kernel
theorem dX7_sends_41 : decode cX7_sends 41 = .ok (.iastore, 1) := by decide +kernel
theorem dX7_sends_42 : decode cX7_sends 42 = .ok (.aload_n 0, 1) := by decide +kernel
theorem dX7_sends_43 : decode cX7_sends 43 = .ok (.getfield 22, 3) := by decide +kernel
theorem dX7_sends_46 : decode cX7_sends 46 = .ok (.iload_n 3, 1) := by decide +kernel
theorem dX7_sends_47 : decode cX7_sends 47 = .ok (.iconst 0, 1) := by decide +kernel
theorem dX7_sends_48 : decode cX7_sends 48 = .ok (.iadd, 1) := by decide +kernel
theorem dX7_sends_49 : decode cX7_sends 49 = .ok (.aload_n 0, 1) := by decide +kernel
theorem dX7_sends_50 : decode cX7_sends 50 = .ok (.getfield 22, 3) := by decide +kernel
theorem dX7_sends_53 : decode cX7_sends 53 = .ok (.iload_n 3, 1) := by decide +kernel
theorem dX7_sends_54 : decode cX7_sends 54 = .ok (.iconst 0, 1) := by decide +kernel
theorem dX7_sends_55 : decode cX7_sends 55 = .ok (.iadd, 1) := by decide +kernel
theorem dX7_sends_56 : decode cX7_sends 56 = .ok (.iaload, 1) := by decide +kernel
theorem dX7_sends_57 : decode cX7_sends 57 = .ok (.iconst 1, 1) := by decide +kernel
theorem dX7_sends_58 : decode cX7_sends 58 = .ok (.iadd, 1) := by decide +kernel
theorem dX7_sends_59 : decode cX7_sends 59 = .ok (.bipush 64, 2) := by decide +kernel
theorem dX7_sends_61 : decode cX7_sends 61 = .ok (.irem, 1) := by decide +kernel
theorem dX7_sends_62 : decode cX7_sends 62 = .ok (.iastore, 1) := by decide +kernel
theorem dX7_sends_63 : decode cX7_sends 63 = .ok (.aload_n 0, 1) := by decide +kernel
theorem dX7_sends_64 : decode cX7_sends 64 = .ok (.getfield 22, 3) := by decide +kernel
theorem dX7_sends_67 : decode cX7_sends 67 = .ok (.iload_n 3, 1) := by decide +kernel
theorem dX7_sends_68 : decode cX7_sends 68 = .ok (.bipush 6, 2) := by decide +kernel
theorem dX7_sends_70 : decode cX7_sends 70 = .ok (.iadd, 1) := by decide +kernel
theorem dX7_sends_71 : decode cX7_sends 71 = .ok (.dup2, 1) := by decide +kernel
theorem dX7_sends_72 : decode cX7_sends 72 = .ok (.iaload, 1) := by decide +kernel
theorem dX7_sends_73 : decode cX7_sends 73 = .ok (.iconst 1, 1) := by decide +kernel
theorem dX7_sends_74 : decode cX7_sends 74 = .ok (.iadd, 1) := by decide +kernel
theorem dX7_sends_75 : decode cX7_sends 75 = .ok (.iastore, 1) := by decide +kernel
theorem dX7_sends_76 : decode cX7_sends 76 = .ok (.aload_n 0, 1) := by decide +kernel
theorem dX7_sends_77 : decode cX7_sends 77 = .ok (.getfield 22, 3) := by decide +kernel
theorem dX7_sends_80 : decode cX7_sends 80 = .ok (.iload_n 1, 1) := by decide +kernel
theorem dX7_sends_81 : decode cX7_sends 81 = .ok (.aload_n 0, 1) := by decide +kernel
theorem dX7_sends_82 : decode cX7_sends 82 = .ok (.getfield 22, 3) := by decide +kernel
theorem dX7_sends_85 : decode cX7_sends 85 = .ok (.sipush 1764, 3) := by decide +kernel
theorem dX7_sends_88 : decode cX7_sends 88 = .ok (.iaload, 1) := by decide +kernel
theorem dX7_sends_89 : decode cX7_sends 89 = .ok (.aload_n 0, 1) := by decide +kernel
theorem dX7_sends_90 : decode cX7_sends 90 = .ok (.iload_n 1, 1) := by decide +kernel
theorem dX7_sends_91 : decode cX7_sends 91 = .ok (.invokevirtual 178, 3) := by decide +kernel
theorem dX7_sends_94 : decode cX7_sends 94 = .ok (.iadd, 1) := by decide +kernel
theorem dX7_sends_95 : decode cX7_sends 95 = .ok (.invokestatic 140, 3) := by decide +kernel
theorem dX7_sends_98 : decode cX7_sends 98 = .ok (.iconst 0, 1) := by decide +kernel
theorem dX7_sends_99 : decode cX7_sends 99 = .ok (.iadd, 1) := by decide +kernel
theorem dX7_sends_100 : decode cX7_sends 100 = .ok (.iload_n 2, 1) := by decide +kernel
theorem dX7_sends_101 : decode cX7_sends 101 = .ok (.iastore, 1) := by decide +kernel
theorem dX7_sends_102 : decode cX7_sends 102 = .ok (.iload_n 1, 1) := by decide +kernel
theorem dX7_sends_103 : decode cX7_sends 103 = .ok (.ifCond .le 11, 3) := by decide +kernel
theorem dX7_sends_106 : decode cX7_sends 106 = .ok (.aload_n 0, 1) := by decide +kernel
theorem dX7_sends_107 : decode cX7_sends 107 = .ok (.iload_n 1, 1) := by decide +kernel
theorem dX7_sends_108 : decode cX7_sends 108 = .ok (.iconst 1, 1) := by decide +kernel
theorem dX7_sends_109 : decode cX7_sends 109 = .ok (.isub, 1) := by decide +kernel
theorem dX7_sends_110 : decode cX7_sends 110 = .ok (.iload_n 2, 1) := by decide +kernel
theorem dX7_sends_111 : decode cX7_sends 111 = .ok (.invokevirtual 187, 3) := by decide +kernel
theorem dX7_sends_114 : decode cX7_sends 114 = .ok (.return_, 1) := by decide +kernel
set_option maxRecDepth 20000 in
theorem ggX7_isHeld_X7_bufferAt : GoodIn wsX7_isHeld wsX7_bufferAt := goodIn_r _ [5] (by decide +kernel) (by decide +kernel)
set_option maxRecDepth 20000 in
theorem gX7_isHeld_X7_bufferAt : GoodIn wsX7_isHeld (va_wsS RX7 184 yX7_bufferAt wsX7_bufferAt) := goodIn_app (goodIn_of _ (by decide +kernel)) ggX7_isHeld_X7_bufferAt
set_option maxRecDepth 20000 in
theorem ggX7_isHeld_X7_credit : GoodIn wsX7_isHeld wsX7_credit := goodIn_r _ [9, 1, 10, 11, 12, 13, 14, 15, 4, 16, 17, 18, 19, 20, 21, 22, 23, 24, 25, 26, 27, 28, 29, 30, 31, 32, 33, 34, 35, 36, 37, 38, 39, 40, 41, 42, 43, 44] (by decide +kernel) (by decide +kernel)
set_option maxRecDepth 20000 in
theorem gX7_isHeld_X7_credit : GoodIn wsX7_isHeld (wsV RX7 190 RX7 yX7_credit wsX7_credit) := goodIn_app (goodIn_of _ (by decide +kernel)) ggX7_isHeld_X7_credit
theorem dX7_isHeld_0 : decode cX7_isHeld 0 = .ok (.aload_n 0, 1) := by decide +kernel
theorem dX7_isHeld_1 : decode cX7_isHeld 1 = .ok (.getfield 22, 3) := by decide +kernel
theorem dX7_isHeld_4 : decode cX7_isHeld 4 = .ok (.iload_n 1, 1) := by decide +kernel
theorem dX7_isHeld_5 : decode cX7_isHeld 5 = .ok (.iload_n 2, 1) := by decide +kernel
theorem dX7_isHeld_6 : decode cX7_isHeld 6 = .ok (.invokestatic 184, 3) := by decide +kernel
theorem dX7_isHeld_9 : decode cX7_isHeld 9 = .ok (.iaload, 1) := by decide +kernel
theorem dX7_isHeld_10 : decode cX7_isHeld 10 = .ok (.ifCond .le 16, 3) := by decide +kernel
theorem dX7_isHeld_13 : decode cX7_isHeld 13 = .ok (.aload_n 0, 1) := by decide +kernel
theorem dX7_isHeld_14 : decode cX7_isHeld 14 = .ok (.iload_n 1, 1) := by decide +kernel
theorem dX7_isHeld_15 : decode cX7_isHeld 15 = .ok (.iload_n 2, 1) := by decide +kernel
theorem dX7_isHeld_16 : decode cX7_isHeld 16 = .ok (.invokevirtual 190, 3) := by decide +kernel
theorem dX7_isHeld_19 : decode cX7_isHeld 19 = .ok (.ifCond .ne 7, 3) := by decide +kernel
theorem dX7_isHeld_22 : decode cX7_isHeld 22 = .ok (.iconst 1, 1) := by decide +kernel
theorem dX7_isHeld_23 : decode cX7_isHeld 23 = .ok (.goto 4, 3) := by decide +kernel
theorem dX7_isHeld_26 : decode cX7_isHeld 26 = .ok (.iconst 0, 1) := by decide +kernel
theorem dX7_isHeld_27 : decode cX7_isHeld 27 = .ok (.ireturn, 1) := by decide +kernel
set_option maxRecDepth 20000 in
theorem ggX7_waits_X7_lane : GoodIn wsX7_waits wsX7_lane := goodIn_r _ [7] (by decide +kernel) (by decide +kernel)
set_option maxRecDepth 20000 in
theorem gX7_waits_X7_lane : GoodIn wsX7_waits (va_wsS RX7 163 yX7_lane wsX7_lane) := goodIn_app (goodIn_of _ (by decide +kernel)) ggX7_waits_X7_lane
set_option maxRecDepth 20000 in
theorem ggX7_waits_X7_isHeld : GoodIn wsX7_waits wsX7_isHeld := goodIn_r _ [11, 2, 12, 13, 6, 14, 15, 16, 17, 18, 19, 20, 21, 22, 4, 5, 7, 23, 24, 25, 26, 27, 28, 29, 42, 43, 44, 45, 46, 47, 48, 49, 50, 51, 52, 53, 54, 55, 56, 57, 58, 59, 60, 61, 62] (by decide +kernel) (by decide +kernel)
set_option maxRecDepth 20000 in
theorem gX7_waits_X7_isHeld : GoodIn wsX7_waits (wsV RX7 196 RX7 yX7_isHeld wsX7_isHeld) := goodIn_app (goodIn_of _ (by decide +kernel)) ggX7_waits_X7_isHeld
set_option maxRecDepth 20000 in
theorem ggX7_waits_X7_probes : GoodIn wsX7_waits wsX7_probes := goodIn_r _ [33, 2, 34, 35, 36, 6, 37, 38, 39, 40, 41, 4, 5, 7, 42, 43, 44, 45, 46, 47, 48, 49, 50, 51, 52, 53, 54, 55, 56, 57, 58, 59, 60, 61, 62] (by decide +kernel) (by decide +kernel)
set_option maxRecDepth 20000 in
theorem gX7_waits_X7_probes : GoodIn wsX7_waits (wsV RX7 199 RX7 yX7_probes wsX7_probes) := goodIn_app (goodIn_of _ (by decide +kernel)) ggX7_waits_X7_probes
theorem dX7_waits_0 : decode cX7_waits 0 = .ok (.iconst 0, 1) := by decide +kernel
theorem dX7_waits_1 : decode cX7_waits 1 = .ok (.istore_n 2, 1) := by decide +kernel
theorem dX7_waits_2 : decode cX7_waits 2 = .ok (.iload_n 2, 1) := by decide +kernel
theorem dX7_waits_3 : decode cX7_waits 3 = .ok (.aload_n 0, 1) := by decide +kernel
theorem dX7_waits_4 : decode cX7_waits 4 = .ok (.getfield 127, 3) := by decide +kernel
theorem dX7_waits_7 : decode cX7_waits 7 = .ok (.if_icmp .ge 78, 3) := by decide +kernel
theorem dX7_waits_10 : decode cX7_waits 10 = .ok (.iload_n 1, 1) := by decide +kernel
theorem dX7_waits_11 : decode cX7_waits 11 = .ok (.iload_n 2, 1) := by decide +kernel
theorem dX7_waits_12 : decode cX7_waits 12 = .ok (.invokestatic 163, 3) := by decide +kernel
theorem dX7_waits_15 : decode cX7_waits 15 = .ok (.istore_n 3, 1) := by decide +kernel
theorem dX7_waits_16 : decode cX7_waits 16 = .ok (.aload_n 0, 1) := by decide +kernel
theorem dX7_waits_17 : decode cX7_waits 17 = .ok (.getfield 22, 3) := by decide +kernel
theorem dX7_waits_20 : decode cX7_waits 20 = .ok (.iload_n 3, 1) := by decide +kernel
theorem dX7_waits_21 : decode cX7_waits 21 = .ok (.iconst 4, 1) := by decide +kernel
theorem dX7_waits_22 : decode cX7_waits 22 = .ok (.iadd, 1) := by decide +kernel
theorem dX7_waits_23 : decode cX7_waits 23 = .ok (.aload_n 0, 1) := by decide +kernel
theorem dX7_waits_24 : decode cX7_waits 24 = .ok (.iload_n 1, 1) := by decide +kernel
theorem dX7_waits_25 : decode cX7_waits 25 = .ok (.iload_n 2, 1) := by decide +kernel
theorem dX7_waits_26 : decode cX7_waits 26 = .ok (.invokevirtual 196, 3) := by decide +kernel
theorem dX7_waits_29 : decode cX7_waits 29 = .ok (.ifCond .eq 16, 3) := by decide +kernel
theorem dX7_waits_32 : decode cX7_waits 32 = .ok (.aload_n 0, 1) := by decide +kernel
theorem dX7_waits_33 : decode cX7_waits 33 = .ok (.getfield 22, 3) := by decide +kernel
theorem dX7_waits_36 : decode cX7_waits 36 = .ok (.iload_n 3, 1) := by decide +kernel
theorem dX7_waits_37 : decode cX7_waits 37 = .ok (.iconst 4, 1) := by decide +kernel
theorem dX7_waits_38 : decode cX7_waits 38 = .ok (.iadd, 1) := by decide +kernel
theorem dX7_waits_39 : decode cX7_waits 39 = .ok (.iaload, 1) := by decide +kernel
theorem dX7_waits_40 : decode cX7_waits 40 = .ok (.iconst 1, 1) := by decide +kernel
theorem dX7_waits_41 : decode cX7_waits 41 = .ok (.iadd, 1) := by decide +kernel
theorem dX7_waits_42 : decode cX7_waits 42 = .ok (.goto 4, 3) := by decide +kernel
theorem dX7_waits_45 : decode cX7_waits 45 = .ok (.iconst 0, 1) := by decide +kernel
theorem dX7_waits_46 : decode cX7_waits 46 = .ok (.iastore, 1) := by decide +kernel
theorem dX7_waits_47 : decode cX7_waits 47 = .ok (.aload_n 0, 1) := by decide +kernel
theorem dX7_waits_48 : decode cX7_waits 48 = .ok (.getfield 28, 3) := by decide +kernel
theorem dX7_waits_51 : decode cX7_waits 51 = .ok (.iconst 2, 1) := by decide +kernel
theorem dX7_waits_52 : decode cX7_waits 52 = .ok (.iaload, 1) := by decide +kernel
theorem dX7_waits_53 : decode cX7_waits 53 = .ok (.ifCond .le 26, 3) := by decide +kernel
theorem dX7_waits_56 : decode cX7_waits 56 = .ok (.aload_n 0, 1) := by decide +kernel
theorem dX7_waits_57 : decode cX7_waits 57 = .ok (.getfield 22, 3) := by decide +kernel
theorem dX7_waits_60 : decode cX7_waits 60 = .ok (.iload_n 3, 1) := by decide +kernel
theorem dX7_waits_61 : decode cX7_waits 61 = .ok (.iconst 4, 1) := by decide +kernel
theorem dX7_waits_62 : decode cX7_waits 62 = .ok (.iadd, 1) := by decide +kernel
theorem dX7_waits_63 : decode cX7_waits 63 = .ok (.iaload, 1) := by decide +kernel
theorem dX7_waits_64 : decode cX7_waits 64 = .ok (.aload_n 0, 1) := by decide +kernel
theorem dX7_waits_65 : decode cX7_waits 65 = .ok (.getfield 28, 3) := by decide +kernel
theorem dX7_waits_68 : decode cX7_waits 68 = .ok (.iconst 2, 1) := by decide +kernel
theorem dX7_waits_69 : decode cX7_waits 69 = .ok (.iaload, 1) := by decide +kernel
theorem dX7_waits_70 : decode cX7_waits 70 = .ok (.if_icmp .ne 9, 3) := by decide +kernel
theorem dX7_waits_73 : decode cX7_waits 73 = .ok (.aload_n 0, 1) := by decide +kernel
theorem dX7_waits_74 : decode cX7_waits 74 = .ok (.iload_n 1, 1) := by decide +kernel
theorem dX7_waits_75 : decode cX7_waits 75 = .ok (.iload_n 2, 1) := by decide +kernel
theorem dX7_waits_76 : decode cX7_waits 76 = .ok (.invokevirtual 199, 3) := by decide +kernel
theorem dX7_waits_79 : decode cX7_waits 79 = .ok (.iinc 2 1, 3) := by decide +kernel
theorem dX7_waits_82 : decode cX7_waits 82 = .ok (.goto (-80), 3) := by decide +kernel
theorem dX7_waits_85 : decode cX7_waits 85 = .ok (.return_, 1) := by decide +kernel
set_option maxRecDepth 20000 in
theorem ggX7_adapts_X7_aimOf : GoodIn wsX7_adapts wsX7_aimOf := goodIn_r _ [15, 1, 3, 16, 17, 18, 14, 19, 20, 21, 22, 23, 24, 36, 37, 38, 39, 40, 41, 42, 43, 44, 45, 46, 47, 48, 49, 50, 51, 52, 53, 54, 55, 56] (by decide +kernel) (by decide +kernel)
set_option maxRecDepth 20000 in
theorem gX7_adapts_X7_aimOf : GoodIn wsX7_adapts (wsV RX7 202 RX7 yX7_aimOf wsX7_aimOf) := goodIn_app (goodIn_of _ (by decide +kernel)) ggX7_adapts_X7_aimOf
set_option maxRecDepth 20000 in
theorem ggX7_adapts_X7_lane : GoodIn wsX7_adapts wsX7_lane := goodIn_r _ [19] (by decide +kernel) (by decide +kernel)
set_option maxRecDepth 20000 in
theorem gX7_adapts_X7_lane : GoodIn wsX7_adapts (va_wsS RX7 163 yX7_lane wsX7_lane) := goodIn_app (goodIn_of _ (by decide +kernel)) ggX7_adapts_X7_lane
set_option maxRecDepth 20000 in
theorem ggX7_adapts_X7_leftFor : GoodIn wsX7_adapts wsX7_leftFor := goodIn_r _ [28, 1, 3, 8, 9, 6, 10, 20, 21, 22, 14, 23, 24, 17, 18, 19, 29, 30, 31, 32, 33, 34, 35, 36, 37, 38, 39, 40, 41, 42, 43, 44, 45, 46, 47, 48, 49, 50, 51, 52, 53, 54, 55, 56] (by decide +kernel) (by decide +kernel)
set_option maxRecDepth 20000 in
theorem gX7_adapts_X7_leftFor : GoodIn wsX7_adapts (wsV RX7 172 RX7 yX7_leftFor wsX7_leftFor) := goodIn_app (goodIn_of _ (by decide +kernel)) ggX7_adapts_X7_leftFor
theorem dX7_adapts_0 : decode cX7_adapts 0 = .ok (.iconst 0, 1) := by decide +kernel
theorem dX7_adapts_1 : decode cX7_adapts 1 = .ok (.istore_n 2, 1) := by decide +kernel
theorem dX7_adapts_2 : decode cX7_adapts 2 = .ok (.iload_n 2, 1) := by decide +kernel
theorem dX7_adapts_3 : decode cX7_adapts 3 = .ok (.aload_n 0, 1) := by decide +kernel
theorem dX7_adapts_4 : decode cX7_adapts 4 = .ok (.getfield 127, 3) := by decide +kernel
theorem dX7_adapts_7 : decode cX7_adapts 7 = .ok (.if_icmp .ge 21, 3) := by decide +kernel
theorem dX7_adapts_10 : decode cX7_adapts 10 = .ok (.aload_n 0, 1) := by decide +kernel
theorem dX7_adapts_11 : decode cX7_adapts 11 = .ok (.getfield 34, 3) := by decide +kernel
theorem dX7_adapts_14 : decode cX7_adapts 14 = .ok (.iload_n 2, 1) := by decide +kernel
theorem dX7_adapts_15 : decode cX7_adapts 15 = .ok (.aload_n 0, 1) := by decide +kernel
theorem dX7_adapts_16 : decode cX7_adapts 16 = .ok (.iload_n 1, 1) := by decide +kernel
theorem dX7_adapts_17 : decode cX7_adapts 17 = .ok (.iload_n 2, 1) := by decide +kernel
theorem dX7_adapts_18 : decode cX7_adapts 18 = .ok (.invokevirtual 202, 3) := by decide +kernel
theorem dX7_adapts_21 : decode cX7_adapts 21 = .ok (.iastore, 1) := by decide +kernel
theorem dX7_adapts_22 : decode cX7_adapts 22 = .ok (.iinc 2 1, 3) := by decide +kernel
theorem dX7_adapts_25 : decode cX7_adapts 25 = .ok (.goto (-23), 3) := by decide +kernel
theorem dX7_adapts_28 : decode cX7_adapts 28 = .ok (.iconst 0, 1) := by decide +kernel
theorem dX7_adapts_29 : decode cX7_adapts 29 = .ok (.istore_n 2, 1) := by decide +kernel
theorem dX7_adapts_30 : decode cX7_adapts 30 = .ok (.iload_n 2, 1) := by decide +kernel
theorem dX7_adapts_31 : decode cX7_adapts 31 = .ok (.aload_n 0, 1) := by decide +kernel
theorem dX7_adapts_32 : decode cX7_adapts 32 = .ok (.getfield 127, 3) := by decide +kernel
theorem dX7_adapts_35 : decode cX7_adapts 35 = .ok (.if_icmp .ge 50, 3) := by decide +kernel
theorem dX7_adapts_38 : decode cX7_adapts 38 = .ok (.iload_n 1, 1) := by decide +kernel
theorem dX7_adapts_39 : decode cX7_adapts 39 = .ok (.iload_n 2, 1) := by decide +kernel
theorem dX7_adapts_40 : decode cX7_adapts 40 = .ok (.invokestatic 163, 3) := by decide +kernel
theorem dX7_adapts_43 : decode cX7_adapts 43 = .ok (.istore_n 3, 1) := by decide +kernel
theorem dX7_adapts_44 : decode cX7_adapts 44 = .ok (.aload_n 0, 1) := by decide +kernel
theorem dX7_adapts_45 : decode cX7_adapts 45 = .ok (.getfield 22, 3) := by decide +kernel
theorem dX7_adapts_48 : decode cX7_adapts 48 = .ok (.iload_n 3, 1) := by decide +kernel
theorem dX7_adapts_49 : decode cX7_adapts 49 = .ok (.iconst 3, 1) := by decide +kernel
theorem dX7_adapts_50 : decode cX7_adapts 50 = .ok (.iadd, 1) := by decide +kernel
theorem dX7_adapts_51 : decode cX7_adapts 51 = .ok (.aload_n 0, 1) := by decide +kernel
theorem dX7_adapts_52 : decode cX7_adapts 52 = .ok (.getfield 22, 3) := by decide +kernel
theorem dX7_adapts_55 : decode cX7_adapts 55 = .ok (.iload_n 3, 1) := by decide +kernel
theorem dX7_adapts_56 : decode cX7_adapts 56 = .ok (.iconst 3, 1) := by decide +kernel
theorem dX7_adapts_57 : decode cX7_adapts 57 = .ok (.iadd, 1) := by decide +kernel
theorem dX7_adapts_58 : decode cX7_adapts 58 = .ok (.iaload, 1) := by decide +kernel
theorem dX7_adapts_59 : decode cX7_adapts 59 = .ok (.aload_n 0, 1) := by decide +kernel
theorem dX7_adapts_60 : decode cX7_adapts 60 = .ok (.getfield 34, 3) := by decide +kernel
theorem dX7_adapts_63 : decode cX7_adapts 63 = .ok (.iload_n 2, 1) := by decide +kernel
theorem dX7_adapts_64 : decode cX7_adapts 64 = .ok (.iaload, 1) := by decide +kernel
theorem dX7_adapts_65 : decode cX7_adapts 65 = .ok (.invokestatic 175, 3) := by decide +kernel
theorem dX7_adapts_68 : decode cX7_adapts 68 = .ok (.iastore, 1) := by decide +kernel
theorem dX7_adapts_69 : decode cX7_adapts 69 = .ok (.aload_n 0, 1) := by decide +kernel
theorem dX7_adapts_70 : decode cX7_adapts 70 = .ok (.getfield 22, 3) := by decide +kernel
theorem dX7_adapts_73 : decode cX7_adapts 73 = .ok (.iload_n 3, 1) := by decide +kernel
theorem dX7_adapts_74 : decode cX7_adapts 74 = .ok (.bipush 6, 2) := by decide +kernel
theorem dX7_adapts_76 : decode cX7_adapts 76 = .ok (.iadd, 1) := by decide +kernel
theorem dX7_adapts_77 : decode cX7_adapts 77 = .ok (.iconst 0, 1) := by decide +kernel
theorem dX7_adapts_78 : decode cX7_adapts 78 = .ok (.iastore, 1) := by decide +kernel
theorem dX7_adapts_79 : decode cX7_adapts 79 = .ok (.iinc 2 1, 3) := by decide +kernel
theorem dX7_adapts_82 : decode cX7_adapts 82 = .ok (.goto (-52), 3) := by decide +kernel
theorem dX7_adapts_85 : decode cX7_adapts 85 = .ok (.iconst 0, 1) := by decide +kernel
theorem dX7_adapts_86 : decode cX7_adapts 86 = .ok (.istore_n 2, 1) := by decide +kernel
theorem dX7_adapts_87 : decode cX7_adapts 87 = .ok (.iload_n 2, 1) := by decide +kernel
theorem dX7_adapts_88 : decode cX7_adapts 88 = .ok (.aload_n 0, 1) := by decide +kernel
theorem dX7_adapts_89 : decode cX7_adapts 89 = .ok (.getfield 127, 3) := by decide +kernel
theorem dX7_adapts_92 : decode cX7_adapts 92 = .ok (.if_icmp .ge 49, 3) := by decide +kernel
theorem dX7_adapts_95 : decode cX7_adapts 95 = .ok (.iload_n 1, 1) := by decide +kernel
theorem dX7_adapts_96 : decode cX7_adapts 96 = .ok (.iload_n 2, 1) := by decide +kernel
theorem dX7_adapts_97 : decode cX7_adapts 97 = .ok (.invokestatic 163, 3) := by decide +kernel
theorem dX7_adapts_100 : decode cX7_adapts 100 = .ok (.istore_n 3, 1) := by decide +kernel
theorem dX7_adapts_101 : decode cX7_adapts 101 = .ok (.aload_n 0, 1) := by decide +kernel
theorem dX7_adapts_102 : decode cX7_adapts 102 = .ok (.getfield 22, 3) := by decide +kernel
theorem dX7_adapts_105 : decode cX7_adapts 105 = .ok (.iload_n 3, 1) := by decide +kernel
theorem dX7_adapts_106 : decode cX7_adapts 106 = .ok (.iconst 3, 1) := by decide +kernel
theorem dX7_adapts_107 : decode cX7_adapts 107 = .ok (.iadd, 1) := by decide +kernel
theorem dX7_adapts_108 : decode cX7_adapts 108 = .ok (.aload_n 0, 1) := by decide +kernel
theorem dX7_adapts_109 : decode cX7_adapts 109 = .ok (.getfield 22, 3) := by decide +kernel
theorem dX7_adapts_112 : decode cX7_adapts 112 = .ok (.iload_n 3, 1) := by decide +kernel
theorem dX7_adapts_113 : decode cX7_adapts 113 = .ok (.iconst 3, 1) := by decide +kernel
theorem dX7_adapts_114 : decode cX7_adapts 114 = .ok (.iadd, 1) := by decide +kernel
theorem dX7_adapts_115 : decode cX7_adapts 115 = .ok (.iaload, 1) := by decide +kernel
theorem dX7_adapts_116 : decode cX7_adapts 116 = .ok (.aload_n 0, 1) := by decide +kernel
theorem dX7_adapts_117 : decode cX7_adapts 117 = .ok (.getfield 34, 3) := by decide +kernel
theorem dX7_adapts_120 : decode cX7_adapts 120 = .ok (.iload_n 2, 1) := by decide +kernel
theorem dX7_adapts_121 : decode cX7_adapts 121 = .ok (.iaload, 1) := by decide +kernel
theorem dX7_adapts_122 : decode cX7_adapts 122 = .ok (.aload_n 0, 1) := by decide +kernel
theorem dX7_adapts_123 : decode cX7_adapts 123 = .ok (.iload_n 1, 1) := by decide +kernel
theorem dX7_adapts_124 : decode cX7_adapts 124 = .ok (.iload_n 2, 1) := by decide +kernel
theorem dX7_adapts_125 : decode cX7_adapts 125 = .ok (.invokevirtual 172, 3) := by decide +kernel
theorem dX7_adapts_128 : decode cX7_adapts 128 = .ok (.invokestatic 175, 3) := by decide +kernel
theorem dX7_adapts_131 : decode cX7_adapts 131 = .ok (.invokestatic 154, 3) := by decide +kernel
theorem dX7_adapts_134 : decode cX7_adapts 134 = .ok (.iastore, 1) := by decide +kernel
theorem dX7_adapts_135 : decode cX7_adapts 135 = .ok (.iinc 2 1, 3) := by decide +kernel
theorem dX7_adapts_138 : decode cX7_adapts 138 = .ok (.goto (-51), 3) := by decide +kernel
theorem dX7_adapts_141 : decode cX7_adapts 141 = .ok (.return_, 1) := by decide +kernel
set_option maxRecDepth 20000 in
theorem ggX7_ticks_X7_arrives : GoodIn wsX7_ticks wsX7_arrives := goodIn_r _ [9, 4, 2, 10, 11, 8, 12, 13, 14, 15, 16, 17, 18, 19, 20, 21, 22, 23, 24, 25, 26, 27, 28, 29, 30, 31, 32, 33, 34, 35, 36, 37, 105, 106, 107, 108, 109, 110, 111, 112, 113, 114, 115, 116, 117, 118, 119, 120, 121, 122, 123, 124, 125] (by decide +kernel) (by decide +kernel)
set_option maxRecDepth 20000 in
theorem gX7_ticks_X7_arrives : GoodIn wsX7_ticks (wsV RX7 205 RX7 yX7_arrives wsX7_arrives) := goodIn_app (goodIn_of _ (by decide +kernel)) ggX7_ticks_X7_arrives
set_option maxRecDepth 20000 in
theorem ggX7_ticks_X7_comes : GoodIn wsX7_ticks wsX7_comes := goodIn_r _ [41, 4, 42, 43, 8, 44, 13, 14, 15, 105, 106, 107, 108, 109, 110, 111, 112, 113, 114, 115, 116, 117, 118, 119, 120, 121, 122, 123, 124, 125] (by decide +kernel) (by decide +kernel)
set_option maxRecDepth 20000 in
theorem gX7_ticks_X7_comes : GoodIn wsX7_ticks (wsV RX7 208 RX7 yX7_comes wsX7_comes) := goodIn_app (goodIn_of _ (by decide +kernel)) ggX7_ticks_X7_comes
set_option maxRecDepth 20000 in
theorem ggX7_ticks_X7_isTaken : GoodIn wsX7_ticks wsX7_isTaken := goodIn_r _ [48, 4, 1, 49, 50, 51, 52, 42, 43, 8, 44, 13, 14, 15, 53, 54, 55, 56, 37, 16, 17, 18, 29, 30, 31, 32, 33, 34, 35, 36, 10, 11, 12, 105, 106, 107, 108, 109, 110, 111, 112, 113, 114, 115, 116, 117, 118, 119, 120, 121, 122, 123, 124, 125] (by decide +kernel) (by decide +kernel)
set_option maxRecDepth 20000 in
theorem gX7_ticks_X7_isTaken : GoodIn wsX7_ticks (wsV RX7 211 RX7 yX7_isTaken wsX7_isTaken) := goodIn_app (goodIn_of _ (by decide +kernel)) ggX7_ticks_X7_isTaken
set_option maxRecDepth 20000 in
theorem ggX7_ticks_X7_sends : GoodIn wsX7_ticks wsX7_sends := goodIn_r _ [60, 4, 61, 62, 63, 8, 64, 2, 13, 14, 15, 65, 66, 67, 68, 49, 50, 51, 52, 16, 17, 18, 69, 70, 71, 72, 19, 20, 21, 33, 34, 35, 36, 37, 10, 11, 12, 53, 54, 55, 56, 29, 30, 31, 32, 105, 106, 107, 108, 109, 110, 111, 112, 113, 114, 115, 116, 117, 118, 119, 120, 121, 122, 123, 124, 125] (by decide +kernel) (by decide +kernel)
set_option maxRecDepth 20000 in
theorem gX7_ticks_X7_sends : GoodIn wsX7_ticks (wsV RX7 214 RX7 yX7_sends wsX7_sends) := goodIn_app (goodIn_of _ (by decide +kernel)) ggX7_ticks_X7_sends
set_option maxRecDepth 20000 in
theorem ggX7_ticks_X7_waits : GoodIn wsX7_ticks wsX7_waits := goodIn_r _ [76, 2, 4, 3, 16, 17, 8, 18, 77, 78, 79, 80, 13, 14, 15, 65, 66, 67, 68, 49, 50, 51, 52, 69, 70, 71, 72, 19, 20, 21, 81, 82, 83, 84, 33, 34, 35, 36, 37, 10, 11, 12, 105, 106, 107, 108, 109, 110, 111, 112, 113, 114, 115, 116, 117, 118, 119, 120, 121, 122, 123, 124, 125] (by decide +kernel) (by decide +kernel)
set_option maxRecDepth 20000 in
theorem gX7_ticks_X7_waits : GoodIn wsX7_ticks (wsV RX7 217 RX7 yX7_waits wsX7_waits) := goodIn_app (goodIn_of _ (by decide +kernel)) ggX7_ticks_X7_waits
set_option maxRecDepth 20000 in
theorem ggX7_ticks_X7_adapts : GoodIn wsX7_ticks wsX7_adapts := goodIn_r _ [88, 2, 89, 4, 90, 91, 51, 92, 49, 50, 52, 93, 94, 95, 8, 96, 3, 16, 17, 18, 97, 98, 99, 100, 37, 101, 102, 103, 104, 69, 70, 71, 72, 19, 20, 21, 105, 106, 107, 108, 109, 110, 111, 112, 113, 114, 115, 116, 117, 118, 119, 120, 121, 122, 123, 124, 125] (by decide +kernel) (by decide +kernel)
set_option maxRecDepth 20000 in
theorem gX7_ticks_X7_adapts : GoodIn wsX7_ticks (wsV RX7 220 RX7 yX7_adapts wsX7_adapts) := goodIn_app (goodIn_of _ (by decide +kernel)) ggX7_ticks_X7_adapts
theorem dX7_ticks_0 : decode cX7_ticks 0 = .ok (.iconst 0, 1) := by decide +kernel
theorem dX7_ticks_1 : decode cX7_ticks 1 = .ok (.istore_n 1, 1) := by decide +kernel
theorem dX7_ticks_2 : decode cX7_ticks 2 = .ok (.iload_n 1, 1) := by decide +kernel
theorem dX7_ticks_3 : decode cX7_ticks 3 = .ok (.aload_n 0, 1) := by decide +kernel
theorem dX7_ticks_4 : decode cX7_ticks 4 = .ok (.getfield 124, 3) := by decide +kernel
theorem dX7_ticks_7 : decode cX7_ticks 7 = .ok (.if_icmp .ge 14, 3) := by decide +kernel
theorem dX7_ticks_10 : decode cX7_ticks 10 = .ok (.aload_n 0, 1) := by decide +kernel
theorem dX7_ticks_11 : decode cX7_ticks 11 = .ok (.iload_n 1, 1) := by decide +kernel
theorem dX7_ticks_12 : decode cX7_ticks 12 = .ok (.invokevirtual 205, 3) := by decide +kernel
theorem dX7_ticks_15 : decode cX7_ticks 15 = .ok (.iinc 1 1, 3) := by decide +kernel
theorem dX7_ticks_18 : decode cX7_ticks 18 = .ok (.goto (-16), 3) := by decide +kernel
theorem dX7_ticks_21 : decode cX7_ticks 21 = .ok (.iconst 0, 1) := by decide +kernel
theorem dX7_ticks_22 : decode cX7_ticks 22 = .ok (.istore_n 1, 1) := by decide +kernel
theorem dX7_ticks_23 : decode cX7_ticks 23 = .ok (.iload_n 1, 1) := by decide +kernel
theorem dX7_ticks_24 : decode cX7_ticks 24 = .ok (.aload_n 0, 1) := by decide +kernel
theorem dX7_ticks_25 : decode cX7_ticks 25 = .ok (.getfield 127, 3) := by decide +kernel
theorem dX7_ticks_28 : decode cX7_ticks 28 = .ok (.if_icmp .ge 14, 3) := by decide +kernel
theorem dX7_ticks_31 : decode cX7_ticks 31 = .ok (.aload_n 0, 1) := by decide +kernel
theorem dX7_ticks_32 : decode cX7_ticks 32 = .ok (.iload_n 1, 1) := by decide +kernel
theorem dX7_ticks_33 : decode cX7_ticks 33 = .ok (.invokevirtual 208, 3) := by decide +kernel
theorem dX7_ticks_36 : decode cX7_ticks 36 = .ok (.iinc 1 1, 3) := by decide +kernel
theorem dX7_ticks_39 : decode cX7_ticks 39 = .ok (.goto (-16), 3) := by decide +kernel
theorem dX7_ticks_42 : decode cX7_ticks 42 = .ok (.iconst 0, 1) := by decide +kernel
theorem dX7_ticks_43 : decode cX7_ticks 43 = .ok (.istore_n 1, 1) := by decide +kernel
theorem dX7_ticks_44 : decode cX7_ticks 44 = .ok (.iload_n 1, 1) := by decide +kernel
theorem dX7_ticks_45 : decode cX7_ticks 45 = .ok (.aload_n 0, 1) := by decide +kernel
theorem dX7_ticks_46 : decode cX7_ticks 46 = .ok (.getfield 127, 3) := by decide +kernel
theorem dX7_ticks_49 : decode cX7_ticks 49 = .ok (.if_icmp .ge 14, 3) := by decide +kernel
theorem dX7_ticks_52 : decode cX7_ticks 52 = .ok (.aload_n 0, 1) := by decide +kernel
theorem dX7_ticks_53 : decode cX7_ticks 53 = .ok (.iload_n 1, 1) := by decide +kernel
theorem dX7_ticks_54 : decode cX7_ticks 54 = .ok (.invokevirtual 211, 3) := by decide +kernel
theorem dX7_ticks_57 : decode cX7_ticks 57 = .ok (.iinc 1 1, 3) := by decide +kernel
theorem dX7_ticks_60 : decode cX7_ticks 60 = .ok (.goto (-16), 3) := by decide +kernel
theorem dX7_ticks_63 : decode cX7_ticks 63 = .ok (.aload_n 0, 1) := by decide +kernel
theorem dX7_ticks_64 : decode cX7_ticks 64 = .ok (.getfield 124, 3) := by decide +kernel
theorem dX7_ticks_67 : decode cX7_ticks 67 = .ok (.iconst 1, 1) := by decide +kernel
theorem dX7_ticks_68 : decode cX7_ticks 68 = .ok (.isub, 1) := by decide +kernel
theorem dX7_ticks_69 : decode cX7_ticks 69 = .ok (.istore_n 1, 1) := by decide +kernel
theorem dX7_ticks_70 : decode cX7_ticks 70 = .ok (.iload_n 1, 1) := by decide +kernel
theorem dX7_ticks_71 : decode cX7_ticks 71 = .ok (.ifCond .lt 19, 3) := by decide +kernel
theorem dX7_ticks_74 : decode cX7_ticks 74 = .ok (.aload_n 0, 1) := by decide +kernel
theorem dX7_ticks_75 : decode cX7_ticks 75 = .ok (.iload_n 1, 1) := by decide +kernel
theorem dX7_ticks_76 : decode cX7_ticks 76 = .ok (.invokevirtual 214, 3) := by decide +kernel
theorem dX7_ticks_79 : decode cX7_ticks 79 = .ok (.aload_n 0, 1) := by decide +kernel
theorem dX7_ticks_80 : decode cX7_ticks 80 = .ok (.iload_n 1, 1) := by decide +kernel
theorem dX7_ticks_81 : decode cX7_ticks 81 = .ok (.invokevirtual 217, 3) := by decide +kernel
theorem dX7_ticks_84 : decode cX7_ticks 84 = .ok (.iinc 1 (-1), 3) := by decide +kernel
theorem dX7_ticks_87 : decode cX7_ticks 87 = .ok (.goto (-17), 3) := by decide +kernel
theorem dX7_ticks_90 : decode cX7_ticks 90 = .ok (.aload_n 0, 1) := by decide +kernel
theorem dX7_ticks_91 : decode cX7_ticks 91 = .ok (.getfield 28, 3) := by decide +kernel
theorem dX7_ticks_94 : decode cX7_ticks 94 = .ok (.iconst 1, 1) := by decide +kernel
theorem dX7_ticks_95 : decode cX7_ticks 95 = .ok (.iaload, 1) := by decide +kernel
theorem dX7_ticks_96 : decode cX7_ticks 96 = .ok (.ifCond .le 44, 3) := by decide +kernel
theorem dX7_ticks_99 : decode cX7_ticks 99 = .ok (.aload_n 0, 1) := by decide +kernel
theorem dX7_ticks_100 : decode cX7_ticks 100 = .ok (.getfield 22, 3) := by decide +kernel
theorem dX7_ticks_103 : decode cX7_ticks 103 = .ok (.sipush 1764, 3) := by decide +kernel
theorem dX7_ticks_106 : decode cX7_ticks 106 = .ok (.iaload, 1) := by decide +kernel
theorem dX7_ticks_107 : decode cX7_ticks 107 = .ok (.iconst 1, 1) := by decide +kernel
theorem dX7_ticks_108 : decode cX7_ticks 108 = .ok (.iadd, 1) := by decide +kernel
theorem dX7_ticks_109 : decode cX7_ticks 109 = .ok (.aload_n 0, 1) := by decide +kernel
theorem dX7_ticks_110 : decode cX7_ticks 110 = .ok (.getfield 28, 3) := by decide +kernel
theorem dX7_ticks_113 : decode cX7_ticks 113 = .ok (.iconst 1, 1) := by decide +kernel
theorem dX7_ticks_114 : decode cX7_ticks 114 = .ok (.iaload, 1) := by decide +kernel
theorem dX7_ticks_115 : decode cX7_ticks 115 = .ok (.irem, 1) := by decide +kernel
theorem dX7_ticks_116 : decode cX7_ticks 116 = .ok (.ifCond .ne 24, 3) := by decide +kernel
theorem dX7_ticks_119 : decode cX7_ticks 119 = .ok (.iconst 0, 1) := by decide +kernel
