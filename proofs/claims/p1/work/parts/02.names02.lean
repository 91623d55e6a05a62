theorem dX4_faultOf_25 : decode cX4_faultOf 25 = .ok (.aload_n 0, 1) := by decide +kernel
theorem dX4_faultOf_26 : decode cX4_faultOf 26 = .ok (.iconst 0, 1) := by decide +kernel
theorem dX4_faultOf_27 : decode cX4_faultOf 27 = .ok (.putfield 34, 3) := by decide +kernel
theorem dX4_faultOf_30 : decode cX4_faultOf 30 = .ok (.aload_n 0, 1) := by decide +kernel
theorem dX4_faultOf_31 : decode cX4_faultOf 31 = .ok (.iconst 0, 1) := by decide +kernel
theorem dX4_faultOf_32 : decode cX4_faultOf 32 = .ok (.putfield 37, 3) := by decide +kernel
theorem dX4_faultOf_35 : decode cX4_faultOf 35 = .ok (.aload_n 0, 1) := by decide +kernel
theorem dX4_faultOf_36 : decode cX4_faultOf 36 = .ok (.invokevirtual 40, 3) := by decide +kernel
theorem dX4_faultOf_39 : decode cX4_faultOf 39 = .ok (.iconst 1, 1) := by decide +kernel
theorem dX4_faultOf_40 : decode cX4_faultOf 40 = .ok (.istore_n 3, 1) := by decide +kernel
theorem dX4_faultOf_41 : decode cX4_faultOf 41 = .ok (.iconst 0, 1) := by decide +kernel
theorem dX4_faultOf_42 : decode cX4_faultOf 42 = .ok (.istore 4, 2) := by decide +kernel
theorem dX4_faultOf_44 : decode cX4_faultOf 44 = .ok (.iload_n 3, 1) := by decide +kernel
theorem dX4_faultOf_45 : decode cX4_faultOf 45 = .ok (.ifCond .eq 67, 3) := by decide +kernel
theorem dX4_faultOf_48 : decode cX4_faultOf 48 = .ok (.iload 4, 2) := by decide +kernel
theorem dX4_faultOf_50 : decode cX4_faultOf 50 = .ok (.aload_n 0, 1) := by decide +kernel
theorem dX4_faultOf_51 : decode cX4_faultOf 51 = .ok (.getfield 24, 3) := by decide +kernel
theorem dX4_faultOf_54 : decode cX4_faultOf 54 = .ok (.if_icmp .gt 58, 3) := by decide +kernel
theorem dX4_faultOf_57 : decode cX4_faultOf 57 = .ok (.aload_n 0, 1) := by decide +kernel
theorem dX4_faultOf_58 : decode cX4_faultOf 58 = .ok (.iload 4, 2) := by decide +kernel
theorem dX4_faultOf_60 : decode cX4_faultOf 60 = .ok (.ifCond .ne 7, 3) := by decide +kernel
theorem dX4_faultOf_63 : decode cX4_faultOf 63 = .ok (.iconst 1, 1) := by decide +kernel
theorem dX4_faultOf_64 : decode cX4_faultOf 64 = .ok (.goto 4, 3) := by decide +kernel
theorem dX4_faultOf_67 : decode cX4_faultOf 67 = .ok (.iconst 0, 1) := by decide +kernel
theorem dX4_faultOf_68 : decode cX4_faultOf 68 = .ok (.invokevirtual 43, 3) := by decide +kernel
theorem dX4_faultOf_71 : decode cX4_faultOf 71 = .ok (.aload_n 0, 1) := by decide +kernel
theorem dX4_faultOf_72 : decode cX4_faultOf 72 = .ok (.getfield 31, 3) := by decide +kernel
theorem dX4_faultOf_75 : decode cX4_faultOf 75 = .ok (.iconst (-1), 1) := by decide +kernel
theorem dX4_faultOf_76 : decode cX4_faultOf 76 = .ok (.if_icmp .ne 18, 3) := by decide +kernel
theorem dX4_faultOf_79 : decode cX4_faultOf 79 = .ok (.aload_n 0, 1) := by decide +kernel
theorem dX4_faultOf_80 : decode cX4_faultOf 80 = .ok (.getfield 28, 3) := by decide +kernel
theorem dX4_faultOf_83 : decode cX4_faultOf 83 = .ok (.aload_n 0, 1) := by decide +kernel
theorem dX4_faultOf_84 : decode cX4_faultOf 84 = .ok (.getfield 24, 3) := by decide +kernel
theorem dX4_faultOf_87 : decode cX4_faultOf 87 = .ok (.if_icmp .ge 7, 3) := by decide +kernel
theorem dX4_faultOf_90 : decode cX4_faultOf 90 = .ok (.iconst 1, 1) := by decide +kernel
theorem dX4_faultOf_91 : decode cX4_faultOf 91 = .ok (.goto 4, 3) := by decide +kernel
theorem dX4_faultOf_94 : decode cX4_faultOf 94 = .ok (.iconst 0, 1) := by decide +kernel
theorem dX4_faultOf_95 : decode cX4_faultOf 95 = .ok (.istore_n 3, 1) := by decide +kernel
theorem dX4_faultOf_96 : decode cX4_faultOf 96 = .ok (.aload_n 0, 1) := by decide +kernel
theorem dX4_faultOf_97 : decode cX4_faultOf 97 = .ok (.dup, 1) := by decide +kernel
theorem dX4_faultOf_98 : decode cX4_faultOf 98 = .ok (.getfield 28, 3) := by decide +kernel
theorem dX4_faultOf_101 : decode cX4_faultOf 101 = .ok (.iconst 1, 1) := by decide +kernel
theorem dX4_faultOf_102 : decode cX4_faultOf 102 = .ok (.iadd, 1) := by decide +kernel
theorem dX4_faultOf_103 : decode cX4_faultOf 103 = .ok (.putfield 28, 3) := by decide +kernel
theorem dX4_faultOf_106 : decode cX4_faultOf 106 = .ok (.iinc 4 1, 3) := by decide +kernel
theorem dX4_faultOf_109 : decode cX4_faultOf 109 = .ok (.goto (-65), 3) := by decide +kernel
theorem dX4_faultOf_112 : decode cX4_faultOf 112 = .ok (.aload_n 0, 1) := by decide +kernel
theorem dX4_faultOf_113 : decode cX4_faultOf 113 = .ok (.getfield 31, 3) := by decide +kernel
theorem dX4_faultOf_116 : decode cX4_faultOf 116 = .ok (.ireturn, 1) := by decide +kernel
set_option maxRecDepth 20000 in
theorem ggX4_setUsual_X4_kindOf : GoodIn wsX4_setUsual wsX4_kindOf := goodIn_r _ [6] (by decide +kernel) (by decide +kernel)
set_option maxRecDepth 20000 in
theorem gX4_setUsual_X4_kindOf : GoodIn wsX4_setUsual (va_wsS RX4 50 yX4_kindOf wsX4_kindOf) := goodIn_app (goodIn_of _ (by decide +kernel)) ggX4_setUsual_X4_kindOf
theorem dX4_setUsual_0 : decode cX4_setUsual 0 = .ok (.iconst 0, 1) := by decide +kernel
theorem dX4_setUsual_1 : decode cX4_setUsual 1 = .ok (.istore_n 1, 1) := by decide +kernel
theorem dX4_setUsual_2 : decode cX4_setUsual 2 = .ok (.iload_n 1, 1) := by decide +kernel
theorem dX4_setUsual_3 : decode cX4_setUsual 3 = .ok (.bipush 7, 2) := by decide +kernel
theorem dX4_setUsual_5 : decode cX4_setUsual 5 = .ok (.if_icmp .ge 44, 3) := by decide +kernel
theorem dX4_setUsual_8 : decode cX4_setUsual 8 = .ok (.iconst 0, 1) := by decide +kernel
theorem dX4_setUsual_9 : decode cX4_setUsual 9 = .ok (.istore_n 2, 1) := by decide +kernel
theorem dX4_setUsual_10 : decode cX4_setUsual 10 = .ok (.iload_n 2, 1) := by decide +kernel
theorem dX4_setUsual_11 : decode cX4_setUsual 11 = .ok (.iconst 3, 1) := by decide +kernel
theorem dX4_setUsual_12 : decode cX4_setUsual 12 = .ok (.if_icmp .ge 31, 3) := by decide +kernel
theorem dX4_setUsual_15 : decode cX4_setUsual 15 = .ok (.aload_n 0, 1) := by decide +kernel
theorem dX4_setUsual_16 : decode cX4_setUsual 16 = .ok (.getfield 15, 3) := by decide +kernel
theorem dX4_setUsual_19 : decode cX4_setUsual 19 = .ok (.iload_n 1, 1) := by decide +kernel
theorem dX4_setUsual_20 : decode cX4_setUsual 20 = .ok (.iconst 3, 1) := by decide +kernel
theorem dX4_setUsual_21 : decode cX4_setUsual 21 = .ok (.imul, 1) := by decide +kernel
theorem dX4_setUsual_22 : decode cX4_setUsual 22 = .ok (.iload_n 2, 1) := by decide +kernel
theorem dX4_setUsual_23 : decode cX4_setUsual 23 = .ok (.iadd, 1) := by decide +kernel
theorem dX4_setUsual_24 : decode cX4_setUsual 24 = .ok (.getstatic 47, 3) := by decide +kernel
theorem dX4_setUsual_27 : decode cX4_setUsual 27 = .ok (.iload_n 1, 1) := by decide +kernel
theorem dX4_setUsual_28 : decode cX4_setUsual 28 = .ok (.invokestatic 50, 3) := by decide +kernel
theorem dX4_setUsual_31 : decode cX4_setUsual 31 = .ok (.iconst 3, 1) := by decide +kernel
theorem dX4_setUsual_32 : decode cX4_setUsual 32 = .ok (.imul, 1) := by decide +kernel
theorem dX4_setUsual_33 : decode cX4_setUsual 33 = .ok (.iload_n 2, 1) := by decide +kernel
theorem dX4_setUsual_34 : decode cX4_setUsual 34 = .ok (.iadd, 1) := by decide +kernel
theorem dX4_setUsual_35 : decode cX4_setUsual 35 = .ok (.iaload, 1) := by decide +kernel
theorem dX4_setUsual_36 : decode cX4_setUsual 36 = .ok (.iastore, 1) := by decide +kernel
theorem dX4_setUsual_37 : decode cX4_setUsual 37 = .ok (.iinc 2 1, 3) := by decide +kernel
theorem dX4_setUsual_40 : decode cX4_setUsual 40 = .ok (.goto (-30), 3) := by decide +kernel
theorem dX4_setUsual_43 : decode cX4_setUsual 43 = .ok (.iinc 1 1, 3) := by decide +kernel
theorem dX4_setUsual_46 : decode cX4_setUsual 46 = .ok (.goto (-44), 3) := by decide +kernel
theorem dX4_setUsual_49 : decode cX4_setUsual 49 = .ok (.return_, 1) := by decide +kernel
theorem dX4_kindOf_0 : decode cX4_kindOf 0 = .ok (.iload_n 0, 1) := by decide +kernel
theorem dX4_kindOf_1 : decode cX4_kindOf 1 = .ok (.ifCond .ne 5, 3) := by decide +kernel
theorem dX4_kindOf_4 : decode cX4_kindOf 4 = .ok (.iconst 0, 1) := by decide +kernel
theorem dX4_kindOf_5 : decode cX4_kindOf 5 = .ok (.ireturn, 1) := by decide +kernel
theorem dX4_kindOf_6 : decode cX4_kindOf 6 = .ok (.iload_n 0, 1) := by decide +kernel
theorem dX4_kindOf_7 : decode cX4_kindOf 7 = .ok (.iconst 3, 1) := by decide +kernel
theorem dX4_kindOf_8 : decode cX4_kindOf 8 = .ok (.if_icmp .gt 7, 3) := by decide +kernel
theorem dX4_kindOf_11 : decode cX4_kindOf 11 = .ok (.iconst 1, 1) := by decide +kernel
theorem dX4_kindOf_12 : decode cX4_kindOf 12 = .ok (.goto 4, 3) := by decide +kernel
theorem dX4_kindOf_15 : decode cX4_kindOf 15 = .ok (.iconst 2, 1) := by decide +kernel
theorem dX4_kindOf_16 : decode cX4_kindOf 16 = .ok (.ireturn, 1) := by decide +kernel
set_option maxRecDepth 20000 in
theorem ggX4_readClause_X4_readHead : GoodIn wsX4_readClause wsX4_readHead := goodIn_r _ [9, 1, 2, 3, 4, 10, 11, 12, 8, 13, 14, 15, 16, 17, 18, 19, 81, 82, 83, 84, 85, 86, 87] (by decide +kernel) (by decide +kernel)
set_option maxRecDepth 20000 in
theorem gX4_readClause_X4_readHead : GoodIn wsX4_readClause (wsV RX4 54 RX4 yX4_readHead wsX4_readHead) := goodIn_app (goodIn_of _ (by decide +kernel)) ggX4_readClause_X4_readHead
set_option maxRecDepth 20000 in
theorem ggX4_readClause_X4_passBlanks : GoodIn wsX4_readClause wsX4_passBlanks := goodIn_r _ [13, 1, 2, 3, 81, 82, 83, 84, 85, 86, 87] (by decide +kernel) (by decide +kernel)
set_option maxRecDepth 20000 in
theorem gX4_readClause_X4_passBlanks : GoodIn wsX4_readClause (wsV RX4 58 RX4 yX4_passBlanks wsX4_passBlanks) := goodIn_app (goodIn_of _ (by decide +kernel)) ggX4_readClause_X4_passBlanks
set_option maxRecDepth 20000 in
theorem ggX4_readClause_X4_kindOf : GoodIn wsX4_readClause wsX4_kindOf := goodIn_r _ [22] (by decide +kernel) (by decide +kernel)
set_option maxRecDepth 20000 in
theorem gX4_readClause_X4_kindOf : GoodIn wsX4_readClause (va_wsS RX4 50 yX4_kindOf wsX4_kindOf) := goodIn_app (goodIn_of _ (by decide +kernel)) ggX4_readClause_X4_kindOf
set_option maxRecDepth 20000 in
theorem ggX4_readClause_X4_itemOf : GoodIn wsX4_readClause wsX4_itemOf := goodIn_r _ [25, 26, 27, 28, 29, 30, 31, 32, 33, 34, 35, 36, 37, 38, 39, 40, 41, 42, 43, 44, 45, 46, 47, 48, 49, 50, 51, 52, 53, 54, 55, 56, 57, 58, 59, 60, 61, 62, 63, 64, 65, 66] (by decide +kernel) (by decide +kernel)
set_option maxRecDepth 20000 in
theorem gX4_readClause_X4_itemOf : GoodIn wsX4_readClause (va_wsS RX4 61 yX4_itemOf wsX4_itemOf) := goodIn_app (goodIn_of _ (by decide +kernel)) ggX4_readClause_X4_itemOf
set_option maxRecDepth 20000 in
theorem ggX4_readClause_X4_readNumber : GoodIn wsX4_readClause wsX4_readNumber := goodIn_r _ [70, 3, 1, 4, 71, 72, 73, 10, 11, 12, 8, 13, 2, 74, 75, 76, 77, 20, 21, 22, 78, 79, 80, 81, 82, 83, 84, 85, 86, 87] (by decide +kernel) (by decide +kernel)
set_option maxRecDepth 20000 in
theorem gX4_readClause_X4_readNumber : GoodIn wsX4_readClause (wsV RX4 64 RX4 yX4_readNumber wsX4_readNumber) := goodIn_app (goodIn_of _ (by decide +kernel)) ggX4_readClause_X4_readNumber
theorem dX4_readClause_0 : decode cX4_readClause 0 = .ok (.aload_n 0, 1) := by decide +kernel
theorem dX4_readClause_1 : decode cX4_readClause 1 = .ok (.iload_n 1, 1) := by decide +kernel
theorem dX4_readClause_2 : decode cX4_readClause 2 = .ok (.invokevirtual 54, 3) := by decide +kernel
theorem dX4_readClause_5 : decode cX4_readClause 5 = .ok (.istore_n 2, 1) := by decide +kernel
theorem dX4_readClause_6 : decode cX4_readClause 6 = .ok (.iload_n 2, 1) := by decide +kernel
theorem dX4_readClause_7 : decode cX4_readClause 7 = .ok (.iconst (-1), 1) := by decide +kernel
theorem dX4_readClause_8 : decode cX4_readClause 8 = .ok (.if_icmp .ne 4, 3) := by decide +kernel
theorem dX4_readClause_11 : decode cX4_readClause 11 = .ok (.return_, 1) := by decide +kernel
theorem dX4_readClause_12 : decode cX4_readClause 12 = .ok (.iconst 0, 1) := by decide +kernel
theorem dX4_readClause_13 : decode cX4_readClause 13 = .ok (.istore_n 3, 1) := by decide +kernel
theorem dX4_readClause_14 : decode cX4_readClause 14 = .ok (.iconst 0, 1) := by decide +kernel
theorem dX4_readClause_15 : decode cX4_readClause 15 = .ok (.istore 4, 2) := by decide +kernel
theorem dX4_readClause_17 : decode cX4_readClause 17 = .ok (.iload 4, 2) := by decide +kernel
theorem dX4_readClause_19 : decode cX4_readClause 19 = .ok (.iconst 3, 1) := by decide +kernel
theorem dX4_readClause_20 : decode cX4_readClause 20 = .ok (.if_icmp .gt 114, 3) := by decide +kernel
theorem dX4_readClause_23 : decode cX4_readClause 23 = .ok (.aload_n 0, 1) := by decide +kernel
theorem dX4_readClause_24 : decode cX4_readClause 24 = .ok (.invokevirtual 58, 3) := by decide +kernel
theorem dX4_readClause_27 : decode cX4_readClause 27 = .ok (.aload_n 0, 1) := by decide +kernel
theorem dX4_readClause_28 : decode cX4_readClause 28 = .ok (.getfield 28, 3) := by decide +kernel
theorem dX4_readClause_31 : decode cX4_readClause 31 = .ok (.aload_n 0, 1) := by decide +kernel
theorem dX4_readClause_32 : decode cX4_readClause 32 = .ok (.getfield 24, 3) := by decide +kernel
theorem dX4_readClause_35 : decode cX4_readClause 35 = .ok (.if_icmp .ge 17, 3) := by decide +kernel
theorem dX4_readClause_38 : decode cX4_readClause 38 = .ok (.aload_n 0, 1) := by decide +kernel
theorem dX4_readClause_39 : decode cX4_readClause 39 = .ok (.getfield 9, 3) := by decide +kernel
theorem dX4_readClause_42 : decode cX4_readClause 42 = .ok (.aload_n 0, 1) := by decide +kernel
theorem dX4_readClause_43 : decode cX4_readClause 43 = .ok (.getfield 28, 3) := by decide +kernel
theorem dX4_readClause_46 : decode cX4_readClause 46 = .ok (.iaload, 1) := by decide +kernel
theorem dX4_readClause_47 : decode cX4_readClause 47 = .ok (.bipush 59, 2) := by decide +kernel
theorem dX4_readClause_49 : decode cX4_readClause 49 = .ok (.if_icmp .ne 4, 3) := by decide +kernel
theorem dX4_readClause_52 : decode cX4_readClause 52 = .ok (.return_, 1) := by decide +kernel
theorem dX4_readClause_53 : decode cX4_readClause 53 = .ok (.iload_n 2, 1) := by decide +kernel
theorem dX4_readClause_54 : decode cX4_readClause 54 = .ok (.invokestatic 50, 3) := by decide +kernel
theorem dX4_readClause_57 : decode cX4_readClause 57 = .ok (.aload_n 0, 1) := by decide +kernel
theorem dX4_readClause_58 : decode cX4_readClause 58 = .ok (.getfield 9, 3) := by decide +kernel
theorem dX4_readClause_61 : decode cX4_readClause 61 = .ok (.aload_n 0, 1) := by decide +kernel
theorem dX4_readClause_62 : decode cX4_readClause 62 = .ok (.getfield 28, 3) := by decide +kernel
theorem dX4_readClause_65 : decode cX4_readClause 65 = .ok (.iaload, 1) := by decide +kernel
theorem dX4_readClause_66 : decode cX4_readClause 66 = .ok (.invokestatic 61, 3) := by decide +kernel
theorem dX4_readClause_69 : decode cX4_readClause 69 = .ok (.istore 5, 2) := by decide +kernel
theorem dX4_readClause_71 : decode cX4_readClause 71 = .ok (.iload 5, 2) := by decide +kernel
theorem dX4_readClause_73 : decode cX4_readClause 73 = .ok (.iconst (-1), 1) := by decide +kernel
theorem dX4_readClause_74 : decode cX4_readClause 74 = .ok (.if_icmp .eq 12, 3) := by decide +kernel
theorem dX4_readClause_77 : decode cX4_readClause 77 = .ok (.iload_n 3, 1) := by decide +kernel
theorem dX4_readClause_78 : decode cX4_readClause 78 = .ok (.iconst 1, 1) := by decide +kernel
theorem dX4_readClause_79 : decode cX4_readClause 79 = .ok (.iload 5, 2) := by decide +kernel
theorem dX4_readClause_81 : decode cX4_readClause 81 = .ok (.ishl, 1) := by decide +kernel
theorem dX4_readClause_82 : decode cX4_readClause 82 = .ok (.iand, 1) := by decide +kernel
theorem dX4_readClause_83 : decode cX4_readClause 83 = .ok (.ifCond .eq 12, 3) := by decide +kernel
theorem dX4_readClause_86 : decode cX4_readClause 86 = .ok (.aload_n 0, 1) := by decide +kernel
theorem dX4_readClause_87 : decode cX4_readClause 87 = .ok (.aload_n 0, 1) := by decide +kernel
theorem dX4_readClause_88 : decode cX4_readClause 88 = .ok (.getfield 28, 3) := by decide +kernel
theorem dX4_readClause_91 : decode cX4_readClause 91 = .ok (.putfield 31, 3) := by decide +kernel
theorem dX4_readClause_94 : decode cX4_readClause 94 = .ok (.return_, 1) := by decide +kernel
theorem dX4_readClause_95 : decode cX4_readClause 95 = .ok (.iload_n 3, 1) := by decide +kernel
theorem dX4_readClause_96 : decode cX4_readClause 96 = .ok (.iconst 1, 1) := by decide +kernel
theorem dX4_readClause_97 : decode cX4_readClause 97 = .ok (.iload 5, 2) := by decide +kernel
theorem dX4_readClause_99 : decode cX4_readClause 99 = .ok (.ishl, 1) := by decide +kernel
theorem dX4_readClause_100 : decode cX4_readClause 100 = .ok (.ior, 1) := by decide +kernel
theorem dX4_readClause_101 : decode cX4_readClause 101 = .ok (.istore_n 3, 1) := by decide +kernel
theorem dX4_readClause_102 : decode cX4_readClause 102 = .ok (.aload_n 0, 1) := by decide +kernel
theorem dX4_readClause_103 : decode cX4_readClause 103 = .ok (.dup, 1) := by decide +kernel
theorem dX4_readClause_104 : decode cX4_readClause 104 = .ok (.getfield 28, 3) := by decide +kernel
theorem dX4_readClause_107 : decode cX4_readClause 107 = .ok (.iconst 1, 1) := by decide +kernel
theorem dX4_readClause_108 : decode cX4_readClause 108 = .ok (.iadd, 1) := by decide +kernel
theorem dX4_readClause_109 : decode cX4_readClause 109 = .ok (.putfield 28, 3) := by decide +kernel
theorem dX4_readClause_112 : decode cX4_readClause 112 = .ok (.aload_n 0, 1) := by decide +kernel
theorem dX4_readClause_113 : decode cX4_readClause 113 = .ok (.iload_n 2, 1) := by decide +kernel
theorem dX4_readClause_114 : decode cX4_readClause 114 = .ok (.iload 5, 2) := by decide +kernel
theorem dX4_readClause_116 : decode cX4_readClause 116 = .ok (.invokevirtual 64, 3) := by decide +kernel
theorem dX4_readClause_119 : decode cX4_readClause 119 = .ok (.aload_n 0, 1) := by decide +kernel
theorem dX4_readClause_120 : decode cX4_readClause 120 = .ok (.getfield 31, 3) := by decide +kernel
theorem dX4_readClause_123 : decode cX4_readClause 123 = .ok (.iconst (-1), 1) := by decide +kernel
theorem dX4_readClause_124 : decode cX4_readClause 124 = .ok (.if_icmp .eq 4, 3) := by decide +kernel
theorem dX4_readClause_127 : decode cX4_readClause 127 = .ok (.return_, 1) := by decide +kernel
theorem dX4_readClause_128 : decode cX4_readClause 128 = .ok (.iinc 4 1, 3) := by decide +kernel
theorem dX4_readClause_131 : decode cX4_readClause 131 = .ok (.goto (-114), 3) := by decide +kernel
theorem dX4_readClause_134 : decode cX4_readClause 134 = .ok (.return_, 1) := by decide +kernel
set_option maxRecDepth 20000 in
theorem ggX4_readHead_X4_passBlanks : GoodIn wsX4_readHead wsX4_passBlanks := goodIn_r _ [9, 1, 2, 3, 16, 17, 18, 19, 20, 21, 22] (by decide +kernel) (by decide +kernel)
set_option maxRecDepth 20000 in
theorem gX4_readHead_X4_passBlanks : GoodIn wsX4_readHead (wsV RX4 58 RX4 yX4_passBlanks wsX4_passBlanks) := goodIn_app (goodIn_of _ (by decide +kernel)) ggX4_readHead_X4_passBlanks
set_option maxRecDepth 20000 in
theorem ggX4_readHead_X4_clauseOf : GoodIn wsX4_readHead wsX4_clauseOf := goodIn_r _ [13, 14, 15, 16, 17, 18, 19, 20, 21, 22] (by decide +kernel) (by decide +kernel)
set_option maxRecDepth 20000 in
theorem gX4_readHead_X4_clauseOf : GoodIn wsX4_readHead (wsV RX4 68 RX4 yX4_clauseOf wsX4_clauseOf) := goodIn_app (goodIn_of _ (by decide +kernel)) ggX4_readHead_X4_clauseOf
theorem dX4_readHead_0 : decode cX4_readHead 0 = .ok (.aload_n 0, 1) := by decide +kernel
theorem dX4_readHead_1 : decode cX4_readHead 1 = .ok (.invokevirtual 58, 3) := by decide +kernel
theorem dX4_readHead_4 : decode cX4_readHead 4 = .ok (.iconst (-1), 1) := by decide +kernel
theorem dX4_readHead_5 : decode cX4_readHead 5 = .ok (.istore_n 2, 1) := by decide +kernel
theorem dX4_readHead_6 : decode cX4_readHead 6 = .ok (.aload_n 0, 1) := by decide +kernel
theorem dX4_readHead_7 : decode cX4_readHead 7 = .ok (.getfield 28, 3) := by decide +kernel
theorem dX4_readHead_10 : decode cX4_readHead 10 = .ok (.aload_n 0, 1) := by decide +kernel
theorem dX4_readHead_11 : decode cX4_readHead 11 = .ok (.getfield 24, 3) := by decide +kernel
theorem dX4_readHead_14 : decode cX4_readHead 14 = .ok (.if_icmp .ge 18, 3) := by decide +kernel
theorem dX4_readHead_17 : decode cX4_readHead 17 = .ok (.aload_n 0, 1) := by decide +kernel
theorem dX4_readHead_18 : decode cX4_readHead 18 = .ok (.aload_n 0, 1) := by decide +kernel
theorem dX4_readHead_19 : decode cX4_readHead 19 = .ok (.getfield 9, 3) := by decide +kernel
theorem dX4_readHead_22 : decode cX4_readHead 22 = .ok (.aload_n 0, 1) := by decide +kernel
theorem dX4_readHead_23 : decode cX4_readHead 23 = .ok (.getfield 28, 3) := by decide +kernel
theorem dX4_readHead_26 : decode cX4_readHead 26 = .ok (.iaload, 1) := by decide +kernel
theorem dX4_readHead_27 : decode cX4_readHead 27 = .ok (.iload_n 1, 1) := by decide +kernel
theorem dX4_readHead_28 : decode cX4_readHead 28 = .ok (.invokevirtual 68, 3) := by decide +kernel
theorem dX4_readHead_31 : decode cX4_readHead 31 = .ok (.istore_n 2, 1) := by decide +kernel
theorem dX4_readHead_32 : decode cX4_readHead 32 = .ok (.iload_n 2, 1) := by decide +kernel
theorem dX4_readHead_33 : decode cX4_readHead 33 = .ok (.iconst (-1), 1) := by decide +kernel
theorem dX4_readHead_34 : decode cX4_readHead 34 = .ok (.if_icmp .ne 13, 3) := by decide +kernel
theorem dX4_readHead_37 : decode cX4_readHead 37 = .ok (.aload_n 0, 1) := by decide +kernel
theorem dX4_readHead_38 : decode cX4_readHead 38 = .ok (.aload_n 0, 1) := by decide +kernel
theorem dX4_readHead_39 : decode cX4_readHead 39 = .ok (.getfield 28, 3) := by decide +kernel
theorem dX4_readHead_42 : decode cX4_readHead 42 = .ok (.putfield 31, 3) := by decide +kernel
theorem dX4_readHead_45 : decode cX4_readHead 45 = .ok (.iconst (-1), 1) := by decide +kernel
theorem dX4_readHead_46 : decode cX4_readHead 46 = .ok (.ireturn, 1) := by decide +kernel
theorem dX4_readHead_47 : decode cX4_readHead 47 = .ok (.aload_n 0, 1) := by decide +kernel
theorem dX4_readHead_48 : decode cX4_readHead 48 = .ok (.dup, 1) := by decide +kernel
theorem dX4_readHead_49 : decode cX4_readHead 49 = .ok (.getfield 28, 3) := by decide +kernel
theorem dX4_readHead_52 : decode cX4_readHead 52 = .ok (.iconst 1, 1) := by decide +kernel
theorem dX4_readHead_53 : decode cX4_readHead 53 = .ok (.iadd, 1) := by decide +kernel
theorem dX4_readHead_54 : decode cX4_readHead 54 = .ok (.putfield 28, 3) := by decide +kernel
theorem dX4_readHead_57 : decode cX4_readHead 57 = .ok (.iload_n 2, 1) := by decide +kernel
theorem dX4_readHead_58 : decode cX4_readHead 58 = .ok (.ireturn, 1) := by decide +kernel
theorem dX4_clauseOf_0 : decode cX4_clauseOf 0 = .ok (.iload_n 1, 1) := by decide +kernel
theorem dX4_clauseOf_1 : decode cX4_clauseOf 1 = .ok (.bipush 110, 2) := by decide +kernel
theorem dX4_clauseOf_3 : decode cX4_clauseOf 3 = .ok (.if_icmp .ne 9, 3) := by decide +kernel
theorem dX4_clauseOf_6 : decode cX4_clauseOf 6 = .ok (.iload_n 2, 1) := by decide +kernel
theorem dX4_clauseOf_7 : decode cX4_clauseOf 7 = .ok (.ifCond .eq 5, 3) := by decide +kernel
theorem dX4_clauseOf_10 : decode cX4_clauseOf 10 = .ok (.iconst 0, 1) := by decide +kernel
theorem dX4_clauseOf_11 : decode cX4_clauseOf 11 = .ok (.ireturn, 1) := by decide +kernel
theorem dX4_clauseOf_12 : decode cX4_clauseOf 12 = .ok (.iload_n 1, 1) := by decide +kernel
theorem dX4_clauseOf_13 : decode cX4_clauseOf 13 = .ok (.bipush 104, 2) := by decide +kernel
theorem dX4_clauseOf_15 : decode cX4_clauseOf 15 = .ok (.if_icmp .ne 26, 3) := by decide +kernel
theorem dX4_clauseOf_18 : decode cX4_clauseOf 18 = .ok (.aload_n 0, 1) := by decide +kernel
theorem dX4_clauseOf_19 : decode cX4_clauseOf 19 = .ok (.getfield 34, 3) := by decide +kernel
theorem dX4_clauseOf_22 : decode cX4_clauseOf 22 = .ok (.iconst 3, 1) := by decide +kernel
theorem dX4_clauseOf_23 : decode cX4_clauseOf 23 = .ok (.if_icmp .ge 18, 3) := by decide +kernel
theorem dX4_clauseOf_26 : decode cX4_clauseOf 26 = .ok (.aload_n 0, 1) := by decide +kernel
theorem dX4_clauseOf_27 : decode cX4_clauseOf 27 = .ok (.dup, 1) := by decide +kernel
theorem dX4_clauseOf_28 : decode cX4_clauseOf 28 = .ok (.getfield 34, 3) := by decide +kernel
theorem dX4_clauseOf_31 : decode cX4_clauseOf 31 = .ok (.iconst 1, 1) := by decide +kernel
theorem dX4_clauseOf_32 : decode cX4_clauseOf 32 = .ok (.iadd, 1) := by decide +kernel
theorem dX4_clauseOf_33 : decode cX4_clauseOf 33 = .ok (.putfield 34, 3) := by decide +kernel
theorem dX4_clauseOf_36 : decode cX4_clauseOf 36 = .ok (.aload_n 0, 1) := by decide +kernel
theorem dX4_clauseOf_37 : decode cX4_clauseOf 37 = .ok (.getfield 34, 3) := by decide +kernel
theorem dX4_clauseOf_40 : decode cX4_clauseOf 40 = .ok (.ireturn, 1) := by decide +kernel
theorem dX4_clauseOf_41 : decode cX4_clauseOf 41 = .ok (.iload_n 1, 1) := by decide +kernel
theorem dX4_clauseOf_42 : decode cX4_clauseOf 42 = .ok (.bipush 99, 2) := by decide +kernel
theorem dX4_clauseOf_44 : decode cX4_clauseOf 44 = .ok (.if_icmp .ne 28, 3) := by decide +kernel
theorem dX4_clauseOf_47 : decode cX4_clauseOf 47 = .ok (.aload_n 0, 1) := by decide +kernel
theorem dX4_clauseOf_48 : decode cX4_clauseOf 48 = .ok (.getfield 37, 3) := by decide +kernel
theorem dX4_clauseOf_51 : decode cX4_clauseOf 51 = .ok (.iconst 3, 1) := by decide +kernel
theorem dX4_clauseOf_52 : decode cX4_clauseOf 52 = .ok (.if_icmp .ge 20, 3) := by decide +kernel
theorem dX4_clauseOf_55 : decode cX4_clauseOf 55 = .ok (.aload_n 0, 1) := by decide +kernel
theorem dX4_clauseOf_56 : decode cX4_clauseOf 56 = .ok (.dup, 1) := by decide +kernel
theorem dX4_clauseOf_57 : decode cX4_clauseOf 57 = .ok (.getfield 37, 3) := by decide +kernel
theorem dX4_clauseOf_60 : decode cX4_clauseOf 60 = .ok (.iconst 1, 1) := by decide +kernel
theorem dX4_clauseOf_61 : decode cX4_clauseOf 61 = .ok (.iadd, 1) := by decide +kernel
theorem dX4_clauseOf_62 : decode cX4_clauseOf 62 = .ok (.putfield 37, 3) := by decide +kernel
theorem dX4_clauseOf_65 : decode cX4_clauseOf 65 = .ok (.iconst 3, 1) := by decide +kernel
theorem dX4_clauseOf_66 : decode cX4_clauseOf 66 = .ok (.aload_n 0, 1) := by decide +kernel
theorem dX4_clauseOf_67 : decode cX4_clauseOf 67 = .ok (.getfield 37, 3) := by decide +kernel
theorem dX4_clauseOf_70 : decode cX4_clauseOf 70 = .ok (.iadd, 1) := by decide +kernel
theorem dX4_clauseOf_71 : decode cX4_clauseOf 71 = .ok (.ireturn, 1) := by decide +kernel
theorem dX4_clauseOf_72 : decode cX4_clauseOf 72 = .ok (.iconst (-1), 1) := by decide +kernel
theorem dX4_clauseOf_73 : decode cX4_clauseOf 73 = .ok (.ireturn, 1) := by decide +kernel
set_option maxRecDepth 20000 in
theorem ggX4_itemOf_J0_charAt_5068e : GoodIn wsX4_itemOf wsJ0_charAt_5068e := goodIn_r _ [5, 6, 7, 8, 9, 4, 10, 11, 12, 13, 14, 15, 16, 17, 18, 19, 20, 21, 22, 23, 24, 25, 26, 27, 28, 29, 30, 31, 32, 33, 34, 35, 36, 37, 38, 39, 40, 41] (by decide +kernel) (by decide +kernel)
set_option maxRecDepth 20000 in
theorem gX4_itemOf_J0_charAt_5068e : GoodIn wsX4_itemOf (wsV RX4 74 RJ0 yJ0_charAt_5068e wsJ0_charAt_5068e) := goodIn_app (goodIn_of _ (by decide +kernel)) ggX4_itemOf_J0_charAt_5068e
theorem dX4_itemOf_0 : decode cX4_itemOf 0 = .ok (.iconst 0, 1) := by decide +kernel
theorem dX4_itemOf_1 : decode cX4_itemOf 1 = .ok (.istore_n 2, 1) := by decide +kernel
theorem dX4_itemOf_2 : decode cX4_itemOf 2 = .ok (.iload_n 2, 1) := by decide +kernel
theorem dX4_itemOf_3 : decode cX4_itemOf 3 = .ok (.iconst 3, 1) := by decide +kernel
theorem dX4_itemOf_4 : decode cX4_itemOf 4 = .ok (.if_icmp .ge 25, 3) := by decide +kernel
theorem dX4_itemOf_7 : decode cX4_itemOf 7 = .ok (.ldc 72, 2) := by decide +kernel
theorem dX4_itemOf_9 : decode cX4_itemOf 9 = .ok (.iload_n 0, 1) := by decide +kernel
theorem dX4_itemOf_10 : decode cX4_itemOf 10 = .ok (.iconst 3, 1) := by decide +kernel
theorem dX4_itemOf_11 : decode cX4_itemOf 11 = .ok (.imul, 1) := by decide +kernel
theorem dX4_itemOf_12 : decode cX4_itemOf 12 = .ok (.iload_n 2, 1) := by decide +kernel
theorem dX4_itemOf_13 : decode cX4_itemOf 13 = .ok (.iadd, 1) := by decide +kernel
theorem dX4_itemOf_14 : decode cX4_itemOf 14 = .ok (.invokevirtual 74, 3) := by decide +kernel
theorem dX4_itemOf_17 : decode cX4_itemOf 17 = .ok (.iload_n 1, 1) := by decide +kernel
theorem dX4_itemOf_18 : decode cX4_itemOf 18 = .ok (.if_icmp .ne 5, 3) := by decide +kernel
theorem dX4_itemOf_21 : decode cX4_itemOf 21 = .ok (.iload_n 2, 1) := by decide +kernel
theorem dX4_itemOf_22 : decode cX4_itemOf 22 = .ok (.ireturn, 1) := by decide +kernel
theorem dX4_itemOf_23 : decode cX4_itemOf 23 = .ok (.iinc 2 1, 3) := by decide +kernel
theorem dX4_itemOf_26 : decode cX4_itemOf 26 = .ok (.goto (-24), 3) := by decide +kernel
theorem dX4_itemOf_29 : decode cX4_itemOf 29 = .ok (.iconst (-1), 1) := by decide +kernel
theorem dX4_itemOf_30 : decode cX4_itemOf 30 = .ok (.ireturn, 1) := by decide +kernel
set_option maxRecDepth 20000 in
theorem ggX4_readNumber_X4_passBlanks : GoodIn wsX4_readNumber wsX4_passBlanks := goodIn_r _ [11, 2, 12, 1, 23, 24, 25, 26, 27, 28, 29] (by decide +kernel) (by decide +kernel)
set_option maxRecDepth 20000 in
theorem gX4_readNumber_X4_passBlanks : GoodIn wsX4_readNumber (wsV RX4 58 RX4 yX4_passBlanks wsX4_passBlanks) := goodIn_app (goodIn_of _ (by decide +kernel)) ggX4_readNumber_X4_passBlanks
set_option maxRecDepth 20000 in
theorem ggX4_readNumber_X4_isDigitHere : GoodIn wsX4_readNumber wsX4_isDigitHere := goodIn_r _ [16, 2, 12, 1, 23, 24, 25, 26, 27, 28, 29] (by decide +kernel) (by decide +kernel)
set_option maxRecDepth 20000 in
theorem gX4_readNumber_X4_isDigitHere : GoodIn wsX4_readNumber (wsV RX4 80 RX4 yX4_isDigitHere wsX4_isDigitHere) := goodIn_app (goodIn_of _ (by decide +kernel)) ggX4_readNumber_X4_isDigitHere
set_option maxRecDepth 20000 in
theorem ggX4_readNumber_X4_kindOf : GoodIn wsX4_readNumber wsX4_kindOf := goodIn_r _ [19] (by decide +kernel) (by decide +kernel)
set_option maxRecDepth 20000 in
theorem gX4_readNumber_X4_kindOf : GoodIn wsX4_readNumber (va_wsS RX4 50 yX4_kindOf wsX4_kindOf) := goodIn_app (goodIn_of _ (by decide +kernel)) ggX4_readNumber_X4_kindOf
set_option maxRecDepth 20000 in
theorem ggX4_readNumber_X6_outside : GoodIn wsX4_readNumber wsX6_outside := goodIn_r _ [22] (by decide +kernel) (by decide +kernel)
set_option maxRecDepth 20000 in
theorem gX4_readNumber_X6_outside_n90 : GoodIn wsX4_readNumber (wsX6_outside) := ggX4_readNumber_X6_outside
theorem dX4_readNumber_0 : decode cX4_readNumber 0 = .ok (.aload_n 0, 1) := by decide +kernel
theorem dX4_readNumber_1 : decode cX4_readNumber 1 = .ok (.invokevirtual 58, 3) := by decide +kernel
theorem dX4_readNumber_4 : decode cX4_readNumber 4 = .ok (.iconst 0, 1) := by decide +kernel
theorem dX4_readNumber_5 : decode cX4_readNumber 5 = .ok (.istore_n 3, 1) := by decide +kernel
theorem dX4_readNumber_6 : decode cX4_readNumber 6 = .ok (.iconst 0, 1) := by decide +kernel
theorem dX4_readNumber_7 : decode cX4_readNumber 7 = .ok (.istore 4, 2) := by decide +kernel
theorem dX4_readNumber_9 : decode cX4_readNumber 9 = .ok (.iload 4, 2) := by decide +kernel
theorem dX4_readNumber_11 : decode cX4_readNumber 11 = .ok (.iconst 2, 1) := by decide +kernel
theorem dX4_readNumber_12 : decode cX4_readNumber 12 = .ok (.if_icmp .ge 44, 3) := by decide +kernel
theorem dX4_readNumber_15 : decode cX4_readNumber 15 = .ok (.aload_n 0, 1) := by decide +kernel
theorem dX4_readNumber_16 : decode cX4_readNumber 16 = .ok (.invokevirtual 80, 3) := by decide +kernel
theorem dX4_readNumber_19 : decode cX4_readNumber 19 = .ok (.ifCond .eq 37, 3) := by decide +kernel
theorem dX4_readNumber_22 : decode cX4_readNumber 22 = .ok (.iload_n 3, 1) := by decide +kernel
theorem dX4_readNumber_23 : decode cX4_readNumber 23 = .ok (.bipush 10, 2) := by decide +kernel
theorem dX4_readNumber_25 : decode cX4_readNumber 25 = .ok (.imul, 1) := by decide +kernel
theorem dX4_readNumber_26 : decode cX4_readNumber 26 = .ok (.aload_n 0, 1) := by decide +kernel
theorem dX4_readNumber_27 : decode cX4_readNumber 27 = .ok (.getfield 9, 3) := by decide +kernel
theorem dX4_readNumber_30 : decode cX4_readNumber 30 = .ok (.aload_n 0, 1) := by decide +kernel
theorem dX4_readNumber_31 : decode cX4_readNumber 31 = .ok (.getfield 28, 3) := by decide +kernel
theorem dX4_readNumber_34 : decode cX4_readNumber 34 = .ok (.iaload, 1) := by decide +kernel
theorem dX4_readNumber_35 : decode cX4_readNumber 35 = .ok (.iadd, 1) := by decide +kernel
theorem dX4_readNumber_36 : decode cX4_readNumber 36 = .ok (.bipush 48, 2) := by decide +kernel
theorem dX4_readNumber_38 : decode cX4_readNumber 38 = .ok (.isub, 1) := by decide +kernel
theorem dX4_readNumber_39 : decode cX4_readNumber 39 = .ok (.istore_n 3, 1) := by decide +kernel
theorem dX4_readNumber_40 : decode cX4_readNumber 40 = .ok (.iinc 4 1, 3) := by decide +kernel
theorem dX4_readNumber_43 : decode cX4_readNumber 43 = .ok (.aload_n 0, 1) := by decide +kernel
theorem dX4_readNumber_44 : decode cX4_readNumber 44 = .ok (.dup, 1) := by decide +kernel
theorem dX4_readNumber_45 : decode cX4_readNumber 45 = .ok (.getfield 28, 3) := by decide +kernel
theorem dX4_readNumber_48 : decode cX4_readNumber 48 = .ok (.iconst 1, 1) := by decide +kernel
theorem dX4_readNumber_49 : decode cX4_readNumber 49 = .ok (.iadd, 1) := by decide +kernel
theorem dX4_readNumber_50 : decode cX4_readNumber 50 = .ok (.putfield 28, 3) := by decide +kernel
theorem dX4_readNumber_53 : decode cX4_readNumber 53 = .ok (.goto (-44), 3) := by decide +kernel
theorem dX4_readNumber_56 : decode cX4_readNumber 56 = .ok (.iload 4, 2) := by decide +kernel
theorem dX4_readNumber_58 : decode cX4_readNumber 58 = .ok (.ifCond .eq 10, 3) := by decide +kernel
theorem dX4_readNumber_61 : decode cX4_readNumber 61 = .ok (.aload_n 0, 1) := by decide +kernel
theorem dX4_readNumber_62 : decode cX4_readNumber 62 = .ok (.invokevirtual 80, 3) := by decide +kernel
theorem dX4_readNumber_65 : decode cX4_readNumber 65 = .ok (.ifCond .eq 12, 3) := by decide +kernel
theorem dX4_readNumber_68 : decode cX4_readNumber 68 = .ok (.aload_n 0, 1) := by decide +kernel
theorem dX4_readNumber_69 : decode cX4_readNumber 69 = .ok (.aload_n 0, 1) := by decide +kernel
theorem dX4_readNumber_70 : decode cX4_readNumber 70 = .ok (.getfield 28, 3) := by decide +kernel
theorem dX4_readNumber_73 : decode cX4_readNumber 73 = .ok (.putfield 31, 3) := by decide +kernel
theorem dX4_readNumber_76 : decode cX4_readNumber 76 = .ok (.return_, 1) := by decide +kernel
theorem dX4_readNumber_77 : decode cX4_readNumber 77 = .ok (.iload_n 1, 1) := by decide +kernel
theorem dX4_readNumber_78 : decode cX4_readNumber 78 = .ok (.invokestatic 50, 3) := by decide +kernel
theorem dX4_readNumber_81 : decode cX4_readNumber 81 = .ok (.iconst 3, 1) := by decide +kernel
theorem dX4_readNumber_82 : decode cX4_readNumber 82 = .ok (.imul, 1) := by decide +kernel
theorem dX4_readNumber_83 : decode cX4_readNumber 83 = .ok (.iload_n 2, 1) := by decide +kernel
theorem dX4_readNumber_84 : decode cX4_readNumber 84 = .ok (.iadd, 1) := by decide +kernel
theorem dX4_readNumber_85 : decode cX4_readNumber 85 = .ok (.istore 5, 2) := by decide +kernel
theorem dX4_readNumber_87 : decode cX4_readNumber 87 = .ok (.iload_n 3, 1) := by decide +kernel
theorem dX4_readNumber_88 : decode cX4_readNumber 88 = .ok (.getstatic 84, 3) := by decide +kernel
theorem dX4_readNumber_91 : decode cX4_readNumber 91 = .ok (.iload 5, 2) := by decide +kernel
theorem dX4_readNumber_93 : decode cX4_readNumber 93 = .ok (.iaload, 1) := by decide +kernel
theorem dX4_readNumber_94 : decode cX4_readNumber 94 = .ok (.getstatic 87, 3) := by decide +kernel
theorem dX4_readNumber_97 : decode cX4_readNumber 97 = .ok (.iload 5, 2) := by decide +kernel
theorem dX4_readNumber_99 : decode cX4_readNumber 99 = .ok (.iaload, 1) := by decide +kernel
theorem dX4_readNumber_100 : decode cX4_readNumber 100 = .ok (.invokestatic 90, 3) := by decide +kernel
theorem dX4_readNumber_103 : decode cX4_readNumber 103 = .ok (.ifCond .eq 14, 3) := by decide +kernel
theorem dX4_readNumber_106 : decode cX4_readNumber 106 = .ok (.aload_n 0, 1) := by decide +kernel
theorem dX4_readNumber_107 : decode cX4_readNumber 107 = .ok (.aload_n 0, 1) := by decide +kernel
theorem dX4_readNumber_108 : decode cX4_readNumber 108 = .ok (.getfield 28, 3) := by decide +kernel
theorem dX4_readNumber_111 : decode cX4_readNumber 111 = .ok (.iconst 1, 1) := by decide +kernel
theorem dX4_readNumber_112 : decode cX4_readNumber 112 = .ok (.isub, 1) := by decide +kernel
theorem dX4_readNumber_113 : decode cX4_readNumber 113 = .ok (.putfield 31, 3) := by decide +kernel
theorem dX4_readNumber_116 : decode cX4_readNumber 116 = .ok (.return_, 1) := by decide +kernel
theorem dX4_readNumber_117 : decode cX4_readNumber 117 = .ok (.aload_n 0, 1) := by decide +kernel
theorem dX4_readNumber_118 : decode cX4_readNumber 118 = .ok (.getfield 15, 3) := by decide +kernel
theorem dX4_readNumber_121 : decode cX4_readNumber 121 = .ok (.iload_n 1, 1) := by decide +kernel
theorem dX4_readNumber_122 : decode cX4_readNumber 122 = .ok (.iconst 3, 1) := by decide +kernel
theorem dX4_readNumber_123 : decode cX4_readNumber 123 = .ok (.imul, 1) := by decide +kernel
theorem dX4_readNumber_124 : decode cX4_readNumber 124 = .ok (.iload_n 2, 1) := by decide +kernel
theorem dX4_readNumber_125 : decode cX4_readNumber 125 = .ok (.iadd, 1) := by decide +kernel
theorem dX4_readNumber_126 : decode cX4_readNumber 126 = .ok (.iload_n 3, 1) := by decide +kernel
theorem dX4_readNumber_127 : decode cX4_readNumber 127 = .ok (.iastore, 1) := by decide +kernel
theorem dX4_readNumber_128 : decode cX4_readNumber 128 = .ok (.return_, 1) := by decide +kernel
theorem dX4_isDigitHere_0 : decode cX4_isDigitHere 0 = .ok (.aload_n 0, 1) := by decide +kernel
theorem dX4_isDigitHere_1 : decode cX4_isDigitHere 1 = .ok (.getfield 28, 3) := by decide +kernel
theorem dX4_isDigitHere_4 : decode cX4_isDigitHere 4 = .ok (.aload_n 0, 1) := by decide +kernel
theorem dX4_isDigitHere_5 : decode cX4_isDigitHere 5 = .ok (.getfield 24, 3) := by decide +kernel
theorem dX4_isDigitHere_8 : decode cX4_isDigitHere 8 = .ok (.if_icmp .ge 35, 3) := by decide +kernel
theorem dX4_isDigitHere_11 : decode cX4_isDigitHere 11 = .ok (.aload_n 0, 1) := by decide +kernel
theorem dX4_isDigitHere_12 : decode cX4_isDigitHere 12 = .ok (.getfield 9, 3) := by decide +kernel
theorem dX4_isDigitHere_15 : decode cX4_isDigitHere 15 = .ok (.aload_n 0, 1) := by decide +kernel
theorem dX4_isDigitHere_16 : decode cX4_isDigitHere 16 = .ok (.getfield 28, 3) := by decide +kernel
theorem dX4_isDigitHere_19 : decode cX4_isDigitHere 19 = .ok (.iaload, 1) := by decide +kernel
theorem dX4_isDigitHere_20 : decode cX4_isDigitHere 20 = .ok (.bipush 48, 2) := by decide +kernel
theorem dX4_isDigitHere_22 : decode cX4_isDigitHere 22 = .ok (.if_icmp .lt 21, 3) := by decide +kernel
theorem dX4_isDigitHere_25 : decode cX4_isDigitHere 25 = .ok (.aload_n 0, 1) := by decide +kernel
theorem dX4_isDigitHere_26 : decode cX4_isDigitHere 26 = .ok (.getfield 9, 3) := by decide +kernel
theorem dX4_isDigitHere_29 : decode cX4_isDigitHere 29 = .ok (.aload_n 0, 1) := by decide +kernel
theorem dX4_isDigitHere_30 : decode cX4_isDigitHere 30 = .ok (.getfield 28, 3) := by decide +kernel
theorem dX4_isDigitHere_33 : decode cX4_isDigitHere 33 = .ok (.iaload, 1) := by decide +kernel
theorem dX4_isDigitHere_34 : decode cX4_isDigitHere 34 = .ok (.bipush 57, 2) := by decide +kernel
theorem dX4_isDigitHere_36 : decode cX4_isDigitHere 36 = .ok (.if_icmp .gt 7, 3) := by decide +kernel
theorem dX4_isDigitHere_39 : decode cX4_isDigitHere 39 = .ok (.iconst 1, 1) := by decide +kernel
theorem dX4_isDigitHere_40 : decode cX4_isDigitHere 40 = .ok (.goto 4, 3) := by decide +kernel
theorem dX4_isDigitHere_43 : decode cX4_isDigitHere 43 = .ok (.iconst 0, 1) := by decide +kernel
theorem dX4_isDigitHere_44 : decode cX4_isDigitHere 44 = .ok (.ireturn, 1) := by decide +kernel
theorem dX4_passBlanks_0 : decode cX4_passBlanks 0 = .ok (.aload_n 0, 1) := by decide +kernel
theorem dX4_passBlanks_1 : decode cX4_passBlanks 1 = .ok (.getfield 28, 3) := by decide +kernel
theorem dX4_passBlanks_4 : decode cX4_passBlanks 4 = .ok (.aload_n 0, 1) := by decide +kernel
theorem dX4_passBlanks_5 : decode cX4_passBlanks 5 = .ok (.getfield 24, 3) := by decide +kernel
theorem dX4_passBlanks_8 : decode cX4_passBlanks 8 = .ok (.if_icmp .ge 30, 3) := by decide +kernel
theorem dX4_passBlanks_11 : decode cX4_passBlanks 11 = .ok (.aload_n 0, 1) := by decide +kernel
theorem dX4_passBlanks_12 : decode cX4_passBlanks 12 = .ok (.getfield 9, 3) := by decide +kernel
theorem dX4_passBlanks_15 : decode cX4_passBlanks 15 = .ok (.aload_n 0, 1) := by decide +kernel
theorem dX4_passBlanks_16 : decode cX4_passBlanks 16 = .ok (.getfield 28, 3) := by decide +kernel
theorem dX4_passBlanks_19 : decode cX4_passBlanks 19 = .ok (.iaload, 1) := by decide +kernel
theorem dX4_passBlanks_20 : decode cX4_passBlanks 20 = .ok (.bipush 32, 2) := by decide +kernel
theorem dX4_passBlanks_22 : decode cX4_passBlanks 22 = .ok (.if_icmp .ne 16, 3) := by decide +kernel
theorem dX4_passBlanks_25 : decode cX4_passBlanks 25 = .ok (.aload_n 0, 1) := by decide +kernel
theorem dX4_passBlanks_26 : decode cX4_passBlanks 26 = .ok (.dup, 1) := by decide +kernel
theorem dX4_passBlanks_27 : decode cX4_passBlanks 27 = .ok (.getfield 28, 3) := by decide +kernel
theorem dX4_passBlanks_30 : decode cX4_passBlanks 30 = .ok (.iconst 1, 1) := by decide +kernel
theorem dX4_passBlanks_31 : decode cX4_passBlanks 31 = .ok (.iadd, 1) := by decide +kernel
theorem dX4_passBlanks_32 : decode cX4_passBlanks 32 = .ok (.putfield 28, 3) := by decide +kernel
theorem dX4_passBlanks_35 : decode cX4_passBlanks 35 = .ok (.goto (-35), 3) := by decide +kernel
theorem dX4_passBlanks_38 : decode cX4_passBlanks 38 = .ok (.return_, 1) := by decide +kernel
theorem dX4_hops_0 : decode cX4_hops 0 = .ok (.iconst 1, 1) := by decide +kernel
theorem dX4_hops_1 : decode cX4_hops 1 = .ok (.aload_n 0, 1) := by decide +kernel
theorem dX4_hops_2 : decode cX4_hops 2 = .ok (.getfield 34, 3) := by decide +kernel
theorem dX4_hops_5 : decode cX4_hops 5 = .ok (.invokestatic 94, 3) := by decide +kernel
theorem dX4_hops_8 : decode cX4_hops 8 = .ok (.ireturn, 1) := by decide +kernel
theorem dX4_circuits_0 : decode cX4_circuits 0 = .ok (.iconst 1, 1) := by decide +kernel
theorem dX4_circuits_1 : decode cX4_circuits 1 = .ok (.aload_n 0, 1) := by decide +kernel
theorem dX4_circuits_2 : decode cX4_circuits 2 = .ok (.getfield 37, 3) := by decide +kernel
theorem dX4_circuits_5 : decode cX4_circuits 5 = .ok (.invokestatic 94, 3) := by decide +kernel
theorem dX4_circuits_8 : decode cX4_circuits 8 = .ok (.ireturn, 1) := by decide +kernel
theorem dX4_ofRules_0 : decode cX4_ofRules 0 = .ok (.aload_n 0, 1) := by decide +kernel
theorem dX4_ofRules_1 : decode cX4_ofRules 1 = .ok (.getfield 15, 3) := by decide +kernel
theorem dX4_ofRules_4 : decode cX4_ofRules 4 = .ok (.iload_n 1, 1) := by decide +kernel
theorem dX4_ofRules_5 : decode cX4_ofRules 5 = .ok (.iaload, 1) := by decide +kernel
theorem dX4_ofRules_6 : decode cX4_ofRules 6 = .ok (.ireturn, 1) := by decide +kernel
theorem dX4_ofHop_0 : decode cX4_ofHop 0 = .ok (.aload_n 0, 1) := by decide +kernel
theorem dX4_ofHop_1 : decode cX4_ofHop 1 = .ok (.getfield 15, 3) := by decide +kernel
theorem dX4_ofHop_4 : decode cX4_ofHop 4 = .ok (.iconst 1, 1) := by decide +kernel
theorem dX4_ofHop_5 : decode cX4_ofHop 5 = .ok (.iload_n 1, 1) := by decide +kernel
theorem dX4_ofHop_6 : decode cX4_ofHop 6 = .ok (.iadd, 1) := by decide +kernel
theorem dX4_ofHop_7 : decode cX4_ofHop 7 = .ok (.iconst 3, 1) := by decide +kernel
theorem dX4_ofHop_8 : decode cX4_ofHop 8 = .ok (.imul, 1) := by decide +kernel
theorem dX4_ofHop_9 : decode cX4_ofHop 9 = .ok (.iload_n 2, 1) := by decide +kernel
theorem dX4_ofHop_10 : decode cX4_ofHop 10 = .ok (.iadd, 1) := by decide +kernel
theorem dX4_ofHop_11 : decode cX4_ofHop 11 = .ok (.iaload, 1) := by decide +kernel
theorem dX4_ofHop_12 : decode cX4_ofHop 12 = .ok (.ireturn, 1) := by decide +kernel
theorem dX4_ofCircuit_0 : decode cX4_ofCircuit 0 = .ok (.aload_n 0, 1) := by decide +kernel
theorem dX4_ofCircuit_1 : decode cX4_ofCircuit 1 = .ok (.getfield 15, 3) := by decide +kernel
theorem dX4_ofCircuit_4 : decode cX4_ofCircuit 4 = .ok (.iconst 4, 1) := by decide +kernel
theorem dX4_ofCircuit_5 : decode cX4_ofCircuit 5 = .ok (.iload_n 1, 1) := by decide +kernel
theorem dX4_ofCircuit_6 : decode cX4_ofCircuit 6 = .ok (.iadd, 1) := by decide +kernel
theorem dX4_ofCircuit_7 : decode cX4_ofCircuit 7 = .ok (.iconst 3, 1) := by decide +kernel
theorem dX4_ofCircuit_8 : decode cX4_ofCircuit 8 = .ok (.imul, 1) := by decide +kernel
theorem dX4_ofCircuit_9 : decode cX4_ofCircuit 9 = .ok (.iload_n 2, 1) := by decide +kernel
theorem dX4_ofCircuit_10 : decode cX4_ofCircuit 10 = .ok (.iadd, 1) := by decide +kernel
theorem dX4_ofCircuit_11 : decode cX4_ofCircuit 11 = .ok (.iaload, 1) := by decide +kernel
theorem dX4_ofCircuit_12 : decode cX4_ofCircuit 12 = .ok (.ireturn, 1) := by decide +kernel
theorem dX5_init_0 : decode cX5_init 0 = .ok (.aload_n 0, 1) := by decide +kernel
theorem dX5_init_1 : decode cX5_init 1 = .ok (.invokespecial 1, 3) := by decide +kernel
theorem dX5_init_4 : decode cX5_init 4 = .ok (.aload_n 0, 1) := by decide +kernel
theorem dX5_init_5 : decode cX5_init 5 = .ok (.sipush 256, 3) := by decide +kernel
theorem dX5_init_8 : decode cX5_init 8 = .ok (.newarray .int, 2) := by decide +kernel
theorem dX5_init_10 : decode cX5_init 10 = .ok (.putfield 9, 3) := by decide +kernel
theorem dX5_init_13 : decode cX5_init 13 = .ok (.return_, 1) := by decide +kernel
theorem dX5_clear_0 : decode cX5_clear 0 = .ok (.aload_n 0, 1) := by decide +kernel
theorem dX5_clear_1 : decode cX5_clear 1 = .ok (.iconst 0, 1) := by decide +kernel
theorem dX5_clear_2 : decode cX5_clear 2 = .ok (.putfield 13, 3) := by decide +kernel
theorem dX5_clear_5 : decode cX5_clear 5 = .ok (.aload_n 0, 1) := by decide +kernel
theorem dX5_clear_6 : decode cX5_clear 6 = .ok (.iconst 0, 1) := by decide +kernel
theorem dX5_clear_7 : decode cX5_clear 7 = .ok (.putfield 17, 3) := by decide +kernel
theorem dX5_clear_10 : decode cX5_clear 10 = .ok (.aload_n 0, 1) := by decide +kernel
theorem dX5_clear_11 : decode cX5_clear 11 = .ok (.iconst 0, 1) := by decide +kernel
theorem dX5_clear_12 : decode cX5_clear 12 = .ok (.putfield 20, 3) := by decide +kernel
theorem dX5_clear_15 : decode cX5_clear 15 = .ok (.aload_n 0, 1) := by decide +kernel
theorem dX5_clear_16 : decode cX5_clear 16 = .ok (.iconst 0, 1) := by decide +kernel
theorem dX5_clear_17 : decode cX5_clear 17 = .ok (.putfield 23, 3) := by decide +kernel
theorem dX5_clear_20 : decode cX5_clear 20 = .ok (.aload_n 0, 1) := by decide +kernel
theorem dX5_clear_21 : decode cX5_clear 21 = .ok (.iconst 0, 1) := by decide +kernel
theorem dX5_clear_22 : decode cX5_clear 22 = .ok (.putfield 26, 3) := by decide +kernel
theorem dX5_clear_25 : decode cX5_clear 25 = .ok (.return_, 1) := by decide +kernel
theorem dX5_begin_0 : decode cX5_begin 0 = .ok (.aload_n 0, 1) := by decide +kernel
theorem dX5_begin_1 : decode cX5_begin 1 = .ok (.getfield 9, 3) := by decide +kernel
theorem dX5_begin_4 : decode cX5_begin 4 = .ok (.aload_n 0, 1) := by decide +kernel
theorem dX5_begin_5 : decode cX5_begin 5 = .ok (.getfield 13, 3) := by decide +kernel
theorem dX5_begin_8 : decode cX5_begin 8 = .ok (.aload_n 0, 1) := by decide +kernel
theorem dX5_begin_9 : decode cX5_begin 9 = .ok (.getfield 17, 3) := by decide +kernel
theorem dX5_begin_12 : decode cX5_begin 12 = .ok (.iadd, 1) := by decide +kernel
theorem dX5_begin_13 : decode cX5_begin 13 = .ok (.sipush 255, 3) := by decide +kernel
theorem dX5_begin_16 : decode cX5_begin 16 = .ok (.iand, 1) := by decide +kernel
theorem dX5_begin_17 : decode cX5_begin 17 = .ok (.iload_n 1, 1) := by decide +kernel
theorem dX5_begin_18 : decode cX5_begin 18 = .ok (.iastore, 1) := by decide +kernel
theorem dX5_begin_19 : decode cX5_begin 19 = .ok (.aload_n 0, 1) := by decide +kernel
theorem dX5_begin_20 : decode cX5_begin 20 = .ok (.dup, 1) := by decide +kernel
theorem dX5_begin_21 : decode cX5_begin 21 = .ok (.getfield 17, 3) := by decide +kernel
theorem dX5_begin_24 : decode cX5_begin 24 = .ok (.iconst 1, 1) := by decide +kernel
theorem dX5_begin_25 : decode cX5_begin 25 = .ok (.iadd, 1) := by decide +kernel
theorem dX5_begin_26 : decode cX5_begin 26 = .ok (.putfield 17, 3) := by decide +kernel
theorem dX5_begin_29 : decode cX5_begin 29 = .ok (.return_, 1) := by decide +kernel
theorem dX5_firstBegun_0 : decode cX5_firstBegun 0 = .ok (.aload_n 0, 1) := by decide +kernel
theorem dX5_firstBegun_1 : decode cX5_firstBegun 1 = .ok (.getfield 9, 3) := by decide +kernel
theorem dX5_firstBegun_4 : decode cX5_firstBegun 4 = .ok (.aload_n 0, 1) := by decide +kernel
theorem dX5_firstBegun_5 : decode cX5_firstBegun 5 = .ok (.getfield 13, 3) := by decide +kernel
theorem dX5_firstBegun_8 : decode cX5_firstBegun 8 = .ok (.sipush 255, 3) := by decide +kernel
theorem dX5_firstBegun_11 : decode cX5_firstBegun 11 = .ok (.iand, 1) := by decide +kernel
theorem dX5_firstBegun_12 : decode cX5_firstBegun 12 = .ok (.iaload, 1) := by decide +kernel
theorem dX5_firstBegun_13 : decode cX5_firstBegun 13 = .ok (.ireturn, 1) := by decide +kernel
set_option maxRecDepth 20000 in
theorem ggX5_finish_X5_firstBegun : GoodIn wsX5_finish wsX5_firstBegun := goodIn_r _ [14, 15, 8, 16, 17, 18, 19, 20, 21] (by decide +kernel) (by decide +kernel)
set_option maxRecDepth 20000 in
theorem gX5_finish_X5_firstBegun : GoodIn wsX5_finish (wsV RX5 29 RX5 yX5_firstBegun wsX5_firstBegun) := goodIn_app (goodIn_of _ (by decide +kernel)) ggX5_finish_X5_firstBegun
theorem dX5_finish_0 : decode cX5_finish 0 = .ok (.aload_n 0, 1) := by decide +kernel
theorem dX5_finish_1 : decode cX5_finish 1 = .ok (.iload_n 1, 1) := by decide +kernel
theorem dX5_finish_2 : decode cX5_finish 2 = .ok (.aload_n 0, 1) := by decide +kernel
theorem dX5_finish_3 : decode cX5_finish 3 = .ok (.invokevirtual 29, 3) := by decide +kernel
theorem dX5_finish_6 : decode cX5_finish 6 = .ok (.isub, 1) := by decide +kernel
theorem dX5_finish_7 : decode cX5_finish 7 = .ok (.putfield 20, 3) := by decide +kernel
theorem dX5_finish_10 : decode cX5_finish 10 = .ok (.aload_n 0, 1) := by decide +kernel
theorem dX5_finish_11 : decode cX5_finish 11 = .ok (.aload_n 0, 1) := by decide +kernel
theorem dX5_finish_12 : decode cX5_finish 12 = .ok (.getfield 23, 3) := by decide +kernel
theorem dX5_finish_15 : decode cX5_finish 15 = .ok (.aload_n 0, 1) := by decide +kernel
theorem dX5_finish_16 : decode cX5_finish 16 = .ok (.getfield 20, 3) := by decide +kernel
theorem dX5_finish_19 : decode cX5_finish 19 = .ok (.invokestatic 33, 3) := by decide +kernel
theorem dX5_finish_22 : decode cX5_finish 22 = .ok (.putfield 23, 3) := by decide +kernel
theorem dX5_finish_25 : decode cX5_finish 25 = .ok (.aload_n 0, 1) := by decide +kernel
theorem dX5_finish_26 : decode cX5_finish 26 = .ok (.dup, 1) := by decide +kernel
theorem dX5_finish_27 : decode cX5_finish 27 = .ok (.getfield 26, 3) := by decide +kernel
theorem dX5_finish_30 : decode cX5_finish 30 = .ok (.aload_n 0, 1) := by decide +kernel
theorem dX5_finish_31 : decode cX5_finish 31 = .ok (.getfield 20, 3) := by decide +kernel
theorem dX5_finish_34 : decode cX5_finish 34 = .ok (.iadd, 1) := by decide +kernel
theorem dX5_finish_35 : decode cX5_finish 35 = .ok (.putfield 26, 3) := by decide +kernel
theorem dX5_finish_38 : decode cX5_finish 38 = .ok (.aload_n 0, 1) := by decide +kernel
theorem dX5_finish_39 : decode cX5_finish 39 = .ok (.aload_n 0, 1) := by decide +kernel
theorem dX5_finish_40 : decode cX5_finish 40 = .ok (.getfield 13, 3) := by decide +kernel
theorem dX5_finish_43 : decode cX5_finish 43 = .ok (.iconst 1, 1) := by decide +kernel
theorem dX5_finish_44 : decode cX5_finish 44 = .ok (.iadd, 1) := by decide +kernel
theorem dX5_finish_45 : decode cX5_finish 45 = .ok (.sipush 255, 3) := by decide +kernel
theorem dX5_finish_48 : decode cX5_finish 48 = .ok (.iand, 1) := by decide +kernel
theorem dX5_finish_49 : decode cX5_finish 49 = .ok (.putfield 13, 3) := by decide +kernel
theorem dX5_finish_52 : decode cX5_finish 52 = .ok (.aload_n 0, 1) := by decide +kernel
theorem dX5_finish_53 : decode cX5_finish 53 = .ok (.dup, 1) := by decide +kernel
theorem dX5_finish_54 : decode cX5_finish 54 = .ok (.getfield 17, 3) := by decide +kernel
theorem dX5_finish_57 : decode cX5_finish 57 = .ok (.iconst 1, 1) := by decide +kernel
theorem dX5_finish_58 : decode cX5_finish 58 = .ok (.isub, 1) := by decide +kernel
theorem dX5_finish_59 : decode cX5_finish 59 = .ok (.putfield 17, 3) := by decide +kernel
theorem dX5_finish_62 : decode cX5_finish 62 = .ok (.return_, 1) := by decide +kernel
set_option maxRecDepth 20000 in
theorem ggX6_init_X4_init : GoodIn wsX6_init wsX4_init := goodIn_r _ [22, 23, 2, 3, 4, 24, 25, 69, 70, 71, 72, 73, 74, 75] (by decide +kernel) (by decide +kernel)
set_option maxRecDepth 20000 in
theorem gX6_init_X4_init_n18 : GoodIn wsX6_init (wsX4_init) := ggX6_init_X4_init
set_option maxRecDepth 20000 in
theorem ggX6_init_X3_init : GoodIn wsX6_init wsX3_init := goodIn_r _ [28, 29, 2, 3, 30, 31, 32, 33, 4, 34, 35, 36, 37, 38, 39, 40, 41, 42, 43, 44, 45, 46, 47, 48, 49, 50, 51, 52, 53, 54, 55, 76, 77, 78, 79, 80, 81, 82, 83, 84, 85, 86, 93, 94, 95, 96, 97, 98, 99, 100, 101, 102, 103, 104, 105, 106, 107, 108, 109, 110, 111, 112, 113, 114, 115, 116, 117] (by decide +kernel) (by decide +kernel)
set_option maxRecDepth 20000 in
theorem gX6_init_X3_init : GoodIn wsX6_init (wsX3_init) := ggX6_init_X3_init
set_option maxRecDepth 20000 in
theorem ggX6_init_X5_init : GoodIn wsX6_init wsX5_init := goodIn_r _ [57, 58, 2, 3, 4, 59, 87, 88, 89, 90, 91, 92] (by decide +kernel) (by decide +kernel)
set_option maxRecDepth 20000 in
theorem gX6_init_X5_init_n42 : GoodIn wsX6_init (wsX5_init) := ggX6_init_X5_init
theorem dX6_init_0 : decode cX6_init 0 = .ok (.aload_n 0, 1) := by decide +kernel
theorem dX6_init_1 : decode cX6_init 1 = .ok (.invokespecial 1, 3) := by decide +kernel
theorem dX6_init_4 : decode cX6_init 4 = .ok (.aload_n 0, 1) := by decide +kernel
theorem dX6_init_5 : decode cX6_init 5 = .ok (.sipush 160, 3) := by decide +kernel
theorem dX6_init_8 : decode cX6_init 8 = .ok (.newarray .int, 2) := by decide +kernel
theorem dX6_init_10 : decode cX6_init 10 = .ok (.putfield 9, 3) := by decide +kernel
theorem dX6_init_13 : decode cX6_init 13 = .ok (.aload_n 0, 1) := by decide +kernel
theorem dX6_init_14 : decode cX6_init 14 = .ok (.iconst 4, 1) := by decide +kernel
theorem dX6_init_15 : decode cX6_init 15 = .ok (.newarray .int, 2) := by decide +kernel
theorem dX6_init_17 : decode cX6_init 17 = .ok (.putfield 13, 3) := by decide +kernel
theorem dX6_init_20 : decode cX6_init 20 = .ok (.aload_n 0, 1) := by decide +kernel
theorem dX6_init_21 : decode cX6_init 21 = .ok (.new 16, 3) := by decide +kernel
theorem dX6_init_24 : decode cX6_init 24 = .ok (.dup, 1) := by decide +kernel
theorem dX6_init_25 : decode cX6_init 25 = .ok (.invokespecial 18, 3) := by decide +kernel
theorem dX6_init_28 : decode cX6_init 28 = .ok (.putfield 19, 3) := by decide +kernel
theorem dX6_init_31 : decode cX6_init 31 = .ok (.aload_n 0, 1) := by decide +kernel
theorem dX6_init_32 : decode cX6_init 32 = .ok (.new 23, 3) := by decide +kernel
theorem dX6_init_35 : decode cX6_init 35 = .ok (.dup, 1) := by decide +kernel
theorem dX6_init_36 : decode cX6_init 36 = .ok (.invokespecial 25, 3) := by decide +kernel
theorem dX6_init_39 : decode cX6_init 39 = .ok (.putfield 26, 3) := by decide +kernel
theorem dX6_init_42 : decode cX6_init 42 = .ok (.aload_n 0, 1) := by decide +kernel
theorem dX6_init_43 : decode cX6_init 43 = .ok (.new 23, 3) := by decide +kernel
theorem dX6_init_46 : decode cX6_init 46 = .ok (.dup, 1) := by decide +kernel
theorem dX6_init_47 : decode cX6_init 47 = .ok (.invokespecial 25, 3) := by decide +kernel
theorem dX6_init_50 : decode cX6_init 50 = .ok (.putfield 30, 3) := by decide +kernel
theorem dX6_init_53 : decode cX6_init 53 = .ok (.aload_n 0, 1) := by decide +kernel
theorem dX6_init_54 : decode cX6_init 54 = .ok (.iconst 3, 1) := by decide +kernel
theorem dX6_init_55 : decode cX6_init 55 = .ok (.anewarray 33, 3) := by decide +kernel
theorem dX6_init_58 : decode cX6_init 58 = .ok (.putfield 35, 3) := by decide +kernel
theorem dX6_init_61 : decode cX6_init 61 = .ok (.aload_n 0, 1) := by decide +kernel
theorem dX6_init_62 : decode cX6_init 62 = .ok (.iconst 3, 1) := by decide +kernel
theorem dX6_init_63 : decode cX6_init 63 = .ok (.newarray .int, 2) := by decide +kernel
theorem dX6_init_65 : decode cX6_init 65 = .ok (.putfield 39, 3) := by decide +kernel
theorem dX6_init_68 : decode cX6_init 68 = .ok (.iconst 0, 1) := by decide +kernel
theorem dX6_init_69 : decode cX6_init 69 = .ok (.istore_n 1, 1) := by decide +kernel
theorem dX6_init_70 : decode cX6_init 70 = .ok (.iload_n 1, 1) := by decide +kernel
theorem dX6_init_71 : decode cX6_init 71 = .ok (.iconst 3, 1) := by decide +kernel
theorem dX6_init_72 : decode cX6_init 72 = .ok (.if_icmp .ge 22, 3) := by decide +kernel
theorem dX6_init_75 : decode cX6_init 75 = .ok (.aload_n 0, 1) := by decide +kernel
theorem dX6_init_76 : decode cX6_init 76 = .ok (.getfield 35, 3) := by decide +kernel
theorem dX6_init_79 : decode cX6_init 79 = .ok (.iload_n 1, 1) := by decide +kernel
theorem dX6_init_80 : decode cX6_init 80 = .ok (.new 33, 3) := by decide +kernel
theorem dX6_init_83 : decode cX6_init 83 = .ok (.dup, 1) := by decide +kernel
theorem dX6_init_84 : decode cX6_init 84 = .ok (.invokespecial 42, 3) := by decide +kernel
theorem dX6_init_87 : decode cX6_init 87 = .ok (.aastore, 1) := by decide +kernel
theorem dX6_init_88 : decode cX6_init 88 = .ok (.iinc 1 1, 3) := by decide +kernel
theorem dX6_init_91 : decode cX6_init 91 = .ok (.goto (-21), 3) := by decide +kernel
theorem dX6_init_94 : decode cX6_init 94 = .ok (.return_, 1) := by decide +kernel
set_option maxRecDepth 20000 in
theorem ggX6_feed_X6_signsIn : GoodIn wsX6_feed wsX6_signsIn := goodIn_r _ [5] (by decide +kernel) (by decide +kernel)
set_option maxRecDepth 20000 in
theorem gX6_feed_X6_signsIn : GoodIn wsX6_feed (va_wsS RX6 43 yX6_signsIn wsX6_signsIn) := goodIn_app (goodIn_of _ (by decide +kernel)) ggX6_feed_X6_signsIn
set_option maxRecDepth 20000 in
theorem ggX6_feed_X6_append : GoodIn wsX6_feed wsX6_append := goodIn_r _ [9, 1, 10, 11, 12, 13, 14, 15, 16, 17, 18, 19] (by decide +kernel) (by decide +kernel)
set_option maxRecDepth 20000 in
theorem gX6_feed_X6_append : GoodIn wsX6_feed (wsV RX6 51 RX6 yX6_append wsX6_append) := goodIn_app (goodIn_of _ (by decide +kernel)) ggX6_feed_X6_append
theorem dX6_feed_0 : decode cX6_feed 0 = .ok (.iload_n 1, 1) := by decide +kernel
theorem dX6_feed_1 : decode cX6_feed 1 = .ok (.invokestatic 43, 3) := by decide +kernel
theorem dX6_feed_4 : decode cX6_feed 4 = .ok (.iload_n 2, 1) := by decide +kernel
theorem dX6_feed_5 : decode cX6_feed 5 = .ok (.invokestatic 43, 3) := by decide +kernel
theorem dX6_feed_8 : decode cX6_feed 8 = .ok (.iadd, 1) := by decide +kernel
theorem dX6_feed_9 : decode cX6_feed 9 = .ok (.iload_n 3, 1) := by decide +kernel
theorem dX6_feed_10 : decode cX6_feed 10 = .ok (.invokestatic 43, 3) := by decide +kernel
theorem dX6_feed_13 : decode cX6_feed 13 = .ok (.iadd, 1) := by decide +kernel
theorem dX6_feed_14 : decode cX6_feed 14 = .ok (.iload 4, 2) := by decide +kernel
theorem dX6_feed_16 : decode cX6_feed 16 = .ok (.invokestatic 43, 3) := by decide +kernel
theorem dX6_feed_19 : decode cX6_feed 19 = .ok (.iadd, 1) := by decide +kernel
theorem dX6_feed_20 : decode cX6_feed 20 = .ok (.iload 5, 2) := by decide +kernel
theorem dX6_feed_22 : decode cX6_feed 22 = .ok (.invokestatic 43, 3) := by decide +kernel
theorem dX6_feed_25 : decode cX6_feed 25 = .ok (.iadd, 1) := by decide +kernel
theorem dX6_feed_26 : decode cX6_feed 26 = .ok (.istore 6, 2) := by decide +kernel
theorem dX6_feed_28 : decode cX6_feed 28 = .ok (.aload_n 0, 1) := by decide +kernel
theorem dX6_feed_29 : decode cX6_feed 29 = .ok (.getfield 47, 3) := by decide +kernel
theorem dX6_feed_32 : decode cX6_feed 32 = .ok (.iload 6, 2) := by decide +kernel
theorem dX6_feed_34 : decode cX6_feed 34 = .ok (.iadd, 1) := by decide +kernel
theorem dX6_feed_35 : decode cX6_feed 35 = .ok (.sipush 160, 3) := by decide +kernel
theorem dX6_feed_38 : decode cX6_feed 38 = .ok (.if_icmp .le 5, 3) := by decide +kernel
theorem dX6_feed_41 : decode cX6_feed 41 = .ok (.iconst (-1), 1) := by decide +kernel
theorem dX6_feed_42 : decode cX6_feed 42 = .ok (.ireturn, 1) := by decide +kernel
theorem dX6_feed_43 : decode cX6_feed 43 = .ok (.aload_n 0, 1) := by decide +kernel
theorem dX6_feed_44 : decode cX6_feed 44 = .ok (.iload_n 1, 1) := by decide +kernel
theorem dX6_feed_45 : decode cX6_feed 45 = .ok (.invokevirtual 51, 3) := by decide +kernel
theorem dX6_feed_48 : decode cX6_feed 48 = .ok (.aload_n 0, 1) := by decide +kernel
theorem dX6_feed_49 : decode cX6_feed 49 = .ok (.iload_n 2, 1) := by decide +kernel
theorem dX6_feed_50 : decode cX6_feed 50 = .ok (.invokevirtual 51, 3) := by decide +kernel
theorem dX6_feed_53 : decode cX6_feed 53 = .ok (.aload_n 0, 1) := by decide +kernel
theorem dX6_feed_54 : decode cX6_feed 54 = .ok (.iload_n 3, 1) := by decide +kernel
theorem dX6_feed_55 : decode cX6_feed 55 = .ok (.invokevirtual 51, 3) := by decide +kernel
theorem dX6_feed_58 : decode cX6_feed 58 = .ok (.aload_n 0, 1) := by decide +kernel
theorem dX6_feed_59 : decode cX6_feed 59 = .ok (.iload 4, 2) := by decide +kernel
theorem dX6_feed_61 : decode cX6_feed 61 = .ok (.invokevirtual 51, 3) := by decide +kernel
theorem dX6_feed_64 : decode cX6_feed 64 = .ok (.aload_n 0, 1) := by decide +kernel
theorem dX6_feed_65 : decode cX6_feed 65 = .ok (.iload 5, 2) := by decide +kernel
theorem dX6_feed_67 : decode cX6_feed 67 = .ok (.invokevirtual 51, 3) := by decide +kernel
theorem dX6_feed_70 : decode cX6_feed 70 = .ok (.aload_n 0, 1) := by decide +kernel
theorem dX6_feed_71 : decode cX6_feed 71 = .ok (.getfield 47, 3) := by decide +kernel
theorem dX6_feed_74 : decode cX6_feed 74 = .ok (.ireturn, 1) := by decide +kernel
theorem dX6_signsIn_0 : decode cX6_signsIn 0 = .ok (.iconst 0, 1) := by decide +kernel
theorem dX6_signsIn_1 : decode cX6_signsIn 1 = .ok (.istore_n 1, 1) := by decide +kernel
theorem dX6_signsIn_2 : decode cX6_signsIn 2 = .ok (.bipush 24, 2) := by decide +kernel
theorem dX6_signsIn_4 : decode cX6_signsIn 4 = .ok (.istore_n 2, 1) := by decide +kernel
theorem dX6_signsIn_5 : decode cX6_signsIn 5 = .ok (.iload_n 2, 1) := by decide +kernel
theorem dX6_signsIn_6 : decode cX6_signsIn 6 = .ok (.ifCond .lt 22, 3) := by decide +kernel
theorem dX6_signsIn_9 : decode cX6_signsIn 9 = .ok (.iload_n 0, 1) := by decide +kernel
theorem dX6_signsIn_10 : decode cX6_signsIn 10 = .ok (.iload_n 2, 1) := by decide +kernel
theorem dX6_signsIn_11 : decode cX6_signsIn 11 = .ok (.iushr, 1) := by decide +kernel
theorem dX6_signsIn_12 : decode cX6_signsIn 12 = .ok (.sipush 255, 3) := by decide +kernel
theorem dX6_signsIn_15 : decode cX6_signsIn 15 = .ok (.iand, 1) := by decide +kernel
theorem dX6_signsIn_16 : decode cX6_signsIn 16 = .ok (.ifCond .eq 6, 3) := by decide +kernel
theorem dX6_signsIn_19 : decode cX6_signsIn 19 = .ok (.iinc 1 1, 3) := by decide +kernel
theorem dX6_signsIn_22 : decode cX6_signsIn 22 = .ok (.iinc 2 (-8), 3) := by decide +kernel
theorem dX6_signsIn_25 : decode cX6_signsIn 25 = .ok (.goto (-20), 3) := by decide +kernel
theorem dX6_signsIn_28 : decode cX6_signsIn 28 = .ok (.iload_n 1, 1) := by decide +kernel
theorem dX6_signsIn_29 : decode cX6_signsIn 29 = .ok (.ireturn, 1) := by decide +kernel
theorem dX6_append_0 : decode cX6_append 0 = .ok (.bipush 24, 2) := by decide +kernel
theorem dX6_append_2 : decode cX6_append 2 = .ok (.istore_n 2, 1) := by decide +kernel
theorem dX6_append_3 : decode cX6_append 3 = .ok (.iload_n 2, 1) := by decide +kernel
theorem dX6_append_4 : decode cX6_append 4 = .ok (.ifCond .lt 51, 3) := by decide +kernel
theorem dX6_append_7 : decode cX6_append 7 = .ok (.iload_n 1, 1) := by decide +kernel
theorem dX6_append_8 : decode cX6_append 8 = .ok (.iload_n 2, 1) := by decide +kernel
theorem dX6_append_9 : decode cX6_append 9 = .ok (.iushr, 1) := by decide +kernel
theorem dX6_append_10 : decode cX6_append 10 = .ok (.sipush 255, 3) := by decide +kernel
theorem dX6_append_13 : decode cX6_append 13 = .ok (.iand, 1) := by decide +kernel
theorem dX6_append_14 : decode cX6_append 14 = .ok (.istore_n 3, 1) := by decide +kernel
theorem dX6_append_15 : decode cX6_append 15 = .ok (.iload_n 3, 1) := by decide +kernel
theorem dX6_append_16 : decode cX6_append 16 = .ok (.ifCond .eq 33, 3) := by decide +kernel
theorem dX6_append_19 : decode cX6_append 19 = .ok (.aload_n 0, 1) := by decide +kernel
theorem dX6_append_20 : decode cX6_append 20 = .ok (.getfield 47, 3) := by decide +kernel
theorem dX6_append_23 : decode cX6_append 23 = .ok (.sipush 160, 3) := by decide +kernel
theorem dX6_append_26 : decode cX6_append 26 = .ok (.if_icmp .ge 23, 3) := by decide +kernel
theorem dX6_append_29 : decode cX6_append 29 = .ok (.aload_n 0, 1) := by decide +kernel
theorem dX6_append_30 : decode cX6_append 30 = .ok (.getfield 9, 3) := by decide +kernel
theorem dX6_append_33 : decode cX6_append 33 = .ok (.aload_n 0, 1) := by decide +kernel
theorem dX6_append_34 : decode cX6_append 34 = .ok (.getfield 47, 3) := by decide +kernel
theorem dX6_append_37 : decode cX6_append 37 = .ok (.iload_n 3, 1) := by decide +kernel
theorem dX6_append_38 : decode cX6_append 38 = .ok (.iastore, 1) := by decide +kernel
theorem dX6_append_39 : decode cX6_append 39 = .ok (.aload_n 0, 1) := by decide +kernel
theorem dX6_append_40 : decode cX6_append 40 = .ok (.dup, 1) := by decide +kernel
theorem dX6_append_41 : decode cX6_append 41 = .ok (.getfield 47, 3) := by decide +kernel
theorem dX6_append_44 : decode cX6_append 44 = .ok (.iconst 1, 1) := by decide +kernel
theorem dX6_append_45 : decode cX6_append 45 = .ok (.iadd, 1) := by decide +kernel
theorem dX6_append_46 : decode cX6_append 46 = .ok (.putfield 47, 3) := by decide +kernel
theorem dX6_append_49 : decode cX6_append 49 = .ok (.iinc 2 (-8), 3) := by decide +kernel
theorem dX6_append_52 : decode cX6_append 52 = .ok (.goto (-49), 3) := by decide +kernel
theorem dX6_append_55 : decode cX6_append 55 = .ok (.return_, 1) := by decide +kernel
set_option maxRecDepth 20000 in
theorem ggX6_end_X6_outside : GoodIn wsX6_end wsX6_outside := goodIn_r _ [5] (by decide +kernel) (by decide +kernel)
set_option maxRecDepth 20000 in
theorem gX6_end_X6_outside : GoodIn wsX6_end (va_wsS RX6 55 yX6_outside wsX6_outside) := goodIn_app (goodIn_of _ (by decide +kernel)) ggX6_end_X6_outside
theorem dX6_end_0 : decode cX6_end 0 = .ok (.iload_n 1, 1) := by decide +kernel
theorem dX6_end_1 : decode cX6_end 1 = .ok (.iconst 0, 1) := by decide +kernel
theorem dX6_end_2 : decode cX6_end 2 = .ok (.aload_n 0, 1) := by decide +kernel
theorem dX6_end_3 : decode cX6_end 3 = .ok (.getfield 47, 3) := by decide +kernel
theorem dX6_end_6 : decode cX6_end 6 = .ok (.invokestatic 55, 3) := by decide +kernel
theorem dX6_end_9 : decode cX6_end 9 = .ok (.ifCond .eq 5, 3) := by decide +kernel
theorem dX6_end_12 : decode cX6_end 12 = .ok (.iconst 0, 1) := by decide +kernel
theorem dX6_end_13 : decode cX6_end 13 = .ok (.ireturn, 1) := by decide +kernel
theorem dX6_end_14 : decode cX6_end 14 = .ok (.aload_n 0, 1) := by decide +kernel
theorem dX6_end_15 : decode cX6_end 15 = .ok (.iload_n 1, 1) := by decide +kernel
theorem dX6_end_16 : decode cX6_end 16 = .ok (.putfield 47, 3) := by decide +kernel
theorem dX6_end_19 : decode cX6_end 19 = .ok (.iconst 1, 1) := by decide +kernel
theorem dX6_end_20 : decode cX6_end 20 = .ok (.ireturn, 1) := by decide +kernel
set_option maxRecDepth 20000 in
theorem ggX6_fault_X4_faultOf : GoodIn wsX6_fault wsX4_faultOf := goodIn_r _ [8, 9, 10, 11, 12, 13, 14, 15, 16, 17, 18, 19, 20, 21, 7, 22, 23, 24, 25, 26, 27, 28, 29, 30, 31, 32, 33, 34, 35, 36, 37, 38, 39, 40, 41, 42, 43, 44, 45, 46, 47, 48, 49, 50, 51, 52, 53, 54, 55, 56, 57, 58, 59, 60, 61, 62, 63, 64, 65, 66, 67, 68, 69, 70, 71, 72, 73, 74, 75, 76, 77, 78, 79, 80, 81, 82, 83, 84, 85, 86, 87, 88, 89, 90, 91, 92, 93, 94, 95, 96, 97, 98, 99, 100, 110, 111, 112, 113, 114, 115, 116] (by decide +kernel) (by decide +kernel)
set_option maxRecDepth 20000 in
theorem gX6_fault_X4_faultOf : GoodIn wsX6_fault (wsV RX6 59 RX4 yX4_faultOf wsX4_faultOf) := goodIn_app (goodIn_of _ (by decide +kernel)) ggX6_fault_X4_faultOf
theorem dX6_fault_0 : decode cX6_fault 0 = .ok (.aload_n 0, 1) := by decide +kernel
theorem dX6_fault_1 : decode cX6_fault 1 = .ok (.getfield 19, 3) := by decide +kernel
theorem dX6_fault_4 : decode cX6_fault 4 = .ok (.aload_n 0, 1) := by decide +kernel
theorem dX6_fault_5 : decode cX6_fault 5 = .ok (.getfield 9, 3) := by decide +kernel
theorem dX6_fault_8 : decode cX6_fault 8 = .ok (.aload_n 0, 1) := by decide +kernel
theorem dX6_fault_9 : decode cX6_fault 9 = .ok (.getfield 47, 3) := by decide +kernel
theorem dX6_fault_12 : decode cX6_fault 12 = .ok (.invokevirtual 59, 3) := by decide +kernel
theorem dX6_fault_15 : decode cX6_fault 15 = .ok (.ireturn, 1) := by decide +kernel
set_option maxRecDepth 20000 in
theorem ggX6_net_X4_faultOf : GoodIn wsX6_net wsX4_faultOf := goodIn_r _ [12, 13, 14, 15, 16, 17, 18, 19, 20, 21, 22, 23, 24, 25, 11, 26, 27, 28, 29, 30, 31, 32, 33, 34, 35, 36, 37, 38, 39, 40, 41, 42, 43, 44, 45, 46, 47, 48, 49, 50, 51, 52, 53, 54, 55, 56, 57, 58, 59, 60, 61, 62, 63, 64, 65, 66, 67, 68, 69, 70, 71, 72, 73, 74, 75, 76, 77, 78, 79, 80, 81, 82, 83, 84, 85, 86, 87, 88, 89, 90, 91, 92, 93, 94, 95, 96, 97, 98, 99, 100, 101, 102, 103, 104, 223, 224, 225, 226, 227, 228, 229] (by decide +kernel) (by decide +kernel)
set_option maxRecDepth 20000 in
theorem gX6_net_X4_faultOf : GoodIn wsX6_net (wsV RX6 59 RX4 yX4_faultOf wsX4_faultOf) := goodIn_app (goodIn_of _ (by decide +kernel)) ggX6_net_X4_faultOf
set_option maxRecDepth 20000 in
theorem ggX6_net_X3_lay : GoodIn wsX6_net wsX3_lay := goodIn_r _ [109, 110, 111, 112, 113, 114, 115, 116, 16, 117, 118, 119, 120, 121, 122, 11, 123, 21, 124, 125, 126, 127, 128, 22, 129, 130, 131, 132, 27, 133, 134, 135, 108, 136, 137, 138, 139, 140, 141, 142, 143, 144, 145, 146, 147, 148, 149, 150, 151, 152, 153, 154, 155, 156, 157, 158, 159, 160, 161, 162, 163, 164, 165, 166, 167, 168, 169, 170, 171, 172, 173, 174, 175, 176, 177, 178, 179, 180, 181, 182, 183, 184, 185, 186, 187, 188, 189, 190, 191, 192, 212, 213, 214, 215, 216, 217, 218, 219, 220, 221, 222, 223, 224, 225, 226, 227, 228, 229, 230, 231, 232, 233, 234, 235, 236, 237, 238, 239, 240, 241, 242, 243, 244, 245, 246, 247, 248, 249, 250, 251, 252, 253, 254] (by decide +kernel) (by decide +kernel)
set_option maxRecDepth 20000 in
theorem gX6_net_X3_lay : GoodIn wsX6_net (wsV RX6 63 RX3 yX3_lay wsX3_lay) := goodIn_app (goodIn_of _ (by decide +kernel)) ggX6_net_X3_lay
set_option maxRecDepth 20000 in
theorem ggX6_net_X5_clear : GoodIn wsX6_net wsX5_clear := goodIn_r _ [197, 198, 199, 200, 201, 202, 255, 256, 257, 258, 259, 260] (by decide +kernel) (by decide +kernel)
set_option maxRecDepth 20000 in
theorem gX6_net_X5_clear : GoodIn wsX6_net (wsV RX6 67 RX5 yX5_clear wsX5_clear) := goodIn_app (goodIn_of _ (by decide +kernel)) ggX6_net_X5_clear
theorem dX6_net_0 : decode cX6_net 0 = .ok (.aload_n 0, 1) := by decide +kernel
theorem dX6_net_1 : decode cX6_net 1 = .ok (.getfield 19, 3) := by decide +kernel
theorem dX6_net_4 : decode cX6_net 4 = .ok (.aload_n 0, 1) := by decide +kernel
theorem dX6_net_5 : decode cX6_net 5 = .ok (.getfield 9, 3) := by decide +kernel
theorem dX6_net_8 : decode cX6_net 8 = .ok (.aload_n 0, 1) := by decide +kernel
theorem dX6_net_9 : decode cX6_net 9 = .ok (.getfield 47, 3) := by decide +kernel
theorem dX6_net_12 : decode cX6_net 12 = .ok (.invokevirtual 59, 3) := by decide +kernel
theorem dX6_net_15 : decode cX6_net 15 = .ok (.iconst (-1), 1) := by decide +kernel
theorem dX6_net_16 : decode cX6_net 16 = .ok (.if_icmp .eq 5, 3) := by decide +kernel
theorem dX6_net_19 : decode cX6_net 19 = .ok (.iconst (-1), 1) := by decide +kernel
theorem dX6_net_20 : decode cX6_net 20 = .ok (.ireturn, 1) := by decide +kernel
theorem dX6_net_21 : decode cX6_net 21 = .ok (.aload_n 0, 1) := by decide +kernel
theorem dX6_net_22 : decode cX6_net 22 = .ok (.getfield 26, 3) := by decide +kernel
theorem dX6_net_25 : decode cX6_net 25 = .ok (.aload_n 0, 1) := by decide +kernel
theorem dX6_net_26 : decode cX6_net 26 = .ok (.getfield 19, 3) := by decide +kernel
theorem dX6_net_29 : decode cX6_net 29 = .ok (.invokevirtual 63, 3) := by decide +kernel
theorem dX6_net_32 : decode cX6_net 32 = .ok (.iconst 0, 1) := by decide +kernel
theorem dX6_net_33 : decode cX6_net 33 = .ok (.istore_n 1, 1) := by decide +kernel
theorem dX6_net_34 : decode cX6_net 34 = .ok (.iload_n 1, 1) := by decide +kernel
theorem dX6_net_35 : decode cX6_net 35 = .ok (.iconst 3, 1) := by decide +kernel
theorem dX6_net_36 : decode cX6_net 36 = .ok (.if_icmp .ge 18, 3) := by decide +kernel
theorem dX6_net_39 : decode cX6_net 39 = .ok (.aload_n 0, 1) := by decide +kernel
theorem dX6_net_40 : decode cX6_net 40 = .ok (.getfield 35, 3) := by decide +kernel
theorem dX6_net_43 : decode cX6_net 43 = .ok (.iload_n 1, 1) := by decide +kernel
theorem dX6_net_44 : decode cX6_net 44 = .ok (.aaload, 1) := by decide +kernel
theorem dX6_net_45 : decode cX6_net 45 = .ok (.invokevirtual 67, 3) := by decide +kernel
theorem dX6_net_48 : decode cX6_net 48 = .ok (.iinc 1 1, 3) := by decide +kernel
theorem dX6_net_51 : decode cX6_net 51 = .ok (.goto (-17), 3) := by decide +kernel
theorem dX6_net_54 : decode cX6_net 54 = .ok (.aload_n 0, 1) := by decide +kernel
theorem dX6_net_55 : decode cX6_net 55 = .ok (.iconst 1, 1) := by decide +kernel
theorem dX6_net_56 : decode cX6_net 56 = .ok (.putfield 70, 3) := by decide +kernel
theorem dX6_net_59 : decode cX6_net 59 = .ok (.aload_n 0, 1) := by decide +kernel
theorem dX6_net_60 : decode cX6_net 60 = .ok (.iconst 0, 1) := by decide +kernel
theorem dX6_net_61 : decode cX6_net 61 = .ok (.putfield 47, 3) := by decide +kernel
theorem dX6_net_64 : decode cX6_net 64 = .ok (.aload_n 0, 1) := by decide +kernel
theorem dX6_net_65 : decode cX6_net 65 = .ok (.getfield 26, 3) := by decide +kernel
theorem dX6_net_68 : decode cX6_net 68 = .ok (.getfield 74, 3) := by decide +kernel
theorem dX6_net_71 : decode cX6_net 71 = .ok (.ireturn, 1) := by decide +kernel
theorem dX6_rule_0 : decode cX6_rule 0 = .ok (.aload_n 0, 1) := by decide +kernel
theorem dX6_rule_1 : decode cX6_rule 1 = .ok (.getfield 70, 3) := by decide +kernel
theorem dX6_rule_4 : decode cX6_rule 4 = .ok (.ifCond .ne 6, 3) := by decide +kernel
theorem dX6_rule_7 : decode cX6_rule 7 = .ok (.ldc 77, 2) := by decide +kernel
theorem dX6_rule_9 : decode cX6_rule 9 = .ok (.ireturn, 1) := by decide +kernel
theorem dX6_rule_10 : decode cX6_rule 10 = .ok (.iload_n 1, 1) := by decide +kernel
theorem dX6_rule_11 : decode cX6_rule 11 = .ok (.tableswitch 85 0 5 #[37, 45, 53, 61, 69, 77], 37) := by decide +kernel
theorem dX6_rule_48 : decode cX6_rule 48 = .ok (.aload_n 0, 1) := by decide +kernel
theorem dX6_rule_49 : decode cX6_rule 49 = .ok (.getfield 26, 3) := by decide +kernel
theorem dX6_rule_52 : decode cX6_rule 52 = .ok (.getfield 78, 3) := by decide +kernel
theorem dX6_rule_55 : decode cX6_rule 55 = .ok (.ireturn, 1) := by decide +kernel
theorem dX6_rule_56 : decode cX6_rule 56 = .ok (.aload_n 0, 1) := by decide +kernel
theorem dX6_rule_57 : decode cX6_rule 57 = .ok (.getfield 26, 3) := by decide +kernel
theorem dX6_rule_60 : decode cX6_rule 60 = .ok (.getfield 74, 3) := by decide +kernel
theorem dX6_rule_63 : decode cX6_rule 63 = .ok (.ireturn, 1) := by decide +kernel
theorem dX6_rule_64 : decode cX6_rule 64 = .ok (.aload_n 0, 1) := by decide +kernel
theorem dX6_rule_65 : decode cX6_rule 65 = .ok (.getfield 26, 3) := by decide +kernel
theorem dX6_rule_68 : decode cX6_rule 68 = .ok (.getfield 81, 3) := by decide +kernel
theorem dX6_rule_71 : decode cX6_rule 71 = .ok (.ireturn, 1) := by decide +kernel
theorem dX6_rule_72 : decode cX6_rule 72 = .ok (.aload_n 0, 1) := by decide +kernel
theorem dX6_rule_73 : decode cX6_rule 73 = .ok (.getfield 26, 3) := by decide +kernel
theorem dX6_rule_76 : decode cX6_rule 76 = .ok (.getfield 84, 3) := by decide +kernel
theorem dX6_rule_79 : decode cX6_rule 79 = .ok (.ireturn, 1) := by decide +kernel
theorem dX6_rule_80 : decode cX6_rule 80 = .ok (.aload_n 0, 1) := by decide +kernel
theorem dX6_rule_81 : decode cX6_rule 81 = .ok (.getfield 26, 3) := by decide +kernel
theorem dX6_rule_84 : decode cX6_rule 84 = .ok (.getfield 87, 3) := by decide +kernel
theorem dX6_rule_87 : decode cX6_rule 87 = .ok (.ireturn, 1) := by decide +kernel
theorem dX6_rule_88 : decode cX6_rule 88 = .ok (.aload_n 0, 1) := by decide +kernel
theorem dX6_rule_89 : decode cX6_rule 89 = .ok (.getfield 26, 3) := by decide +kernel
theorem dX6_rule_92 : decode cX6_rule 92 = .ok (.getfield 90, 3) := by decide +kernel
theorem dX6_rule_95 : decode cX6_rule 95 = .ok (.ireturn, 1) := by decide +kernel
theorem dX6_rule_96 : decode cX6_rule 96 = .ok (.ldc 77, 2) := by decide +kernel
theorem dX6_rule_98 : decode cX6_rule 98 = .ok (.ireturn, 1) := by decide +kernel
set_option maxRecDepth 20000 in
theorem ggX6_hop_X6_isHop : GoodIn wsX6_hop wsX6_isHop := goodIn_r _ [14, 15, 3, 16, 36, 37, 38, 39, 40, 41, 42, 43, 44, 45, 46, 47, 48, 49, 50, 51, 52, 53, 54, 55] (by decide +kernel) (by decide +kernel)
set_option maxRecDepth 20000 in
theorem gX6_hop_X6_isHop : GoodIn wsX6_hop (wsV RX6 93 RX6 yX6_isHop wsX6_isHop) := goodIn_app (goodIn_of _ (by decide +kernel)) ggX6_hop_X6_isHop
set_option maxRecDepth 20000 in
theorem ggX6_hop_X6_outside : GoodIn wsX6_hop wsX6_outside := goodIn_r _ [19] (by decide +kernel) (by decide +kernel)
set_option maxRecDepth 20000 in
theorem gX6_hop_X6_outside : GoodIn wsX6_hop (va_wsS RX6 55 yX6_outside wsX6_outside) := goodIn_app (goodIn_of _ (by decide +kernel)) ggX6_hop_X6_outside
set_option maxRecDepth 20000 in
theorem ggX6_hop_X2_cellsOn : GoodIn wsX6_hop wsX2_cellsOn := goodIn_r _ [24, 25, 56, 57, 58, 59, 60, 61, 62, 63, 64, 65] (by decide +kernel) (by decide +kernel)
set_option maxRecDepth 20000 in
theorem gX6_hop_X2_cellsOn : GoodIn wsX6_hop (wsV RX6 122 RX2 yX2_cellsOn wsX2_cellsOn) := goodIn_app (goodIn_of _ (by decide +kernel)) ggX6_hop_X2_cellsOn
set_option maxRecDepth 20000 in
theorem ggX6_hop_X2_updatesOn : GoodIn wsX6_hop wsX2_updatesOn := goodIn_r _ [29, 30, 56, 57, 58, 59, 60, 61, 62, 63, 64, 65] (by decide +kernel) (by decide +kernel)
set_option maxRecDepth 20000 in
theorem gX6_hop_X2_updatesOn : GoodIn wsX6_hop (wsV RX6 129 RX2 yX2_updatesOn wsX2_updatesOn) := goodIn_app (goodIn_of _ (by decide +kernel)) ggX6_hop_X2_updatesOn
set_option maxRecDepth 20000 in
theorem ggX6_hop_X2_probesOn : GoodIn wsX6_hop wsX2_probesOn := goodIn_r _ [34, 35, 56, 57, 58, 59, 60, 61, 62, 63, 64, 65] (by decide +kernel) (by decide +kernel)
set_option maxRecDepth 20000 in
theorem gX6_hop_X2_probesOn : GoodIn wsX6_hop (wsV RX6 132 RX2 yX2_probesOn wsX2_probesOn) := goodIn_app (goodIn_of _ (by decide +kernel)) ggX6_hop_X2_probesOn
theorem dX6_hop_0 : decode cX6_hop 0 = .ok (.aload_n 0, 1) := by decide +kernel
theorem dX6_hop_1 : decode cX6_hop 1 = .ok (.iload_n 1, 1) := by decide +kernel
theorem dX6_hop_2 : decode cX6_hop 2 = .ok (.invokevirtual 93, 3) := by decide +kernel
theorem dX6_hop_5 : decode cX6_hop 5 = .ok (.ifCond .eq 13, 3) := by decide +kernel
theorem dX6_hop_8 : decode cX6_hop 8 = .ok (.iload_n 2, 1) := by decide +kernel
theorem dX6_hop_9 : decode cX6_hop 9 = .ok (.iconst 0, 1) := by decide +kernel
theorem dX6_hop_10 : decode cX6_hop 10 = .ok (.bipush 7, 2) := by decide +kernel
theorem dX6_hop_12 : decode cX6_hop 12 = .ok (.invokestatic 55, 3) := by decide +kernel
theorem dX6_hop_15 : decode cX6_hop 15 = .ok (.ifCond .eq 13, 3) := by decide +kernel
theorem dX6_hop_18 : decode cX6_hop 18 = .ok (.new 97, 3) := by decide +kernel
theorem dX6_hop_21 : decode cX6_hop 21 = .ok (.dup, 1) := by decide +kernel
theorem dX6_hop_22 : decode cX6_hop 22 = .ok (.ldc 99, 2) := by decide +kernel
theorem dX6_hop_24 : decode cX6_hop 24 = .ok (.invokespecial 101, 3) := by decide +kernel
theorem dX6_hop_27 : decode cX6_hop 27 = .ok (.athrow, 1) := by decide +kernel
theorem dX6_hop_28 : decode cX6_hop 28 = .ok (.aload_n 0, 1) := by decide +kernel
theorem dX6_hop_29 : decode cX6_hop 29 = .ok (.getfield 26, 3) := by decide +kernel
theorem dX6_hop_32 : decode cX6_hop 32 = .ok (.getfield 104, 3) := by decide +kernel
theorem dX6_hop_35 : decode cX6_hop 35 = .ok (.iload_n 1, 1) := by decide +kernel
theorem dX6_hop_36 : decode cX6_hop 36 = .ok (.aaload, 1) := by decide +kernel
theorem dX6_hop_37 : decode cX6_hop 37 = .ok (.astore_n 3, 1) := by decide +kernel
theorem dX6_hop_38 : decode cX6_hop 38 = .ok (.iload_n 2, 1) := by decide +kernel
theorem dX6_hop_39 : decode cX6_hop 39 = .ok (.tableswitch 76 0 6 #[41, 46, 51, 56, 61, 66, 71], 41) := by decide +kernel
theorem dX6_hop_80 : decode cX6_hop 80 = .ok (.aload_n 3, 1) := by decide +kernel
theorem dX6_hop_81 : decode cX6_hop 81 = .ok (.getfield 108, 3) := by decide +kernel
theorem dX6_hop_84 : decode cX6_hop 84 = .ok (.ireturn, 1) := by decide +kernel
theorem dX6_hop_85 : decode cX6_hop 85 = .ok (.aload_n 3, 1) := by decide +kernel
theorem dX6_hop_86 : decode cX6_hop 86 = .ok (.getfield 113, 3) := by decide +kernel
theorem dX6_hop_89 : decode cX6_hop 89 = .ok (.ireturn, 1) := by decide +kernel
theorem dX6_hop_90 : decode cX6_hop 90 = .ok (.aload_n 3, 1) := by decide +kernel
theorem dX6_hop_91 : decode cX6_hop 91 = .ok (.getfield 116, 3) := by decide +kernel
theorem dX6_hop_94 : decode cX6_hop 94 = .ok (.ireturn, 1) := by decide +kernel
theorem dX6_hop_95 : decode cX6_hop 95 = .ok (.aload_n 3, 1) := by decide +kernel
theorem dX6_hop_96 : decode cX6_hop 96 = .ok (.getfield 119, 3) := by decide +kernel
theorem dX6_hop_99 : decode cX6_hop 99 = .ok (.ireturn, 1) := by decide +kernel
theorem dX6_hop_100 : decode cX6_hop 100 = .ok (.aload_n 3, 1) := by decide +kernel
theorem dX6_hop_101 : decode cX6_hop 101 = .ok (.invokevirtual 122, 3) := by decide +kernel
theorem dX6_hop_104 : decode cX6_hop 104 = .ok (.ireturn, 1) := by decide +kernel
theorem dX6_hop_105 : decode cX6_hop 105 = .ok (.aload_n 3, 1) := by decide +kernel
theorem dX6_hop_106 : decode cX6_hop 106 = .ok (.getfield 126, 3) := by decide +kernel
theorem dX6_hop_109 : decode cX6_hop 109 = .ok (.ireturn, 1) := by decide +kernel
theorem dX6_hop_110 : decode cX6_hop 110 = .ok (.aload_n 3, 1) := by decide +kernel
theorem dX6_hop_111 : decode cX6_hop 111 = .ok (.invokevirtual 129, 3) := by decide +kernel
theorem dX6_hop_114 : decode cX6_hop 114 = .ok (.ireturn, 1) := by decide +kernel
theorem dX6_hop_115 : decode cX6_hop 115 = .ok (.aload_n 3, 1) := by decide +kernel
theorem dX6_hop_116 : decode cX6_hop 116 = .ok (.invokevirtual 132, 3) := by decide +kernel
theorem dX6_hop_119 : decode cX6_hop 119 = .ok (.ireturn, 1) := by decide +kernel
set_option maxRecDepth 20000 in
theorem ggX6_circuit_X6_isCircuit : GoodIn wsX6_circuit wsX6_isCircuit := goodIn_r _ [15, 16, 3, 17, 39, 40, 41, 42, 43, 44, 45, 46, 47, 48, 49, 50, 51, 52, 53, 54, 55, 56, 57, 58] (by decide +kernel) (by decide +kernel)
set_option maxRecDepth 20000 in
theorem gX6_circuit_X6_isCircuit : GoodIn wsX6_circuit (wsV RX6 135 RX6 yX6_isCircuit wsX6_isCircuit) := goodIn_app (goodIn_of _ (by decide +kernel)) ggX6_circuit_X6_isCircuit
set_option maxRecDepth 20000 in
theorem ggX6_circuit_X6_outside : GoodIn wsX6_circuit wsX6_outside := goodIn_r _ [20] (by decide +kernel) (by decide +kernel)
set_option maxRecDepth 20000 in
theorem gX6_circuit_X6_outside : GoodIn wsX6_circuit (va_wsS RX6 55 yX6_outside wsX6_outside) := goodIn_app (goodIn_of _ (by decide +kernel)) ggX6_circuit_X6_outside
set_option maxRecDepth 20000 in
theorem ggX6_circuit_X3_cellsOf : GoodIn wsX6_circuit wsX3_cellsOf := goodIn_r _ [25, 26, 27, 28, 29, 30, 24, 31, 32, 33, 34, 35, 36, 37, 38, 48, 49, 50, 51, 52, 53, 54, 55, 56, 57, 58, 67, 68, 69, 70, 71, 72, 73, 74, 75, 76] (by decide +kernel) (by decide +kernel)
set_option maxRecDepth 20000 in
theorem gX6_circuit_X3_cellsOf : GoodIn wsX6_circuit (wsV RX6 164 RX3 yX3_cellsOf wsX3_cellsOf) := goodIn_app (goodIn_of _ (by decide +kernel)) ggX6_circuit_X3_cellsOf
theorem dX6_circuit_0 : decode cX6_circuit 0 = .ok (.aload_n 0, 1) := by decide +kernel
theorem dX6_circuit_1 : decode cX6_circuit 1 = .ok (.iload_n 1, 1) := by decide +kernel
theorem dX6_circuit_2 : decode cX6_circuit 2 = .ok (.invokevirtual 135, 3) := by decide +kernel
theorem dX6_circuit_5 : decode cX6_circuit 5 = .ok (.ifCond .eq 13, 3) := by decide +kernel
theorem dX6_circuit_8 : decode cX6_circuit 8 = .ok (.iload_n 2, 1) := by decide +kernel
theorem dX6_circuit_9 : decode cX6_circuit 9 = .ok (.iconst 0, 1) := by decide +kernel
theorem dX6_circuit_10 : decode cX6_circuit 10 = .ok (.bipush 6, 2) := by decide +kernel
theorem dX6_circuit_12 : decode cX6_circuit 12 = .ok (.invokestatic 55, 3) := by decide +kernel
theorem dX6_circuit_15 : decode cX6_circuit 15 = .ok (.ifCond .eq 13, 3) := by decide +kernel
theorem dX6_circuit_18 : decode cX6_circuit 18 = .ok (.new 97, 3) := by decide +kernel
theorem dX6_circuit_21 : decode cX6_circuit 21 = .ok (.dup, 1) := by decide +kernel
theorem dX6_circuit_22 : decode cX6_circuit 22 = .ok (.ldc 138, 2) := by decide +kernel
theorem dX6_circuit_24 : decode cX6_circuit 24 = .ok (.invokespecial 101, 3) := by decide +kernel
theorem dX6_circuit_27 : decode cX6_circuit 27 = .ok (.athrow, 1) := by decide +kernel
theorem dX6_circuit_28 : decode cX6_circuit 28 = .ok (.aload_n 0, 1) := by decide +kernel
theorem dX6_circuit_29 : decode cX6_circuit 29 = .ok (.getfield 26, 3) := by decide +kernel
theorem dX6_circuit_32 : decode cX6_circuit 32 = .ok (.getfield 140, 3) := by decide +kernel
theorem dX6_circuit_35 : decode cX6_circuit 35 = .ok (.iload_n 1, 1) := by decide +kernel
theorem dX6_circuit_36 : decode cX6_circuit 36 = .ok (.aaload, 1) := by decide +kernel
theorem dX6_circuit_37 : decode cX6_circuit 37 = .ok (.astore_n 3, 1) := by decide +kernel
theorem dX6_circuit_38 : decode cX6_circuit 38 = .ok (.iload_n 2, 1) := by decide +kernel
theorem dX6_circuit_39 : decode cX6_circuit 39 = .ok (.tableswitch 67 0 5 #[37, 42, 47, 52, 57, 62], 37) := by decide +kernel
theorem dX6_circuit_76 : decode cX6_circuit 76 = .ok (.aload_n 3, 1) := by decide +kernel
theorem dX6_circuit_77 : decode cX6_circuit 77 = .ok (.getfield 144, 3) := by decide +kernel
theorem dX6_circuit_80 : decode cX6_circuit 80 = .ok (.ireturn, 1) := by decide +kernel
theorem dX6_circuit_81 : decode cX6_circuit 81 = .ok (.aload_n 3, 1) := by decide +kernel
theorem dX6_circuit_82 : decode cX6_circuit 82 = .ok (.getfield 149, 3) := by decide +kernel
theorem dX6_circuit_85 : decode cX6_circuit 85 = .ok (.ireturn, 1) := by decide +kernel
theorem dX6_circuit_86 : decode cX6_circuit 86 = .ok (.aload_n 3, 1) := by decide +kernel
theorem dX6_circuit_87 : decode cX6_circuit 87 = .ok (.getfield 152, 3) := by decide +kernel
theorem dX6_circuit_90 : decode cX6_circuit 90 = .ok (.ireturn, 1) := by decide +kernel
theorem dX6_circuit_91 : decode cX6_circuit 91 = .ok (.aload_n 3, 1) := by decide +kernel
theorem dX6_circuit_92 : decode cX6_circuit 92 = .ok (.getfield 155, 3) := by decide +kernel
theorem dX6_circuit_95 : decode cX6_circuit 95 = .ok (.ireturn, 1) := by decide +kernel
theorem dX6_circuit_96 : decode cX6_circuit 96 = .ok (.aload_n 3, 1) := by decide +kernel
theorem dX6_circuit_97 : decode cX6_circuit 97 = .ok (.getfield 158, 3) := by decide +kernel
theorem dX6_circuit_100 : decode cX6_circuit 100 = .ok (.ireturn, 1) := by decide +kernel
theorem dX6_circuit_101 : decode cX6_circuit 101 = .ok (.aload_n 3, 1) := by decide +kernel
theorem dX6_circuit_102 : decode cX6_circuit 102 = .ok (.getfield 161, 3) := by decide +kernel
theorem dX6_circuit_105 : decode cX6_circuit 105 = .ok (.ireturn, 1) := by decide +kernel
theorem dX6_circuit_106 : decode cX6_circuit 106 = .ok (.aload_n 0, 1) := by decide +kernel
theorem dX6_circuit_107 : decode cX6_circuit 107 = .ok (.getfield 26, 3) := by decide +kernel
theorem dX6_circuit_110 : decode cX6_circuit 110 = .ok (.iload_n 1, 1) := by decide +kernel
theorem dX6_circuit_111 : decode cX6_circuit 111 = .ok (.invokevirtual 164, 3) := by decide +kernel
theorem dX6_circuit_114 : decode cX6_circuit 114 = .ok (.ireturn, 1) := by decide +kernel
set_option maxRecDepth 20000 in
theorem ggX6_lane_X6_isLane : GoodIn wsX6_lane wsX6_isLane := goodIn_r _ [6, 7, 8, 9, 5, 10, 11, 1, 12, 13, 14, 15, 16, 17, 56, 57, 58, 59, 60, 61, 62, 63, 64, 65, 66, 67, 68, 69, 70, 71, 72, 73, 74, 75] (by decide +kernel) (by decide +kernel)
set_option maxRecDepth 20000 in
theorem gX6_lane_X6_isLane : GoodIn wsX6_lane (wsV RX6 167 RX6 yX6_isLane wsX6_isLane) := goodIn_app (goodIn_of _ (by decide +kernel)) ggX6_lane_X6_isLane
set_option maxRecDepth 20000 in
theorem ggX6_lane_X6_outside : GoodIn wsX6_lane wsX6_outside := goodIn_r _ [20] (by decide +kernel) (by decide +kernel)
set_option maxRecDepth 20000 in
theorem gX6_lane_X6_outside : GoodIn wsX6_lane (va_wsS RX6 55 yX6_outside wsX6_outside) := goodIn_app (goodIn_of _ (by decide +kernel)) ggX6_lane_X6_outside
set_option maxRecDepth 20000 in
theorem ggX6_lane_X6_toldOfLane : GoodIn wsX6_lane wsX6_toldOfLane := goodIn_r _ [23, 24, 25, 26, 27, 28, 29, 30, 31, 32, 33, 34, 35, 36, 37, 38, 39, 40, 41, 42, 43, 44, 45, 46, 47, 48, 49, 50, 51, 52, 53, 54, 55, 65, 66, 67, 68, 69, 70, 71, 72, 73, 74, 75, 76, 77, 78, 79, 80, 81, 82, 83, 84, 85, 86, 87, 88, 89, 90, 91, 92] (by decide +kernel) (by decide +kernel)
set_option maxRecDepth 20000 in
theorem gX6_lane_X6_toldOfLane : GoodIn wsX6_lane (va_wsS RX6 171 yX6_toldOfLane wsX6_toldOfLane) := goodIn_app (goodIn_of _ (by decide +kernel)) ggX6_lane_X6_toldOfLane
theorem dX6_lane_0 : decode cX6_lane 0 = .ok (.aload_n 0, 1) := by decide +kernel
theorem dX6_lane_1 : decode cX6_lane 1 = .ok (.iload_n 1, 1) := by decide +kernel
theorem dX6_lane_2 : decode cX6_lane 2 = .ok (.iload_n 2, 1) := by decide +kernel
theorem dX6_lane_3 : decode cX6_lane 3 = .ok (.invokevirtual 167, 3) := by decide +kernel
theorem dX6_lane_6 : decode cX6_lane 6 = .ok (.ifCond .eq 13, 3) := by decide +kernel
theorem dX6_lane_9 : decode cX6_lane 9 = .ok (.iload_n 3, 1) := by decide +kernel
theorem dX6_lane_10 : decode cX6_lane 10 = .ok (.iconst 0, 1) := by decide +kernel
theorem dX6_lane_11 : decode cX6_lane 11 = .ok (.bipush 9, 2) := by decide +kernel
theorem dX6_lane_13 : decode cX6_lane 13 = .ok (.invokestatic 55, 3) := by decide +kernel
theorem dX6_lane_16 : decode cX6_lane 16 = .ok (.ifCond .eq 5, 3) := by decide +kernel
theorem dX6_lane_19 : decode cX6_lane 19 = .ok (.iconst (-1), 1) := by decide +kernel
theorem dX6_lane_20 : decode cX6_lane 20 = .ok (.ireturn, 1) := by decide +kernel
theorem dX6_lane_21 : decode cX6_lane 21 = .ok (.aload_n 0, 1) := by decide +kernel
theorem dX6_lane_22 : decode cX6_lane 22 = .ok (.getfield 26, 3) := by decide +kernel
theorem dX6_lane_25 : decode cX6_lane 25 = .ok (.iload_n 1, 1) := by decide +kernel
theorem dX6_lane_26 : decode cX6_lane 26 = .ok (.iload_n 2, 1) := by decide +kernel
theorem dX6_lane_27 : decode cX6_lane 27 = .ok (.iload_n 3, 1) := by decide +kernel
theorem dX6_lane_28 : decode cX6_lane 28 = .ok (.invokestatic 171, 3) := by decide +kernel
theorem dX6_lane_31 : decode cX6_lane 31 = .ok (.ireturn, 1) := by decide +kernel
set_option maxRecDepth 20000 in
theorem ggX6_toldOfLane_X1_out : GoodIn wsX6_toldOfLane wsX1_out := goodIn_r _ [14, 15, 16, 54, 55, 56, 57, 58, 59, 60] (by decide +kernel) (by decide +kernel)
set_option maxRecDepth 20000 in
theorem gX6_toldOfLane_X1_out : GoodIn wsX6_toldOfLane (wsV RX6 193 RX1 yX1_out wsX1_out) := goodIn_app (goodIn_of _ (by decide +kernel)) ggX6_toldOfLane_X1_out
set_option maxRecDepth 20000 in
theorem ggX6_toldOfLane_X1_credit : GoodIn wsX6_toldOfLane wsX1_credit := goodIn_r _ [20, 21, 22, 23, 24, 25, 26, 11, 12, 13, 14, 15, 16, 54, 55, 56, 57, 58, 59, 60] (by decide +kernel) (by decide +kernel)
set_option maxRecDepth 20000 in
theorem gX6_toldOfLane_X1_credit : GoodIn wsX6_toldOfLane (wsV RX6 196 RX1 yX1_credit wsX1_credit) := goodIn_app (goodIn_of _ (by decide +kernel)) ggX6_toldOfLane_X1_credit
set_option maxRecDepth 20000 in
theorem ggX6_toldOfLane_X2_cellsOnOf : GoodIn wsX6_toldOfLane wsX2_cellsOnOf := goodIn_r _ [31, 32, 44, 45, 46, 47, 48, 49, 50, 51, 52, 53] (by decide +kernel) (by decide +kernel)
set_option maxRecDepth 20000 in
theorem gX6_toldOfLane_X2_cellsOnOf : GoodIn wsX6_toldOfLane (wsV RX6 208 RX2 yX2_cellsOnOf wsX2_cellsOnOf) := goodIn_app (goodIn_of _ (by decide +kernel)) ggX6_toldOfLane_X2_cellsOnOf
theorem dX6_toldOfLane_0 : decode cX6_toldOfLane 0 = .ok (.aload_n 0, 1) := by decide +kernel
theorem dX6_toldOfLane_1 : decode cX6_toldOfLane 1 = .ok (.getfield 104, 3) := by decide +kernel
theorem dX6_toldOfLane_4 : decode cX6_toldOfLane 4 = .ok (.iload_n 1, 1) := by decide +kernel
theorem dX6_toldOfLane_5 : decode cX6_toldOfLane 5 = .ok (.aaload, 1) := by decide +kernel
theorem dX6_toldOfLane_6 : decode cX6_toldOfLane 6 = .ok (.astore 4, 2) := by decide +kernel
theorem dX6_toldOfLane_8 : decode cX6_toldOfLane 8 = .ok (.aload 4, 2) := by decide +kernel
theorem dX6_toldOfLane_10 : decode cX6_toldOfLane 10 = .ok (.getfield 175, 3) := by decide +kernel
theorem dX6_toldOfLane_13 : decode cX6_toldOfLane 13 = .ok (.iload_n 2, 1) := by decide +kernel
theorem dX6_toldOfLane_14 : decode cX6_toldOfLane 14 = .ok (.aaload, 1) := by decide +kernel
theorem dX6_toldOfLane_15 : decode cX6_toldOfLane 15 = .ok (.astore 5, 2) := by decide +kernel
theorem dX6_toldOfLane_17 : decode cX6_toldOfLane 17 = .ok (.iload_n 3, 1) := by decide +kernel
theorem dX6_toldOfLane_18 : decode cX6_toldOfLane 18 = .ok (.tableswitch 104 0 8 #[50, 56, 62, 68, 74, 80, 86, 92, 98], 50) := by decide +kernel
theorem dX6_toldOfLane_68 : decode cX6_toldOfLane 68 = .ok (.aload 5, 2) := by decide +kernel
theorem dX6_toldOfLane_70 : decode cX6_toldOfLane 70 = .ok (.getfield 179, 3) := by decide +kernel
theorem dX6_toldOfLane_73 : decode cX6_toldOfLane 73 = .ok (.ireturn, 1) := by decide +kernel
theorem dX6_toldOfLane_74 : decode cX6_toldOfLane 74 = .ok (.aload 5, 2) := by decide +kernel
theorem dX6_toldOfLane_76 : decode cX6_toldOfLane 76 = .ok (.getfield 184, 3) := by decide +kernel
theorem dX6_toldOfLane_79 : decode cX6_toldOfLane 79 = .ok (.ireturn, 1) := by decide +kernel
theorem dX6_toldOfLane_80 : decode cX6_toldOfLane 80 = .ok (.aload 5, 2) := by decide +kernel
theorem dX6_toldOfLane_82 : decode cX6_toldOfLane 82 = .ok (.getfield 187, 3) := by decide +kernel
theorem dX6_toldOfLane_85 : decode cX6_toldOfLane 85 = .ok (.ireturn, 1) := by decide +kernel
theorem dX6_toldOfLane_86 : decode cX6_toldOfLane 86 = .ok (.aload 5, 2) := by decide +kernel
theorem dX6_toldOfLane_88 : decode cX6_toldOfLane 88 = .ok (.getfield 190, 3) := by decide +kernel
theorem dX6_toldOfLane_91 : decode cX6_toldOfLane 91 = .ok (.ireturn, 1) := by decide +kernel
theorem dX6_toldOfLane_92 : decode cX6_toldOfLane 92 = .ok (.aload 5, 2) := by decide +kernel
theorem dX6_toldOfLane_94 : decode cX6_toldOfLane 94 = .ok (.invokevirtual 193, 3) := by decide +kernel
theorem dX6_toldOfLane_97 : decode cX6_toldOfLane 97 = .ok (.ireturn, 1) := by decide +kernel
theorem dX6_toldOfLane_98 : decode cX6_toldOfLane 98 = .ok (.aload 5, 2) := by decide +kernel
theorem dX6_toldOfLane_100 : decode cX6_toldOfLane 100 = .ok (.invokevirtual 196, 3) := by decide +kernel
theorem dX6_toldOfLane_103 : decode cX6_toldOfLane 103 = .ok (.ireturn, 1) := by decide +kernel
theorem dX6_toldOfLane_104 : decode cX6_toldOfLane 104 = .ok (.aload 5, 2) := by decide +kernel
theorem dX6_toldOfLane_106 : decode cX6_toldOfLane 106 = .ok (.getfield 199, 3) := by decide +kernel
theorem dX6_toldOfLane_109 : decode cX6_toldOfLane 109 = .ok (.ireturn, 1) := by decide +kernel
theorem dX6_toldOfLane_110 : decode cX6_toldOfLane 110 = .ok (.aload 5, 2) := by decide +kernel
theorem dX6_toldOfLane_112 : decode cX6_toldOfLane 112 = .ok (.getfield 202, 3) := by decide +kernel
theorem dX6_toldOfLane_115 : decode cX6_toldOfLane 115 = .ok (.ireturn, 1) := by decide +kernel
theorem dX6_toldOfLane_116 : decode cX6_toldOfLane 116 = .ok (.aload 5, 2) := by decide +kernel
theorem dX6_toldOfLane_118 : decode cX6_toldOfLane 118 = .ok (.getfield 205, 3) := by decide +kernel
theorem dX6_toldOfLane_121 : decode cX6_toldOfLane 121 = .ok (.ireturn, 1) := by decide +kernel
theorem dX6_toldOfLane_122 : decode cX6_toldOfLane 122 = .ok (.aload 4, 2) := by decide +kernel
theorem dX6_toldOfLane_124 : decode cX6_toldOfLane 124 = .ok (.iload_n 2, 1) := by decide +kernel
theorem dX6_toldOfLane_125 : decode cX6_toldOfLane 125 = .ok (.invokevirtual 208, 3) := by decide +kernel
theorem dX6_toldOfLane_128 : decode cX6_toldOfLane 128 = .ok (.ireturn, 1) := by decide +kernel
set_option maxRecDepth 20000 in
theorem ggX6_buffer_X6_isNode : GoodIn wsX6_buffer wsX6_isNode := goodIn_r _ [6, 7, 1, 8, 20, 21, 22, 23, 24, 25, 26, 27, 28, 29, 30, 31, 32, 33, 34, 35, 36, 37, 38, 39] (by decide +kernel) (by decide +kernel)
set_option maxRecDepth 20000 in
theorem gX6_buffer_X6_isNode : GoodIn wsX6_buffer (wsV RX6 211 RX6 yX6_isNode wsX6_isNode) := goodIn_app (goodIn_of _ (by decide +kernel)) ggX6_buffer_X6_isNode
set_option maxRecDepth 20000 in
theorem ggX6_buffer_X6_isCircuit : GoodIn wsX6_buffer wsX6_isCircuit := goodIn_r _ [12, 7, 1, 13, 20, 21, 22, 23, 24, 25, 26, 27, 28, 29, 30, 31, 32, 33, 34, 35, 36, 37, 38, 39] (by decide +kernel) (by decide +kernel)
set_option maxRecDepth 20000 in
theorem gX6_buffer_X6_isCircuit : GoodIn wsX6_buffer (wsV RX6 135 RX6 yX6_isCircuit wsX6_isCircuit) := goodIn_app (goodIn_of _ (by decide +kernel)) ggX6_buffer_X6_isCircuit
set_option maxRecDepth 20000 in
theorem ggX6_buffer_X3_waitingAt : GoodIn wsX6_buffer wsX3_waitingAt := goodIn_r _ [18, 19, 29, 30, 31, 32, 33, 34, 35, 36, 37, 38, 39] (by decide +kernel) (by decide +kernel)
set_option maxRecDepth 20000 in
theorem gX6_buffer_X3_waitingAt : GoodIn wsX6_buffer (wsV RX6 214 RX3 yX3_waitingAt wsX3_waitingAt) := goodIn_app (goodIn_of _ (by decide +kernel)) ggX6_buffer_X3_waitingAt
theorem dX6_buffer_0 : decode cX6_buffer 0 = .ok (.aload_n 0, 1) := by decide +kernel
theorem dX6_buffer_1 : decode cX6_buffer 1 = .ok (.iload_n 1, 1) := by decide +kernel
theorem dX6_buffer_2 : decode cX6_buffer 2 = .ok (.invokevirtual 211, 3) := by decide +kernel
theorem dX6_buffer_5 : decode cX6_buffer 5 = .ok (.ifCond .eq 11, 3) := by decide +kernel
theorem dX6_buffer_8 : decode cX6_buffer 8 = .ok (.aload_n 0, 1) := by decide +kernel
theorem dX6_buffer_9 : decode cX6_buffer 9 = .ok (.iload_n 2, 1) := by decide +kernel
theorem dX6_buffer_10 : decode cX6_buffer 10 = .ok (.invokevirtual 135, 3) := by decide +kernel
theorem dX6_buffer_13 : decode cX6_buffer 13 = .ok (.ifCond .ne 5, 3) := by decide +kernel
theorem dX6_buffer_16 : decode cX6_buffer 16 = .ok (.iconst (-1), 1) := by decide +kernel
theorem dX6_buffer_17 : decode cX6_buffer 17 = .ok (.ireturn, 1) := by decide +kernel
theorem dX6_buffer_18 : decode cX6_buffer 18 = .ok (.aload_n 0, 1) := by decide +kernel
theorem dX6_buffer_19 : decode cX6_buffer 19 = .ok (.getfield 26, 3) := by decide +kernel
theorem dX6_buffer_22 : decode cX6_buffer 22 = .ok (.iload_n 1, 1) := by decide +kernel
theorem dX6_buffer_23 : decode cX6_buffer 23 = .ok (.iload_n 2, 1) := by decide +kernel
theorem dX6_buffer_24 : decode cX6_buffer 24 = .ok (.invokevirtual 214, 3) := by decide +kernel
theorem dX6_buffer_27 : decode cX6_buffer 27 = .ok (.ireturn, 1) := by decide +kernel
set_option maxRecDepth 20000 in
theorem ggX6_way_X6_isHop : GoodIn wsX6_way wsX6_isHop := goodIn_r _ [10, 11, 1, 12, 27, 28, 29, 30, 31, 32, 33, 34, 35, 36, 37, 38, 39, 40, 41, 42, 43, 44, 45, 46] (by decide +kernel) (by decide +kernel)
set_option maxRecDepth 20000 in
theorem gX6_way_X6_isHop : GoodIn wsX6_way (wsV RX6 93 RX6 yX6_isHop wsX6_isHop) := goodIn_app (goodIn_of _ (by decide +kernel)) ggX6_way_X6_isHop
set_option maxRecDepth 20000 in
theorem ggX6_way_X6_outside : GoodIn wsX6_way wsX6_outside := goodIn_r _ [15] (by decide +kernel) (by decide +kernel)
set_option maxRecDepth 20000 in
theorem gX6_way_X6_outside : GoodIn wsX6_way (va_wsS RX6 55 yX6_outside wsX6_outside) := goodIn_app (goodIn_of _ (by decide +kernel)) ggX6_way_X6_outside
set_option maxRecDepth 20000 in
theorem ggX6_way_X2_probeBits : GoodIn wsX6_way wsX2_probeBits := goodIn_r _ [20, 21, 47, 48, 49, 50, 51, 52, 53, 54, 55, 56] (by decide +kernel) (by decide +kernel)
set_option maxRecDepth 20000 in
theorem gX6_way_X2_probeBits : GoodIn wsX6_way (wsV RX6 221 RX2 yX2_probeBits wsX2_probeBits) := goodIn_app (goodIn_of _ (by decide +kernel)) ggX6_way_X2_probeBits
set_option maxRecDepth 20000 in
theorem ggX6_way_X6_isCircuit : GoodIn wsX6_way wsX6_isCircuit := goodIn_r _ [25, 11, 1, 26, 27, 28, 29, 30, 31, 32, 33, 34, 35, 36, 37, 38, 39, 40, 41, 42, 43, 44, 45, 46] (by decide +kernel) (by decide +kernel)
set_option maxRecDepth 20000 in
theorem gX6_way_X6_isCircuit : GoodIn wsX6_way (wsV RX6 135 RX6 yX6_isCircuit wsX6_isCircuit) := goodIn_app (goodIn_of _ (by decide +kernel)) ggX6_way_X6_isCircuit
theorem dX6_way_0 : decode cX6_way 0 = .ok (.aload_n 0, 1) := by decide +kernel
theorem dX6_way_1 : decode cX6_way 1 = .ok (.iload_n 1, 1) := by decide +kernel
theorem dX6_way_2 : decode cX6_way 2 = .ok (.invokevirtual 93, 3) := by decide +kernel
theorem dX6_way_5 : decode cX6_way 5 = .ok (.ifCond .eq 21, 3) := by decide +kernel
theorem dX6_way_8 : decode cX6_way 8 = .ok (.iload_n 2, 1) := by decide +kernel
theorem dX6_way_9 : decode cX6_way 9 = .ok (.iconst 1, 1) := by decide +kernel
theorem dX6_way_10 : decode cX6_way 10 = .ok (.iconst 5, 1) := by decide +kernel
theorem dX6_way_11 : decode cX6_way 11 = .ok (.invokestatic 55, 3) := by decide +kernel
theorem dX6_way_14 : decode cX6_way 14 = .ok (.ifCond .ne 12, 3) := by decide +kernel
theorem dX6_way_17 : decode cX6_way 17 = .ok (.iload_n 3, 1) := by decide +kernel
theorem dX6_way_18 : decode cX6_way 18 = .ok (.iconst 0, 1) := by decide +kernel
theorem dX6_way_19 : decode cX6_way 19 = .ok (.iconst 4, 1) := by decide +kernel
theorem dX6_way_20 : decode cX6_way 20 = .ok (.invokestatic 55, 3) := by decide +kernel
theorem dX6_way_23 : decode cX6_way 23 = .ok (.ifCond .eq 5, 3) := by decide +kernel
theorem dX6_way_26 : decode cX6_way 26 = .ok (.iconst (-1), 1) := by decide +kernel
theorem dX6_way_27 : decode cX6_way 27 = .ok (.ireturn, 1) := by decide +kernel
theorem dX6_way_28 : decode cX6_way 28 = .ok (.aload_n 0, 1) := by decide +kernel
theorem dX6_way_29 : decode cX6_way 29 = .ok (.getfield 26, 3) := by decide +kernel
theorem dX6_way_32 : decode cX6_way 32 = .ok (.getfield 104, 3) := by decide +kernel
theorem dX6_way_35 : decode cX6_way 35 = .ok (.iload_n 1, 1) := by decide +kernel
theorem dX6_way_36 : decode cX6_way 36 = .ok (.aaload, 1) := by decide +kernel
theorem dX6_way_37 : decode cX6_way 37 = .ok (.astore 4, 2) := by decide +kernel
theorem dX6_way_39 : decode cX6_way 39 = .ok (.aload_n 0, 1) := by decide +kernel
theorem dX6_way_40 : decode cX6_way 40 = .ok (.getfield 26, 3) := by decide +kernel
theorem dX6_way_43 : decode cX6_way 43 = .ok (.getfield 90, 3) := by decide +kernel
theorem dX6_way_46 : decode cX6_way 46 = .ok (.iload_n 2, 1) := by decide +kernel
theorem dX6_way_47 : decode cX6_way 47 = .ok (.iadd, 1) := by decide +kernel
theorem dX6_way_48 : decode cX6_way 48 = .ok (.iconst 1, 1) := by decide +kernel
theorem dX6_way_49 : decode cX6_way 49 = .ok (.isub, 1) := by decide +kernel
theorem dX6_way_50 : decode cX6_way 50 = .ok (.iconst 5, 1) := by decide +kernel
theorem dX6_way_51 : decode cX6_way 51 = .ok (.irem, 1) := by decide +kernel
theorem dX6_way_52 : decode cX6_way 52 = .ok (.istore 5, 2) := by decide +kernel
theorem dX6_way_54 : decode cX6_way 54 = .ok (.iload_n 3, 1) := by decide +kernel
theorem dX6_way_55 : decode cX6_way 55 = .ok (.ifCond .ne 12, 3) := by decide +kernel
theorem dX6_way_58 : decode cX6_way 58 = .ok (.aload 4, 2) := by decide +kernel
theorem dX6_way_60 : decode cX6_way 60 = .ok (.getfield 218, 3) := by decide +kernel
theorem dX6_way_63 : decode cX6_way 63 = .ok (.iload 5, 2) := by decide +kernel
theorem dX6_way_65 : decode cX6_way 65 = .ok (.iaload, 1) := by decide +kernel
theorem dX6_way_66 : decode cX6_way 66 = .ok (.ireturn, 1) := by decide +kernel
theorem dX6_way_67 : decode cX6_way 67 = .ok (.iload_n 3, 1) := by decide +kernel
theorem dX6_way_68 : decode cX6_way 68 = .ok (.iconst 4, 1) := by decide +kernel
theorem dX6_way_69 : decode cX6_way 69 = .ok (.if_icmp .ne 24, 3) := by decide +kernel
theorem dX6_way_72 : decode cX6_way 72 = .ok (.aload 4, 2) := by decide +kernel
theorem dX6_way_74 : decode cX6_way 74 = .ok (.iload 5, 2) := by decide +kernel
theorem dX6_way_76 : decode cX6_way 76 = .ok (.invokevirtual 221, 3) := by decide +kernel
theorem dX6_way_79 : decode cX6_way 79 = .ok (.istore 6, 2) := by decide +kernel
theorem dX6_way_81 : decode cX6_way 81 = .ok (.iload 6, 2) := by decide +kernel
theorem dX6_way_83 : decode cX6_way 83 = .ok (.ifCond .ne 7, 3) := by decide +kernel
theorem dX6_way_86 : decode cX6_way 86 = .ok (.iconst (-1), 1) := by decide +kernel
theorem dX6_way_87 : decode cX6_way 87 = .ok (.goto 5, 3) := by decide +kernel
theorem dX6_way_90 : decode cX6_way 90 = .ok (.iload 6, 2) := by decide +kernel
theorem dX6_way_92 : decode cX6_way 92 = .ok (.ireturn, 1) := by decide +kernel
theorem dX6_way_93 : decode cX6_way 93 = .ok (.aload_n 0, 1) := by decide +kernel
theorem dX6_way_94 : decode cX6_way 94 = .ok (.iload_n 3, 1) := by decide +kernel
theorem dX6_way_95 : decode cX6_way 95 = .ok (.iconst 1, 1) := by decide +kernel
theorem dX6_way_96 : decode cX6_way 96 = .ok (.isub, 1) := by decide +kernel
theorem dX6_way_97 : decode cX6_way 97 = .ok (.invokevirtual 135, 3) := by decide +kernel
theorem dX6_way_100 : decode cX6_way 100 = .ok (.ifCond .eq 20, 3) := by decide +kernel
theorem dX6_way_103 : decode cX6_way 103 = .ok (.aload 4, 2) := by decide +kernel
theorem dX6_way_105 : decode cX6_way 105 = .ok (.getfield 224, 3) := by decide +kernel
theorem dX6_way_108 : decode cX6_way 108 = .ok (.iload 5, 2) := by decide +kernel
theorem dX6_way_110 : decode cX6_way 110 = .ok (.iconst 3, 1) := by decide +kernel
theorem dX6_way_111 : decode cX6_way 111 = .ok (.imul, 1) := by decide +kernel
theorem dX6_way_112 : decode cX6_way 112 = .ok (.iload_n 3, 1) := by decide +kernel
theorem dX6_way_113 : decode cX6_way 113 = .ok (.iadd, 1) := by decide +kernel
theorem dX6_way_114 : decode cX6_way 114 = .ok (.iconst 1, 1) := by decide +kernel
theorem dX6_way_115 : decode cX6_way 115 = .ok (.isub, 1) := by decide +kernel
theorem dX6_way_116 : decode cX6_way 116 = .ok (.iaload, 1) := by decide +kernel
theorem dX6_way_117 : decode cX6_way 117 = .ok (.goto 4, 3) := by decide +kernel
theorem dX6_way_120 : decode cX6_way 120 = .ok (.iconst (-1), 1) := by decide +kernel
theorem dX6_way_121 : decode cX6_way 121 = .ok (.ireturn, 1) := by decide +kernel
set_option maxRecDepth 20000 in
theorem ggX6_go_X6_refuse : GoodIn wsX6_go wsX6_refuse := goodIn_r _ [8, 9, 176, 177, 178, 179, 180, 181, 182, 183, 184] (by decide +kernel) (by decide +kernel)
set_option maxRecDepth 20000 in
theorem gX6_go_X6_refuse : GoodIn wsX6_go (wsV RX6 227 RX6 yX6_refuse wsX6_refuse) := goodIn_app (goodIn_of _ (by decide +kernel)) ggX6_go_X6_refuse
set_option maxRecDepth 20000 in
theorem ggX6_go_X6_outside : GoodIn wsX6_go wsX6_outside := goodIn_r _ [12] (by decide +kernel) (by decide +kernel)
set_option maxRecDepth 20000 in
theorem gX6_go_X6_outside : GoodIn wsX6_go (va_wsS RX6 55 yX6_outside wsX6_outside) := goodIn_app (goodIn_of _ (by decide +kernel)) ggX6_go_X6_outside
set_option maxRecDepth 20000 in
theorem ggX6_go_X6_stepForReal : GoodIn wsX6_go wsX6_stepForReal := goodIn_r _ [16, 2, 3, 17, 18, 19, 20, 21, 22, 23, 24, 25, 26, 27, 28, 29, 30, 31, 32, 33, 34, 35, 36, 37, 38, 39, 40, 41, 42, 43, 44, 45, 46, 47, 7, 48, 49, 50, 51, 52, 53, 54, 55, 56, 57, 58, 59, 60, 61, 62, 63, 64, 65, 66, 67, 68, 69, 70, 71, 72, 73, 74, 75, 76, 77, 78, 79, 80, 81, 82, 83, 84, 85, 86, 87, 88, 89, 90, 91, 92, 93, 94, 95, 96, 97, 98, 99, 100, 101, 102, 103, 104, 105, 106, 107, 108, 109, 110, 111, 112, 113, 114, 115, 116, 117, 118, 119, 120, 121, 122, 123, 124, 125, 126, 127, 128, 129, 130, 131, 132, 133, 134, 135, 136, 137, 138, 139, 140, 141, 142, 143, 144, 145, 146, 147, 148, 149, 150, 151, 152, 153, 154, 155, 156, 157, 158, 159, 160, 161, 162, 163, 164, 165, 166, 167, 168, 169, 170, 171, 172, 173, 174, 175, 176, 177, 178, 179, 180, 181, 182, 183, 184, 185, 186, 187, 188, 189, 190, 191, 192, 193, 194, 195, 196, 197, 198, 199, 200, 201, 202, 203, 204, 205, 206, 207, 208, 209, 210, 211, 212, 213, 214, 215, 216, 217, 218, 219, 220, 221, 222, 223, 224, 225, 226] (by decide +kernel) (by decide +kernel)
set_option maxRecDepth 20000 in
theorem gX6_go_X6_stepForReal : GoodIn wsX6_go (wsV RX6 230 RX6 yX6_stepForReal wsX6_stepForReal) := goodIn_app (goodIn_of _ (by decide +kernel)) ggX6_go_X6_stepForReal
theorem dX6_go_0 : decode cX6_go 0 = .ok (.aload_n 0, 1) := by decide +kernel
theorem dX6_go_1 : decode cX6_go 1 = .ok (.getfield 70, 3) := by decide +kernel
theorem dX6_go_4 : decode cX6_go 4 = .ok (.ifCond .ne 9, 3) := by decide +kernel
theorem dX6_go_7 : decode cX6_go 7 = .ok (.aload_n 0, 1) := by decide +kernel
theorem dX6_go_8 : decode cX6_go 8 = .ok (.iconst 0, 1) := by decide +kernel
theorem dX6_go_9 : decode cX6_go 9 = .ok (.invokevirtual 227, 3) := by decide +kernel
theorem dX6_go_12 : decode cX6_go 12 = .ok (.ireturn, 1) := by decide +kernel
theorem dX6_go_13 : decode cX6_go 13 = .ok (.iload_n 1, 1) := by decide +kernel
theorem dX6_go_14 : decode cX6_go 14 = .ok (.iconst 1, 1) := by decide +kernel
theorem dX6_go_15 : decode cX6_go 15 = .ok (.bipush 60, 2) := by decide +kernel
theorem dX6_go_17 : decode cX6_go 17 = .ok (.invokestatic 55, 3) := by decide +kernel
theorem dX6_go_20 : decode cX6_go 20 = .ok (.ifCond .eq 9, 3) := by decide +kernel
theorem dX6_go_23 : decode cX6_go 23 = .ok (.aload_n 0, 1) := by decide +kernel
theorem dX6_go_24 : decode cX6_go 24 = .ok (.iconst 1, 1) := by decide +kernel
theorem dX6_go_25 : decode cX6_go 25 = .ok (.invokevirtual 227, 3) := by decide +kernel
theorem dX6_go_28 : decode cX6_go 28 = .ok (.ireturn, 1) := by decide +kernel
theorem dX6_go_29 : decode cX6_go 29 = .ok (.iconst 0, 1) := by decide +kernel
theorem dX6_go_30 : decode cX6_go 30 = .ok (.istore_n 2, 1) := by decide +kernel
theorem dX6_go_31 : decode cX6_go 31 = .ok (.iload_n 2, 1) := by decide +kernel
theorem dX6_go_32 : decode cX6_go 32 = .ok (.iload_n 1, 1) := by decide +kernel
theorem dX6_go_33 : decode cX6_go 33 = .ok (.if_icmp .ge 13, 3) := by decide +kernel
theorem dX6_go_36 : decode cX6_go 36 = .ok (.aload_n 0, 1) := by decide +kernel
theorem dX6_go_37 : decode cX6_go 37 = .ok (.invokevirtual 230, 3) := by decide +kernel
theorem dX6_go_40 : decode cX6_go 40 = .ok (.iinc 2 1, 3) := by decide +kernel
theorem dX6_go_43 : decode cX6_go 43 = .ok (.goto (-12), 3) := by decide +kernel
theorem dX6_go_46 : decode cX6_go 46 = .ok (.aload_n 0, 1) := by decide +kernel
theorem dX6_go_47 : decode cX6_go 47 = .ok (.getfield 26, 3) := by decide +kernel
theorem dX6_go_50 : decode cX6_go 50 = .ok (.getfield 90, 3) := by decide +kernel
theorem dX6_go_53 : decode cX6_go 53 = .ok (.ireturn, 1) := by decide +kernel
set_option maxRecDepth 20000 in
theorem ggX6_stepForReal_X3_step : GoodIn wsX6_stepForReal wsX3_step := goodIn_r _ [12, 13, 14, 15, 16, 17, 18, 19, 20, 11, 21, 22, 23, 24, 25, 26, 27, 28, 29, 30, 31, 32, 33, 34, 35, 36, 37, 38, 39, 40, 41, 42, 43, 44, 45, 46, 47, 48, 49, 50, 51, 52, 53, 54, 55, 56, 57, 58, 59, 60, 61, 62, 63, 64, 65, 66, 67, 68, 69, 70, 71, 72, 73, 74, 75, 76, 77, 78, 79, 80, 81, 82, 83, 84, 85, 86, 87, 88, 89, 90, 91, 92, 93, 94, 95, 96, 97, 98, 99, 100, 101, 102, 103, 104, 105, 106, 107, 108, 109, 110, 111, 112, 113, 114, 115, 116, 117, 118, 119, 120, 121, 122, 123, 124, 125, 126, 127, 128, 129, 130, 131, 132, 133, 134, 135, 136, 137, 138, 139, 140, 141, 142, 172, 173, 174, 175, 176, 177, 178, 179, 180, 181, 182, 191, 192, 193, 194, 195, 196, 197, 198, 199, 200, 201, 202, 203, 204, 205, 206, 207, 183, 184, 185, 186, 187, 188, 189, 190] (by decide +kernel) (by decide +kernel)
set_option maxRecDepth 20000 in
theorem gX6_stepForReal_X3_step : GoodIn wsX6_stepForReal (wsV RX6 233 RX3 yX3_step wsX3_step) := goodIn_app (goodIn_of _ (by decide +kernel)) ggX6_stepForReal_X3_step
set_option maxRecDepth 20000 in
theorem ggX6_stepForReal_X5_begin : GoodIn wsX6_stepForReal wsX5_begin := goodIn_r _ [147, 148, 149, 150, 208, 209, 210, 211, 212, 213] (by decide +kernel) (by decide +kernel)
set_option maxRecDepth 20000 in
theorem gX6_stepForReal_X5_begin : GoodIn wsX6_stepForReal (wsV RX6 239 RX5 yX5_begin wsX5_begin) := goodIn_app (goodIn_of _ (by decide +kernel)) ggX6_stepForReal_X5_begin
set_option maxRecDepth 20000 in
theorem ggX6_stepForReal_X5_finish : GoodIn wsX6_stepForReal wsX5_finish := goodIn_r _ [154, 155, 156, 157, 126, 123, 127, 158, 149, 150, 159, 160, 161, 146, 162, 148, 208, 209, 210, 211, 212, 213] (by decide +kernel) (by decide +kernel)
set_option maxRecDepth 20000 in
theorem gX6_stepForReal_X5_finish : GoodIn wsX6_stepForReal (wsV RX6 245 RX5 yX5_finish wsX5_finish) := goodIn_app (goodIn_of _ (by decide +kernel)) ggX6_stepForReal_X5_finish
theorem dX6_stepForReal_0 : decode cX6_stepForReal 0 = .ok (.aload_n 0, 1) := by decide +kernel
theorem dX6_stepForReal_1 : decode cX6_stepForReal 1 = .ok (.getfield 26, 3) := by decide +kernel
theorem dX6_stepForReal_4 : decode cX6_stepForReal 4 = .ok (.getfield 90, 3) := by decide +kernel
theorem dX6_stepForReal_7 : decode cX6_stepForReal 7 = .ok (.istore_n 1, 1) := by decide +kernel
theorem dX6_stepForReal_8 : decode cX6_stepForReal 8 = .ok (.aload_n 0, 1) := by decide +kernel
theorem dX6_stepForReal_9 : decode cX6_stepForReal 9 = .ok (.getfield 26, 3) := by decide +kernel
theorem dX6_stepForReal_12 : decode cX6_stepForReal 12 = .ok (.invokevirtual 233, 3) := by decide +kernel
theorem dX6_stepForReal_15 : decode cX6_stepForReal 15 = .ok (.iconst 0, 1) := by decide +kernel
theorem dX6_stepForReal_16 : decode cX6_stepForReal 16 = .ok (.istore_n 2, 1) := by decide +kernel
theorem dX6_stepForReal_17 : decode cX6_stepForReal 17 = .ok (.iload_n 2, 1) := by decide +kernel
theorem dX6_stepForReal_18 : decode cX6_stepForReal 18 = .ok (.aload_n 0, 1) := by decide +kernel
theorem dX6_stepForReal_19 : decode cX6_stepForReal 19 = .ok (.getfield 26, 3) := by decide +kernel
theorem dX6_stepForReal_22 : decode cX6_stepForReal 22 = .ok (.getfield 74, 3) := by decide +kernel
theorem dX6_stepForReal_25 : decode cX6_stepForReal 25 = .ok (.if_icmp .ge 53, 3) := by decide +kernel
theorem dX6_stepForReal_28 : decode cX6_stepForReal 28 = .ok (.aload_n 0, 1) := by decide +kernel
theorem dX6_stepForReal_29 : decode cX6_stepForReal 29 = .ok (.getfield 26, 3) := by decide +kernel
theorem dX6_stepForReal_32 : decode cX6_stepForReal 32 = .ok (.getfield 140, 3) := by decide +kernel
theorem dX6_stepForReal_35 : decode cX6_stepForReal 35 = .ok (.iload_n 2, 1) := by decide +kernel
theorem dX6_stepForReal_36 : decode cX6_stepForReal 36 = .ok (.aaload, 1) := by decide +kernel
theorem dX6_stepForReal_37 : decode cX6_stepForReal 37 = .ok (.astore_n 3, 1) := by decide +kernel
theorem dX6_stepForReal_38 : decode cX6_stepForReal 38 = .ok (.aload_n 3, 1) := by decide +kernel
theorem dX6_stepForReal_39 : decode cX6_stepForReal 39 = .ok (.getfield 236, 3) := by decide +kernel
theorem dX6_stepForReal_42 : decode cX6_stepForReal 42 = .ok (.ifCond .eq 13, 3) := by decide +kernel
theorem dX6_stepForReal_45 : decode cX6_stepForReal 45 = .ok (.aload_n 0, 1) := by decide +kernel
theorem dX6_stepForReal_46 : decode cX6_stepForReal 46 = .ok (.getfield 35, 3) := by decide +kernel
theorem dX6_stepForReal_49 : decode cX6_stepForReal 49 = .ok (.iload_n 2, 1) := by decide +kernel
theorem dX6_stepForReal_50 : decode cX6_stepForReal 50 = .ok (.aaload, 1) := by decide +kernel
theorem dX6_stepForReal_51 : decode cX6_stepForReal 51 = .ok (.iload_n 1, 1) := by decide +kernel
theorem dX6_stepForReal_52 : decode cX6_stepForReal 52 = .ok (.invokevirtual 239, 3) := by decide +kernel
theorem dX6_stepForReal_55 : decode cX6_stepForReal 55 = .ok (.aload_n 3, 1) := by decide +kernel
theorem dX6_stepForReal_56 : decode cX6_stepForReal 56 = .ok (.getfield 242, 3) := by decide +kernel
theorem dX6_stepForReal_59 : decode cX6_stepForReal 59 = .ok (.ifCond .eq 13, 3) := by decide +kernel
theorem dX6_stepForReal_62 : decode cX6_stepForReal 62 = .ok (.aload_n 0, 1) := by decide +kernel
theorem dX6_stepForReal_63 : decode cX6_stepForReal 63 = .ok (.getfield 35, 3) := by decide +kernel
theorem dX6_stepForReal_66 : decode cX6_stepForReal 66 = .ok (.iload_n 2, 1) := by decide +kernel
theorem dX6_stepForReal_67 : decode cX6_stepForReal 67 = .ok (.aaload, 1) := by decide +kernel
theorem dX6_stepForReal_68 : decode cX6_stepForReal 68 = .ok (.iload_n 1, 1) := by decide +kernel
theorem dX6_stepForReal_69 : decode cX6_stepForReal 69 = .ok (.invokevirtual 245, 3) := by decide +kernel
theorem dX6_stepForReal_72 : decode cX6_stepForReal 72 = .ok (.iinc 2 1, 3) := by decide +kernel
theorem dX6_stepForReal_75 : decode cX6_stepForReal 75 = .ok (.goto (-58), 3) := by decide +kernel
theorem dX6_stepForReal_78 : decode cX6_stepForReal 78 = .ok (.return_, 1) := by decide +kernel
set_option maxRecDepth 20000 in
theorem ggX6_jam_X6_isHop : GoodIn wsX6_jam wsX6_isHop := goodIn_r _ [8, 9, 1, 10, 19, 20, 21, 22, 23, 24, 25, 26, 27, 28, 29, 30, 31, 32, 33, 34, 35, 36, 37, 38] (by decide +kernel) (by decide +kernel)
set_option maxRecDepth 20000 in
theorem gX6_jam_X6_isHop : GoodIn wsX6_jam (wsV RX6 93 RX6 yX6_isHop wsX6_isHop) := goodIn_app (goodIn_of _ (by decide +kernel)) ggX6_jam_X6_isHop
set_option maxRecDepth 20000 in
theorem ggX6_jam_X6_refuse : GoodIn wsX6_jam wsX6_refuse := goodIn_r _ [14, 15, 19, 20, 21, 22, 23, 24, 25, 26, 27] (by decide +kernel) (by decide +kernel)
set_option maxRecDepth 20000 in
theorem gX6_jam_X6_refuse : GoodIn wsX6_jam (wsV RX6 227 RX6 yX6_refuse wsX6_refuse) := goodIn_app (goodIn_of _ (by decide +kernel)) ggX6_jam_X6_refuse
set_option maxRecDepth 20000 in
theorem ggX6_jam_X6_outside : GoodIn wsX6_jam wsX6_outside := goodIn_r _ [18] (by decide +kernel) (by decide +kernel)
set_option maxRecDepth 20000 in
theorem gX6_jam_X6_outside : GoodIn wsX6_jam (va_wsS RX6 55 yX6_outside wsX6_outside) := goodIn_app (goodIn_of _ (by decide +kernel)) ggX6_jam_X6_outside
theorem dX6_jam_0 : decode cX6_jam 0 = .ok (.aload_n 0, 1) := by decide +kernel
theorem dX6_jam_1 : decode cX6_jam 1 = .ok (.iload_n 1, 1) := by decide +kernel
theorem dX6_jam_2 : decode cX6_jam 2 = .ok (.invokevirtual 93, 3) := by decide +kernel
theorem dX6_jam_5 : decode cX6_jam 5 = .ok (.ifCond .ne 9, 3) := by decide +kernel
theorem dX6_jam_8 : decode cX6_jam 8 = .ok (.aload_n 0, 1) := by decide +kernel
theorem dX6_jam_9 : decode cX6_jam 9 = .ok (.iconst 0, 1) := by decide +kernel
theorem dX6_jam_10 : decode cX6_jam 10 = .ok (.invokevirtual 227, 3) := by decide +kernel
theorem dX6_jam_13 : decode cX6_jam 13 = .ok (.ireturn, 1) := by decide +kernel
theorem dX6_jam_14 : decode cX6_jam 14 = .ok (.iload_n 2, 1) := by decide +kernel
theorem dX6_jam_15 : decode cX6_jam 15 = .ok (.iconst 0, 1) := by decide +kernel
theorem dX6_jam_16 : decode cX6_jam 16 = .ok (.bipush 9, 2) := by decide +kernel
theorem dX6_jam_18 : decode cX6_jam 18 = .ok (.invokestatic 55, 3) := by decide +kernel
theorem dX6_jam_21 : decode cX6_jam 21 = .ok (.ifCond .eq 9, 3) := by decide +kernel
theorem dX6_jam_24 : decode cX6_jam 24 = .ok (.aload_n 0, 1) := by decide +kernel
theorem dX6_jam_25 : decode cX6_jam 25 = .ok (.iconst 1, 1) := by decide +kernel
theorem dX6_jam_26 : decode cX6_jam 26 = .ok (.invokevirtual 227, 3) := by decide +kernel
theorem dX6_jam_29 : decode cX6_jam 29 = .ok (.ireturn, 1) := by decide +kernel
theorem dX6_jam_30 : decode cX6_jam 30 = .ok (.aload_n 0, 1) := by decide +kernel
theorem dX6_jam_31 : decode cX6_jam 31 = .ok (.getfield 26, 3) := by decide +kernel
theorem dX6_jam_34 : decode cX6_jam 34 = .ok (.getfield 104, 3) := by decide +kernel
theorem dX6_jam_37 : decode cX6_jam 37 = .ok (.iload_n 1, 1) := by decide +kernel
theorem dX6_jam_38 : decode cX6_jam 38 = .ok (.aaload, 1) := by decide +kernel
theorem dX6_jam_39 : decode cX6_jam 39 = .ok (.astore_n 3, 1) := by decide +kernel
theorem dX6_jam_40 : decode cX6_jam 40 = .ok (.aload_n 3, 1) := by decide +kernel
theorem dX6_jam_41 : decode cX6_jam 41 = .ok (.getfield 119, 3) := by decide +kernel
theorem dX6_jam_44 : decode cX6_jam 44 = .ok (.istore 4, 2) := by decide +kernel
theorem dX6_jam_46 : decode cX6_jam 46 = .ok (.iload_n 2, 1) := by decide +kernel
theorem dX6_jam_47 : decode cX6_jam 47 = .ok (.iload 4, 2) := by decide +kernel
theorem dX6_jam_49 : decode cX6_jam 49 = .ok (.if_icmp .ne 9, 3) := by decide +kernel
theorem dX6_jam_52 : decode cX6_jam 52 = .ok (.aload_n 0, 1) := by decide +kernel
theorem dX6_jam_53 : decode cX6_jam 53 = .ok (.iconst 2, 1) := by decide +kernel
theorem dX6_jam_54 : decode cX6_jam 54 = .ok (.invokevirtual 227, 3) := by decide +kernel
theorem dX6_jam_57 : decode cX6_jam 57 = .ok (.ireturn, 1) := by decide +kernel
theorem dX6_jam_58 : decode cX6_jam 58 = .ok (.aload_n 3, 1) := by decide +kernel
theorem dX6_jam_59 : decode cX6_jam 59 = .ok (.iload_n 2, 1) := by decide +kernel
theorem dX6_jam_60 : decode cX6_jam 60 = .ok (.putfield 119, 3) := by decide +kernel
theorem dX6_jam_63 : decode cX6_jam 63 = .ok (.iload 4, 2) := by decide +kernel
theorem dX6_jam_65 : decode cX6_jam 65 = .ok (.ireturn, 1) := by decide +kernel
set_option maxRecDepth 20000 in
theorem ggX6_source_X6_isCircuit : GoodIn wsX6_source wsX6_isCircuit := goodIn_r _ [9, 10, 1, 11, 20, 21, 22, 23, 24, 25, 26, 27, 28, 29, 30, 31, 32, 33, 34, 35, 36, 37, 38, 39] (by decide +kernel) (by decide +kernel)
set_option maxRecDepth 20000 in
theorem gX6_source_X6_isCircuit : GoodIn wsX6_source (wsV RX6 135 RX6 yX6_isCircuit wsX6_isCircuit) := goodIn_app (goodIn_of _ (by decide +kernel)) ggX6_source_X6_isCircuit
set_option maxRecDepth 20000 in
theorem ggX6_source_X6_refuse : GoodIn wsX6_source wsX6_refuse := goodIn_r _ [15, 16, 20, 21, 22, 23, 24, 25, 26, 27, 28] (by decide +kernel) (by decide +kernel)
set_option maxRecDepth 20000 in
theorem gX6_source_X6_refuse : GoodIn wsX6_source (wsV RX6 227 RX6 yX6_refuse wsX6_refuse) := goodIn_app (goodIn_of _ (by decide +kernel)) ggX6_source_X6_refuse
set_option maxRecDepth 20000 in
theorem ggX6_source_X6_outside : GoodIn wsX6_source wsX6_outside := goodIn_r _ [19] (by decide +kernel) (by decide +kernel)
set_option maxRecDepth 20000 in
theorem gX6_source_X6_outside : GoodIn wsX6_source (va_wsS RX6 55 yX6_outside wsX6_outside) := goodIn_app (goodIn_of _ (by decide +kernel)) ggX6_source_X6_outside
theorem dX6_source_0 : decode cX6_source 0 = .ok (.aload_n 0, 1) := by decide +kernel
theorem dX6_source_1 : decode cX6_source 1 = .ok (.iload_n 1, 1) := by decide +kernel
theorem dX6_source_2 : decode cX6_source 2 = .ok (.invokevirtual 135, 3) := by decide +kernel
theorem dX6_source_5 : decode cX6_source 5 = .ok (.ifCond .ne 9, 3) := by decide +kernel
theorem dX6_source_8 : decode cX6_source 8 = .ok (.aload_n 0, 1) := by decide +kernel
theorem dX6_source_9 : decode cX6_source 9 = .ok (.iconst 0, 1) := by decide +kernel
theorem dX6_source_10 : decode cX6_source 10 = .ok (.invokevirtual 227, 3) := by decide +kernel
theorem dX6_source_13 : decode cX6_source 13 = .ok (.ireturn, 1) := by decide +kernel
theorem dX6_source_14 : decode cX6_source 14 = .ok (.iload_n 2, 1) := by decide +kernel
theorem dX6_source_15 : decode cX6_source 15 = .ok (.iconst 0, 1) := by decide +kernel
theorem dX6_source_16 : decode cX6_source 16 = .ok (.bipush 9, 2) := by decide +kernel
theorem dX6_source_18 : decode cX6_source 18 = .ok (.invokestatic 55, 3) := by decide +kernel
theorem dX6_source_21 : decode cX6_source 21 = .ok (.ifCond .ne 14, 3) := by decide +kernel
theorem dX6_source_24 : decode cX6_source 24 = .ok (.iload_n 3, 1) := by decide +kernel
theorem dX6_source_25 : decode cX6_source 25 = .ok (.iconst 0, 1) := by decide +kernel
theorem dX6_source_26 : decode cX6_source 26 = .ok (.sipush 999, 3) := by decide +kernel
theorem dX6_source_29 : decode cX6_source 29 = .ok (.invokestatic 55, 3) := by decide +kernel
theorem dX6_source_32 : decode cX6_source 32 = .ok (.ifCond .eq 9, 3) := by decide +kernel
theorem dX6_source_35 : decode cX6_source 35 = .ok (.aload_n 0, 1) := by decide +kernel
theorem dX6_source_36 : decode cX6_source 36 = .ok (.iconst 1, 1) := by decide +kernel
theorem dX6_source_37 : decode cX6_source 37 = .ok (.invokevirtual 227, 3) := by decide +kernel
theorem dX6_source_40 : decode cX6_source 40 = .ok (.ireturn, 1) := by decide +kernel
theorem dX6_source_41 : decode cX6_source 41 = .ok (.aload_n 0, 1) := by decide +kernel
theorem dX6_source_42 : decode cX6_source 42 = .ok (.getfield 26, 3) := by decide +kernel
theorem dX6_source_45 : decode cX6_source 45 = .ok (.getfield 140, 3) := by decide +kernel
theorem dX6_source_48 : decode cX6_source 48 = .ok (.iload_n 1, 1) := by decide +kernel
theorem dX6_source_49 : decode cX6_source 49 = .ok (.aaload, 1) := by decide +kernel
theorem dX6_source_50 : decode cX6_source 50 = .ok (.astore 4, 2) := by decide +kernel
theorem dX6_source_52 : decode cX6_source 52 = .ok (.aload 4, 2) := by decide +kernel
theorem dX6_source_54 : decode cX6_source 54 = .ok (.getfield 144, 3) := by decide +kernel
theorem dX6_source_57 : decode cX6_source 57 = .ok (.istore 5, 2) := by decide +kernel
theorem dX6_source_59 : decode cX6_source 59 = .ok (.iload_n 2, 1) := by decide +kernel
theorem dX6_source_60 : decode cX6_source 60 = .ok (.iload 5, 2) := by decide +kernel
theorem dX6_source_62 : decode cX6_source 62 = .ok (.if_icmp .ne 18, 3) := by decide +kernel
theorem dX6_source_65 : decode cX6_source 65 = .ok (.iload_n 3, 1) := by decide +kernel
theorem dX6_source_66 : decode cX6_source 66 = .ok (.aload 4, 2) := by decide +kernel
theorem dX6_source_68 : decode cX6_source 68 = .ok (.getfield 149, 3) := by decide +kernel
theorem dX6_source_71 : decode cX6_source 71 = .ok (.if_icmp .ne 9, 3) := by decide +kernel
theorem dX6_source_74 : decode cX6_source 74 = .ok (.aload_n 0, 1) := by decide +kernel
theorem dX6_source_75 : decode cX6_source 75 = .ok (.iconst 2, 1) := by decide +kernel
theorem dX6_source_76 : decode cX6_source 76 = .ok (.invokevirtual 227, 3) := by decide +kernel
theorem dX6_source_79 : decode cX6_source 79 = .ok (.ireturn, 1) := by decide +kernel
theorem dX6_source_80 : decode cX6_source 80 = .ok (.aload 4, 2) := by decide +kernel
theorem dX6_source_82 : decode cX6_source 82 = .ok (.iload_n 2, 1) := by decide +kernel
theorem dX6_source_83 : decode cX6_source 83 = .ok (.putfield 144, 3) := by decide +kernel
theorem dX6_source_86 : decode cX6_source 86 = .ok (.aload 4, 2) := by decide +kernel
theorem dX6_source_88 : decode cX6_source 88 = .ok (.iload_n 3, 1) := by decide +kernel
theorem dX6_source_89 : decode cX6_source 89 = .ok (.putfield 149, 3) := by decide +kernel
theorem dX6_source_92 : decode cX6_source 92 = .ok (.iload 5, 2) := by decide +kernel
theorem dX6_source_94 : decode cX6_source 94 = .ok (.ireturn, 1) := by decide +kernel
set_option maxRecDepth 20000 in
theorem ggX6_takes_X6_isCircuit : GoodIn wsX6_takes wsX6_isCircuit := goodIn_r _ [8, 9, 1, 10, 19, 20, 21, 22, 23, 24, 25, 26, 27, 28, 29, 30, 31, 32, 33, 34, 35, 36, 37, 38] (by decide +kernel) (by decide +kernel)
set_option maxRecDepth 20000 in
theorem gX6_takes_X6_isCircuit : GoodIn wsX6_takes (wsV RX6 135 RX6 yX6_isCircuit wsX6_isCircuit) := goodIn_app (goodIn_of _ (by decide +kernel)) ggX6_takes_X6_isCircuit
set_option maxRecDepth 20000 in
theorem ggX6_takes_X6_refuse : GoodIn wsX6_takes wsX6_refuse := goodIn_r _ [14, 15, 19, 20, 21, 22, 23, 24, 25, 26, 27] (by decide +kernel) (by decide +kernel)
set_option maxRecDepth 20000 in
theorem gX6_takes_X6_refuse : GoodIn wsX6_takes (wsV RX6 227 RX6 yX6_refuse wsX6_refuse) := goodIn_app (goodIn_of _ (by decide +kernel)) ggX6_takes_X6_refuse
set_option maxRecDepth 20000 in
theorem ggX6_takes_X6_outside : GoodIn wsX6_takes wsX6_outside := goodIn_r _ [18] (by decide +kernel) (by decide +kernel)
set_option maxRecDepth 20000 in
theorem gX6_takes_X6_outside : GoodIn wsX6_takes (va_wsS RX6 55 yX6_outside wsX6_outside) := goodIn_app (goodIn_of _ (by decide +kernel)) ggX6_takes_X6_outside
theorem dX6_takes_0 : decode cX6_takes 0 = .ok (.aload_n 0, 1) := by decide +kernel
theorem dX6_takes_1 : decode cX6_takes 1 = .ok (.iload_n 1, 1) := by decide +kernel
theorem dX6_takes_2 : decode cX6_takes 2 = .ok (.invokevirtual 135, 3) := by decide +kernel
theorem dX6_takes_5 : decode cX6_takes 5 = .ok (.ifCond .ne 9, 3) := by decide +kernel
theorem dX6_takes_8 : decode cX6_takes 8 = .ok (.aload_n 0, 1) := by decide +kernel
theorem dX6_takes_9 : decode cX6_takes 9 = .ok (.iconst 0, 1) := by decide +kernel
theorem dX6_takes_10 : decode cX6_takes 10 = .ok (.invokevirtual 227, 3) := by decide +kernel
theorem dX6_takes_13 : decode cX6_takes 13 = .ok (.ireturn, 1) := by decide +kernel
theorem dX6_takes_14 : decode cX6_takes 14 = .ok (.iload_n 2, 1) := by decide +kernel
theorem dX6_takes_15 : decode cX6_takes 15 = .ok (.iconst 0, 1) := by decide +kernel
theorem dX6_takes_16 : decode cX6_takes 16 = .ok (.bipush 9, 2) := by decide +kernel
theorem dX6_takes_18 : decode cX6_takes 18 = .ok (.invokestatic 55, 3) := by decide +kernel
theorem dX6_takes_21 : decode cX6_takes 21 = .ok (.ifCond .eq 9, 3) := by decide +kernel
theorem dX6_takes_24 : decode cX6_takes 24 = .ok (.aload_n 0, 1) := by decide +kernel
theorem dX6_takes_25 : decode cX6_takes 25 = .ok (.iconst 1, 1) := by decide +kernel
theorem dX6_takes_26 : decode cX6_takes 26 = .ok (.invokevirtual 227, 3) := by decide +kernel
theorem dX6_takes_29 : decode cX6_takes 29 = .ok (.ireturn, 1) := by decide +kernel
theorem dX6_takes_30 : decode cX6_takes 30 = .ok (.aload_n 0, 1) := by decide +kernel
theorem dX6_takes_31 : decode cX6_takes 31 = .ok (.getfield 26, 3) := by decide +kernel
theorem dX6_takes_34 : decode cX6_takes 34 = .ok (.getfield 140, 3) := by decide +kernel
theorem dX6_takes_37 : decode cX6_takes 37 = .ok (.iload_n 1, 1) := by decide +kernel
theorem dX6_takes_38 : decode cX6_takes 38 = .ok (.aaload, 1) := by decide +kernel
theorem dX6_takes_39 : decode cX6_takes 39 = .ok (.astore_n 3, 1) := by decide +kernel
theorem dX6_takes_40 : decode cX6_takes 40 = .ok (.aload_n 3, 1) := by decide +kernel
theorem dX6_takes_41 : decode cX6_takes 41 = .ok (.getfield 152, 3) := by decide +kernel
theorem dX6_takes_44 : decode cX6_takes 44 = .ok (.istore 4, 2) := by decide +kernel
theorem dX6_takes_46 : decode cX6_takes 46 = .ok (.iload_n 2, 1) := by decide +kernel
theorem dX6_takes_47 : decode cX6_takes 47 = .ok (.iload 4, 2) := by decide +kernel
theorem dX6_takes_49 : decode cX6_takes 49 = .ok (.if_icmp .ne 9, 3) := by decide +kernel
theorem dX6_takes_52 : decode cX6_takes 52 = .ok (.aload_n 0, 1) := by decide +kernel
theorem dX6_takes_53 : decode cX6_takes 53 = .ok (.iconst 2, 1) := by decide +kernel
theorem dX6_takes_54 : decode cX6_takes 54 = .ok (.invokevirtual 227, 3) := by decide +kernel
theorem dX6_takes_57 : decode cX6_takes 57 = .ok (.ireturn, 1) := by decide +kernel
theorem dX6_takes_58 : decode cX6_takes 58 = .ok (.aload_n 3, 1) := by decide +kernel
theorem dX6_takes_59 : decode cX6_takes 59 = .ok (.iload_n 2, 1) := by decide +kernel
theorem dX6_takes_60 : decode cX6_takes 60 = .ok (.putfield 152, 3) := by decide +kernel
theorem dX6_takes_63 : decode cX6_takes 63 = .ok (.iload 4, 2) := by decide +kernel
theorem dX6_takes_65 : decode cX6_takes 65 = .ok (.ireturn, 1) := by decide +kernel
set_option maxRecDepth 20000 in
theorem ggX6_zone_X6_zoneRefusal : GoodIn wsX6_zone wsX6_zoneRefusal := goodIn_r _ [9, 1, 2, 10, 11, 3, 4, 12, 13, 14, 8, 15, 16, 17, 18, 19, 20, 21, 22, 23, 24, 25, 26, 27, 28, 29, 30, 31, 32, 33, 34, 35, 36, 37, 38, 39, 40, 41, 42, 43, 44, 45, 46, 47, 48, 49, 50, 51, 52, 53, 59, 60, 61, 62, 63, 64, 65, 66, 67, 68, 69, 70, 71, 72, 73, 74, 75, 76, 77, 78, 79, 80, 81, 82, 83, 84, 85, 86, 87, 88, 89, 90, 91, 92, 93, 94, 95] (by decide +kernel) (by decide +kernel)
set_option maxRecDepth 20000 in
theorem gX6_zone_X6_zoneRefusal : GoodIn wsX6_zone (wsV RX6 248 RX6 yX6_zoneRefusal wsX6_zoneRefusal) := goodIn_app (goodIn_of _ (by decide +kernel)) ggX6_zone_X6_zoneRefusal
set_option maxRecDepth 20000 in
theorem ggX6_zone_X6_refuse : GoodIn wsX6_zone wsX6_refuse := goodIn_r _ [57, 58, 59, 60, 61, 62, 63, 64, 65, 66, 67] (by decide +kernel) (by decide +kernel)
set_option maxRecDepth 20000 in
theorem gX6_zone_X6_refuse : GoodIn wsX6_zone (wsV RX6 227 RX6 yX6_refuse wsX6_refuse) := goodIn_app (goodIn_of _ (by decide +kernel)) ggX6_zone_X6_refuse
theorem dX6_zone_0 : decode cX6_zone 0 = .ok (.aload_n 0, 1) := by decide +kernel
theorem dX6_zone_1 : decode cX6_zone 1 = .ok (.iload_n 1, 1) := by decide +kernel
theorem dX6_zone_2 : decode cX6_zone 2 = .ok (.iload_n 2, 1) := by decide +kernel
theorem dX6_zone_3 : decode cX6_zone 3 = .ok (.iload_n 3, 1) := by decide +kernel
theorem dX6_zone_4 : decode cX6_zone 4 = .ok (.invokevirtual 248, 3) := by decide +kernel
theorem dX6_zone_7 : decode cX6_zone 7 = .ok (.istore 4, 2) := by decide +kernel
theorem dX6_zone_9 : decode cX6_zone 9 = .ok (.iload 4, 2) := by decide +kernel
theorem dX6_zone_11 : decode cX6_zone 11 = .ok (.iconst (-1), 1) := by decide +kernel
theorem dX6_zone_12 : decode cX6_zone 12 = .ok (.if_icmp .eq 10, 3) := by decide +kernel
theorem dX6_zone_15 : decode cX6_zone 15 = .ok (.aload_n 0, 1) := by decide +kernel
theorem dX6_zone_16 : decode cX6_zone 16 = .ok (.iload 4, 2) := by decide +kernel
theorem dX6_zone_18 : decode cX6_zone 18 = .ok (.invokevirtual 227, 3) := by decide +kernel
theorem dX6_zone_21 : decode cX6_zone 21 = .ok (.ireturn, 1) := by decide +kernel
theorem dX6_zone_22 : decode cX6_zone 22 = .ok (.aload_n 0, 1) := by decide +kernel
theorem dX6_zone_23 : decode cX6_zone 23 = .ok (.getfield 26, 3) := by decide +kernel
theorem dX6_zone_26 : decode cX6_zone 26 = .ok (.getfield 104, 3) := by decide +kernel
theorem dX6_zone_29 : decode cX6_zone 29 = .ok (.iload_n 1, 1) := by decide +kernel
theorem dX6_zone_30 : decode cX6_zone 30 = .ok (.aaload, 1) := by decide +kernel
theorem dX6_zone_31 : decode cX6_zone 31 = .ok (.getfield 175, 3) := by decide +kernel
theorem dX6_zone_34 : decode cX6_zone 34 = .ok (.iload_n 2, 1) := by decide +kernel
theorem dX6_zone_35 : decode cX6_zone 35 = .ok (.aaload, 1) := by decide +kernel
theorem dX6_zone_36 : decode cX6_zone 36 = .ok (.astore 5, 2) := by decide +kernel
theorem dX6_zone_38 : decode cX6_zone 38 = .ok (.aload 5, 2) := by decide +kernel
theorem dX6_zone_40 : decode cX6_zone 40 = .ok (.getfield 190, 3) := by decide +kernel
theorem dX6_zone_43 : decode cX6_zone 43 = .ok (.istore 6, 2) := by decide +kernel
theorem dX6_zone_45 : decode cX6_zone 45 = .ok (.aload 5, 2) := by decide +kernel
theorem dX6_zone_47 : decode cX6_zone 47 = .ok (.iload_n 3, 1) := by decide +kernel
theorem dX6_zone_48 : decode cX6_zone 48 = .ok (.putfield 190, 3) := by decide +kernel
theorem dX6_zone_51 : decode cX6_zone 51 = .ok (.iload 6, 2) := by decide +kernel
theorem dX6_zone_53 : decode cX6_zone 53 = .ok (.ireturn, 1) := by decide +kernel
set_option maxRecDepth 20000 in
theorem ggX6_zoneRefusal_X6_isLane : GoodIn wsX6_zoneRefusal wsX6_isLane := goodIn_r _ [11, 12, 13, 14, 10, 15, 16, 1, 17, 18, 19, 20, 21, 22, 50, 51, 52, 53, 54, 55, 56, 57, 58, 59, 60, 61, 62, 63, 64, 65, 66, 67, 68, 69] (by decide +kernel) (by decide +kernel)
set_option maxRecDepth 20000 in
theorem gX6_zoneRefusal_X6_isLane : GoodIn wsX6_zoneRefusal (wsV RX6 167 RX6 yX6_isLane wsX6_isLane) := goodIn_app (goodIn_of _ (by decide +kernel)) ggX6_zoneRefusal_X6_isLane
set_option maxRecDepth 20000 in
theorem ggX6_zoneRefusal_X6_outside : GoodIn wsX6_zoneRefusal wsX6_outside := goodIn_r _ [25] (by decide +kernel) (by decide +kernel)
set_option maxRecDepth 20000 in
theorem gX6_zoneRefusal_X6_outside : GoodIn wsX6_zoneRefusal (va_wsS RX6 55 yX6_outside wsX6_outside) := goodIn_app (goodIn_of _ (by decide +kernel)) ggX6_zoneRefusal_X6_outside
set_option maxRecDepth 20000 in
theorem ggX6_zoneRefusal_X6_largestZone : GoodIn wsX6_zoneRefusal wsX6_largestZone := goodIn_r _ [29, 1, 2, 5, 6, 22, 30, 31, 32, 33, 34, 35, 36, 37, 38, 39, 40, 41, 42, 43, 44, 45, 46, 47, 48, 49, 50, 51, 52, 53, 54, 55, 56, 57, 58, 59, 60, 61, 62, 63, 64, 65, 66, 67, 68, 69, 70, 71, 72, 73, 74, 75, 76, 77, 78, 79, 80, 81, 82, 83, 84, 85, 86] (by decide +kernel) (by decide +kernel)
set_option maxRecDepth 20000 in
theorem gX6_zoneRefusal_X6_largestZone : GoodIn wsX6_zoneRefusal (wsV RX6 252 RX6 yX6_largestZone wsX6_largestZone) := goodIn_app (goodIn_of _ (by decide +kernel)) ggX6_zoneRefusal_X6_largestZone
theorem dX6_zoneRefusal_0 : decode cX6_zoneRefusal 0 = .ok (.aload_n 0, 1) := by decide +kernel
theorem dX6_zoneRefusal_1 : decode cX6_zoneRefusal 1 = .ok (.iload_n 1, 1) := by decide +kernel
theorem dX6_zoneRefusal_2 : decode cX6_zoneRefusal 2 = .ok (.iload_n 2, 1) := by decide +kernel
theorem dX6_zoneRefusal_3 : decode cX6_zoneRefusal 3 = .ok (.invokevirtual 167, 3) := by decide +kernel
theorem dX6_zoneRefusal_6 : decode cX6_zoneRefusal 6 = .ok (.ifCond .ne 5, 3) := by decide +kernel
theorem dX6_zoneRefusal_9 : decode cX6_zoneRefusal 9 = .ok (.iconst 0, 1) := by decide +kernel
theorem dX6_zoneRefusal_10 : decode cX6_zoneRefusal 10 = .ok (.ireturn, 1) := by decide +kernel
theorem dX6_zoneRefusal_11 : decode cX6_zoneRefusal 11 = .ok (.aload_n 0, 1) := by decide +kernel
theorem dX6_zoneRefusal_12 : decode cX6_zoneRefusal 12 = .ok (.getfield 26, 3) := by decide +kernel
theorem dX6_zoneRefusal_15 : decode cX6_zoneRefusal 15 = .ok (.getfield 104, 3) := by decide +kernel
theorem dX6_zoneRefusal_18 : decode cX6_zoneRefusal 18 = .ok (.iload_n 1, 1) := by decide +kernel
theorem dX6_zoneRefusal_19 : decode cX6_zoneRefusal 19 = .ok (.aaload, 1) := by decide +kernel
theorem dX6_zoneRefusal_20 : decode cX6_zoneRefusal 20 = .ok (.astore 4, 2) := by decide +kernel
theorem dX6_zoneRefusal_22 : decode cX6_zoneRefusal 22 = .ok (.iload_n 3, 1) := by decide +kernel
theorem dX6_zoneRefusal_23 : decode cX6_zoneRefusal 23 = .ok (.aload_n 0, 1) := by decide +kernel
theorem dX6_zoneRefusal_24 : decode cX6_zoneRefusal 24 = .ok (.getfield 26, 3) := by decide +kernel
theorem dX6_zoneRefusal_27 : decode cX6_zoneRefusal 27 = .ok (.getfield 81, 3) := by decide +kernel
theorem dX6_zoneRefusal_30 : decode cX6_zoneRefusal 30 = .ok (.aload 4, 2) := by decide +kernel
theorem dX6_zoneRefusal_32 : decode cX6_zoneRefusal 32 = .ok (.getfield 113, 3) := by decide +kernel
theorem dX6_zoneRefusal_35 : decode cX6_zoneRefusal 35 = .ok (.invokestatic 55, 3) := by decide +kernel
theorem dX6_zoneRefusal_38 : decode cX6_zoneRefusal 38 = .ok (.ifCond .eq 5, 3) := by decide +kernel
theorem dX6_zoneRefusal_41 : decode cX6_zoneRefusal 41 = .ok (.iconst 1, 1) := by decide +kernel
theorem dX6_zoneRefusal_42 : decode cX6_zoneRefusal 42 = .ok (.ireturn, 1) := by decide +kernel
theorem dX6_zoneRefusal_43 : decode cX6_zoneRefusal 43 = .ok (.iload_n 3, 1) := by decide +kernel
theorem dX6_zoneRefusal_44 : decode cX6_zoneRefusal 44 = .ok (.aload 4, 2) := by decide +kernel
theorem dX6_zoneRefusal_46 : decode cX6_zoneRefusal 46 = .ok (.getfield 175, 3) := by decide +kernel
theorem dX6_zoneRefusal_49 : decode cX6_zoneRefusal 49 = .ok (.iload_n 2, 1) := by decide +kernel
theorem dX6_zoneRefusal_50 : decode cX6_zoneRefusal 50 = .ok (.aaload, 1) := by decide +kernel
theorem dX6_zoneRefusal_51 : decode cX6_zoneRefusal 51 = .ok (.getfield 190, 3) := by decide +kernel
theorem dX6_zoneRefusal_54 : decode cX6_zoneRefusal 54 = .ok (.if_icmp .ne 5, 3) := by decide +kernel
theorem dX6_zoneRefusal_57 : decode cX6_zoneRefusal 57 = .ok (.iconst 2, 1) := by decide +kernel
theorem dX6_zoneRefusal_58 : decode cX6_zoneRefusal 58 = .ok (.ireturn, 1) := by decide +kernel
theorem dX6_zoneRefusal_59 : decode cX6_zoneRefusal 59 = .ok (.iload_n 3, 1) := by decide +kernel
theorem dX6_zoneRefusal_60 : decode cX6_zoneRefusal 60 = .ok (.aload_n 0, 1) := by decide +kernel
theorem dX6_zoneRefusal_61 : decode cX6_zoneRefusal 61 = .ok (.iload_n 1, 1) := by decide +kernel
theorem dX6_zoneRefusal_62 : decode cX6_zoneRefusal 62 = .ok (.iload_n 2, 1) := by decide +kernel
theorem dX6_zoneRefusal_63 : decode cX6_zoneRefusal 63 = .ok (.invokevirtual 252, 3) := by decide +kernel
theorem dX6_zoneRefusal_66 : decode cX6_zoneRefusal 66 = .ok (.if_icmp .le 7, 3) := by decide +kernel
theorem dX6_zoneRefusal_69 : decode cX6_zoneRefusal 69 = .ok (.iconst 3, 1) := by decide +kernel
theorem dX6_zoneRefusal_70 : decode cX6_zoneRefusal 70 = .ok (.goto 4, 3) := by decide +kernel
theorem dX6_zoneRefusal_73 : decode cX6_zoneRefusal 73 = .ok (.iconst (-1), 1) := by decide +kernel
theorem dX6_zoneRefusal_74 : decode cX6_zoneRefusal 74 = .ok (.ireturn, 1) := by decide +kernel
set_option maxRecDepth 20000 in
theorem ggX6_largestZone_X2_roomFor : GoodIn wsX6_largestZone wsX2_roomFor := goodIn_r _ [14, 15, 16, 17, 18, 7, 8, 9, 19, 20, 21, 22, 23, 24, 25, 46, 47, 48, 49, 50, 51, 52, 53, 54, 55, 56, 57, 58, 59, 60, 61, 62] (by decide +kernel) (by decide +kernel)
set_option maxRecDepth 20000 in
theorem gX6_largestZone_X2_roomFor : GoodIn wsX6_largestZone (wsV RX6 255 RX2 yX2_roomFor wsX2_roomFor) := goodIn_app (goodIn_of _ (by decide +kernel)) ggX6_largestZone_X2_roomFor
theorem dX6_largestZone_0 : decode cX6_largestZone 0 = .ok (.aload_n 0, 1) := by decide +kernel
theorem dX6_largestZone_1 : decode cX6_largestZone 1 = .ok (.getfield 26, 3) := by decide +kernel
theorem dX6_largestZone_4 : decode cX6_largestZone 4 = .ok (.getfield 104, 3) := by decide +kernel
theorem dX6_largestZone_7 : decode cX6_largestZone 7 = .ok (.iload_n 1, 1) := by decide +kernel
theorem dX6_largestZone_8 : decode cX6_largestZone 8 = .ok (.aaload, 1) := by decide +kernel
theorem dX6_largestZone_9 : decode cX6_largestZone 9 = .ok (.astore_n 3, 1) := by decide +kernel
theorem dX6_largestZone_10 : decode cX6_largestZone 10 = .ok (.aload_n 3, 1) := by decide +kernel
theorem dX6_largestZone_11 : decode cX6_largestZone 11 = .ok (.getfield 175, 3) := by decide +kernel
theorem dX6_largestZone_14 : decode cX6_largestZone 14 = .ok (.iload_n 2, 1) := by decide +kernel
theorem dX6_largestZone_15 : decode cX6_largestZone 15 = .ok (.aaload, 1) := by decide +kernel
theorem dX6_largestZone_16 : decode cX6_largestZone 16 = .ok (.getfield 190, 3) := by decide +kernel
theorem dX6_largestZone_19 : decode cX6_largestZone 19 = .ok (.aload_n 3, 1) := by decide +kernel
theorem dX6_largestZone_20 : decode cX6_largestZone 20 = .ok (.iload_n 2, 1) := by decide +kernel
theorem dX6_largestZone_21 : decode cX6_largestZone 21 = .ok (.aload_n 0, 1) := by decide +kernel
theorem dX6_largestZone_22 : decode cX6_largestZone 22 = .ok (.getfield 26, 3) := by decide +kernel
theorem dX6_largestZone_25 : decode cX6_largestZone 25 = .ok (.getfield 74, 3) := by decide +kernel
theorem dX6_largestZone_28 : decode cX6_largestZone 28 = .ok (.invokevirtual 255, 3) := by decide +kernel
theorem dX6_largestZone_31 : decode cX6_largestZone 31 = .ok (.invokestatic 258, 3) := by decide +kernel
theorem dX6_largestZone_34 : decode cX6_largestZone 34 = .ok (.ireturn, 1) := by decide +kernel
set_option maxRecDepth 20000 in
theorem ggX6_probe_X6_isLane : GoodIn wsX6_probe wsX6_isLane := goodIn_r _ [8, 9, 10, 11, 7, 12, 13, 1, 14, 15, 16, 17, 18, 19, 43, 44, 45, 46, 47, 48, 49, 50, 51, 52, 53, 54, 55, 56, 57, 58, 59, 60, 61, 62] (by decide +kernel) (by decide +kernel)
set_option maxRecDepth 20000 in
theorem gX6_probe_X6_isLane : GoodIn wsX6_probe (wsV RX6 167 RX6 yX6_isLane wsX6_isLane) := goodIn_app (goodIn_of _ (by decide +kernel)) ggX6_probe_X6_isLane
set_option maxRecDepth 20000 in
theorem ggX6_probe_X6_refuse : GoodIn wsX6_probe wsX6_refuse := goodIn_r _ [23, 24, 43, 44, 45, 46, 47, 48, 49, 50, 51] (by decide +kernel) (by decide +kernel)
set_option maxRecDepth 20000 in
theorem gX6_probe_X6_refuse : GoodIn wsX6_probe (wsV RX6 227 RX6 yX6_refuse wsX6_refuse) := goodIn_app (goodIn_of _ (by decide +kernel)) ggX6_probe_X6_refuse
set_option maxRecDepth 20000 in
theorem ggX6_probe_X3_sendProbe : GoodIn wsX6_probe wsX3_sendProbe := goodIn_r _ [29, 30, 31, 32, 33, 34, 35, 63, 64, 65, 66, 67, 68, 69, 70, 71, 72, 52, 53, 54, 55, 56, 57, 58, 59, 60, 61, 62, 73, 74, 75, 76, 77, 78, 79] (by decide +kernel) (by decide +kernel)
set_option maxRecDepth 20000 in
theorem gX6_probe_X3_sendProbe : GoodIn wsX6_probe (wsV RX6 263 RX3 yX3_sendProbe wsX3_sendProbe) := goodIn_app (goodIn_of _ (by decide +kernel)) ggX6_probe_X3_sendProbe
set_option maxRecDepth 20000 in
theorem ggX6_probe_X1_out : GoodIn wsX6_probe wsX1_out := goodIn_r _ [40, 41, 42, 73, 74, 75, 76, 77, 78, 79] (by decide +kernel) (by decide +kernel)
set_option maxRecDepth 20000 in
theorem gX6_probe_X1_out : GoodIn wsX6_probe (wsV RX6 193 RX1 yX1_out wsX1_out) := goodIn_app (goodIn_of _ (by decide +kernel)) ggX6_probe_X1_out
theorem dX6_probe_0 : decode cX6_probe 0 = .ok (.aload_n 0, 1) := by decide +kernel
theorem dX6_probe_1 : decode cX6_probe 1 = .ok (.iload_n 1, 1) := by decide +kernel
theorem dX6_probe_2 : decode cX6_probe 2 = .ok (.iload_n 2, 1) := by decide +kernel
theorem dX6_probe_3 : decode cX6_probe 3 = .ok (.invokevirtual 167, 3) := by decide +kernel
theorem dX6_probe_6 : decode cX6_probe 6 = .ok (.ifCond .ne 9, 3) := by decide +kernel
theorem dX6_probe_9 : decode cX6_probe 9 = .ok (.aload_n 0, 1) := by decide +kernel
theorem dX6_probe_10 : decode cX6_probe 10 = .ok (.iconst 0, 1) := by decide +kernel
theorem dX6_probe_11 : decode cX6_probe 11 = .ok (.invokevirtual 227, 3) := by decide +kernel
theorem dX6_probe_14 : decode cX6_probe 14 = .ok (.ireturn, 1) := by decide +kernel
theorem dX6_probe_15 : decode cX6_probe 15 = .ok (.aload_n 0, 1) := by decide +kernel
theorem dX6_probe_16 : decode cX6_probe 16 = .ok (.getfield 26, 3) := by decide +kernel
theorem dX6_probe_19 : decode cX6_probe 19 = .ok (.aload_n 0, 1) := by decide +kernel
theorem dX6_probe_20 : decode cX6_probe 20 = .ok (.getfield 26, 3) := by decide +kernel
theorem dX6_probe_23 : decode cX6_probe 23 = .ok (.getfield 104, 3) := by decide +kernel
theorem dX6_probe_26 : decode cX6_probe 26 = .ok (.iload_n 1, 1) := by decide +kernel
theorem dX6_probe_27 : decode cX6_probe 27 = .ok (.aaload, 1) := by decide +kernel
theorem dX6_probe_28 : decode cX6_probe 28 = .ok (.iload_n 2, 1) := by decide +kernel
theorem dX6_probe_29 : decode cX6_probe 29 = .ok (.invokevirtual 263, 3) := by decide +kernel
theorem dX6_probe_32 : decode cX6_probe 32 = .ok (.aload_n 0, 1) := by decide +kernel
theorem dX6_probe_33 : decode cX6_probe 33 = .ok (.getfield 26, 3) := by decide +kernel
theorem dX6_probe_36 : decode cX6_probe 36 = .ok (.getfield 104, 3) := by decide +kernel
theorem dX6_probe_39 : decode cX6_probe 39 = .ok (.iload_n 1, 1) := by decide +kernel
theorem dX6_probe_40 : decode cX6_probe 40 = .ok (.aaload, 1) := by decide +kernel
theorem dX6_probe_41 : decode cX6_probe 41 = .ok (.getfield 175, 3) := by decide +kernel
theorem dX6_probe_44 : decode cX6_probe 44 = .ok (.iload_n 2, 1) := by decide +kernel
theorem dX6_probe_45 : decode cX6_probe 45 = .ok (.aaload, 1) := by decide +kernel
theorem dX6_probe_46 : decode cX6_probe 46 = .ok (.invokevirtual 193, 3) := by decide +kernel
theorem dX6_probe_49 : decode cX6_probe 49 = .ok (.ireturn, 1) := by decide +kernel
set_option maxRecDepth 20000 in
theorem ggX6_status_X6_outside : GoodIn wsX6_status wsX6_outside := goodIn_r _ [5] (by decide +kernel) (by decide +kernel)
set_option maxRecDepth 20000 in
theorem gX6_status_X6_outside : GoodIn wsX6_status (va_wsS RX6 55 yX6_outside wsX6_outside) := goodIn_app (goodIn_of _ (by decide +kernel)) ggX6_status_X6_outside
theorem dX6_status_0 : decode cX6_status 0 = .ok (.iload_n 1, 1) := by decide +kernel
theorem dX6_status_1 : decode cX6_status 1 = .ok (.iconst 0, 1) := by decide +kernel
theorem dX6_status_2 : decode cX6_status 2 = .ok (.iconst 3, 1) := by decide +kernel
theorem dX6_status_3 : decode cX6_status 3 = .ok (.invokestatic 55, 3) := by decide +kernel
theorem dX6_status_6 : decode cX6_status 6 = .ok (.ifCond .eq 7, 3) := by decide +kernel
theorem dX6_status_9 : decode cX6_status 9 = .ok (.iconst (-1), 1) := by decide +kernel
theorem dX6_status_10 : decode cX6_status 10 = .ok (.goto 9, 3) := by decide +kernel
theorem dX6_status_13 : decode cX6_status 13 = .ok (.aload_n 0, 1) := by decide +kernel
theorem dX6_status_14 : decode cX6_status 14 = .ok (.getfield 13, 3) := by decide +kernel
theorem dX6_status_17 : decode cX6_status 17 = .ok (.iload_n 1, 1) := by decide +kernel
theorem dX6_status_18 : decode cX6_status 18 = .ok (.iaload, 1) := by decide +kernel
theorem dX6_status_19 : decode cX6_status 19 = .ok (.ireturn, 1) := by decide +kernel
theorem dX6_refuse_0 : decode cX6_refuse 0 = .ok (.aload_n 0, 1) := by decide +kernel
theorem dX6_refuse_1 : decode cX6_refuse 1 = .ok (.getfield 13, 3) := by decide +kernel
theorem dX6_refuse_4 : decode cX6_refuse 4 = .ok (.iload_n 1, 1) := by decide +kernel
theorem dX6_refuse_5 : decode cX6_refuse 5 = .ok (.dup2, 1) := by decide +kernel
theorem dX6_refuse_6 : decode cX6_refuse 6 = .ok (.iaload, 1) := by decide +kernel
theorem dX6_refuse_7 : decode cX6_refuse 7 = .ok (.iconst 1, 1) := by decide +kernel
theorem dX6_refuse_8 : decode cX6_refuse 8 = .ok (.iadd, 1) := by decide +kernel
theorem dX6_refuse_9 : decode cX6_refuse 9 = .ok (.iastore, 1) := by decide +kernel
theorem dX6_refuse_10 : decode cX6_refuse 10 = .ok (.iconst (-1), 1) := by decide +kernel
theorem dX6_refuse_11 : decode cX6_refuse 11 = .ok (.ireturn, 1) := by decide +kernel
set_option maxRecDepth 20000 in
theorem ggX6_laneAhead_X6_isLane : GoodIn wsX6_laneAhead wsX6_isLane := goodIn_r _ [6, 7, 8, 9, 5, 10, 11, 12, 13, 14, 15, 16, 17, 18, 223, 224, 225, 226, 227, 228, 229, 230, 231, 232, 233, 234, 235, 236, 237, 238, 239, 240, 241, 242] (by decide +kernel) (by decide +kernel)
set_option maxRecDepth 20000 in
theorem gX6_laneAhead_X6_isLane : GoodIn wsX6_laneAhead (wsV RX6 167 RX6 yX6_isLane wsX6_isLane) := goodIn_app (goodIn_of _ (by decide +kernel)) ggX6_laneAhead_X6_isLane
set_option maxRecDepth 20000 in
theorem ggX6_laneAhead_X6_outside : GoodIn wsX6_laneAhead wsX6_outside := goodIn_r _ [21] (by decide +kernel) (by decide +kernel)
set_option maxRecDepth 20000 in
theorem gX6_laneAhead_X6_outside : GoodIn wsX6_laneAhead (va_wsS RX6 55 yX6_outside wsX6_outside) := goodIn_app (goodIn_of _ (by decide +kernel)) ggX6_laneAhead_X6_outside
set_option maxRecDepth 20000 in
theorem ggX6_laneAhead_X6_goApart : GoodIn wsX6_laneAhead wsX6_goApart := goodIn_r _ [25, 1, 12, 26, 27, 28, 29, 30, 31, 32, 33, 34, 35, 36, 37, 38, 39, 40, 41, 42, 43, 44, 45, 46, 47, 48, 49, 50, 51, 52, 53, 54, 55, 56, 57, 58, 59, 60, 61, 62, 63, 64, 65, 66, 67, 68, 69, 70, 71, 72, 73, 74, 75, 76, 77, 78, 79, 80, 81, 82, 83, 84, 85, 86, 87, 88, 89, 90, 91, 92, 93, 94, 95, 96, 97, 98, 99, 100, 101, 102, 103, 104, 105, 106, 107, 5, 108, 109, 110, 111, 112, 113, 114, 115, 116, 117, 118, 119, 120, 121, 122, 123, 124, 125, 126, 127, 128, 129, 130, 131, 132, 133, 134, 135, 136, 137, 138, 139, 140, 141, 142, 143, 144, 145, 146, 147, 148, 149, 150, 151, 152, 153, 154, 155, 156, 157, 158, 159, 160, 161, 162, 163, 164, 165, 166, 167, 168, 169, 170, 171, 172, 173, 174, 175, 176, 177, 178, 179, 180, 181, 182, 183, 184, 185, 186, 187, 188, 189, 190, 191, 192, 193, 194, 195, 196, 197, 198, 199, 223, 224, 225, 226, 227, 228, 229, 230, 231, 232, 233, 234, 235, 236, 237, 238, 239, 240, 241, 242, 243, 244, 245, 246, 247, 248, 249, 250, 251, 252, 253, 254, 255, 256, 257, 258, 259, 260, 261, 262, 263, 264, 265, 266, 267] (by decide +kernel) (by decide +kernel)
set_option maxRecDepth 20000 in
theorem gX6_laneAhead_X6_goApart : GoodIn wsX6_laneAhead (wsV RX6 267 RX6 yX6_goApart wsX6_goApart) := goodIn_app (goodIn_of _ (by decide +kernel)) ggX6_laneAhead_X6_goApart
set_option maxRecDepth 20000 in
theorem ggX6_laneAhead_X6_toldOfLane : GoodIn wsX6_laneAhead wsX6_toldOfLane := goodIn_r _ [202, 203, 204, 205, 206, 207, 208, 209, 210, 211, 212, 161, 162, 65, 163, 67, 69, 213, 214, 215, 216, 70, 217, 186, 183, 187, 218, 219, 220, 221, 49, 222, 57, 232, 233, 234, 235, 236, 237, 238, 239, 240, 241, 242, 243, 244, 245, 246, 247, 248, 249, 250, 251, 252, 253, 254, 255, 256, 257, 258, 259] (by decide +kernel) (by decide +kernel)
set_option maxRecDepth 20000 in
theorem gX6_laneAhead_X6_toldOfLane : GoodIn wsX6_laneAhead (va_wsS RX6 171 yX6_toldOfLane wsX6_toldOfLane) := goodIn_app (goodIn_of _ (by decide +kernel)) ggX6_laneAhead_X6_toldOfLane
theorem dX6_laneAhead_0 : decode cX6_laneAhead 0 = .ok (.aload_n 0, 1) := by decide +kernel
theorem dX6_laneAhead_1 : decode cX6_laneAhead 1 = .ok (.iload_n 1, 1) := by decide +kernel
theorem dX6_laneAhead_2 : decode cX6_laneAhead 2 = .ok (.iload_n 2, 1) := by decide +kernel
theorem dX6_laneAhead_3 : decode cX6_laneAhead 3 = .ok (.invokevirtual 167, 3) := by decide +kernel
theorem dX6_laneAhead_6 : decode cX6_laneAhead 6 = .ok (.ifCond .eq 25, 3) := by decide +kernel
theorem dX6_laneAhead_9 : decode cX6_laneAhead 9 = .ok (.iload_n 3, 1) := by decide +kernel
theorem dX6_laneAhead_10 : decode cX6_laneAhead 10 = .ok (.iconst 0, 1) := by decide +kernel
theorem dX6_laneAhead_11 : decode cX6_laneAhead 11 = .ok (.bipush 9, 2) := by decide +kernel
theorem dX6_laneAhead_13 : decode cX6_laneAhead 13 = .ok (.invokestatic 55, 3) := by decide +kernel
theorem dX6_laneAhead_16 : decode cX6_laneAhead 16 = .ok (.ifCond .ne 15, 3) := by decide +kernel
theorem dX6_laneAhead_19 : decode cX6_laneAhead 19 = .ok (.iload 4, 2) := by decide +kernel
theorem dX6_laneAhead_21 : decode cX6_laneAhead 21 = .ok (.iconst 0, 1) := by decide +kernel
theorem dX6_laneAhead_22 : decode cX6_laneAhead 22 = .ok (.sipush 200, 3) := by decide +kernel
theorem dX6_laneAhead_25 : decode cX6_laneAhead 25 = .ok (.invokestatic 55, 3) := by decide +kernel
theorem dX6_laneAhead_28 : decode cX6_laneAhead 28 = .ok (.ifCond .eq 5, 3) := by decide +kernel
theorem dX6_laneAhead_31 : decode cX6_laneAhead 31 = .ok (.iconst (-1), 1) := by decide +kernel
theorem dX6_laneAhead_32 : decode cX6_laneAhead 32 = .ok (.ireturn, 1) := by decide +kernel
theorem dX6_laneAhead_33 : decode cX6_laneAhead 33 = .ok (.aload_n 0, 1) := by decide +kernel
theorem dX6_laneAhead_34 : decode cX6_laneAhead 34 = .ok (.iload 4, 2) := by decide +kernel
theorem dX6_laneAhead_36 : decode cX6_laneAhead 36 = .ok (.invokevirtual 267, 3) := by decide +kernel
theorem dX6_laneAhead_39 : decode cX6_laneAhead 39 = .ok (.aload_n 0, 1) := by decide +kernel
theorem dX6_laneAhead_40 : decode cX6_laneAhead 40 = .ok (.getfield 30, 3) := by decide +kernel
theorem dX6_laneAhead_43 : decode cX6_laneAhead 43 = .ok (.iload_n 1, 1) := by decide +kernel
theorem dX6_laneAhead_44 : decode cX6_laneAhead 44 = .ok (.iload_n 2, 1) := by decide +kernel
theorem dX6_laneAhead_45 : decode cX6_laneAhead 45 = .ok (.iload_n 3, 1) := by decide +kernel
theorem dX6_laneAhead_46 : decode cX6_laneAhead 46 = .ok (.invokestatic 171, 3) := by decide +kernel
theorem dX6_laneAhead_49 : decode cX6_laneAhead 49 = .ok (.ireturn, 1) := by decide +kernel
set_option maxRecDepth 20000 in
theorem ggX6_bufferAhead_X6_isNode : GoodIn wsX6_bufferAhead wsX6_isNode := goodIn_r _ [6, 7, 8, 9, 200, 201, 202, 203, 204, 205, 206, 207, 208, 209, 210, 211, 212, 213, 214, 215, 216, 217, 218, 219] (by decide +kernel) (by decide +kernel)
set_option maxRecDepth 20000 in
theorem gX6_bufferAhead_X6_isNode : GoodIn wsX6_bufferAhead (wsV RX6 211 RX6 yX6_isNode wsX6_isNode) := goodIn_app (goodIn_of _ (by decide +kernel)) ggX6_bufferAhead_X6_isNode
set_option maxRecDepth 20000 in
theorem ggX6_bufferAhead_X6_isCircuit : GoodIn wsX6_bufferAhead wsX6_isCircuit := goodIn_r _ [13, 7, 8, 14, 200, 201, 202, 203, 204, 205, 206, 207, 208, 209, 210, 211, 212, 213, 214, 215, 216, 217, 218, 219] (by decide +kernel) (by decide +kernel)
set_option maxRecDepth 20000 in
theorem gX6_bufferAhead_X6_isCircuit : GoodIn wsX6_bufferAhead (wsV RX6 135 RX6 yX6_isCircuit wsX6_isCircuit) := goodIn_app (goodIn_of _ (by decide +kernel)) ggX6_bufferAhead_X6_isCircuit
set_option maxRecDepth 20000 in
theorem ggX6_bufferAhead_X6_outside : GoodIn wsX6_bufferAhead wsX6_outside := goodIn_r _ [17] (by decide +kernel) (by decide +kernel)
set_option maxRecDepth 20000 in
theorem gX6_bufferAhead_X6_outside : GoodIn wsX6_bufferAhead (va_wsS RX6 55 yX6_outside wsX6_outside) := goodIn_app (goodIn_of _ (by decide +kernel)) ggX6_bufferAhead_X6_outside
set_option maxRecDepth 20000 in
theorem ggX6_bufferAhead_X6_goApart : GoodIn wsX6_bufferAhead wsX6_goApart := goodIn_r _ [21, 1, 8, 22, 23, 24, 25, 26, 27, 28, 29, 30, 31, 32, 33, 34, 35, 36, 37, 38, 39, 40, 41, 42, 43, 44, 45, 46, 47, 48, 49, 50, 51, 52, 53, 54, 55, 56, 57, 58, 59, 60, 61, 62, 63, 64, 65, 66, 67, 68, 69, 70, 71, 72, 73, 74, 75, 76, 77, 78, 79, 80, 81, 82, 83, 84, 85, 86, 87, 88, 89, 90, 91, 92, 93, 94, 95, 96, 97, 98, 99, 100, 101, 102, 103, 5, 104, 105, 106, 107, 108, 109, 110, 111, 112, 113, 114, 115, 116, 117, 118, 119, 120, 121, 122, 123, 124, 125, 126, 127, 128, 129, 130, 131, 132, 133, 134, 135, 136, 137, 138, 139, 140, 141, 142, 143, 144, 145, 146, 147, 148, 149, 150, 151, 152, 153, 154, 155, 156, 157, 158, 159, 160, 161, 162, 163, 164, 165, 166, 167, 168, 169, 170, 171, 172, 173, 174, 175, 176, 177, 178, 179, 180, 181, 182, 183, 184, 185, 186, 187, 188, 189, 190, 191, 192, 193, 194, 195, 200, 201, 202, 203, 204, 205, 206, 207, 208, 209, 210, 211, 212, 213, 214, 215, 216, 217, 218, 219, 220, 221, 222, 223, 224, 225, 226, 227, 228, 229, 230, 231, 232, 233, 234, 235, 236, 237, 238, 239, 240, 241, 242, 243, 244] (by decide +kernel) (by decide +kernel)
set_option maxRecDepth 20000 in
theorem gX6_bufferAhead_X6_goApart : GoodIn wsX6_bufferAhead (wsV RX6 267 RX6 yX6_goApart wsX6_goApart) := goodIn_app (goodIn_of _ (by decide +kernel)) ggX6_bufferAhead_X6_goApart
set_option maxRecDepth 20000 in
theorem ggX6_bufferAhead_X3_waitingAt : GoodIn wsX6_bufferAhead wsX3_waitingAt := goodIn_r _ [199, 37, 209, 210, 211, 212, 213, 214, 215, 216, 217, 218, 219] (by decide +kernel) (by decide +kernel)
set_option maxRecDepth 20000 in
theorem gX6_bufferAhead_X3_waitingAt : GoodIn wsX6_bufferAhead (wsV RX6 214 RX3 yX3_waitingAt wsX3_waitingAt) := goodIn_app (goodIn_of _ (by decide +kernel)) ggX6_bufferAhead_X3_waitingAt
theorem dX6_bufferAhead_0 : decode cX6_bufferAhead 0 = .ok (.aload_n 0, 1) := by decide +kernel
theorem dX6_bufferAhead_1 : decode cX6_bufferAhead 1 = .ok (.iload_n 1, 1) := by decide +kernel
theorem dX6_bufferAhead_2 : decode cX6_bufferAhead 2 = .ok (.invokevirtual 211, 3) := by decide +kernel
theorem dX6_bufferAhead_5 : decode cX6_bufferAhead 5 = .ok (.ifCond .eq 22, 3) := by decide +kernel
theorem dX6_bufferAhead_8 : decode cX6_bufferAhead 8 = .ok (.aload_n 0, 1) := by decide +kernel
theorem dX6_bufferAhead_9 : decode cX6_bufferAhead 9 = .ok (.iload_n 2, 1) := by decide +kernel
theorem dX6_bufferAhead_10 : decode cX6_bufferAhead 10 = .ok (.invokevirtual 135, 3) := by decide +kernel
theorem dX6_bufferAhead_13 : decode cX6_bufferAhead 13 = .ok (.ifCond .eq 14, 3) := by decide +kernel
theorem dX6_bufferAhead_16 : decode cX6_bufferAhead 16 = .ok (.iload_n 3, 1) := by decide +kernel
theorem dX6_bufferAhead_17 : decode cX6_bufferAhead 17 = .ok (.iconst 0, 1) := by decide +kernel
theorem dX6_bufferAhead_18 : decode cX6_bufferAhead 18 = .ok (.sipush 200, 3) := by decide +kernel
theorem dX6_bufferAhead_21 : decode cX6_bufferAhead 21 = .ok (.invokestatic 55, 3) := by decide +kernel
theorem dX6_bufferAhead_24 : decode cX6_bufferAhead 24 = .ok (.ifCond .eq 5, 3) := by decide +kernel
theorem dX6_bufferAhead_27 : decode cX6_bufferAhead 27 = .ok (.iconst (-1), 1) := by decide +kernel
theorem dX6_bufferAhead_28 : decode cX6_bufferAhead 28 = .ok (.ireturn, 1) := by decide +kernel
theorem dX6_bufferAhead_29 : decode cX6_bufferAhead 29 = .ok (.aload_n 0, 1) := by decide +kernel
theorem dX6_bufferAhead_30 : decode cX6_bufferAhead 30 = .ok (.iload_n 3, 1) := by decide +kernel
theorem dX6_bufferAhead_31 : decode cX6_bufferAhead 31 = .ok (.invokevirtual 267, 3) := by decide +kernel
theorem dX6_bufferAhead_34 : decode cX6_bufferAhead 34 = .ok (.aload_n 0, 1) := by decide +kernel
theorem dX6_bufferAhead_35 : decode cX6_bufferAhead 35 = .ok (.getfield 30, 3) := by decide +kernel
theorem dX6_bufferAhead_38 : decode cX6_bufferAhead 38 = .ok (.iload_n 1, 1) := by decide +kernel
theorem dX6_bufferAhead_39 : decode cX6_bufferAhead 39 = .ok (.iload_n 2, 1) := by decide +kernel
theorem dX6_bufferAhead_40 : decode cX6_bufferAhead 40 = .ok (.invokevirtual 214, 3) := by decide +kernel
theorem dX6_bufferAhead_43 : decode cX6_bufferAhead 43 = .ok (.ireturn, 1) := by decide +kernel
set_option maxRecDepth 20000 in
theorem ggX6_goApart_X3_copy : GoodIn wsX6_goApart wsX3_copy := goodIn_r _ [7, 8, 9, 10, 11, 12, 13, 14, 15, 16, 17, 18, 19, 20, 21, 22, 23, 24, 25, 26, 27, 28, 29, 30, 31, 32, 33, 34, 35, 36, 37, 38, 39, 40, 41, 42, 43, 44, 45, 46, 47, 48, 49, 50, 51, 52, 53, 54, 55, 56, 57, 58, 59, 60, 61, 62, 63, 187, 188, 189, 190, 191, 192, 193, 194, 195, 196, 197, 198, 199, 200, 201, 202, 203, 204, 205, 206, 207, 208, 209, 210, 211, 212, 213, 214, 215, 216, 217, 218, 219, 220, 221, 222] (by decide +kernel) (by decide +kernel)
set_option maxRecDepth 20000 in
theorem gX6_goApart_X3_copy : GoodIn wsX6_goApart (wsV RX6 270 RX3 yX3_copy wsX3_copy) := goodIn_app (goodIn_of _ (by decide +kernel)) ggX6_goApart_X3_copy
set_option maxRecDepth 20000 in
theorem ggX6_goApart_X3_steps : GoodIn wsX6_goApart wsX3_steps := goodIn_r _ [67, 68, 69, 70, 6, 71, 8, 9, 11, 13, 16, 72, 73, 74, 75, 76, 18, 77, 78, 79, 80, 81, 82, 42, 83, 46, 84, 85, 86, 87, 88, 89, 90, 91, 14, 92, 93, 94, 95, 96, 26, 97, 34, 36, 37, 98, 99, 100, 101, 17, 102, 103, 104, 105, 106, 107, 54, 108, 56, 57, 109, 110, 111, 112, 113, 114, 115, 116, 117, 118, 58, 119, 120, 121, 122, 123, 124, 125, 126, 127, 128, 129, 130, 131, 132, 133, 134, 135, 136, 137, 138, 139, 140, 141, 44, 142, 143, 144, 145, 146, 12, 147, 148, 149, 150, 151, 152, 153, 154, 15, 155, 156, 157, 158, 159, 160, 161, 162, 163, 164, 165, 166, 167, 168, 169, 170, 10, 171, 172, 173, 174, 29, 38, 175, 176, 177, 187, 188, 189, 190, 191, 192, 193, 194, 195, 196, 197, 198, 199, 200, 201, 202, 203, 204, 205, 206, 207, 208, 209, 210, 211, 212, 213, 214, 215, 216, 217, 218, 219, 220, 221, 222] (by decide +kernel) (by decide +kernel)
set_option maxRecDepth 20000 in
theorem gX6_goApart_X3_steps : GoodIn wsX6_goApart (wsV RX6 274 RX3 yX3_steps wsX3_steps) := goodIn_app (goodIn_of _ (by decide +kernel)) ggX6_goApart_X3_steps
theorem dX6_goApart_0 : decode cX6_goApart 0 = .ok (.aload_n 0, 1) := by decide +kernel
theorem dX6_goApart_1 : decode cX6_goApart 1 = .ok (.getfield 30, 3) := by decide +kernel
theorem dX6_goApart_4 : decode cX6_goApart 4 = .ok (.aload_n 0, 1) := by decide +kernel
theorem dX6_goApart_5 : decode cX6_goApart 5 = .ok (.getfield 26, 3) := by decide +kernel
theorem dX6_goApart_8 : decode cX6_goApart 8 = .ok (.invokevirtual 270, 3) := by decide +kernel
theorem dX6_goApart_11 : decode cX6_goApart 11 = .ok (.aload_n 0, 1) := by decide +kernel
theorem dX6_goApart_12 : decode cX6_goApart 12 = .ok (.getfield 30, 3) := by decide +kernel
theorem dX6_goApart_15 : decode cX6_goApart 15 = .ok (.iload_n 1, 1) := by decide +kernel
theorem dX6_goApart_16 : decode cX6_goApart 16 = .ok (.invokevirtual 274, 3) := by decide +kernel
theorem dX6_goApart_19 : decode cX6_goApart 19 = .ok (.return_, 1) := by decide +kernel
set_option maxRecDepth 20000 in
theorem ggX6_delivered_X6_outside : GoodIn wsX6_delivered wsX6_outside := goodIn_r _ [5] (by decide +kernel) (by decide +kernel)
set_option maxRecDepth 20000 in
theorem gX6_delivered_X6_outside : GoodIn wsX6_delivered (va_wsS RX6 55 yX6_outside wsX6_outside) := goodIn_app (goodIn_of _ (by decide +kernel)) ggX6_delivered_X6_outside
set_option maxRecDepth 20000 in
theorem ggX6_delivered_X6_isCircuit : GoodIn wsX6_delivered wsX6_isCircuit := goodIn_r _ [9, 1, 10, 11, 205, 206, 207, 208, 209, 210, 211, 212, 213, 214, 215, 216, 217, 218, 219, 220, 221, 222, 223, 224] (by decide +kernel) (by decide +kernel)
set_option maxRecDepth 20000 in
theorem gX6_delivered_X6_isCircuit : GoodIn wsX6_delivered (wsV RX6 135 RX6 yX6_isCircuit wsX6_isCircuit) := goodIn_app (goodIn_of _ (by decide +kernel)) ggX6_delivered_X6_isCircuit
set_option maxRecDepth 20000 in
theorem ggX6_delivered_X6_goApart : GoodIn wsX6_delivered wsX6_goApart := goodIn_r _ [15, 16, 10, 17, 18, 19, 20, 21, 22, 23, 24, 25, 26, 27, 28, 29, 30, 31, 32, 33, 34, 35, 36, 37, 38, 39, 40, 41, 42, 43, 44, 45, 46, 47, 48, 49, 50, 51, 52, 53, 54, 55, 56, 57, 58, 59, 60, 61, 62, 63, 64, 65, 66, 67, 68, 69, 70, 71, 72, 73, 74, 75, 76, 77, 78, 79, 80, 81, 82, 83, 84, 85, 86, 87, 88, 89, 90, 91, 92, 93, 94, 95, 96, 97, 98, 4, 99, 100, 101, 102, 103, 104, 105, 106, 107, 108, 109, 110, 111, 112, 113, 114, 115, 116, 117, 118, 119, 120, 121, 122, 123, 124, 125, 126, 127, 128, 129, 130, 131, 132, 133, 134, 135, 136, 137, 138, 139, 140, 141, 142, 143, 144, 145, 146, 147, 148, 149, 150, 151, 152, 153, 154, 155, 156, 157, 158, 159, 160, 161, 162, 163, 164, 165, 166, 167, 168, 169, 170, 171, 172, 173, 174, 175, 176, 177, 178, 179, 180, 181, 182, 183, 184, 185, 186, 187, 188, 189, 190, 205, 206, 207, 208, 209, 210, 211, 212, 213, 214, 215, 216, 217, 218, 219, 220, 221, 222, 223, 224, 225, 226, 227, 228, 229, 230, 231, 232, 233, 234, 235, 236, 237, 238, 239, 240, 241, 242, 243, 244, 245, 246, 247, 248, 249] (by decide +kernel) (by decide +kernel)
set_option maxRecDepth 20000 in
theorem gX6_delivered_X6_goApart : GoodIn wsX6_delivered (wsV RX6 267 RX6 yX6_goApart wsX6_goApart) := goodIn_app (goodIn_of _ (by decide +kernel)) ggX6_delivered_X6_goApart
set_option maxRecDepth 20000 in
theorem ggX6_delivered_X6_deliveredApart : GoodIn wsX6_delivered wsX6_deliveredApart := goodIn_r _ [194, 16, 10, 195, 196, 197, 20, 198, 23, 31, 127, 205, 206, 207, 208, 209, 210, 211, 212, 213, 214, 215, 216, 217, 218, 219, 220, 221, 222, 223, 224, 242, 243, 244, 245, 246, 247, 248, 249] (by decide +kernel) (by decide +kernel)
set_option maxRecDepth 20000 in
theorem gX6_delivered_X6_deliveredApart : GoodIn wsX6_delivered (wsV RX6 277 RX6 yX6_deliveredApart wsX6_deliveredApart) := goodIn_app (goodIn_of _ (by decide +kernel)) ggX6_delivered_X6_deliveredApart
set_option maxRecDepth 20000 in
theorem ggX6_delivered_X6_deliveredApartOf : GoodIn wsX6_delivered wsX6_deliveredApartOf := goodIn_r _ [202, 16, 203, 204, 10, 205, 206, 207, 208, 209, 210, 211, 212, 213, 214, 215, 216, 217, 218, 219, 220, 221, 222, 223, 224, 242, 243, 244, 245, 246, 247, 248, 249] (by decide +kernel) (by decide +kernel)
set_option maxRecDepth 20000 in
theorem gX6_delivered_X6_deliveredApartOf : GoodIn wsX6_delivered (wsV RX6 280 RX6 yX6_deliveredApartOf wsX6_deliveredApartOf) := goodIn_app (goodIn_of _ (by decide +kernel)) ggX6_delivered_X6_deliveredApartOf
theorem dX6_delivered_0 : decode cX6_delivered 0 = .ok (.aload_n 0, 1) := by decide +kernel
theorem dX6_delivered_1 : decode cX6_delivered 1 = .ok (.getfield 70, 3) := by decide +kernel
theorem dX6_delivered_4 : decode cX6_delivered 4 = .ok (.ifCond .eq 27, 3) := by decide +kernel
theorem dX6_delivered_7 : decode cX6_delivered 7 = .ok (.iload_n 2, 1) := by decide +kernel
theorem dX6_delivered_8 : decode cX6_delivered 8 = .ok (.iconst 0, 1) := by decide +kernel
theorem dX6_delivered_9 : decode cX6_delivered 9 = .ok (.sipush 200, 3) := by decide +kernel
theorem dX6_delivered_12 : decode cX6_delivered 12 = .ok (.invokestatic 55, 3) := by decide +kernel
theorem dX6_delivered_15 : decode cX6_delivered 15 = .ok (.ifCond .ne 16, 3) := by decide +kernel
theorem dX6_delivered_18 : decode cX6_delivered 18 = .ok (.iload_n 1, 1) := by decide +kernel
theorem dX6_delivered_19 : decode cX6_delivered 19 = .ok (.iconst (-1), 1) := by decide +kernel
theorem dX6_delivered_20 : decode cX6_delivered 20 = .ok (.if_icmp .eq 13, 3) := by decide +kernel
theorem dX6_delivered_23 : decode cX6_delivered 23 = .ok (.aload_n 0, 1) := by decide +kernel
theorem dX6_delivered_24 : decode cX6_delivered 24 = .ok (.iload_n 1, 1) := by decide +kernel
theorem dX6_delivered_25 : decode cX6_delivered 25 = .ok (.invokevirtual 135, 3) := by decide +kernel
theorem dX6_delivered_28 : decode cX6_delivered 28 = .ok (.ifCond .ne 5, 3) := by decide +kernel
theorem dX6_delivered_31 : decode cX6_delivered 31 = .ok (.iconst (-1), 1) := by decide +kernel
theorem dX6_delivered_32 : decode cX6_delivered 32 = .ok (.ireturn, 1) := by decide +kernel
theorem dX6_delivered_33 : decode cX6_delivered 33 = .ok (.aload_n 0, 1) := by decide +kernel
theorem dX6_delivered_34 : decode cX6_delivered 34 = .ok (.iload_n 2, 1) := by decide +kernel
theorem dX6_delivered_35 : decode cX6_delivered 35 = .ok (.invokevirtual 267, 3) := by decide +kernel
theorem dX6_delivered_38 : decode cX6_delivered 38 = .ok (.iload_n 1, 1) := by decide +kernel
theorem dX6_delivered_39 : decode cX6_delivered 39 = .ok (.iconst (-1), 1) := by decide +kernel
theorem dX6_delivered_40 : decode cX6_delivered 40 = .ok (.if_icmp .ne 10, 3) := by decide +kernel
theorem dX6_delivered_43 : decode cX6_delivered 43 = .ok (.aload_n 0, 1) := by decide +kernel
theorem dX6_delivered_44 : decode cX6_delivered 44 = .ok (.invokevirtual 277, 3) := by decide +kernel
theorem dX6_delivered_47 : decode cX6_delivered 47 = .ok (.goto 8, 3) := by decide +kernel
theorem dX6_delivered_50 : decode cX6_delivered 50 = .ok (.aload_n 0, 1) := by decide +kernel
theorem dX6_delivered_51 : decode cX6_delivered 51 = .ok (.iload_n 1, 1) := by decide +kernel
theorem dX6_delivered_52 : decode cX6_delivered 52 = .ok (.invokevirtual 280, 3) := by decide +kernel
theorem dX6_delivered_55 : decode cX6_delivered 55 = .ok (.ireturn, 1) := by decide +kernel
set_option maxRecDepth 20000 in
theorem ggX6_deliveredApart_X3_deliveredOfAll : GoodIn wsX6_deliveredApart wsX3_deliveredOfAll := goodIn_r _ [7, 8, 9, 10, 20, 21, 22, 23, 24, 25, 26, 27, 28, 29, 30, 31, 32, 33, 34, 35, 36, 37, 38] (by decide +kernel) (by decide +kernel)
set_option maxRecDepth 20000 in
theorem gX6_deliveredApart_X3_deliveredOfAll : GoodIn wsX6_deliveredApart (wsV RX6 283 RX3 yX3_deliveredOfAll wsX3_deliveredOfAll) := goodIn_app (goodIn_of _ (by decide +kernel)) ggX6_deliveredApart_X3_deliveredOfAll
theorem dX6_deliveredApart_0 : decode cX6_deliveredApart 0 = .ok (.aload_n 0, 1) := by decide +kernel
theorem dX6_deliveredApart_1 : decode cX6_deliveredApart 1 = .ok (.getfield 30, 3) := by decide +kernel
theorem dX6_deliveredApart_4 : decode cX6_deliveredApart 4 = .ok (.invokevirtual 283, 3) := by decide +kernel
theorem dX6_deliveredApart_7 : decode cX6_deliveredApart 7 = .ok (.aload_n 0, 1) := by decide +kernel
theorem dX6_deliveredApart_8 : decode cX6_deliveredApart 8 = .ok (.getfield 26, 3) := by decide +kernel
theorem dX6_deliveredApart_11 : decode cX6_deliveredApart 11 = .ok (.invokevirtual 283, 3) := by decide +kernel
theorem dX6_deliveredApart_14 : decode cX6_deliveredApart 14 = .ok (.isub, 1) := by decide +kernel
theorem dX6_deliveredApart_15 : decode cX6_deliveredApart 15 = .ok (.ireturn, 1) := by decide +kernel
theorem dX6_deliveredApartOf_0 : decode cX6_deliveredApartOf 0 = .ok (.aload_n 0, 1) := by decide +kernel
theorem dX6_deliveredApartOf_1 : decode cX6_deliveredApartOf 1 = .ok (.getfield 30, 3) := by decide +kernel
theorem dX6_deliveredApartOf_4 : decode cX6_deliveredApartOf 4 = .ok (.getfield 140, 3) := by decide +kernel
theorem dX6_deliveredApartOf_7 : decode cX6_deliveredApartOf 7 = .ok (.iload_n 1, 1) := by decide +kernel
theorem dX6_deliveredApartOf_8 : decode cX6_deliveredApartOf 8 = .ok (.aaload, 1) := by decide +kernel
theorem dX6_deliveredApartOf_9 : decode cX6_deliveredApartOf 9 = .ok (.getfield 161, 3) := by decide +kernel
theorem dX6_deliveredApartOf_12 : decode cX6_deliveredApartOf 12 = .ok (.aload_n 0, 1) := by decide +kernel
theorem dX6_deliveredApartOf_13 : decode cX6_deliveredApartOf 13 = .ok (.getfield 26, 3) := by decide +kernel
theorem dX6_deliveredApartOf_16 : decode cX6_deliveredApartOf 16 = .ok (.getfield 140, 3) := by decide +kernel
theorem dX6_deliveredApartOf_19 : decode cX6_deliveredApartOf 19 = .ok (.iload_n 1, 1) := by decide +kernel
theorem dX6_deliveredApartOf_20 : decode cX6_deliveredApartOf 20 = .ok (.aaload, 1) := by decide +kernel
theorem dX6_deliveredApartOf_21 : decode cX6_deliveredApartOf 21 = .ok (.getfield 161, 3) := by decide +kernel
theorem dX6_deliveredApartOf_24 : decode cX6_deliveredApartOf 24 = .ok (.isub, 1) := by decide +kernel
theorem dX6_deliveredApartOf_25 : decode cX6_deliveredApartOf 25 = .ok (.ireturn, 1) := by decide +kernel
set_option maxRecDepth 20000 in
theorem ggX6_heldUp_X6_isLane : GoodIn wsX6_heldUp wsX6_isLane := goodIn_r _ [9, 10, 11, 12, 8, 13, 14, 2, 15, 16, 17, 18, 19, 20, 191, 192, 193, 194, 195, 196, 197, 198, 199, 200, 201, 202, 203, 204, 205, 206, 207, 208, 209, 210] (by decide +kernel) (by decide +kernel)
set_option maxRecDepth 20000 in
theorem gX6_heldUp_X6_isLane : GoodIn wsX6_heldUp (wsV RX6 167 RX6 yX6_isLane wsX6_isLane) := goodIn_app (goodIn_of _ (by decide +kernel)) ggX6_heldUp_X6_isLane
set_option maxRecDepth 20000 in
theorem ggX6_heldUp_X3_copy : GoodIn wsX6_heldUp wsX3_copy := goodIn_r _ [25, 26, 27, 28, 29, 30, 31, 32, 33, 34, 35, 36, 37, 38, 39, 40, 41, 42, 43, 44, 45, 46, 47, 48, 49, 50, 51, 52, 53, 54, 55, 56, 57, 58, 59, 60, 61, 62, 63, 64, 65, 66, 67, 68, 69, 70, 71, 72, 73, 74, 75, 76, 77, 78, 79, 80, 81, 200, 201, 202, 203, 204, 205, 206, 207, 208, 209, 210, 211, 212, 213, 214, 215, 216, 217, 218, 219, 220, 221, 222, 223, 224, 225, 226, 227, 228, 229, 230, 231, 232, 233, 234, 235] (by decide +kernel) (by decide +kernel)
set_option maxRecDepth 20000 in
theorem gX6_heldUp_X3_copy : GoodIn wsX6_heldUp (wsV RX6 270 RX3 yX3_copy wsX3_copy) := goodIn_app (goodIn_of _ (by decide +kernel)) ggX6_heldUp_X3_copy
set_option maxRecDepth 20000 in
theorem ggX6_heldUp_X3_step : GoodIn wsX6_heldUp wsX3_step := goodIn_r _ [85, 26, 27, 29, 31, 34, 86, 87, 88, 24, 89, 90, 36, 91, 92, 93, 94, 95, 96, 60, 97, 64, 98, 8, 99, 100, 101, 102, 103, 104, 32, 105, 106, 107, 108, 109, 44, 110, 52, 54, 55, 111, 112, 113, 114, 35, 115, 116, 117, 118, 119, 120, 72, 121, 74, 75, 122, 123, 124, 125, 126, 127, 128, 129, 130, 131, 76, 132, 133, 134, 135, 136, 137, 138, 139, 140, 141, 142, 143, 144, 145, 146, 147, 148, 149, 150, 151, 152, 153, 154, 62, 155, 156, 157, 158, 159, 30, 160, 161, 162, 163, 164, 165, 166, 167, 33, 168, 169, 170, 171, 172, 173, 174, 175, 176, 177, 178, 179, 180, 181, 182, 183, 28, 184, 185, 186, 187, 47, 56, 188, 189, 190, 200, 201, 202, 203, 204, 205, 206, 207, 208, 209, 210, 211, 212, 213, 214, 215, 216, 217, 218, 219, 220, 221, 222, 223, 224, 225, 226, 227, 228, 229, 230, 231, 232, 233, 234, 235] (by decide +kernel) (by decide +kernel)
set_option maxRecDepth 20000 in
theorem gX6_heldUp_X3_step : GoodIn wsX6_heldUp (wsV RX6 233 RX3 yX3_step wsX3_step) := goodIn_app (goodIn_of _ (by decide +kernel)) ggX6_heldUp_X3_step
theorem dX6_heldUp_0 : decode cX6_heldUp 0 = .ok (.aload_n 0, 1) := by decide +kernel
theorem dX6_heldUp_1 : decode cX6_heldUp 1 = .ok (.iload_n 1, 1) := by decide +kernel
theorem dX6_heldUp_2 : decode cX6_heldUp 2 = .ok (.iload_n 2, 1) := by decide +kernel
theorem dX6_heldUp_3 : decode cX6_heldUp 3 = .ok (.invokevirtual 167, 3) := by decide +kernel
theorem dX6_heldUp_6 : decode cX6_heldUp 6 = .ok (.ifCond .ne 5, 3) := by decide +kernel
theorem dX6_heldUp_9 : decode cX6_heldUp 9 = .ok (.iconst (-1), 1) := by decide +kernel
theorem dX6_heldUp_10 : decode cX6_heldUp 10 = .ok (.ireturn, 1) := by decide +kernel
theorem dX6_heldUp_11 : decode cX6_heldUp 11 = .ok (.aload_n 0, 1) := by decide +kernel
theorem dX6_heldUp_12 : decode cX6_heldUp 12 = .ok (.getfield 30, 3) := by decide +kernel
theorem dX6_heldUp_15 : decode cX6_heldUp 15 = .ok (.aload_n 0, 1) := by decide +kernel
theorem dX6_heldUp_16 : decode cX6_heldUp 16 = .ok (.getfield 26, 3) := by decide +kernel
theorem dX6_heldUp_19 : decode cX6_heldUp 19 = .ok (.invokevirtual 270, 3) := by decide +kernel
