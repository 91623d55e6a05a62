theorem dX1_lay_16 : decode cX1_lay 16 = .ok (.iload_n 1, 1) := by decide +kernel
theorem dX1_lay_17 : decode cX1_lay 17 = .ok (.putfield 21, 3) := by decide +kernel
theorem dX1_lay_20 : decode cX1_lay 20 = .ok (.aload_n 0, 1) := by decide +kernel
theorem dX1_lay_21 : decode cX1_lay 21 = .ok (.iconst 0, 1) := by decide +kernel
theorem dX1_lay_22 : decode cX1_lay 22 = .ok (.putfield 24, 3) := by decide +kernel
theorem dX1_lay_25 : decode cX1_lay 25 = .ok (.aload_n 0, 1) := by decide +kernel
theorem dX1_lay_26 : decode cX1_lay 26 = .ok (.iconst 0, 1) := by decide +kernel
theorem dX1_lay_27 : decode cX1_lay 27 = .ok (.putfield 27, 3) := by decide +kernel
theorem dX1_lay_30 : decode cX1_lay 30 = .ok (.aload_n 0, 1) := by decide +kernel
theorem dX1_lay_31 : decode cX1_lay 31 = .ok (.iconst 0, 1) := by decide +kernel
theorem dX1_lay_32 : decode cX1_lay 32 = .ok (.putfield 30, 3) := by decide +kernel
theorem dX1_lay_35 : decode cX1_lay 35 = .ok (.return_, 1) := by decide +kernel
theorem dX1_copy_0 : decode cX1_copy 0 = .ok (.aload_n 0, 1) := by decide +kernel
theorem dX1_copy_1 : decode cX1_copy 1 = .ok (.aload_n 1, 1) := by decide +kernel
theorem dX1_copy_2 : decode cX1_copy 2 = .ok (.getfield 9, 3) := by decide +kernel
theorem dX1_copy_5 : decode cX1_copy 5 = .ok (.putfield 9, 3) := by decide +kernel
theorem dX1_copy_8 : decode cX1_copy 8 = .ok (.aload_n 0, 1) := by decide +kernel
theorem dX1_copy_9 : decode cX1_copy 9 = .ok (.aload_n 1, 1) := by decide +kernel
theorem dX1_copy_10 : decode cX1_copy 10 = .ok (.getfield 15, 3) := by decide +kernel
theorem dX1_copy_13 : decode cX1_copy 13 = .ok (.putfield 15, 3) := by decide +kernel
theorem dX1_copy_16 : decode cX1_copy 16 = .ok (.aload_n 0, 1) := by decide +kernel
theorem dX1_copy_17 : decode cX1_copy 17 = .ok (.aload_n 1, 1) := by decide +kernel
theorem dX1_copy_18 : decode cX1_copy 18 = .ok (.getfield 18, 3) := by decide +kernel
theorem dX1_copy_21 : decode cX1_copy 21 = .ok (.putfield 18, 3) := by decide +kernel
theorem dX1_copy_24 : decode cX1_copy 24 = .ok (.aload_n 0, 1) := by decide +kernel
theorem dX1_copy_25 : decode cX1_copy 25 = .ok (.aload_n 1, 1) := by decide +kernel
theorem dX1_copy_26 : decode cX1_copy 26 = .ok (.getfield 21, 3) := by decide +kernel
theorem dX1_copy_29 : decode cX1_copy 29 = .ok (.putfield 21, 3) := by decide +kernel
theorem dX1_copy_32 : decode cX1_copy 32 = .ok (.aload_n 0, 1) := by decide +kernel
theorem dX1_copy_33 : decode cX1_copy 33 = .ok (.aload_n 1, 1) := by decide +kernel
theorem dX1_copy_34 : decode cX1_copy 34 = .ok (.getfield 24, 3) := by decide +kernel
theorem dX1_copy_37 : decode cX1_copy 37 = .ok (.putfield 24, 3) := by decide +kernel
theorem dX1_copy_40 : decode cX1_copy 40 = .ok (.aload_n 0, 1) := by decide +kernel
theorem dX1_copy_41 : decode cX1_copy 41 = .ok (.aload_n 1, 1) := by decide +kernel
theorem dX1_copy_42 : decode cX1_copy 42 = .ok (.getfield 27, 3) := by decide +kernel
theorem dX1_copy_45 : decode cX1_copy 45 = .ok (.putfield 27, 3) := by decide +kernel
theorem dX1_copy_48 : decode cX1_copy 48 = .ok (.aload_n 0, 1) := by decide +kernel
theorem dX1_copy_49 : decode cX1_copy 49 = .ok (.aload_n 1, 1) := by decide +kernel
theorem dX1_copy_50 : decode cX1_copy 50 = .ok (.getfield 30, 3) := by decide +kernel
theorem dX1_copy_53 : decode cX1_copy 53 = .ok (.putfield 30, 3) := by decide +kernel
theorem dX1_copy_56 : decode cX1_copy 56 = .ok (.return_, 1) := by decide +kernel
theorem dX1_out_0 : decode cX1_out 0 = .ok (.aload_n 0, 1) := by decide +kernel
theorem dX1_out_1 : decode cX1_out 1 = .ok (.getfield 9, 3) := by decide +kernel
theorem dX1_out_4 : decode cX1_out 4 = .ok (.aload_n 0, 1) := by decide +kernel
theorem dX1_out_5 : decode cX1_out 5 = .ok (.getfield 18, 3) := by decide +kernel
theorem dX1_out_8 : decode cX1_out 8 = .ok (.isub, 1) := by decide +kernel
theorem dX1_out_9 : decode cX1_out 9 = .ok (.bipush 63, 2) := by decide +kernel
theorem dX1_out_11 : decode cX1_out 11 = .ok (.iand, 1) := by decide +kernel
theorem dX1_out_12 : decode cX1_out 12 = .ok (.ireturn, 1) := by decide +kernel
set_option maxRecDepth 20000 in
theorem ggX1_credit_X1_out : GoodIn wsX1_credit wsX1_out := goodIn_r _ [10, 11, 12, 13, 14, 15, 16, 17, 18, 19] (by decide +kernel) (by decide +kernel)
set_option maxRecDepth 20000 in
theorem gX1_credit_X1_out : GoodIn wsX1_credit (wsV RX1 33 RX1 yX1_out wsX1_out) := goodIn_app (goodIn_of _ (by decide +kernel)) ggX1_credit_X1_out
theorem dX1_credit_0 : decode cX1_credit 0 = .ok (.iconst 0, 1) := by decide +kernel
theorem dX1_credit_1 : decode cX1_credit 1 = .ok (.aload_n 0, 1) := by decide +kernel
theorem dX1_credit_2 : decode cX1_credit 2 = .ok (.getfield 21, 3) := by decide +kernel
theorem dX1_credit_5 : decode cX1_credit 5 = .ok (.aload_n 0, 1) := by decide +kernel
theorem dX1_credit_6 : decode cX1_credit 6 = .ok (.invokevirtual 33, 3) := by decide +kernel
theorem dX1_credit_9 : decode cX1_credit 9 = .ok (.isub, 1) := by decide +kernel
theorem dX1_credit_10 : decode cX1_credit 10 = .ok (.invokestatic 37, 3) := by decide +kernel
theorem dX1_credit_13 : decode cX1_credit 13 = .ok (.ireturn, 1) := by decide +kernel
set_option maxRecDepth 20000 in
theorem ggX1_hear_X6_reaches : GoodIn wsX1_hear wsX6_reaches := goodIn_r _ [4] (by decide +kernel) (by decide +kernel)
set_option maxRecDepth 20000 in
theorem gX1_hear_X6_reaches_n43 : GoodIn wsX1_hear (wsX6_reaches) := ggX1_hear_X6_reaches
theorem dX1_hear_0 : decode cX1_hear 0 = .ok (.iload_n 1, 1) := by decide +kernel
theorem dX1_hear_1 : decode cX1_hear 1 = .ok (.aload_n 0, 1) := by decide +kernel
theorem dX1_hear_2 : decode cX1_hear 2 = .ok (.getfield 18, 3) := by decide +kernel
theorem dX1_hear_5 : decode cX1_hear 5 = .ok (.invokestatic 43, 3) := by decide +kernel
theorem dX1_hear_8 : decode cX1_hear 8 = .ok (.ifCond .eq 8, 3) := by decide +kernel
theorem dX1_hear_11 : decode cX1_hear 11 = .ok (.aload_n 0, 1) := by decide +kernel
theorem dX1_hear_12 : decode cX1_hear 12 = .ok (.iload_n 1, 1) := by decide +kernel
theorem dX1_hear_13 : decode cX1_hear 13 = .ok (.putfield 18, 3) := by decide +kernel
theorem dX1_hear_16 : decode cX1_hear 16 = .ok (.return_, 1) := by decide +kernel
set_option maxRecDepth 20000 in
theorem ggX2_init_X1_init : GoodIn wsX2_init wsX1_init := goodIn_r _ [13, 14, 2, 3] (by decide +kernel) (by decide +kernel)
set_option maxRecDepth 20000 in
theorem gX2_init_X1_init_n27 : GoodIn wsX2_init (wsX1_init) := ggX2_init_X1_init
theorem dX2_init_0 : decode cX2_init 0 = .ok (.aload_n 0, 1) := by decide +kernel
theorem dX2_init_1 : decode cX2_init 1 = .ok (.invokespecial 3, 3) := by decide +kernel
theorem dX2_init_4 : decode cX2_init 4 = .ok (.aload_n 0, 1) := by decide +kernel
theorem dX2_init_5 : decode cX2_init 5 = .ok (.iconst 5, 1) := by decide +kernel
theorem dX2_init_6 : decode cX2_init 6 = .ok (.newarray .int, 2) := by decide +kernel
theorem dX2_init_8 : decode cX2_init 8 = .ok (.putfield 9, 3) := by decide +kernel
theorem dX2_init_11 : decode cX2_init 11 = .ok (.aload_n 0, 1) := by decide +kernel
theorem dX2_init_12 : decode cX2_init 12 = .ok (.bipush 15, 2) := by decide +kernel
theorem dX2_init_14 : decode cX2_init 14 = .ok (.newarray .int, 2) := by decide +kernel
theorem dX2_init_16 : decode cX2_init 16 = .ok (.putfield 15, 3) := by decide +kernel
theorem dX2_init_19 : decode cX2_init 19 = .ok (.aload_n 0, 1) := by decide +kernel
theorem dX2_init_20 : decode cX2_init 20 = .ok (.bipush 15, 2) := by decide +kernel
theorem dX2_init_22 : decode cX2_init 22 = .ok (.newarray .int, 2) := by decide +kernel
theorem dX2_init_24 : decode cX2_init 24 = .ok (.putfield 18, 3) := by decide +kernel
theorem dX2_init_27 : decode cX2_init 27 = .ok (.aload_n 0, 1) := by decide +kernel
theorem dX2_init_28 : decode cX2_init 28 = .ok (.iconst 3, 1) := by decide +kernel
theorem dX2_init_29 : decode cX2_init 29 = .ok (.anewarray 21, 3) := by decide +kernel
theorem dX2_init_32 : decode cX2_init 32 = .ok (.putfield 23, 3) := by decide +kernel
theorem dX2_init_35 : decode cX2_init 35 = .ok (.iconst 0, 1) := by decide +kernel
theorem dX2_init_36 : decode cX2_init 36 = .ok (.istore_n 1, 1) := by decide +kernel
theorem dX2_init_37 : decode cX2_init 37 = .ok (.iload_n 1, 1) := by decide +kernel
theorem dX2_init_38 : decode cX2_init 38 = .ok (.iconst 3, 1) := by decide +kernel
theorem dX2_init_39 : decode cX2_init 39 = .ok (.if_icmp .ge 22, 3) := by decide +kernel
theorem dX2_init_42 : decode cX2_init 42 = .ok (.aload_n 0, 1) := by decide +kernel
theorem dX2_init_43 : decode cX2_init 43 = .ok (.getfield 23, 3) := by decide +kernel
theorem dX2_init_46 : decode cX2_init 46 = .ok (.iload_n 1, 1) := by decide +kernel
theorem dX2_init_47 : decode cX2_init 47 = .ok (.new 21, 3) := by decide +kernel
theorem dX2_init_50 : decode cX2_init 50 = .ok (.dup, 1) := by decide +kernel
theorem dX2_init_51 : decode cX2_init 51 = .ok (.invokespecial 27, 3) := by decide +kernel
theorem dX2_init_54 : decode cX2_init 54 = .ok (.aastore, 1) := by decide +kernel
theorem dX2_init_55 : decode cX2_init 55 = .ok (.iinc 1 1, 3) := by decide +kernel
theorem dX2_init_58 : decode cX2_init 58 = .ok (.goto (-21), 3) := by decide +kernel
theorem dX2_init_61 : decode cX2_init 61 = .ok (.return_, 1) := by decide +kernel
set_option maxRecDepth 20000 in
theorem ggX2_lay_X2_clearSlot : GoodIn wsX2_lay wsX2_clearSlot := goodIn_r _ [12, 13, 14, 15, 28, 29, 30, 31, 32, 33, 34, 35, 36, 37] (by decide +kernel) (by decide +kernel)
set_option maxRecDepth 20000 in
theorem gX2_lay_X2_clearSlot : GoodIn wsX2_lay (wsV RX2 47 RX2 yX2_clearSlot wsX2_clearSlot) := goodIn_app (goodIn_of _ (by decide +kernel)) ggX2_lay_X2_clearSlot
set_option maxRecDepth 20000 in
theorem ggX2_lay_X1_lay : GoodIn wsX2_lay wsX1_lay := goodIn_r _ [20, 21, 22, 23, 24, 25, 26, 27, 38, 39, 40, 41, 42, 43, 44] (by decide +kernel) (by decide +kernel)
set_option maxRecDepth 20000 in
theorem gX2_lay_X1_lay : GoodIn wsX2_lay (wsV RX2 51 RX1 yX1_lay wsX1_lay) := goodIn_app (goodIn_of _ (by decide +kernel)) ggX2_lay_X1_lay
theorem dX2_lay_0 : decode cX2_lay 0 = .ok (.aload_n 0, 1) := by decide +kernel
theorem dX2_lay_1 : decode cX2_lay 1 = .ok (.iload_n 1, 1) := by decide +kernel
theorem dX2_lay_2 : decode cX2_lay 2 = .ok (.putfield 28, 3) := by decide +kernel
theorem dX2_lay_5 : decode cX2_lay 5 = .ok (.aload_n 0, 1) := by decide +kernel
theorem dX2_lay_6 : decode cX2_lay 6 = .ok (.iload_n 2, 1) := by decide +kernel
theorem dX2_lay_7 : decode cX2_lay 7 = .ok (.putfield 32, 3) := by decide +kernel
theorem dX2_lay_10 : decode cX2_lay 10 = .ok (.aload_n 0, 1) := by decide +kernel
theorem dX2_lay_11 : decode cX2_lay 11 = .ok (.iload_n 3, 1) := by decide +kernel
theorem dX2_lay_12 : decode cX2_lay 12 = .ok (.putfield 35, 3) := by decide +kernel
theorem dX2_lay_15 : decode cX2_lay 15 = .ok (.aload_n 0, 1) := by decide +kernel
theorem dX2_lay_16 : decode cX2_lay 16 = .ok (.iconst 0, 1) := by decide +kernel
theorem dX2_lay_17 : decode cX2_lay 17 = .ok (.putfield 38, 3) := by decide +kernel
theorem dX2_lay_20 : decode cX2_lay 20 = .ok (.aload_n 0, 1) := by decide +kernel
theorem dX2_lay_21 : decode cX2_lay 21 = .ok (.iconst (-1), 1) := by decide +kernel
theorem dX2_lay_22 : decode cX2_lay 22 = .ok (.putfield 41, 3) := by decide +kernel
theorem dX2_lay_25 : decode cX2_lay 25 = .ok (.aload_n 0, 1) := by decide +kernel
theorem dX2_lay_26 : decode cX2_lay 26 = .ok (.iconst (-1), 1) := by decide +kernel
theorem dX2_lay_27 : decode cX2_lay 27 = .ok (.putfield 44, 3) := by decide +kernel
theorem dX2_lay_30 : decode cX2_lay 30 = .ok (.iconst 0, 1) := by decide +kernel
theorem dX2_lay_31 : decode cX2_lay 31 = .ok (.istore 5, 2) := by decide +kernel
theorem dX2_lay_33 : decode cX2_lay 33 = .ok (.iload 5, 2) := by decide +kernel
theorem dX2_lay_35 : decode cX2_lay 35 = .ok (.iconst 5, 1) := by decide +kernel
theorem dX2_lay_36 : decode cX2_lay 36 = .ok (.if_icmp .ge 15, 3) := by decide +kernel
theorem dX2_lay_39 : decode cX2_lay 39 = .ok (.aload_n 0, 1) := by decide +kernel
theorem dX2_lay_40 : decode cX2_lay 40 = .ok (.iload 5, 2) := by decide +kernel
theorem dX2_lay_42 : decode cX2_lay 42 = .ok (.invokevirtual 47, 3) := by decide +kernel
theorem dX2_lay_45 : decode cX2_lay 45 = .ok (.iinc 5 1, 3) := by decide +kernel
theorem dX2_lay_48 : decode cX2_lay 48 = .ok (.goto (-15), 3) := by decide +kernel
theorem dX2_lay_51 : decode cX2_lay 51 = .ok (.iconst 0, 1) := by decide +kernel
theorem dX2_lay_52 : decode cX2_lay 52 = .ok (.istore 5, 2) := by decide +kernel
theorem dX2_lay_54 : decode cX2_lay 54 = .ok (.iload 5, 2) := by decide +kernel
theorem dX2_lay_56 : decode cX2_lay 56 = .ok (.iconst 3, 1) := by decide +kernel
theorem dX2_lay_57 : decode cX2_lay 57 = .ok (.if_icmp .ge 21, 3) := by decide +kernel
theorem dX2_lay_60 : decode cX2_lay 60 = .ok (.aload_n 0, 1) := by decide +kernel
theorem dX2_lay_61 : decode cX2_lay 61 = .ok (.getfield 23, 3) := by decide +kernel
theorem dX2_lay_64 : decode cX2_lay 64 = .ok (.iload 5, 2) := by decide +kernel
theorem dX2_lay_66 : decode cX2_lay 66 = .ok (.aaload, 1) := by decide +kernel
theorem dX2_lay_67 : decode cX2_lay 67 = .ok (.iload 4, 2) := by decide +kernel
theorem dX2_lay_69 : decode cX2_lay 69 = .ok (.invokevirtual 51, 3) := by decide +kernel
theorem dX2_lay_72 : decode cX2_lay 72 = .ok (.iinc 5 1, 3) := by decide +kernel
theorem dX2_lay_75 : decode cX2_lay 75 = .ok (.goto (-21), 3) := by decide +kernel
theorem dX2_lay_78 : decode cX2_lay 78 = .ok (.return_, 1) := by decide +kernel
theorem dX2_clearSlot_0 : decode cX2_clearSlot 0 = .ok (.aload_n 0, 1) := by decide +kernel
theorem dX2_clearSlot_1 : decode cX2_clearSlot 1 = .ok (.getfield 9, 3) := by decide +kernel
theorem dX2_clearSlot_4 : decode cX2_clearSlot 4 = .ok (.iload_n 1, 1) := by decide +kernel
theorem dX2_clearSlot_5 : decode cX2_clearSlot 5 = .ok (.iconst (-1), 1) := by decide +kernel
theorem dX2_clearSlot_6 : decode cX2_clearSlot 6 = .ok (.iastore, 1) := by decide +kernel
theorem dX2_clearSlot_7 : decode cX2_clearSlot 7 = .ok (.iconst 0, 1) := by decide +kernel
theorem dX2_clearSlot_8 : decode cX2_clearSlot 8 = .ok (.istore_n 2, 1) := by decide +kernel
theorem dX2_clearSlot_9 : decode cX2_clearSlot 9 = .ok (.iload_n 2, 1) := by decide +kernel
theorem dX2_clearSlot_10 : decode cX2_clearSlot 10 = .ok (.iconst 3, 1) := by decide +kernel
theorem dX2_clearSlot_11 : decode cX2_clearSlot 11 = .ok (.if_icmp .ge 31, 3) := by decide +kernel
theorem dX2_clearSlot_14 : decode cX2_clearSlot 14 = .ok (.aload_n 0, 1) := by decide +kernel
theorem dX2_clearSlot_15 : decode cX2_clearSlot 15 = .ok (.getfield 15, 3) := by decide +kernel
theorem dX2_clearSlot_18 : decode cX2_clearSlot 18 = .ok (.iload_n 1, 1) := by decide +kernel
theorem dX2_clearSlot_19 : decode cX2_clearSlot 19 = .ok (.iconst 3, 1) := by decide +kernel
theorem dX2_clearSlot_20 : decode cX2_clearSlot 20 = .ok (.imul, 1) := by decide +kernel
theorem dX2_clearSlot_21 : decode cX2_clearSlot 21 = .ok (.iload_n 2, 1) := by decide +kernel
theorem dX2_clearSlot_22 : decode cX2_clearSlot 22 = .ok (.iadd, 1) := by decide +kernel
theorem dX2_clearSlot_23 : decode cX2_clearSlot 23 = .ok (.iconst (-1), 1) := by decide +kernel
theorem dX2_clearSlot_24 : decode cX2_clearSlot 24 = .ok (.iastore, 1) := by decide +kernel
theorem dX2_clearSlot_25 : decode cX2_clearSlot 25 = .ok (.aload_n 0, 1) := by decide +kernel
theorem dX2_clearSlot_26 : decode cX2_clearSlot 26 = .ok (.getfield 18, 3) := by decide +kernel
theorem dX2_clearSlot_29 : decode cX2_clearSlot 29 = .ok (.iload_n 1, 1) := by decide +kernel
theorem dX2_clearSlot_30 : decode cX2_clearSlot 30 = .ok (.iconst 3, 1) := by decide +kernel
theorem dX2_clearSlot_31 : decode cX2_clearSlot 31 = .ok (.imul, 1) := by decide +kernel
theorem dX2_clearSlot_32 : decode cX2_clearSlot 32 = .ok (.iload_n 2, 1) := by decide +kernel
theorem dX2_clearSlot_33 : decode cX2_clearSlot 33 = .ok (.iadd, 1) := by decide +kernel
theorem dX2_clearSlot_34 : decode cX2_clearSlot 34 = .ok (.iconst 0, 1) := by decide +kernel
theorem dX2_clearSlot_35 : decode cX2_clearSlot 35 = .ok (.iastore, 1) := by decide +kernel
theorem dX2_clearSlot_36 : decode cX2_clearSlot 36 = .ok (.iinc 2 1, 3) := by decide +kernel
theorem dX2_clearSlot_39 : decode cX2_clearSlot 39 = .ok (.goto (-30), 3) := by decide +kernel
theorem dX2_clearSlot_42 : decode cX2_clearSlot 42 = .ok (.return_, 1) := by decide +kernel
set_option maxRecDepth 20000 in
theorem ggX2_copy_X1_copy : GoodIn wsX2_copy wsX1_copy := goodIn_r _ [19, 20, 21, 22, 23, 24, 25, 26, 37, 38, 39, 40, 41, 42, 43] (by decide +kernel) (by decide +kernel)
set_option maxRecDepth 20000 in
theorem gX2_copy_X1_copy : GoodIn wsX2_copy (wsV RX2 60 RX1 yX1_copy wsX1_copy) := goodIn_app (goodIn_of _ (by decide +kernel)) ggX2_copy_X1_copy
theorem dX2_copy_0 : decode cX2_copy 0 = .ok (.aload_n 0, 1) := by decide +kernel
theorem dX2_copy_1 : decode cX2_copy 1 = .ok (.aload_n 1, 1) := by decide +kernel
theorem dX2_copy_2 : decode cX2_copy 2 = .ok (.getfield 28, 3) := by decide +kernel
theorem dX2_copy_5 : decode cX2_copy 5 = .ok (.putfield 28, 3) := by decide +kernel
theorem dX2_copy_8 : decode cX2_copy 8 = .ok (.aload_n 0, 1) := by decide +kernel
theorem dX2_copy_9 : decode cX2_copy 9 = .ok (.aload_n 1, 1) := by decide +kernel
theorem dX2_copy_10 : decode cX2_copy 10 = .ok (.getfield 32, 3) := by decide +kernel
theorem dX2_copy_13 : decode cX2_copy 13 = .ok (.putfield 32, 3) := by decide +kernel
theorem dX2_copy_16 : decode cX2_copy 16 = .ok (.aload_n 0, 1) := by decide +kernel
theorem dX2_copy_17 : decode cX2_copy 17 = .ok (.aload_n 1, 1) := by decide +kernel
theorem dX2_copy_18 : decode cX2_copy 18 = .ok (.getfield 35, 3) := by decide +kernel
theorem dX2_copy_21 : decode cX2_copy 21 = .ok (.putfield 35, 3) := by decide +kernel
theorem dX2_copy_24 : decode cX2_copy 24 = .ok (.aload_n 0, 1) := by decide +kernel
theorem dX2_copy_25 : decode cX2_copy 25 = .ok (.aload_n 1, 1) := by decide +kernel
theorem dX2_copy_26 : decode cX2_copy 26 = .ok (.getfield 38, 3) := by decide +kernel
theorem dX2_copy_29 : decode cX2_copy 29 = .ok (.putfield 38, 3) := by decide +kernel
theorem dX2_copy_32 : decode cX2_copy 32 = .ok (.aload_n 0, 1) := by decide +kernel
theorem dX2_copy_33 : decode cX2_copy 33 = .ok (.aload_n 1, 1) := by decide +kernel
theorem dX2_copy_34 : decode cX2_copy 34 = .ok (.getfield 41, 3) := by decide +kernel
theorem dX2_copy_37 : decode cX2_copy 37 = .ok (.putfield 41, 3) := by decide +kernel
theorem dX2_copy_40 : decode cX2_copy 40 = .ok (.aload_n 0, 1) := by decide +kernel
theorem dX2_copy_41 : decode cX2_copy 41 = .ok (.aload_n 1, 1) := by decide +kernel
theorem dX2_copy_42 : decode cX2_copy 42 = .ok (.getfield 44, 3) := by decide +kernel
theorem dX2_copy_45 : decode cX2_copy 45 = .ok (.putfield 44, 3) := by decide +kernel
theorem dX2_copy_48 : decode cX2_copy 48 = .ok (.aload_n 1, 1) := by decide +kernel
theorem dX2_copy_49 : decode cX2_copy 49 = .ok (.getfield 9, 3) := by decide +kernel
theorem dX2_copy_52 : decode cX2_copy 52 = .ok (.iconst 0, 1) := by decide +kernel
theorem dX2_copy_53 : decode cX2_copy 53 = .ok (.aload_n 0, 1) := by decide +kernel
theorem dX2_copy_54 : decode cX2_copy 54 = .ok (.getfield 9, 3) := by decide +kernel
theorem dX2_copy_57 : decode cX2_copy 57 = .ok (.iconst 0, 1) := by decide +kernel
theorem dX2_copy_58 : decode cX2_copy 58 = .ok (.iconst 5, 1) := by decide +kernel
theorem dX2_copy_59 : decode cX2_copy 59 = .ok (.invokestatic 54, 3) := by decide +kernel
theorem dX2_copy_62 : decode cX2_copy 62 = .ok (.aload_n 1, 1) := by decide +kernel
theorem dX2_copy_63 : decode cX2_copy 63 = .ok (.getfield 15, 3) := by decide +kernel
theorem dX2_copy_66 : decode cX2_copy 66 = .ok (.iconst 0, 1) := by decide +kernel
theorem dX2_copy_67 : decode cX2_copy 67 = .ok (.aload_n 0, 1) := by decide +kernel
theorem dX2_copy_68 : decode cX2_copy 68 = .ok (.getfield 15, 3) := by decide +kernel
theorem dX2_copy_71 : decode cX2_copy 71 = .ok (.iconst 0, 1) := by decide +kernel
theorem dX2_copy_72 : decode cX2_copy 72 = .ok (.bipush 15, 2) := by decide +kernel
theorem dX2_copy_74 : decode cX2_copy 74 = .ok (.invokestatic 54, 3) := by decide +kernel
theorem dX2_copy_77 : decode cX2_copy 77 = .ok (.aload_n 1, 1) := by decide +kernel
theorem dX2_copy_78 : decode cX2_copy 78 = .ok (.getfield 18, 3) := by decide +kernel
theorem dX2_copy_81 : decode cX2_copy 81 = .ok (.iconst 0, 1) := by decide +kernel
theorem dX2_copy_82 : decode cX2_copy 82 = .ok (.aload_n 0, 1) := by decide +kernel
theorem dX2_copy_83 : decode cX2_copy 83 = .ok (.getfield 18, 3) := by decide +kernel
theorem dX2_copy_86 : decode cX2_copy 86 = .ok (.iconst 0, 1) := by decide +kernel
theorem dX2_copy_87 : decode cX2_copy 87 = .ok (.bipush 15, 2) := by decide +kernel
theorem dX2_copy_89 : decode cX2_copy 89 = .ok (.invokestatic 54, 3) := by decide +kernel
theorem dX2_copy_92 : decode cX2_copy 92 = .ok (.iconst 0, 1) := by decide +kernel
theorem dX2_copy_93 : decode cX2_copy 93 = .ok (.istore_n 2, 1) := by decide +kernel
theorem dX2_copy_94 : decode cX2_copy 94 = .ok (.iload_n 2, 1) := by decide +kernel
theorem dX2_copy_95 : decode cX2_copy 95 = .ok (.iconst 3, 1) := by decide +kernel
theorem dX2_copy_96 : decode cX2_copy 96 = .ok (.if_icmp .ge 24, 3) := by decide +kernel
theorem dX2_copy_99 : decode cX2_copy 99 = .ok (.aload_n 0, 1) := by decide +kernel
theorem dX2_copy_100 : decode cX2_copy 100 = .ok (.getfield 23, 3) := by decide +kernel
theorem dX2_copy_103 : decode cX2_copy 103 = .ok (.iload_n 2, 1) := by decide +kernel
theorem dX2_copy_104 : decode cX2_copy 104 = .ok (.aaload, 1) := by decide +kernel
theorem dX2_copy_105 : decode cX2_copy 105 = .ok (.aload_n 1, 1) := by decide +kernel
theorem dX2_copy_106 : decode cX2_copy 106 = .ok (.getfield 23, 3) := by decide +kernel
theorem dX2_copy_109 : decode cX2_copy 109 = .ok (.iload_n 2, 1) := by decide +kernel
theorem dX2_copy_110 : decode cX2_copy 110 = .ok (.aaload, 1) := by decide +kernel
theorem dX2_copy_111 : decode cX2_copy 111 = .ok (.invokevirtual 60, 3) := by decide +kernel
theorem dX2_copy_114 : decode cX2_copy 114 = .ok (.iinc 2 1, 3) := by decide +kernel
theorem dX2_copy_117 : decode cX2_copy 117 = .ok (.goto (-23), 3) := by decide +kernel
theorem dX2_copy_120 : decode cX2_copy 120 = .ok (.return_, 1) := by decide +kernel
theorem dX2_cellsOn_0 : decode cX2_cellsOn 0 = .ok (.iconst 0, 1) := by decide +kernel
theorem dX2_cellsOn_1 : decode cX2_cellsOn 1 = .ok (.istore_n 1, 1) := by decide +kernel
theorem dX2_cellsOn_2 : decode cX2_cellsOn 2 = .ok (.iconst 0, 1) := by decide +kernel
theorem dX2_cellsOn_3 : decode cX2_cellsOn 3 = .ok (.istore_n 2, 1) := by decide +kernel
theorem dX2_cellsOn_4 : decode cX2_cellsOn 4 = .ok (.iload_n 2, 1) := by decide +kernel
theorem dX2_cellsOn_5 : decode cX2_cellsOn 5 = .ok (.iconst 5, 1) := by decide +kernel
theorem dX2_cellsOn_6 : decode cX2_cellsOn 6 = .ok (.if_icmp .ge 22, 3) := by decide +kernel
theorem dX2_cellsOn_9 : decode cX2_cellsOn 9 = .ok (.aload_n 0, 1) := by decide +kernel
theorem dX2_cellsOn_10 : decode cX2_cellsOn 10 = .ok (.getfield 9, 3) := by decide +kernel
theorem dX2_cellsOn_13 : decode cX2_cellsOn 13 = .ok (.iload_n 2, 1) := by decide +kernel
theorem dX2_cellsOn_14 : decode cX2_cellsOn 14 = .ok (.iaload, 1) := by decide +kernel
theorem dX2_cellsOn_15 : decode cX2_cellsOn 15 = .ok (.iconst (-1), 1) := by decide +kernel
theorem dX2_cellsOn_16 : decode cX2_cellsOn 16 = .ok (.if_icmp .eq 6, 3) := by decide +kernel
theorem dX2_cellsOn_19 : decode cX2_cellsOn 19 = .ok (.iinc 1 1, 3) := by decide +kernel
theorem dX2_cellsOn_22 : decode cX2_cellsOn 22 = .ok (.iinc 2 1, 3) := by decide +kernel
theorem dX2_cellsOn_25 : decode cX2_cellsOn 25 = .ok (.goto (-21), 3) := by decide +kernel
theorem dX2_cellsOn_28 : decode cX2_cellsOn 28 = .ok (.iload_n 1, 1) := by decide +kernel
theorem dX2_cellsOn_29 : decode cX2_cellsOn 29 = .ok (.ireturn, 1) := by decide +kernel
theorem dX2_cellsOnOf_0 : decode cX2_cellsOnOf 0 = .ok (.iconst 0, 1) := by decide +kernel
theorem dX2_cellsOnOf_1 : decode cX2_cellsOnOf 1 = .ok (.istore_n 2, 1) := by decide +kernel
theorem dX2_cellsOnOf_2 : decode cX2_cellsOnOf 2 = .ok (.iconst 0, 1) := by decide +kernel
theorem dX2_cellsOnOf_3 : decode cX2_cellsOnOf 3 = .ok (.istore_n 3, 1) := by decide +kernel
theorem dX2_cellsOnOf_4 : decode cX2_cellsOnOf 4 = .ok (.iload_n 3, 1) := by decide +kernel
theorem dX2_cellsOnOf_5 : decode cX2_cellsOnOf 5 = .ok (.iconst 5, 1) := by decide +kernel
theorem dX2_cellsOnOf_6 : decode cX2_cellsOnOf 6 = .ok (.if_icmp .ge 22, 3) := by decide +kernel
theorem dX2_cellsOnOf_9 : decode cX2_cellsOnOf 9 = .ok (.aload_n 0, 1) := by decide +kernel
theorem dX2_cellsOnOf_10 : decode cX2_cellsOnOf 10 = .ok (.getfield 9, 3) := by decide +kernel
theorem dX2_cellsOnOf_13 : decode cX2_cellsOnOf 13 = .ok (.iload_n 3, 1) := by decide +kernel
theorem dX2_cellsOnOf_14 : decode cX2_cellsOnOf 14 = .ok (.iaload, 1) := by decide +kernel
theorem dX2_cellsOnOf_15 : decode cX2_cellsOnOf 15 = .ok (.iload_n 1, 1) := by decide +kernel
theorem dX2_cellsOnOf_16 : decode cX2_cellsOnOf 16 = .ok (.if_icmp .ne 6, 3) := by decide +kernel
theorem dX2_cellsOnOf_19 : decode cX2_cellsOnOf 19 = .ok (.iinc 2 1, 3) := by decide +kernel
theorem dX2_cellsOnOf_22 : decode cX2_cellsOnOf 22 = .ok (.iinc 3 1, 3) := by decide +kernel
theorem dX2_cellsOnOf_25 : decode cX2_cellsOnOf 25 = .ok (.goto (-21), 3) := by decide +kernel
theorem dX2_cellsOnOf_28 : decode cX2_cellsOnOf 28 = .ok (.iload_n 2, 1) := by decide +kernel
theorem dX2_cellsOnOf_29 : decode cX2_cellsOnOf 29 = .ok (.ireturn, 1) := by decide +kernel
theorem dX2_updatesOn_0 : decode cX2_updatesOn 0 = .ok (.iconst 0, 1) := by decide +kernel
theorem dX2_updatesOn_1 : decode cX2_updatesOn 1 = .ok (.istore_n 1, 1) := by decide +kernel
theorem dX2_updatesOn_2 : decode cX2_updatesOn 2 = .ok (.iconst 0, 1) := by decide +kernel
theorem dX2_updatesOn_3 : decode cX2_updatesOn 3 = .ok (.istore_n 2, 1) := by decide +kernel
theorem dX2_updatesOn_4 : decode cX2_updatesOn 4 = .ok (.iload_n 2, 1) := by decide +kernel
theorem dX2_updatesOn_5 : decode cX2_updatesOn 5 = .ok (.bipush 15, 2) := by decide +kernel
theorem dX2_updatesOn_7 : decode cX2_updatesOn 7 = .ok (.if_icmp .ge 22, 3) := by decide +kernel
theorem dX2_updatesOn_10 : decode cX2_updatesOn 10 = .ok (.aload_n 0, 1) := by decide +kernel
theorem dX2_updatesOn_11 : decode cX2_updatesOn 11 = .ok (.getfield 15, 3) := by decide +kernel
theorem dX2_updatesOn_14 : decode cX2_updatesOn 14 = .ok (.iload_n 2, 1) := by decide +kernel
theorem dX2_updatesOn_15 : decode cX2_updatesOn 15 = .ok (.iaload, 1) := by decide +kernel
theorem dX2_updatesOn_16 : decode cX2_updatesOn 16 = .ok (.iconst (-1), 1) := by decide +kernel
theorem dX2_updatesOn_17 : decode cX2_updatesOn 17 = .ok (.if_icmp .eq 6, 3) := by decide +kernel
theorem dX2_updatesOn_20 : decode cX2_updatesOn 20 = .ok (.iinc 1 1, 3) := by decide +kernel
theorem dX2_updatesOn_23 : decode cX2_updatesOn 23 = .ok (.iinc 2 1, 3) := by decide +kernel
theorem dX2_updatesOn_26 : decode cX2_updatesOn 26 = .ok (.goto (-22), 3) := by decide +kernel
theorem dX2_updatesOn_29 : decode cX2_updatesOn 29 = .ok (.iload_n 1, 1) := by decide +kernel
theorem dX2_updatesOn_30 : decode cX2_updatesOn 30 = .ok (.ireturn, 1) := by decide +kernel
theorem dX2_probesOn_0 : decode cX2_probesOn 0 = .ok (.iconst 0, 1) := by decide +kernel
theorem dX2_probesOn_1 : decode cX2_probesOn 1 = .ok (.istore_n 1, 1) := by decide +kernel
theorem dX2_probesOn_2 : decode cX2_probesOn 2 = .ok (.iconst 0, 1) := by decide +kernel
theorem dX2_probesOn_3 : decode cX2_probesOn 3 = .ok (.istore_n 2, 1) := by decide +kernel
theorem dX2_probesOn_4 : decode cX2_probesOn 4 = .ok (.iload_n 2, 1) := by decide +kernel
theorem dX2_probesOn_5 : decode cX2_probesOn 5 = .ok (.bipush 15, 2) := by decide +kernel
theorem dX2_probesOn_7 : decode cX2_probesOn 7 = .ok (.if_icmp .ge 18, 3) := by decide +kernel
theorem dX2_probesOn_10 : decode cX2_probesOn 10 = .ok (.iload_n 1, 1) := by decide +kernel
theorem dX2_probesOn_11 : decode cX2_probesOn 11 = .ok (.aload_n 0, 1) := by decide +kernel
theorem dX2_probesOn_12 : decode cX2_probesOn 12 = .ok (.getfield 18, 3) := by decide +kernel
theorem dX2_probesOn_15 : decode cX2_probesOn 15 = .ok (.iload_n 2, 1) := by decide +kernel
theorem dX2_probesOn_16 : decode cX2_probesOn 16 = .ok (.iaload, 1) := by decide +kernel
theorem dX2_probesOn_17 : decode cX2_probesOn 17 = .ok (.iadd, 1) := by decide +kernel
theorem dX2_probesOn_18 : decode cX2_probesOn 18 = .ok (.istore_n 1, 1) := by decide +kernel
theorem dX2_probesOn_19 : decode cX2_probesOn 19 = .ok (.iinc 2 1, 3) := by decide +kernel
theorem dX2_probesOn_22 : decode cX2_probesOn 22 = .ok (.goto (-18), 3) := by decide +kernel
theorem dX2_probesOn_25 : decode cX2_probesOn 25 = .ok (.iload_n 1, 1) := by decide +kernel
theorem dX2_probesOn_26 : decode cX2_probesOn 26 = .ok (.ireturn, 1) := by decide +kernel
theorem dX2_probeBits_0 : decode cX2_probeBits 0 = .ok (.iconst 0, 1) := by decide +kernel
theorem dX2_probeBits_1 : decode cX2_probeBits 1 = .ok (.istore_n 2, 1) := by decide +kernel
theorem dX2_probeBits_2 : decode cX2_probeBits 2 = .ok (.iconst 0, 1) := by decide +kernel
theorem dX2_probeBits_3 : decode cX2_probeBits 3 = .ok (.istore_n 3, 1) := by decide +kernel
theorem dX2_probeBits_4 : decode cX2_probeBits 4 = .ok (.iload_n 3, 1) := by decide +kernel
theorem dX2_probeBits_5 : decode cX2_probeBits 5 = .ok (.iconst 3, 1) := by decide +kernel
theorem dX2_probeBits_6 : decode cX2_probeBits 6 = .ok (.if_icmp .ge 28, 3) := by decide +kernel
theorem dX2_probeBits_9 : decode cX2_probeBits 9 = .ok (.aload_n 0, 1) := by decide +kernel
theorem dX2_probeBits_10 : decode cX2_probeBits 10 = .ok (.getfield 18, 3) := by decide +kernel
theorem dX2_probeBits_13 : decode cX2_probeBits 13 = .ok (.iload_n 1, 1) := by decide +kernel
theorem dX2_probeBits_14 : decode cX2_probeBits 14 = .ok (.iconst 3, 1) := by decide +kernel
theorem dX2_probeBits_15 : decode cX2_probeBits 15 = .ok (.imul, 1) := by decide +kernel
theorem dX2_probeBits_16 : decode cX2_probeBits 16 = .ok (.iload_n 3, 1) := by decide +kernel
theorem dX2_probeBits_17 : decode cX2_probeBits 17 = .ok (.iadd, 1) := by decide +kernel
theorem dX2_probeBits_18 : decode cX2_probeBits 18 = .ok (.iaload, 1) := by decide +kernel
theorem dX2_probeBits_19 : decode cX2_probeBits 19 = .ok (.ifCond .le 9, 3) := by decide +kernel
theorem dX2_probeBits_22 : decode cX2_probeBits 22 = .ok (.iload_n 2, 1) := by decide +kernel
theorem dX2_probeBits_23 : decode cX2_probeBits 23 = .ok (.iconst 1, 1) := by decide +kernel
theorem dX2_probeBits_24 : decode cX2_probeBits 24 = .ok (.iload_n 3, 1) := by decide +kernel
theorem dX2_probeBits_25 : decode cX2_probeBits 25 = .ok (.ishl, 1) := by decide +kernel
theorem dX2_probeBits_26 : decode cX2_probeBits 26 = .ok (.ior, 1) := by decide +kernel
theorem dX2_probeBits_27 : decode cX2_probeBits 27 = .ok (.istore_n 2, 1) := by decide +kernel
theorem dX2_probeBits_28 : decode cX2_probeBits 28 = .ok (.iinc 3 1, 3) := by decide +kernel
theorem dX2_probeBits_31 : decode cX2_probeBits 31 = .ok (.goto (-27), 3) := by decide +kernel
theorem dX2_probeBits_34 : decode cX2_probeBits 34 = .ok (.iload_n 2, 1) := by decide +kernel
theorem dX2_probeBits_35 : decode cX2_probeBits 35 = .ok (.ireturn, 1) := by decide +kernel
set_option maxRecDepth 20000 in
theorem ggX2_roomFor_X1_out : GoodIn wsX2_roomFor wsX1_out := goodIn_r _ [12, 13, 14, 25, 26, 27, 28, 29, 30, 31] (by decide +kernel) (by decide +kernel)
set_option maxRecDepth 20000 in
theorem gX2_roomFor_X1_out : GoodIn wsX2_roomFor (wsV RX2 67 RX1 yX1_out wsX1_out) := goodIn_app (goodIn_of _ (by decide +kernel)) ggX2_roomFor_X1_out
theorem dX2_roomFor_0 : decode cX2_roomFor 0 = .ok (.aload_n 0, 1) := by decide +kernel
theorem dX2_roomFor_1 : decode cX2_roomFor 1 = .ok (.getfield 32, 3) := by decide +kernel
theorem dX2_roomFor_4 : decode cX2_roomFor 4 = .ok (.istore_n 3, 1) := by decide +kernel
theorem dX2_roomFor_5 : decode cX2_roomFor 5 = .ok (.iconst 0, 1) := by decide +kernel
theorem dX2_roomFor_6 : decode cX2_roomFor 6 = .ok (.istore 4, 2) := by decide +kernel
theorem dX2_roomFor_8 : decode cX2_roomFor 8 = .ok (.iload 4, 2) := by decide +kernel
theorem dX2_roomFor_10 : decode cX2_roomFor 10 = .ok (.iload_n 2, 1) := by decide +kernel
theorem dX2_roomFor_11 : decode cX2_roomFor 11 = .ok (.if_icmp .ge 41, 3) := by decide +kernel
theorem dX2_roomFor_14 : decode cX2_roomFor 14 = .ok (.iload 4, 2) := by decide +kernel
theorem dX2_roomFor_16 : decode cX2_roomFor 16 = .ok (.iload_n 1, 1) := by decide +kernel
theorem dX2_roomFor_17 : decode cX2_roomFor 17 = .ok (.if_icmp .eq 29, 3) := by decide +kernel
theorem dX2_roomFor_20 : decode cX2_roomFor 20 = .ok (.iload_n 3, 1) := by decide +kernel
theorem dX2_roomFor_21 : decode cX2_roomFor 21 = .ok (.aload_n 0, 1) := by decide +kernel
theorem dX2_roomFor_22 : decode cX2_roomFor 22 = .ok (.getfield 23, 3) := by decide +kernel
theorem dX2_roomFor_25 : decode cX2_roomFor 25 = .ok (.iload 4, 2) := by decide +kernel
theorem dX2_roomFor_27 : decode cX2_roomFor 27 = .ok (.aaload, 1) := by decide +kernel
theorem dX2_roomFor_28 : decode cX2_roomFor 28 = .ok (.getfield 64, 3) := by decide +kernel
theorem dX2_roomFor_31 : decode cX2_roomFor 31 = .ok (.aload_n 0, 1) := by decide +kernel
theorem dX2_roomFor_32 : decode cX2_roomFor 32 = .ok (.getfield 23, 3) := by decide +kernel
theorem dX2_roomFor_35 : decode cX2_roomFor 35 = .ok (.iload 4, 2) := by decide +kernel
theorem dX2_roomFor_37 : decode cX2_roomFor 37 = .ok (.aaload, 1) := by decide +kernel
theorem dX2_roomFor_38 : decode cX2_roomFor 38 = .ok (.invokevirtual 67, 3) := by decide +kernel
theorem dX2_roomFor_41 : decode cX2_roomFor 41 = .ok (.invokestatic 71, 3) := by decide +kernel
theorem dX2_roomFor_44 : decode cX2_roomFor 44 = .ok (.isub, 1) := by decide +kernel
theorem dX2_roomFor_45 : decode cX2_roomFor 45 = .ok (.istore_n 3, 1) := by decide +kernel
theorem dX2_roomFor_46 : decode cX2_roomFor 46 = .ok (.iinc 4 1, 3) := by decide +kernel
theorem dX2_roomFor_49 : decode cX2_roomFor 49 = .ok (.goto (-41), 3) := by decide +kernel
theorem dX2_roomFor_52 : decode cX2_roomFor 52 = .ok (.iload_n 3, 1) := by decide +kernel
theorem dX2_roomFor_53 : decode cX2_roomFor 53 = .ok (.ireturn, 1) := by decide +kernel
set_option maxRecDepth 20000 in
theorem ggX3_init_X2_init : GoodIn wsX3_init wsX2_init := goodIn_r _ [16, 17, 2, 3, 8, 18, 19, 20, 21, 22, 23, 24, 25, 26, 27, 42, 43, 44, 45, 46, 47, 48, 49, 50, 51, 60, 61, 62, 63, 64, 65, 66] (by decide +kernel) (by decide +kernel)
set_option maxRecDepth 20000 in
theorem gX3_init_X2_init : GoodIn wsX3_init (wsX2_init) := ggX3_init_X2_init
set_option maxRecDepth 20000 in
theorem ggX3_init_X0_init : GoodIn wsX3_init wsX0_init := goodIn_r _ [29, 30, 2, 3] (by decide +kernel) (by decide +kernel)
set_option maxRecDepth 20000 in
theorem gX3_init_X0_init_n28 : GoodIn wsX3_init (wsX0_init) := ggX3_init_X0_init
theorem dX3_init_0 : decode cX3_init 0 = .ok (.aload_n 0, 1) := by decide +kernel
theorem dX3_init_1 : decode cX3_init 1 = .ok (.invokespecial 3, 3) := by decide +kernel
theorem dX3_init_4 : decode cX3_init 4 = .ok (.aload_n 0, 1) := by decide +kernel
theorem dX3_init_5 : decode cX3_init 5 = .ok (.iconst 3, 1) := by decide +kernel
theorem dX3_init_6 : decode cX3_init 6 = .ok (.anewarray 9, 3) := by decide +kernel
theorem dX3_init_9 : decode cX3_init 9 = .ok (.putfield 11, 3) := by decide +kernel
theorem dX3_init_12 : decode cX3_init 12 = .ok (.aload_n 0, 1) := by decide +kernel
theorem dX3_init_13 : decode cX3_init 13 = .ok (.iconst 3, 1) := by decide +kernel
theorem dX3_init_14 : decode cX3_init 14 = .ok (.anewarray 17, 3) := by decide +kernel
theorem dX3_init_17 : decode cX3_init 17 = .ok (.putfield 19, 3) := by decide +kernel
theorem dX3_init_20 : decode cX3_init 20 = .ok (.aload_n 0, 1) := by decide +kernel
theorem dX3_init_21 : decode cX3_init 21 = .ok (.bipush 12, 2) := by decide +kernel
theorem dX3_init_23 : decode cX3_init 23 = .ok (.newarray .int, 2) := by decide +kernel
theorem dX3_init_25 : decode cX3_init 25 = .ok (.putfield 23, 3) := by decide +kernel
theorem dX3_init_28 : decode cX3_init 28 = .ok (.iconst 0, 1) := by decide +kernel
theorem dX3_init_29 : decode cX3_init 29 = .ok (.istore_n 1, 1) := by decide +kernel
theorem dX3_init_30 : decode cX3_init 30 = .ok (.iload_n 1, 1) := by decide +kernel
theorem dX3_init_31 : decode cX3_init 31 = .ok (.iconst 3, 1) := by decide +kernel
theorem dX3_init_32 : decode cX3_init 32 = .ok (.if_icmp .ge 22, 3) := by decide +kernel
theorem dX3_init_35 : decode cX3_init 35 = .ok (.aload_n 0, 1) := by decide +kernel
theorem dX3_init_36 : decode cX3_init 36 = .ok (.getfield 11, 3) := by decide +kernel
theorem dX3_init_39 : decode cX3_init 39 = .ok (.iload_n 1, 1) := by decide +kernel
theorem dX3_init_40 : decode cX3_init 40 = .ok (.new 9, 3) := by decide +kernel
theorem dX3_init_43 : decode cX3_init 43 = .ok (.dup, 1) := by decide +kernel
theorem dX3_init_44 : decode cX3_init 44 = .ok (.invokespecial 27, 3) := by decide +kernel
theorem dX3_init_47 : decode cX3_init 47 = .ok (.aastore, 1) := by decide +kernel
theorem dX3_init_48 : decode cX3_init 48 = .ok (.iinc 1 1, 3) := by decide +kernel
theorem dX3_init_51 : decode cX3_init 51 = .ok (.goto (-21), 3) := by decide +kernel
theorem dX3_init_54 : decode cX3_init 54 = .ok (.iconst 0, 1) := by decide +kernel
theorem dX3_init_55 : decode cX3_init 55 = .ok (.istore_n 1, 1) := by decide +kernel
theorem dX3_init_56 : decode cX3_init 56 = .ok (.iload_n 1, 1) := by decide +kernel
theorem dX3_init_57 : decode cX3_init 57 = .ok (.iconst 3, 1) := by decide +kernel
theorem dX3_init_58 : decode cX3_init 58 = .ok (.if_icmp .ge 22, 3) := by decide +kernel
theorem dX3_init_61 : decode cX3_init 61 = .ok (.aload_n 0, 1) := by decide +kernel
theorem dX3_init_62 : decode cX3_init 62 = .ok (.getfield 19, 3) := by decide +kernel
theorem dX3_init_65 : decode cX3_init 65 = .ok (.iload_n 1, 1) := by decide +kernel
theorem dX3_init_66 : decode cX3_init 66 = .ok (.new 17, 3) := by decide +kernel
theorem dX3_init_69 : decode cX3_init 69 = .ok (.dup, 1) := by decide +kernel
theorem dX3_init_70 : decode cX3_init 70 = .ok (.invokespecial 28, 3) := by decide +kernel
theorem dX3_init_73 : decode cX3_init 73 = .ok (.aastore, 1) := by decide +kernel
theorem dX3_init_74 : decode cX3_init 74 = .ok (.iinc 1 1, 3) := by decide +kernel
theorem dX3_init_77 : decode cX3_init 77 = .ok (.goto (-21), 3) := by decide +kernel
theorem dX3_init_80 : decode cX3_init 80 = .ok (.return_, 1) := by decide +kernel
set_option maxRecDepth 20000 in
theorem ggX3_lay_X4_hops : GoodIn wsX3_lay wsX4_hops := goodIn_r _ [16, 17, 18, 7, 8, 9, 101, 102, 103, 104, 105, 106, 107] (by decide +kernel) (by decide +kernel)
set_option maxRecDepth 20000 in
theorem gX3_lay_X4_hops : GoodIn wsX3_lay (wsV RX3 29 RX4 yX4_hops wsX4_hops) := goodIn_app (goodIn_of _ (by decide +kernel)) ggX3_lay_X4_hops
set_option maxRecDepth 20000 in
theorem ggX3_lay_X4_circuits : GoodIn wsX3_lay wsX4_circuits := goodIn_r _ [22, 23, 18, 7, 8, 9, 101, 102, 103, 104, 105, 106, 107] (by decide +kernel) (by decide +kernel)
set_option maxRecDepth 20000 in
theorem gX3_lay_X4_circuits : GoodIn wsX3_lay (wsV RX3 35 RX4 yX4_circuits wsX4_circuits) := goodIn_app (goodIn_of _ (by decide +kernel)) ggX3_lay_X4_circuits
set_option maxRecDepth 20000 in
theorem ggX3_lay_X4_ofRules : GoodIn wsX3_lay wsX4_ofRules := goodIn_r _ [27, 28, 101, 102, 103, 104, 105, 106, 107] (by decide +kernel) (by decide +kernel)
set_option maxRecDepth 20000 in
theorem gX3_lay_X4_ofRules : GoodIn wsX3_lay (wsV RX3 38 RX4 yX4_ofRules wsX4_ofRules) := goodIn_app (goodIn_of _ (by decide +kernel)) ggX3_lay_X4_ofRules
set_option maxRecDepth 20000 in
theorem ggX3_lay_X3_layRules : GoodIn wsX3_lay wsX3_layRules := goodIn_r _ [33, 3, 5, 4, 1, 2, 34, 35, 36, 37, 90, 91, 92, 93, 94, 95, 96, 97, 98, 99, 100] (by decide +kernel) (by decide +kernel)
set_option maxRecDepth 20000 in
theorem gX3_lay_X3_layRules : GoodIn wsX3_lay (wsV RX3 42 RX3 yX3_layRules wsX3_layRules) := goodIn_app (goodIn_of _ (by decide +kernel)) ggX3_lay_X3_layRules
set_option maxRecDepth 20000 in
theorem ggX3_lay_X4_ofHop : GoodIn wsX3_lay wsX4_ofHop := goodIn_r _ [41, 28, 101, 102, 103, 104, 105, 106, 107] (by decide +kernel) (by decide +kernel)
set_option maxRecDepth 20000 in
theorem gX3_lay_X4_ofHop : GoodIn wsX3_lay (wsV RX3 55 RX4 yX4_ofHop wsX4_ofHop) := goodIn_app (goodIn_of _ (by decide +kernel)) ggX3_lay_X4_ofHop
set_option maxRecDepth 20000 in
theorem ggX3_lay_X2_lay : GoodIn wsX3_lay wsX2_lay := goodIn_r _ [46, 47, 48, 49, 50, 51, 52, 53, 54, 55, 56, 45, 57, 58, 59, 60, 61, 62, 63, 64, 65, 66, 67, 68, 69, 70, 71, 72, 108, 109, 110, 111, 112, 113, 114, 115, 116, 117, 118, 119, 120, 121, 122, 123, 124] (by decide +kernel) (by decide +kernel)
set_option maxRecDepth 20000 in
theorem gX3_lay_X2_lay : GoodIn wsX3_lay (wsV RX3 69 RX2 yX2_lay wsX2_lay) := goodIn_app (goodIn_of _ (by decide +kernel)) ggX3_lay_X2_lay
set_option maxRecDepth 20000 in
theorem ggX3_lay_X4_ofCircuit : GoodIn wsX3_lay wsX4_ofCircuit := goodIn_r _ [76, 28, 101, 102, 103, 104, 105, 106, 107] (by decide +kernel) (by decide +kernel)
set_option maxRecDepth 20000 in
theorem gX3_lay_X4_ofCircuit : GoodIn wsX3_lay (wsV RX3 73 RX4 yX4_ofCircuit wsX4_ofCircuit) := goodIn_app (goodIn_of _ (by decide +kernel)) ggX3_lay_X4_ofCircuit
set_option maxRecDepth 20000 in
theorem ggX3_lay_X0_lay : GoodIn wsX3_lay wsX0_lay := goodIn_r _ [81, 82, 83, 84, 85, 86, 87, 88, 89, 125, 126, 127, 128, 129, 130, 131, 132] (by decide +kernel) (by decide +kernel)
set_option maxRecDepth 20000 in
theorem gX3_lay_X0_lay : GoodIn wsX3_lay (wsV RX3 76 RX0 yX0_lay wsX0_lay) := goodIn_app (goodIn_of _ (by decide +kernel)) ggX3_lay_X0_lay
theorem dX3_lay_0 : decode cX3_lay 0 = .ok (.aload_n 0, 1) := by decide +kernel
theorem dX3_lay_1 : decode cX3_lay 1 = .ok (.aload_n 1, 1) := by decide +kernel
theorem dX3_lay_2 : decode cX3_lay 2 = .ok (.invokevirtual 29, 3) := by decide +kernel
theorem dX3_lay_5 : decode cX3_lay 5 = .ok (.aload_n 1, 1) := by decide +kernel
theorem dX3_lay_6 : decode cX3_lay 6 = .ok (.invokevirtual 35, 3) := by decide +kernel
theorem dX3_lay_9 : decode cX3_lay 9 = .ok (.aload_n 1, 1) := by decide +kernel
theorem dX3_lay_10 : decode cX3_lay 10 = .ok (.iconst 0, 1) := by decide +kernel
theorem dX3_lay_11 : decode cX3_lay 11 = .ok (.invokevirtual 38, 3) := by decide +kernel
theorem dX3_lay_14 : decode cX3_lay 14 = .ok (.invokevirtual 42, 3) := by decide +kernel
theorem dX3_lay_17 : decode cX3_lay 17 = .ok (.aload_n 0, 1) := by decide +kernel
theorem dX3_lay_18 : decode cX3_lay 18 = .ok (.aload_n 1, 1) := by decide +kernel
theorem dX3_lay_19 : decode cX3_lay 19 = .ok (.iconst 1, 1) := by decide +kernel
theorem dX3_lay_20 : decode cX3_lay 20 = .ok (.invokevirtual 38, 3) := by decide +kernel
theorem dX3_lay_23 : decode cX3_lay 23 = .ok (.putfield 46, 3) := by decide +kernel
theorem dX3_lay_26 : decode cX3_lay 26 = .ok (.aload_n 0, 1) := by decide +kernel
theorem dX3_lay_27 : decode cX3_lay 27 = .ok (.aload_n 1, 1) := by decide +kernel
theorem dX3_lay_28 : decode cX3_lay 28 = .ok (.iconst 2, 1) := by decide +kernel
theorem dX3_lay_29 : decode cX3_lay 29 = .ok (.invokevirtual 38, 3) := by decide +kernel
theorem dX3_lay_32 : decode cX3_lay 32 = .ok (.putfield 50, 3) := by decide +kernel
theorem dX3_lay_35 : decode cX3_lay 35 = .ok (.iconst 0, 1) := by decide +kernel
theorem dX3_lay_36 : decode cX3_lay 36 = .ok (.istore_n 2, 1) := by decide +kernel
theorem dX3_lay_37 : decode cX3_lay 37 = .ok (.iload_n 2, 1) := by decide +kernel
theorem dX3_lay_38 : decode cX3_lay 38 = .ok (.aload_n 0, 1) := by decide +kernel
theorem dX3_lay_39 : decode cX3_lay 39 = .ok (.getfield 53, 3) := by decide +kernel
theorem dX3_lay_42 : decode cX3_lay 42 = .ok (.if_icmp .ge 71, 3) := by decide +kernel
theorem dX3_lay_45 : decode cX3_lay 45 = .ok (.aload_n 1, 1) := by decide +kernel
theorem dX3_lay_46 : decode cX3_lay 46 = .ok (.iload_n 2, 1) := by decide +kernel
theorem dX3_lay_47 : decode cX3_lay 47 = .ok (.iconst 1, 1) := by decide +kernel
theorem dX3_lay_48 : decode cX3_lay 48 = .ok (.invokevirtual 55, 3) := by decide +kernel
theorem dX3_lay_51 : decode cX3_lay 51 = .ok (.aload_n 0, 1) := by decide +kernel
theorem dX3_lay_52 : decode cX3_lay 52 = .ok (.getfield 59, 3) := by decide +kernel
theorem dX3_lay_55 : decode cX3_lay 55 = .ok (.aload_n 0, 1) := by decide +kernel
theorem dX3_lay_56 : decode cX3_lay 56 = .ok (.getfield 62, 3) := by decide +kernel
theorem dX3_lay_59 : decode cX3_lay 59 = .ok (.imul, 1) := by decide +kernel
theorem dX3_lay_60 : decode cX3_lay 60 = .ok (.invokestatic 64, 3) := by decide +kernel
theorem dX3_lay_63 : decode cX3_lay 63 = .ok (.istore_n 3, 1) := by decide +kernel
theorem dX3_lay_64 : decode cX3_lay 64 = .ok (.aload_n 0, 1) := by decide +kernel
theorem dX3_lay_65 : decode cX3_lay 65 = .ok (.getfield 62, 3) := by decide +kernel
theorem dX3_lay_68 : decode cX3_lay 68 = .ok (.ifCond .le 12, 3) := by decide +kernel
theorem dX3_lay_71 : decode cX3_lay 71 = .ok (.iload_n 3, 1) := by decide +kernel
theorem dX3_lay_72 : decode cX3_lay 72 = .ok (.aload_n 0, 1) := by decide +kernel
theorem dX3_lay_73 : decode cX3_lay 73 = .ok (.getfield 62, 3) := by decide +kernel
theorem dX3_lay_76 : decode cX3_lay 76 = .ok (.idiv, 1) := by decide +kernel
theorem dX3_lay_77 : decode cX3_lay 77 = .ok (.goto 4, 3) := by decide +kernel
theorem dX3_lay_80 : decode cX3_lay 80 = .ok (.iload_n 3, 1) := by decide +kernel
theorem dX3_lay_81 : decode cX3_lay 81 = .ok (.istore 4, 2) := by decide +kernel
theorem dX3_lay_83 : decode cX3_lay 83 = .ok (.aload_n 0, 1) := by decide +kernel
theorem dX3_lay_84 : decode cX3_lay 84 = .ok (.getfield 11, 3) := by decide +kernel
theorem dX3_lay_87 : decode cX3_lay 87 = .ok (.iload_n 2, 1) := by decide +kernel
theorem dX3_lay_88 : decode cX3_lay 88 = .ok (.aaload, 1) := by decide +kernel
theorem dX3_lay_89 : decode cX3_lay 89 = .ok (.aload_n 1, 1) := by decide +kernel
theorem dX3_lay_90 : decode cX3_lay 90 = .ok (.iload_n 2, 1) := by decide +kernel
theorem dX3_lay_91 : decode cX3_lay 91 = .ok (.iconst 0, 1) := by decide +kernel
theorem dX3_lay_92 : decode cX3_lay 92 = .ok (.invokevirtual 55, 3) := by decide +kernel
theorem dX3_lay_95 : decode cX3_lay 95 = .ok (.iload_n 3, 1) := by decide +kernel
theorem dX3_lay_96 : decode cX3_lay 96 = .ok (.aload_n 1, 1) := by decide +kernel
theorem dX3_lay_97 : decode cX3_lay 97 = .ok (.iload_n 2, 1) := by decide +kernel
theorem dX3_lay_98 : decode cX3_lay 98 = .ok (.iconst 2, 1) := by decide +kernel
theorem dX3_lay_99 : decode cX3_lay 99 = .ok (.invokevirtual 55, 3) := by decide +kernel
theorem dX3_lay_102 : decode cX3_lay 102 = .ok (.iload 4, 2) := by decide +kernel
theorem dX3_lay_104 : decode cX3_lay 104 = .ok (.invokevirtual 69, 3) := by decide +kernel
theorem dX3_lay_107 : decode cX3_lay 107 = .ok (.iinc 2 1, 3) := by decide +kernel
theorem dX3_lay_110 : decode cX3_lay 110 = .ok (.goto (-73), 3) := by decide +kernel
theorem dX3_lay_113 : decode cX3_lay 113 = .ok (.iconst 0, 1) := by decide +kernel
theorem dX3_lay_114 : decode cX3_lay 114 = .ok (.istore_n 2, 1) := by decide +kernel
theorem dX3_lay_115 : decode cX3_lay 115 = .ok (.iload_n 2, 1) := by decide +kernel
theorem dX3_lay_116 : decode cX3_lay 116 = .ok (.aload_n 0, 1) := by decide +kernel
theorem dX3_lay_117 : decode cX3_lay 117 = .ok (.getfield 62, 3) := by decide +kernel
theorem dX3_lay_120 : decode cX3_lay 120 = .ok (.if_icmp .ge 36, 3) := by decide +kernel
theorem dX3_lay_123 : decode cX3_lay 123 = .ok (.aload_n 0, 1) := by decide +kernel
theorem dX3_lay_124 : decode cX3_lay 124 = .ok (.getfield 19, 3) := by decide +kernel
theorem dX3_lay_127 : decode cX3_lay 127 = .ok (.iload_n 2, 1) := by decide +kernel
theorem dX3_lay_128 : decode cX3_lay 128 = .ok (.aaload, 1) := by decide +kernel
theorem dX3_lay_129 : decode cX3_lay 129 = .ok (.aload_n 1, 1) := by decide +kernel
theorem dX3_lay_130 : decode cX3_lay 130 = .ok (.iload_n 2, 1) := by decide +kernel
theorem dX3_lay_131 : decode cX3_lay 131 = .ok (.iconst 0, 1) := by decide +kernel
theorem dX3_lay_132 : decode cX3_lay 132 = .ok (.invokevirtual 73, 3) := by decide +kernel
theorem dX3_lay_135 : decode cX3_lay 135 = .ok (.aload_n 1, 1) := by decide +kernel
theorem dX3_lay_136 : decode cX3_lay 136 = .ok (.iload_n 2, 1) := by decide +kernel
theorem dX3_lay_137 : decode cX3_lay 137 = .ok (.iconst 1, 1) := by decide +kernel
theorem dX3_lay_138 : decode cX3_lay 138 = .ok (.invokevirtual 73, 3) := by decide +kernel
theorem dX3_lay_141 : decode cX3_lay 141 = .ok (.aload_n 1, 1) := by decide +kernel
theorem dX3_lay_142 : decode cX3_lay 142 = .ok (.iload_n 2, 1) := by decide +kernel
theorem dX3_lay_143 : decode cX3_lay 143 = .ok (.iconst 2, 1) := by decide +kernel
theorem dX3_lay_144 : decode cX3_lay 144 = .ok (.invokevirtual 73, 3) := by decide +kernel
theorem dX3_lay_147 : decode cX3_lay 147 = .ok (.invokevirtual 76, 3) := by decide +kernel
theorem dX3_lay_150 : decode cX3_lay 150 = .ok (.iinc 2 1, 3) := by decide +kernel
theorem dX3_lay_153 : decode cX3_lay 153 = .ok (.goto (-38), 3) := by decide +kernel
theorem dX3_lay_156 : decode cX3_lay 156 = .ok (.return_, 1) := by decide +kernel
set_option maxRecDepth 20000 in
theorem ggX3_layAlone_X3_layRules : GoodIn wsX3_layAlone wsX3_layRules := goodIn_r _ [8, 9, 10, 11, 12, 13, 14, 15, 16, 3, 61, 62, 63, 64, 65, 66, 67, 68, 69, 70, 71] (by decide +kernel) (by decide +kernel)
set_option maxRecDepth 20000 in
theorem gX3_layAlone_X3_layRules : GoodIn wsX3_layAlone (wsV RX3 42 RX3 yX3_layRules wsX3_layRules) := goodIn_app (goodIn_of _ (by decide +kernel)) ggX3_layAlone_X3_layRules
set_option maxRecDepth 20000 in
theorem ggX3_layAlone_X2_lay : GoodIn wsX3_layAlone wsX2_lay := goodIn_r _ [21, 22, 23, 24, 25, 26, 27, 28, 29, 30, 31, 20, 32, 33, 34, 35, 36, 37, 38, 39, 40, 41, 42, 43, 44, 45, 46, 47, 72, 73, 74, 75, 76, 77, 78, 79, 80, 81, 82, 83, 84, 85, 86, 87, 88] (by decide +kernel) (by decide +kernel)
set_option maxRecDepth 20000 in
theorem gX3_layAlone_X2_lay : GoodIn wsX3_layAlone (wsV RX3 69 RX2 yX2_lay wsX2_lay) := goodIn_app (goodIn_of _ (by decide +kernel)) ggX3_layAlone_X2_lay
set_option maxRecDepth 20000 in
theorem ggX3_layAlone_X0_lay : GoodIn wsX3_layAlone wsX0_lay := goodIn_r _ [52, 53, 54, 55, 56, 57, 58, 59, 60, 89, 90, 91, 92, 93, 94, 95, 96] (by decide +kernel) (by decide +kernel)
set_option maxRecDepth 20000 in
theorem gX3_layAlone_X0_lay : GoodIn wsX3_layAlone (wsV RX3 76 RX0 yX0_lay wsX0_lay) := goodIn_app (goodIn_of _ (by decide +kernel)) ggX3_layAlone_X0_lay
theorem dX3_layAlone_0 : decode cX3_layAlone 0 = .ok (.aload_n 0, 1) := by decide +kernel
theorem dX3_layAlone_1 : decode cX3_layAlone 1 = .ok (.iconst 1, 1) := by decide +kernel
theorem dX3_layAlone_2 : decode cX3_layAlone 2 = .ok (.iconst 1, 1) := by decide +kernel
theorem dX3_layAlone_3 : decode cX3_layAlone 3 = .ok (.iconst 1, 1) := by decide +kernel
theorem dX3_layAlone_4 : decode cX3_layAlone 4 = .ok (.invokevirtual 42, 3) := by decide +kernel
theorem dX3_layAlone_7 : decode cX3_layAlone 7 = .ok (.aload_n 0, 1) := by decide +kernel
theorem dX3_layAlone_8 : decode cX3_layAlone 8 = .ok (.getfield 11, 3) := by decide +kernel
theorem dX3_layAlone_11 : decode cX3_layAlone 11 = .ok (.iconst 0, 1) := by decide +kernel
theorem dX3_layAlone_12 : decode cX3_layAlone 12 = .ok (.aaload, 1) := by decide +kernel
theorem dX3_layAlone_13 : decode cX3_layAlone 13 = .ok (.iload_n 1, 1) := by decide +kernel
theorem dX3_layAlone_14 : decode cX3_layAlone 14 = .ok (.bipush 30, 2) := by decide +kernel
theorem dX3_layAlone_16 : decode cX3_layAlone 16 = .ok (.iload_n 2, 1) := by decide +kernel
theorem dX3_layAlone_17 : decode cX3_layAlone 17 = .ok (.iload_n 3, 1) := by decide +kernel
theorem dX3_layAlone_18 : decode cX3_layAlone 18 = .ok (.invokevirtual 69, 3) := by decide +kernel
theorem dX3_layAlone_21 : decode cX3_layAlone 21 = .ok (.aload_n 0, 1) := by decide +kernel
theorem dX3_layAlone_22 : decode cX3_layAlone 22 = .ok (.getfield 19, 3) := by decide +kernel
theorem dX3_layAlone_25 : decode cX3_layAlone 25 = .ok (.iconst 0, 1) := by decide +kernel
theorem dX3_layAlone_26 : decode cX3_layAlone 26 = .ok (.aaload, 1) := by decide +kernel
theorem dX3_layAlone_27 : decode cX3_layAlone 27 = .ok (.iconst 0, 1) := by decide +kernel
theorem dX3_layAlone_28 : decode cX3_layAlone 28 = .ok (.iconst 0, 1) := by decide +kernel
theorem dX3_layAlone_29 : decode cX3_layAlone 29 = .ok (.iload 4, 2) := by decide +kernel
theorem dX3_layAlone_31 : decode cX3_layAlone 31 = .ok (.invokevirtual 76, 3) := by decide +kernel
theorem dX3_layAlone_34 : decode cX3_layAlone 34 = .ok (.aload_n 0, 1) := by decide +kernel
theorem dX3_layAlone_35 : decode cX3_layAlone 35 = .ok (.getfield 23, 3) := by decide +kernel
theorem dX3_layAlone_38 : decode cX3_layAlone 38 = .ok (.iconst 0, 1) := by decide +kernel
theorem dX3_layAlone_39 : decode cX3_layAlone 39 = .ok (.sipush 201, 3) := by decide +kernel
theorem dX3_layAlone_42 : decode cX3_layAlone 42 = .ok (.iastore, 1) := by decide +kernel
theorem dX3_layAlone_43 : decode cX3_layAlone 43 = .ok (.return_, 1) := by decide +kernel
theorem dX3_layRules_0 : decode cX3_layRules 0 = .ok (.aload_n 0, 1) := by decide +kernel
theorem dX3_layRules_1 : decode cX3_layRules 1 = .ok (.iload_n 1, 1) := by decide +kernel
theorem dX3_layRules_2 : decode cX3_layRules 2 = .ok (.putfield 53, 3) := by decide +kernel
theorem dX3_layRules_5 : decode cX3_layRules 5 = .ok (.aload_n 0, 1) := by decide +kernel
theorem dX3_layRules_6 : decode cX3_layRules 6 = .ok (.iload_n 2, 1) := by decide +kernel
theorem dX3_layRules_7 : decode cX3_layRules 7 = .ok (.putfield 62, 3) := by decide +kernel
theorem dX3_layRules_10 : decode cX3_layRules 10 = .ok (.aload_n 0, 1) := by decide +kernel
theorem dX3_layRules_11 : decode cX3_layRules 11 = .ok (.iload_n 3, 1) := by decide +kernel
theorem dX3_layRules_12 : decode cX3_layRules 12 = .ok (.putfield 59, 3) := by decide +kernel
theorem dX3_layRules_15 : decode cX3_layRules 15 = .ok (.aload_n 0, 1) := by decide +kernel
theorem dX3_layRules_16 : decode cX3_layRules 16 = .ok (.iconst 0, 1) := by decide +kernel
theorem dX3_layRules_17 : decode cX3_layRules 17 = .ok (.putfield 46, 3) := by decide +kernel
theorem dX3_layRules_20 : decode cX3_layRules 20 = .ok (.aload_n 0, 1) := by decide +kernel
theorem dX3_layRules_21 : decode cX3_layRules 21 = .ok (.iconst 0, 1) := by decide +kernel
theorem dX3_layRules_22 : decode cX3_layRules 22 = .ok (.putfield 50, 3) := by decide +kernel
theorem dX3_layRules_25 : decode cX3_layRules 25 = .ok (.aload_n 0, 1) := by decide +kernel
theorem dX3_layRules_26 : decode cX3_layRules 26 = .ok (.iconst 0, 1) := by decide +kernel
theorem dX3_layRules_27 : decode cX3_layRules 27 = .ok (.putfield 78, 3) := by decide +kernel
theorem dX3_layRules_30 : decode cX3_layRules 30 = .ok (.aload_n 0, 1) := by decide +kernel
theorem dX3_layRules_31 : decode cX3_layRules 31 = .ok (.iconst 0, 1) := by decide +kernel
theorem dX3_layRules_32 : decode cX3_layRules 32 = .ok (.putfield 81, 3) := by decide +kernel
theorem dX3_layRules_35 : decode cX3_layRules 35 = .ok (.aload_n 0, 1) := by decide +kernel
theorem dX3_layRules_36 : decode cX3_layRules 36 = .ok (.iconst 0, 1) := by decide +kernel
theorem dX3_layRules_37 : decode cX3_layRules 37 = .ok (.putfield 84, 3) := by decide +kernel
theorem dX3_layRules_40 : decode cX3_layRules 40 = .ok (.iconst 0, 1) := by decide +kernel
theorem dX3_layRules_41 : decode cX3_layRules 41 = .ok (.istore 4, 2) := by decide +kernel
theorem dX3_layRules_43 : decode cX3_layRules 43 = .ok (.iload 4, 2) := by decide +kernel
theorem dX3_layRules_45 : decode cX3_layRules 45 = .ok (.aload_n 0, 1) := by decide +kernel
theorem dX3_layRules_46 : decode cX3_layRules 46 = .ok (.getfield 23, 3) := by decide +kernel
theorem dX3_layRules_49 : decode cX3_layRules 49 = .ok (.arraylength, 1) := by decide +kernel
theorem dX3_layRules_50 : decode cX3_layRules 50 = .ok (.if_icmp .ge 17, 3) := by decide +kernel
theorem dX3_layRules_53 : decode cX3_layRules 53 = .ok (.aload_n 0, 1) := by decide +kernel
theorem dX3_layRules_54 : decode cX3_layRules 54 = .ok (.getfield 23, 3) := by decide +kernel
theorem dX3_layRules_57 : decode cX3_layRules 57 = .ok (.iload 4, 2) := by decide +kernel
theorem dX3_layRules_59 : decode cX3_layRules 59 = .ok (.iconst 0, 1) := by decide +kernel
theorem dX3_layRules_60 : decode cX3_layRules 60 = .ok (.iastore, 1) := by decide +kernel
theorem dX3_layRules_61 : decode cX3_layRules 61 = .ok (.iinc 4 1, 3) := by decide +kernel
theorem dX3_layRules_64 : decode cX3_layRules 64 = .ok (.goto (-21), 3) := by decide +kernel
theorem dX3_layRules_67 : decode cX3_layRules 67 = .ok (.return_, 1) := by decide +kernel
set_option maxRecDepth 20000 in
theorem ggX3_copy_X2_copy : GoodIn wsX3_copy wsX2_copy := goodIn_r _ [20, 21, 22, 23, 24, 25, 26, 27, 28, 13, 14, 15, 29, 30, 31, 32, 33, 34, 35, 36, 37, 38, 39, 40, 41, 42, 43, 68, 69, 70, 71, 72, 73, 74, 75, 76, 77, 78, 79, 80, 81, 82, 83, 84] (by decide +kernel) (by decide +kernel)
set_option maxRecDepth 20000 in
theorem gX3_copy_X2_copy : GoodIn wsX3_copy (wsV RX3 87 RX2 yX2_copy wsX2_copy) := goodIn_app (goodIn_of _ (by decide +kernel)) ggX3_copy_X2_copy
set_option maxRecDepth 20000 in
theorem ggX3_copy_X0_copy : GoodIn wsX3_copy wsX0_copy := goodIn_r _ [48, 49, 50, 51, 52, 53, 54, 55, 56, 85, 86, 87, 88, 89, 90, 91, 92] (by decide +kernel) (by decide +kernel)
set_option maxRecDepth 20000 in
theorem gX3_copy_X0_copy : GoodIn wsX3_copy (wsV RX3 91 RX0 yX0_copy wsX0_copy) := goodIn_app (goodIn_of _ (by decide +kernel)) ggX3_copy_X0_copy
theorem dX3_copy_0 : decode cX3_copy 0 = .ok (.aload_n 0, 1) := by decide +kernel
theorem dX3_copy_1 : decode cX3_copy 1 = .ok (.aload_n 1, 1) := by decide +kernel
theorem dX3_copy_2 : decode cX3_copy 2 = .ok (.getfield 53, 3) := by decide +kernel
theorem dX3_copy_5 : decode cX3_copy 5 = .ok (.putfield 53, 3) := by decide +kernel
theorem dX3_copy_8 : decode cX3_copy 8 = .ok (.aload_n 0, 1) := by decide +kernel
theorem dX3_copy_9 : decode cX3_copy 9 = .ok (.aload_n 1, 1) := by decide +kernel
theorem dX3_copy_10 : decode cX3_copy 10 = .ok (.getfield 62, 3) := by decide +kernel
theorem dX3_copy_13 : decode cX3_copy 13 = .ok (.putfield 62, 3) := by decide +kernel
theorem dX3_copy_16 : decode cX3_copy 16 = .ok (.aload_n 0, 1) := by decide +kernel
theorem dX3_copy_17 : decode cX3_copy 17 = .ok (.aload_n 1, 1) := by decide +kernel
theorem dX3_copy_18 : decode cX3_copy 18 = .ok (.getfield 59, 3) := by decide +kernel
theorem dX3_copy_21 : decode cX3_copy 21 = .ok (.putfield 59, 3) := by decide +kernel
theorem dX3_copy_24 : decode cX3_copy 24 = .ok (.aload_n 0, 1) := by decide +kernel
theorem dX3_copy_25 : decode cX3_copy 25 = .ok (.aload_n 1, 1) := by decide +kernel
theorem dX3_copy_26 : decode cX3_copy 26 = .ok (.getfield 46, 3) := by decide +kernel
theorem dX3_copy_29 : decode cX3_copy 29 = .ok (.putfield 46, 3) := by decide +kernel
theorem dX3_copy_32 : decode cX3_copy 32 = .ok (.aload_n 0, 1) := by decide +kernel
theorem dX3_copy_33 : decode cX3_copy 33 = .ok (.aload_n 1, 1) := by decide +kernel
theorem dX3_copy_34 : decode cX3_copy 34 = .ok (.getfield 50, 3) := by decide +kernel
theorem dX3_copy_37 : decode cX3_copy 37 = .ok (.putfield 50, 3) := by decide +kernel
theorem dX3_copy_40 : decode cX3_copy 40 = .ok (.aload_n 0, 1) := by decide +kernel
theorem dX3_copy_41 : decode cX3_copy 41 = .ok (.aload_n 1, 1) := by decide +kernel
theorem dX3_copy_42 : decode cX3_copy 42 = .ok (.getfield 78, 3) := by decide +kernel
theorem dX3_copy_45 : decode cX3_copy 45 = .ok (.putfield 78, 3) := by decide +kernel
theorem dX3_copy_48 : decode cX3_copy 48 = .ok (.aload_n 0, 1) := by decide +kernel
theorem dX3_copy_49 : decode cX3_copy 49 = .ok (.aload_n 1, 1) := by decide +kernel
theorem dX3_copy_50 : decode cX3_copy 50 = .ok (.getfield 81, 3) := by decide +kernel
theorem dX3_copy_53 : decode cX3_copy 53 = .ok (.putfield 81, 3) := by decide +kernel
theorem dX3_copy_56 : decode cX3_copy 56 = .ok (.aload_n 0, 1) := by decide +kernel
theorem dX3_copy_57 : decode cX3_copy 57 = .ok (.aload_n 1, 1) := by decide +kernel
theorem dX3_copy_58 : decode cX3_copy 58 = .ok (.getfield 84, 3) := by decide +kernel
theorem dX3_copy_61 : decode cX3_copy 61 = .ok (.putfield 84, 3) := by decide +kernel
theorem dX3_copy_64 : decode cX3_copy 64 = .ok (.iconst 0, 1) := by decide +kernel
theorem dX3_copy_65 : decode cX3_copy 65 = .ok (.istore_n 2, 1) := by decide +kernel
theorem dX3_copy_66 : decode cX3_copy 66 = .ok (.iload_n 2, 1) := by decide +kernel
theorem dX3_copy_67 : decode cX3_copy 67 = .ok (.aload_n 0, 1) := by decide +kernel
theorem dX3_copy_68 : decode cX3_copy 68 = .ok (.getfield 53, 3) := by decide +kernel
theorem dX3_copy_71 : decode cX3_copy 71 = .ok (.if_icmp .ge 24, 3) := by decide +kernel
theorem dX3_copy_74 : decode cX3_copy 74 = .ok (.aload_n 0, 1) := by decide +kernel
theorem dX3_copy_75 : decode cX3_copy 75 = .ok (.getfield 11, 3) := by decide +kernel
theorem dX3_copy_78 : decode cX3_copy 78 = .ok (.iload_n 2, 1) := by decide +kernel
theorem dX3_copy_79 : decode cX3_copy 79 = .ok (.aaload, 1) := by decide +kernel
theorem dX3_copy_80 : decode cX3_copy 80 = .ok (.aload_n 1, 1) := by decide +kernel
theorem dX3_copy_81 : decode cX3_copy 81 = .ok (.getfield 11, 3) := by decide +kernel
theorem dX3_copy_84 : decode cX3_copy 84 = .ok (.iload_n 2, 1) := by decide +kernel
theorem dX3_copy_85 : decode cX3_copy 85 = .ok (.aaload, 1) := by decide +kernel
theorem dX3_copy_86 : decode cX3_copy 86 = .ok (.invokevirtual 87, 3) := by decide +kernel
theorem dX3_copy_89 : decode cX3_copy 89 = .ok (.iinc 2 1, 3) := by decide +kernel
theorem dX3_copy_92 : decode cX3_copy 92 = .ok (.goto (-26), 3) := by decide +kernel
theorem dX3_copy_95 : decode cX3_copy 95 = .ok (.iconst 0, 1) := by decide +kernel
theorem dX3_copy_96 : decode cX3_copy 96 = .ok (.istore_n 2, 1) := by decide +kernel
theorem dX3_copy_97 : decode cX3_copy 97 = .ok (.iload_n 2, 1) := by decide +kernel
theorem dX3_copy_98 : decode cX3_copy 98 = .ok (.aload_n 0, 1) := by decide +kernel
theorem dX3_copy_99 : decode cX3_copy 99 = .ok (.getfield 62, 3) := by decide +kernel
theorem dX3_copy_102 : decode cX3_copy 102 = .ok (.if_icmp .ge 24, 3) := by decide +kernel
theorem dX3_copy_105 : decode cX3_copy 105 = .ok (.aload_n 0, 1) := by decide +kernel
theorem dX3_copy_106 : decode cX3_copy 106 = .ok (.getfield 19, 3) := by decide +kernel
theorem dX3_copy_109 : decode cX3_copy 109 = .ok (.iload_n 2, 1) := by decide +kernel
theorem dX3_copy_110 : decode cX3_copy 110 = .ok (.aaload, 1) := by decide +kernel
theorem dX3_copy_111 : decode cX3_copy 111 = .ok (.aload_n 1, 1) := by decide +kernel
theorem dX3_copy_112 : decode cX3_copy 112 = .ok (.getfield 19, 3) := by decide +kernel
theorem dX3_copy_115 : decode cX3_copy 115 = .ok (.iload_n 2, 1) := by decide +kernel
theorem dX3_copy_116 : decode cX3_copy 116 = .ok (.aaload, 1) := by decide +kernel
theorem dX3_copy_117 : decode cX3_copy 117 = .ok (.invokevirtual 91, 3) := by decide +kernel
theorem dX3_copy_120 : decode cX3_copy 120 = .ok (.iinc 2 1, 3) := by decide +kernel
theorem dX3_copy_123 : decode cX3_copy 123 = .ok (.goto (-26), 3) := by decide +kernel
theorem dX3_copy_126 : decode cX3_copy 126 = .ok (.aload_n 1, 1) := by decide +kernel
theorem dX3_copy_127 : decode cX3_copy 127 = .ok (.getfield 23, 3) := by decide +kernel
theorem dX3_copy_130 : decode cX3_copy 130 = .ok (.iconst 0, 1) := by decide +kernel
theorem dX3_copy_131 : decode cX3_copy 131 = .ok (.aload_n 0, 1) := by decide +kernel
theorem dX3_copy_132 : decode cX3_copy 132 = .ok (.getfield 23, 3) := by decide +kernel
theorem dX3_copy_135 : decode cX3_copy 135 = .ok (.iconst 0, 1) := by decide +kernel
theorem dX3_copy_136 : decode cX3_copy 136 = .ok (.aload_n 0, 1) := by decide +kernel
theorem dX3_copy_137 : decode cX3_copy 137 = .ok (.getfield 23, 3) := by decide +kernel
theorem dX3_copy_140 : decode cX3_copy 140 = .ok (.arraylength, 1) := by decide +kernel
theorem dX3_copy_141 : decode cX3_copy 141 = .ok (.invokestatic 94, 3) := by decide +kernel
theorem dX3_copy_144 : decode cX3_copy 144 = .ok (.return_, 1) := by decide +kernel
set_option maxRecDepth 20000 in
theorem ggX3_steps_X3_step : GoodIn wsX3_steps wsX3_step := goodIn_r _ [5, 6, 7, 8, 9, 10, 11, 12, 13, 4, 14, 15, 16, 17, 18, 19, 20, 21, 22, 23, 24, 25, 26, 27, 28, 29, 30, 31, 32, 33, 34, 35, 36, 37, 38, 39, 40, 41, 42, 43, 44, 45, 46, 47, 48, 49, 50, 51, 52, 53, 54, 55, 56, 57, 58, 59, 60, 61, 62, 63, 64, 65, 66, 67, 68, 69, 70, 71, 72, 73, 74, 75, 76, 77, 78, 79, 80, 81, 82, 83, 84, 85, 86, 87, 88, 89, 90, 91, 92, 93, 94, 95, 96, 97, 98, 99, 100, 101, 102, 103, 104, 105, 106, 107, 108, 109, 110, 111, 112, 113, 114, 115, 116, 117, 118, 119, 120, 121, 122, 123, 124, 125, 126, 127, 128, 129, 130, 131, 132, 133, 134, 135, 136, 137, 138, 139, 140, 141, 142, 143, 144, 145, 146, 147, 148, 149, 150, 151, 152, 153, 154, 155, 156, 157, 158, 159, 160, 161, 162, 163, 164, 165, 166, 167, 168, 169, 170, 171] (by decide +kernel) (by decide +kernel)
set_option maxRecDepth 20000 in
theorem gX3_steps_X3_step : GoodIn wsX3_steps (wsV RX3 100 RX3 yX3_step wsX3_step) := goodIn_app (goodIn_of _ (by decide +kernel)) ggX3_steps_X3_step
theorem dX3_steps_0 : decode cX3_steps 0 = .ok (.iconst 0, 1) := by decide +kernel
theorem dX3_steps_1 : decode cX3_steps 1 = .ok (.istore_n 2, 1) := by decide +kernel
theorem dX3_steps_2 : decode cX3_steps 2 = .ok (.iload_n 2, 1) := by decide +kernel
theorem dX3_steps_3 : decode cX3_steps 3 = .ok (.iload_n 1, 1) := by decide +kernel
theorem dX3_steps_4 : decode cX3_steps 4 = .ok (.if_icmp .ge 13, 3) := by decide +kernel
theorem dX3_steps_7 : decode cX3_steps 7 = .ok (.aload_n 0, 1) := by decide +kernel
theorem dX3_steps_8 : decode cX3_steps 8 = .ok (.invokevirtual 100, 3) := by decide +kernel
theorem dX3_steps_11 : decode cX3_steps 11 = .ok (.iinc 2 1, 3) := by decide +kernel
theorem dX3_steps_14 : decode cX3_steps 14 = .ok (.goto (-12), 3) := by decide +kernel
theorem dX3_steps_17 : decode cX3_steps 17 = .ok (.return_, 1) := by decide +kernel
set_option maxRecDepth 20000 in
theorem ggX3_step_X3_arriveOver : GoodIn wsX3_step wsX3_arriveOver := goodIn_r _ [10, 5, 4, 11, 12, 2, 13, 14, 15, 16, 17, 18, 19, 20, 21, 22, 23, 24, 25, 26, 27, 9, 28, 29, 30, 31, 32, 33, 34, 35, 36, 37, 38, 39, 40, 132, 133, 134, 135, 136, 137, 138, 139, 140, 141, 142, 143, 144, 145, 146, 147, 148, 149, 150, 151, 152, 153, 154, 155, 156, 157, 158, 159] (by decide +kernel) (by decide +kernel)
set_option maxRecDepth 20000 in
theorem gX3_step_X3_arriveOver : GoodIn wsX3_step (wsV RX3 103 RX3 yX3_arriveOver wsX3_arriveOver) := goodIn_app (goodIn_of _ (by decide +kernel)) ggX3_step_X3_arriveOver
set_option maxRecDepth 20000 in
theorem ggX3_step_X3_come : GoodIn wsX3_step wsX3_come := goodIn_r _ [44, 45, 46, 4, 47, 12, 48, 49, 50, 51, 52, 53, 54, 55, 132, 133, 134, 135, 136, 137, 138, 139, 140, 141, 142, 160, 161, 162, 163, 164, 165, 166, 167] (by decide +kernel) (by decide +kernel)
set_option maxRecDepth 20000 in
theorem gX3_step_X3_come : GoodIn wsX3_step (wsV RX3 107 RX3 yX3_come wsX3_come) := goodIn_app (goodIn_of _ (by decide +kernel)) ggX3_step_X3_come
set_option maxRecDepth 20000 in
theorem ggX3_step_X3_take : GoodIn wsX3_step wsX3_take := goodIn_r _ [59, 45, 1, 4, 12, 60, 61, 62, 63, 64, 52, 65, 66, 67, 68, 69, 9, 70, 5, 14, 32, 71, 72, 25, 26, 27, 28, 29, 30, 13, 31, 132, 133, 134, 135, 136, 137, 138, 139, 140, 141, 142, 160, 161, 162, 163, 164, 165, 166, 167, 143, 144, 145, 146, 147, 148, 149, 150, 151, 152, 153, 154, 155, 156, 157, 158, 159] (by decide +kernel) (by decide +kernel)
set_option maxRecDepth 20000 in
theorem gX3_step_X3_take : GoodIn wsX3_step (wsV RX3 110 RX3 yX3_take wsX3_take) := goodIn_app (goodIn_of _ (by decide +kernel)) ggX3_step_X3_take
set_option maxRecDepth 20000 in
theorem ggX3_step_X3_sendOver : GoodIn wsX3_step wsX3_sendOver := goodIn_r _ [76, 5, 77, 78, 11, 4, 31, 12, 14, 79, 80, 81, 82, 83, 9, 84, 2, 85, 86, 87, 88, 19, 89, 90, 21, 67, 68, 69, 70, 32, 71, 72, 25, 26, 27, 28, 29, 30, 13, 132, 133, 134, 135, 136, 137, 138, 139, 140, 141, 142, 143, 144, 145, 146, 147, 148, 149, 150, 151, 152, 153, 154, 155, 156, 157, 158, 159] (by decide +kernel) (by decide +kernel)
set_option maxRecDepth 20000 in
theorem gX3_step_X3_sendOver : GoodIn wsX3_step (wsV RX3 113 RX3 yX3_sendOver wsX3_sendOver) := goodIn_app (goodIn_of _ (by decide +kernel)) ggX3_step_X3_sendOver
set_option maxRecDepth 20000 in
theorem ggX3_step_X3_waitAt : GoodIn wsX3_step wsX3_waitAt := goodIn_r _ [94, 2, 5, 14, 95, 96, 97, 98, 99, 9, 100, 12, 85, 86, 87, 88, 19, 89, 90, 21, 101, 102, 103, 104, 15, 4, 31, 105, 132, 133, 134, 135, 136, 137, 138, 139, 140, 141, 142, 143, 144, 145, 146, 147, 148, 149, 150, 151, 152, 153, 154, 155, 156, 157, 158, 159] (by decide +kernel) (by decide +kernel)
set_option maxRecDepth 20000 in
theorem gX3_step_X3_waitAt : GoodIn wsX3_step (wsV RX3 116 RX3 yX3_waitAt wsX3_waitAt) := goodIn_app (goodIn_of _ (by decide +kernel)) ggX3_step_X3_waitAt
set_option maxRecDepth 20000 in
theorem ggX3_step_X3_adapt : GoodIn wsX3_step wsX3_adapt := goodIn_r _ [109, 2, 14, 85, 110, 111, 112, 113, 114, 115, 116, 80, 117, 118, 119, 9, 120, 121, 122, 123, 124, 125, 36, 126, 127, 128, 129, 130, 131, 87, 88, 19, 89, 90, 21, 132, 133, 134, 135, 136, 137, 138, 139, 140, 141, 142, 143, 144, 145, 146, 147, 148, 149, 150, 151, 152, 153, 154, 155, 156, 157, 158, 159] (by decide +kernel) (by decide +kernel)
set_option maxRecDepth 20000 in
theorem gX3_step_X3_adapt : GoodIn wsX3_step (wsV RX3 119 RX3 yX3_adapt wsX3_adapt) := goodIn_app (goodIn_of _ (by decide +kernel)) ggX3_step_X3_adapt
theorem dX3_step_0 : decode cX3_step 0 = .ok (.iconst 0, 1) := by decide +kernel
theorem dX3_step_1 : decode cX3_step 1 = .ok (.istore_n 1, 1) := by decide +kernel
theorem dX3_step_2 : decode cX3_step 2 = .ok (.iload_n 1, 1) := by decide +kernel
theorem dX3_step_3 : decode cX3_step 3 = .ok (.aload_n 0, 1) := by decide +kernel
theorem dX3_step_4 : decode cX3_step 4 = .ok (.getfield 53, 3) := by decide +kernel
theorem dX3_step_7 : decode cX3_step 7 = .ok (.if_icmp .ge 14, 3) := by decide +kernel
theorem dX3_step_10 : decode cX3_step 10 = .ok (.aload_n 0, 1) := by decide +kernel
theorem dX3_step_11 : decode cX3_step 11 = .ok (.iload_n 1, 1) := by decide +kernel
theorem dX3_step_12 : decode cX3_step 12 = .ok (.invokevirtual 103, 3) := by decide +kernel
theorem dX3_step_15 : decode cX3_step 15 = .ok (.iinc 1 1, 3) := by decide +kernel
theorem dX3_step_18 : decode cX3_step 18 = .ok (.goto (-16), 3) := by decide +kernel
theorem dX3_step_21 : decode cX3_step 21 = .ok (.iconst 0, 1) := by decide +kernel
theorem dX3_step_22 : decode cX3_step 22 = .ok (.istore_n 1, 1) := by decide +kernel
theorem dX3_step_23 : decode cX3_step 23 = .ok (.iload_n 1, 1) := by decide +kernel
theorem dX3_step_24 : decode cX3_step 24 = .ok (.aload_n 0, 1) := by decide +kernel
theorem dX3_step_25 : decode cX3_step 25 = .ok (.getfield 62, 3) := by decide +kernel
theorem dX3_step_28 : decode cX3_step 28 = .ok (.if_icmp .ge 14, 3) := by decide +kernel
theorem dX3_step_31 : decode cX3_step 31 = .ok (.aload_n 0, 1) := by decide +kernel
theorem dX3_step_32 : decode cX3_step 32 = .ok (.iload_n 1, 1) := by decide +kernel
theorem dX3_step_33 : decode cX3_step 33 = .ok (.invokevirtual 107, 3) := by decide +kernel
theorem dX3_step_36 : decode cX3_step 36 = .ok (.iinc 1 1, 3) := by decide +kernel
theorem dX3_step_39 : decode cX3_step 39 = .ok (.goto (-16), 3) := by decide +kernel
theorem dX3_step_42 : decode cX3_step 42 = .ok (.iconst 0, 1) := by decide +kernel
theorem dX3_step_43 : decode cX3_step 43 = .ok (.istore_n 1, 1) := by decide +kernel
theorem dX3_step_44 : decode cX3_step 44 = .ok (.iload_n 1, 1) := by decide +kernel
theorem dX3_step_45 : decode cX3_step 45 = .ok (.aload_n 0, 1) := by decide +kernel
theorem dX3_step_46 : decode cX3_step 46 = .ok (.getfield 62, 3) := by decide +kernel
theorem dX3_step_49 : decode cX3_step 49 = .ok (.if_icmp .ge 14, 3) := by decide +kernel
theorem dX3_step_52 : decode cX3_step 52 = .ok (.aload_n 0, 1) := by decide +kernel
theorem dX3_step_53 : decode cX3_step 53 = .ok (.iload_n 1, 1) := by decide +kernel
theorem dX3_step_54 : decode cX3_step 54 = .ok (.invokevirtual 110, 3) := by decide +kernel
theorem dX3_step_57 : decode cX3_step 57 = .ok (.iinc 1 1, 3) := by decide +kernel
theorem dX3_step_60 : decode cX3_step 60 = .ok (.goto (-16), 3) := by decide +kernel
theorem dX3_step_63 : decode cX3_step 63 = .ok (.aload_n 0, 1) := by decide +kernel
theorem dX3_step_64 : decode cX3_step 64 = .ok (.getfield 53, 3) := by decide +kernel
theorem dX3_step_67 : decode cX3_step 67 = .ok (.iconst 1, 1) := by decide +kernel
theorem dX3_step_68 : decode cX3_step 68 = .ok (.isub, 1) := by decide +kernel
theorem dX3_step_69 : decode cX3_step 69 = .ok (.istore_n 1, 1) := by decide +kernel
theorem dX3_step_70 : decode cX3_step 70 = .ok (.iload_n 1, 1) := by decide +kernel
theorem dX3_step_71 : decode cX3_step 71 = .ok (.ifCond .lt 19, 3) := by decide +kernel
theorem dX3_step_74 : decode cX3_step 74 = .ok (.aload_n 0, 1) := by decide +kernel
theorem dX3_step_75 : decode cX3_step 75 = .ok (.iload_n 1, 1) := by decide +kernel
theorem dX3_step_76 : decode cX3_step 76 = .ok (.invokevirtual 113, 3) := by decide +kernel
theorem dX3_step_79 : decode cX3_step 79 = .ok (.aload_n 0, 1) := by decide +kernel
theorem dX3_step_80 : decode cX3_step 80 = .ok (.iload_n 1, 1) := by decide +kernel
theorem dX3_step_81 : decode cX3_step 81 = .ok (.invokevirtual 116, 3) := by decide +kernel
theorem dX3_step_84 : decode cX3_step 84 = .ok (.iinc 1 (-1), 3) := by decide +kernel
theorem dX3_step_87 : decode cX3_step 87 = .ok (.goto (-17), 3) := by decide +kernel
theorem dX3_step_90 : decode cX3_step 90 = .ok (.aload_n 0, 1) := by decide +kernel
theorem dX3_step_91 : decode cX3_step 91 = .ok (.getfield 46, 3) := by decide +kernel
theorem dX3_step_94 : decode cX3_step 94 = .ok (.ifCond .le 43, 3) := by decide +kernel
theorem dX3_step_97 : decode cX3_step 97 = .ok (.aload_n 0, 1) := by decide +kernel
theorem dX3_step_98 : decode cX3_step 98 = .ok (.getfield 78, 3) := by decide +kernel
theorem dX3_step_101 : decode cX3_step 101 = .ok (.iconst 1, 1) := by decide +kernel
theorem dX3_step_102 : decode cX3_step 102 = .ok (.iadd, 1) := by decide +kernel
theorem dX3_step_103 : decode cX3_step 103 = .ok (.aload_n 0, 1) := by decide +kernel
theorem dX3_step_104 : decode cX3_step 104 = .ok (.getfield 46, 3) := by decide +kernel
theorem dX3_step_107 : decode cX3_step 107 = .ok (.irem, 1) := by decide +kernel
theorem dX3_step_108 : decode cX3_step 108 = .ok (.ifCond .ne 29, 3) := by decide +kernel
theorem dX3_step_111 : decode cX3_step 111 = .ok (.iconst 0, 1) := by decide +kernel
theorem dX3_step_112 : decode cX3_step 112 = .ok (.istore_n 1, 1) := by decide +kernel
theorem dX3_step_113 : decode cX3_step 113 = .ok (.iload_n 1, 1) := by decide +kernel
theorem dX3_step_114 : decode cX3_step 114 = .ok (.aload_n 0, 1) := by decide +kernel
theorem dX3_step_115 : decode cX3_step 115 = .ok (.getfield 53, 3) := by decide +kernel
theorem dX3_step_118 : decode cX3_step 118 = .ok (.if_icmp .ge 19, 3) := by decide +kernel
theorem dX3_step_121 : decode cX3_step 121 = .ok (.aload_n 0, 1) := by decide +kernel
theorem dX3_step_122 : decode cX3_step 122 = .ok (.aload_n 0, 1) := by decide +kernel
theorem dX3_step_123 : decode cX3_step 123 = .ok (.getfield 11, 3) := by decide +kernel
theorem dX3_step_126 : decode cX3_step 126 = .ok (.iload_n 1, 1) := by decide +kernel
theorem dX3_step_127 : decode cX3_step 127 = .ok (.aaload, 1) := by decide +kernel
theorem dX3_step_128 : decode cX3_step 128 = .ok (.invokevirtual 119, 3) := by decide +kernel
theorem dX3_step_131 : decode cX3_step 131 = .ok (.iinc 1 1, 3) := by decide +kernel
theorem dX3_step_134 : decode cX3_step 134 = .ok (.goto (-21), 3) := by decide +kernel
theorem dX3_step_137 : decode cX3_step 137 = .ok (.aload_n 0, 1) := by decide +kernel
theorem dX3_step_138 : decode cX3_step 138 = .ok (.dup, 1) := by decide +kernel
theorem dX3_step_139 : decode cX3_step 139 = .ok (.getfield 78, 3) := by decide +kernel
theorem dX3_step_142 : decode cX3_step 142 = .ok (.iconst 1, 1) := by decide +kernel
theorem dX3_step_143 : decode cX3_step 143 = .ok (.iadd, 1) := by decide +kernel
theorem dX3_step_144 : decode cX3_step 144 = .ok (.putfield 78, 3) := by decide +kernel
theorem dX3_step_147 : decode cX3_step 147 = .ok (.return_, 1) := by decide +kernel
set_option maxRecDepth 20000 in
theorem ggX3_restingStep_X3_arriveOver : GoodIn wsX3_restingStep wsX3_arriveOver := goodIn_r _ [7, 8, 2, 9, 10, 11, 12, 13, 14, 15, 16, 17, 18, 19, 20, 21, 22, 23, 24, 25, 26, 6, 27, 28, 29, 30, 31, 32, 33, 34, 35, 36, 37, 38, 39, 61, 62, 63, 64, 65, 66, 67, 68, 69, 70, 71, 72, 73, 74, 75, 76, 77, 78, 79, 80, 81, 82, 83, 84, 85, 86, 87, 88] (by decide +kernel) (by decide +kernel)
set_option maxRecDepth 20000 in
theorem gX3_restingStep_X3_arriveOver : GoodIn wsX3_restingStep (wsV RX3 103 RX3 yX3_arriveOver wsX3_arriveOver) := goodIn_app (goodIn_of _ (by decide +kernel)) ggX3_restingStep_X3_arriveOver
set_option maxRecDepth 20000 in
theorem ggX3_restingStep_X3_waitAt : GoodIn wsX3_restingStep wsX3_waitAt := goodIn_r _ [43, 11, 8, 13, 44, 45, 46, 47, 48, 6, 49, 10, 50, 51, 52, 53, 18, 54, 55, 20, 56, 57, 58, 59, 14, 2, 30, 60, 61, 62, 63, 64, 65, 66, 67, 68, 69, 70, 71, 72, 73, 74, 75, 76, 77, 78, 79, 80, 81, 82, 83, 84, 85, 86, 87, 88] (by decide +kernel) (by decide +kernel)
set_option maxRecDepth 20000 in
theorem gX3_restingStep_X3_waitAt : GoodIn wsX3_restingStep (wsV RX3 116 RX3 yX3_waitAt wsX3_waitAt) := goodIn_app (goodIn_of _ (by decide +kernel)) ggX3_restingStep_X3_waitAt
theorem dX3_restingStep_0 : decode cX3_restingStep 0 = .ok (.iconst 0, 1) := by decide +kernel
theorem dX3_restingStep_1 : decode cX3_restingStep 1 = .ok (.istore_n 1, 1) := by decide +kernel
theorem dX3_restingStep_2 : decode cX3_restingStep 2 = .ok (.iload_n 1, 1) := by decide +kernel
theorem dX3_restingStep_3 : decode cX3_restingStep 3 = .ok (.aload_n 0, 1) := by decide +kernel
theorem dX3_restingStep_4 : decode cX3_restingStep 4 = .ok (.getfield 53, 3) := by decide +kernel
theorem dX3_restingStep_7 : decode cX3_restingStep 7 = .ok (.if_icmp .ge 14, 3) := by decide +kernel
theorem dX3_restingStep_10 : decode cX3_restingStep 10 = .ok (.aload_n 0, 1) := by decide +kernel
theorem dX3_restingStep_11 : decode cX3_restingStep 11 = .ok (.iload_n 1, 1) := by decide +kernel
theorem dX3_restingStep_12 : decode cX3_restingStep 12 = .ok (.invokevirtual 103, 3) := by decide +kernel
theorem dX3_restingStep_15 : decode cX3_restingStep 15 = .ok (.iinc 1 1, 3) := by decide +kernel
theorem dX3_restingStep_18 : decode cX3_restingStep 18 = .ok (.goto (-16), 3) := by decide +kernel
theorem dX3_restingStep_21 : decode cX3_restingStep 21 = .ok (.aload_n 0, 1) := by decide +kernel
theorem dX3_restingStep_22 : decode cX3_restingStep 22 = .ok (.getfield 53, 3) := by decide +kernel
theorem dX3_restingStep_25 : decode cX3_restingStep 25 = .ok (.iconst 1, 1) := by decide +kernel
theorem dX3_restingStep_26 : decode cX3_restingStep 26 = .ok (.isub, 1) := by decide +kernel
theorem dX3_restingStep_27 : decode cX3_restingStep 27 = .ok (.istore_n 1, 1) := by decide +kernel
theorem dX3_restingStep_28 : decode cX3_restingStep 28 = .ok (.iload_n 1, 1) := by decide +kernel
theorem dX3_restingStep_29 : decode cX3_restingStep 29 = .ok (.ifCond .lt 14, 3) := by decide +kernel
theorem dX3_restingStep_32 : decode cX3_restingStep 32 = .ok (.aload_n 0, 1) := by decide +kernel
theorem dX3_restingStep_33 : decode cX3_restingStep 33 = .ok (.iload_n 1, 1) := by decide +kernel
theorem dX3_restingStep_34 : decode cX3_restingStep 34 = .ok (.invokevirtual 116, 3) := by decide +kernel
theorem dX3_restingStep_37 : decode cX3_restingStep 37 = .ok (.iinc 1 (-1), 3) := by decide +kernel
theorem dX3_restingStep_40 : decode cX3_restingStep 40 = .ok (.goto (-12), 3) := by decide +kernel
theorem dX3_restingStep_43 : decode cX3_restingStep 43 = .ok (.aload_n 0, 1) := by decide +kernel
theorem dX3_restingStep_44 : decode cX3_restingStep 44 = .ok (.dup, 1) := by decide +kernel
theorem dX3_restingStep_45 : decode cX3_restingStep 45 = .ok (.getfield 78, 3) := by decide +kernel
theorem dX3_restingStep_48 : decode cX3_restingStep 48 = .ok (.iconst 1, 1) := by decide +kernel
theorem dX3_restingStep_49 : decode cX3_restingStep 49 = .ok (.iadd, 1) := by decide +kernel
theorem dX3_restingStep_50 : decode cX3_restingStep 50 = .ok (.putfield 78, 3) := by decide +kernel
theorem dX3_restingStep_53 : decode cX3_restingStep 53 = .ok (.return_, 1) := by decide +kernel
set_option maxRecDepth 20000 in
theorem ggX3_arriveOver_X1_hear : GoodIn wsX3_arriveOver wsX1_hear := goodIn_r _ [13, 14, 15, 16, 17, 56, 57, 58, 59, 60, 61, 62] (by decide +kernel) (by decide +kernel)
set_option maxRecDepth 20000 in
theorem gX3_arriveOver_X1_hear : GoodIn wsX3_arriveOver (wsV RX3 132 RX1 yX1_hear wsX1_hear) := goodIn_app (goodIn_of _ (by decide +kernel)) ggX3_arriveOver_X1_hear
set_option maxRecDepth 20000 in
theorem ggX3_arriveOver_X3_sendUpdate : GoodIn wsX3_arriveOver wsX3_sendUpdate := goodIn_r _ [22, 23, 24, 6, 2, 25, 7, 26, 46, 47, 48, 49, 50, 51, 52, 53, 54, 55, 35, 36, 37, 38, 39, 40, 41, 42, 43, 44, 45, 56, 57, 58, 59, 60, 61, 62] (by decide +kernel) (by decide +kernel)
set_option maxRecDepth 20000 in
theorem gX3_arriveOver_X3_sendUpdate : GoodIn wsX3_arriveOver (wsV RX3 140 RX3 yX3_sendUpdate wsX3_sendUpdate) := goodIn_app (goodIn_of _ (by decide +kernel)) ggX3_arriveOver_X3_sendUpdate
set_option maxRecDepth 20000 in
theorem ggX3_arriveOver_X2_clearSlot : GoodIn wsX3_arriveOver wsX2_clearSlot := goodIn_r _ [31, 32, 33, 34, 46, 47, 48, 49, 50, 51, 52, 53, 54, 55] (by decide +kernel) (by decide +kernel)
set_option maxRecDepth 20000 in
theorem gX3_arriveOver_X2_clearSlot : GoodIn wsX3_arriveOver (wsV RX3 144 RX2 yX2_clearSlot wsX2_clearSlot) := goodIn_app (goodIn_of _ (by decide +kernel)) ggX3_arriveOver_X2_clearSlot
theorem dX3_arriveOver_0 : decode cX3_arriveOver 0 = .ok (.aload_n 0, 1) := by decide +kernel
theorem dX3_arriveOver_1 : decode cX3_arriveOver 1 = .ok (.getfield 11, 3) := by decide +kernel
theorem dX3_arriveOver_4 : decode cX3_arriveOver 4 = .ok (.iload_n 1, 1) := by decide +kernel
theorem dX3_arriveOver_5 : decode cX3_arriveOver 5 = .ok (.aaload, 1) := by decide +kernel
theorem dX3_arriveOver_6 : decode cX3_arriveOver 6 = .ok (.astore_n 2, 1) := by decide +kernel
theorem dX3_arriveOver_7 : decode cX3_arriveOver 7 = .ok (.aload_n 0, 1) := by decide +kernel
theorem dX3_arriveOver_8 : decode cX3_arriveOver 8 = .ok (.getfield 78, 3) := by decide +kernel
theorem dX3_arriveOver_11 : decode cX3_arriveOver 11 = .ok (.iconst 5, 1) := by decide +kernel
theorem dX3_arriveOver_12 : decode cX3_arriveOver 12 = .ok (.irem, 1) := by decide +kernel
theorem dX3_arriveOver_13 : decode cX3_arriveOver 13 = .ok (.istore_n 3, 1) := by decide +kernel
theorem dX3_arriveOver_14 : decode cX3_arriveOver 14 = .ok (.aload_n 2, 1) := by decide +kernel
theorem dX3_arriveOver_15 : decode cX3_arriveOver 15 = .ok (.getfield 122, 3) := by decide +kernel
theorem dX3_arriveOver_18 : decode cX3_arriveOver 18 = .ok (.iload_n 3, 1) := by decide +kernel
theorem dX3_arriveOver_19 : decode cX3_arriveOver 19 = .ok (.iaload, 1) := by decide +kernel
theorem dX3_arriveOver_20 : decode cX3_arriveOver 20 = .ok (.istore 4, 2) := by decide +kernel
theorem dX3_arriveOver_22 : decode cX3_arriveOver 22 = .ok (.iload 4, 2) := by decide +kernel
theorem dX3_arriveOver_24 : decode cX3_arriveOver 24 = .ok (.iconst (-1), 1) := by decide +kernel
theorem dX3_arriveOver_25 : decode cX3_arriveOver 25 = .ok (.if_icmp .eq 20, 3) := by decide +kernel
theorem dX3_arriveOver_28 : decode cX3_arriveOver 28 = .ok (.aload_n 0, 1) := by decide +kernel
theorem dX3_arriveOver_29 : decode cX3_arriveOver 29 = .ok (.getfield 23, 3) := by decide +kernel
theorem dX3_arriveOver_32 : decode cX3_arriveOver 32 = .ok (.iload_n 1, 1) := by decide +kernel
theorem dX3_arriveOver_33 : decode cX3_arriveOver 33 = .ok (.iconst 1, 1) := by decide +kernel
theorem dX3_arriveOver_34 : decode cX3_arriveOver 34 = .ok (.iadd, 1) := by decide +kernel
theorem dX3_arriveOver_35 : decode cX3_arriveOver 35 = .ok (.iconst 3, 1) := by decide +kernel
theorem dX3_arriveOver_36 : decode cX3_arriveOver 36 = .ok (.imul, 1) := by decide +kernel
theorem dX3_arriveOver_37 : decode cX3_arriveOver 37 = .ok (.iload 4, 2) := by decide +kernel
theorem dX3_arriveOver_39 : decode cX3_arriveOver 39 = .ok (.iadd, 1) := by decide +kernel
theorem dX3_arriveOver_40 : decode cX3_arriveOver 40 = .ok (.dup2, 1) := by decide +kernel
theorem dX3_arriveOver_41 : decode cX3_arriveOver 41 = .ok (.iaload, 1) := by decide +kernel
theorem dX3_arriveOver_42 : decode cX3_arriveOver 42 = .ok (.iconst 1, 1) := by decide +kernel
theorem dX3_arriveOver_43 : decode cX3_arriveOver 43 = .ok (.iadd, 1) := by decide +kernel
theorem dX3_arriveOver_44 : decode cX3_arriveOver 44 = .ok (.iastore, 1) := by decide +kernel
theorem dX3_arriveOver_45 : decode cX3_arriveOver 45 = .ok (.iconst 0, 1) := by decide +kernel
theorem dX3_arriveOver_46 : decode cX3_arriveOver 46 = .ok (.istore 5, 2) := by decide +kernel
theorem dX3_arriveOver_48 : decode cX3_arriveOver 48 = .ok (.iload 5, 2) := by decide +kernel
theorem dX3_arriveOver_50 : decode cX3_arriveOver 50 = .ok (.aload_n 0, 1) := by decide +kernel
theorem dX3_arriveOver_51 : decode cX3_arriveOver 51 = .ok (.getfield 62, 3) := by decide +kernel
theorem dX3_arriveOver_54 : decode cX3_arriveOver 54 = .ok (.if_icmp .ge 76, 3) := by decide +kernel
theorem dX3_arriveOver_57 : decode cX3_arriveOver 57 = .ok (.aload_n 2, 1) := by decide +kernel
theorem dX3_arriveOver_58 : decode cX3_arriveOver 58 = .ok (.getfield 125, 3) := by decide +kernel
theorem dX3_arriveOver_61 : decode cX3_arriveOver 61 = .ok (.iload_n 3, 1) := by decide +kernel
theorem dX3_arriveOver_62 : decode cX3_arriveOver 62 = .ok (.iconst 3, 1) := by decide +kernel
theorem dX3_arriveOver_63 : decode cX3_arriveOver 63 = .ok (.imul, 1) := by decide +kernel
theorem dX3_arriveOver_64 : decode cX3_arriveOver 64 = .ok (.iload 5, 2) := by decide +kernel
theorem dX3_arriveOver_66 : decode cX3_arriveOver 66 = .ok (.iadd, 1) := by decide +kernel
theorem dX3_arriveOver_67 : decode cX3_arriveOver 67 = .ok (.iaload, 1) := by decide +kernel
theorem dX3_arriveOver_68 : decode cX3_arriveOver 68 = .ok (.istore 6, 2) := by decide +kernel
theorem dX3_arriveOver_70 : decode cX3_arriveOver 70 = .ok (.iload 6, 2) := by decide +kernel
theorem dX3_arriveOver_72 : decode cX3_arriveOver 72 = .ok (.iconst (-1), 1) := by decide +kernel
theorem dX3_arriveOver_73 : decode cX3_arriveOver 73 = .ok (.if_icmp .eq 15, 3) := by decide +kernel
theorem dX3_arriveOver_76 : decode cX3_arriveOver 76 = .ok (.aload_n 2, 1) := by decide +kernel
theorem dX3_arriveOver_77 : decode cX3_arriveOver 77 = .ok (.getfield 128, 3) := by decide +kernel
theorem dX3_arriveOver_80 : decode cX3_arriveOver 80 = .ok (.iload 5, 2) := by decide +kernel
theorem dX3_arriveOver_82 : decode cX3_arriveOver 82 = .ok (.aaload, 1) := by decide +kernel
theorem dX3_arriveOver_83 : decode cX3_arriveOver 83 = .ok (.iload 6, 2) := by decide +kernel
theorem dX3_arriveOver_85 : decode cX3_arriveOver 85 = .ok (.invokevirtual 132, 3) := by decide +kernel
theorem dX3_arriveOver_88 : decode cX3_arriveOver 88 = .ok (.aload_n 2, 1) := by decide +kernel
theorem dX3_arriveOver_89 : decode cX3_arriveOver 89 = .ok (.getfield 137, 3) := by decide +kernel
theorem dX3_arriveOver_92 : decode cX3_arriveOver 92 = .ok (.iload_n 3, 1) := by decide +kernel
theorem dX3_arriveOver_93 : decode cX3_arriveOver 93 = .ok (.iconst 3, 1) := by decide +kernel
theorem dX3_arriveOver_94 : decode cX3_arriveOver 94 = .ok (.imul, 1) := by decide +kernel
theorem dX3_arriveOver_95 : decode cX3_arriveOver 95 = .ok (.iload 5, 2) := by decide +kernel
theorem dX3_arriveOver_97 : decode cX3_arriveOver 97 = .ok (.iadd, 1) := by decide +kernel
theorem dX3_arriveOver_98 : decode cX3_arriveOver 98 = .ok (.iaload, 1) := by decide +kernel
theorem dX3_arriveOver_99 : decode cX3_arriveOver 99 = .ok (.istore 7, 2) := by decide +kernel
theorem dX3_arriveOver_101 : decode cX3_arriveOver 101 = .ok (.iconst 0, 1) := by decide +kernel
theorem dX3_arriveOver_102 : decode cX3_arriveOver 102 = .ok (.istore 8, 2) := by decide +kernel
theorem dX3_arriveOver_104 : decode cX3_arriveOver 104 = .ok (.iload 8, 2) := by decide +kernel
theorem dX3_arriveOver_106 : decode cX3_arriveOver 106 = .ok (.iload 7, 2) := by decide +kernel
theorem dX3_arriveOver_108 : decode cX3_arriveOver 108 = .ok (.if_icmp .ge 16, 3) := by decide +kernel
theorem dX3_arriveOver_111 : decode cX3_arriveOver 111 = .ok (.aload_n 0, 1) := by decide +kernel
theorem dX3_arriveOver_112 : decode cX3_arriveOver 112 = .ok (.aload_n 2, 1) := by decide +kernel
theorem dX3_arriveOver_113 : decode cX3_arriveOver 113 = .ok (.iload 5, 2) := by decide +kernel
theorem dX3_arriveOver_115 : decode cX3_arriveOver 115 = .ok (.invokevirtual 140, 3) := by decide +kernel
theorem dX3_arriveOver_118 : decode cX3_arriveOver 118 = .ok (.iinc 8 1, 3) := by decide +kernel
theorem dX3_arriveOver_121 : decode cX3_arriveOver 121 = .ok (.goto (-17), 3) := by decide +kernel
theorem dX3_arriveOver_124 : decode cX3_arriveOver 124 = .ok (.iinc 5 1, 3) := by decide +kernel
theorem dX3_arriveOver_127 : decode cX3_arriveOver 127 = .ok (.goto (-79), 3) := by decide +kernel
theorem dX3_arriveOver_130 : decode cX3_arriveOver 130 = .ok (.aload_n 2, 1) := by decide +kernel
theorem dX3_arriveOver_131 : decode cX3_arriveOver 131 = .ok (.iload_n 3, 1) := by decide +kernel
theorem dX3_arriveOver_132 : decode cX3_arriveOver 132 = .ok (.invokevirtual 144, 3) := by decide +kernel
theorem dX3_arriveOver_135 : decode cX3_arriveOver 135 = .ok (.return_, 1) := by decide +kernel
set_option maxRecDepth 20000 in
theorem ggX3_come_X0_comesIn : GoodIn wsX3_come wsX0_comesIn := goodIn_r _ [11, 12, 13, 25, 26, 27, 28, 29, 30, 31, 32] (by decide +kernel) (by decide +kernel)
set_option maxRecDepth 20000 in
theorem gX3_come_X0_comesIn : GoodIn wsX3_come (wsV RX3 151 RX0 yX0_comesIn wsX0_comesIn) := goodIn_app (goodIn_of _ (by decide +kernel)) ggX3_come_X0_comesIn
theorem dX3_come_0 : decode cX3_come 0 = .ok (.aload_n 0, 1) := by decide +kernel
theorem dX3_come_1 : decode cX3_come 1 = .ok (.getfield 19, 3) := by decide +kernel
theorem dX3_come_4 : decode cX3_come 4 = .ok (.iload_n 1, 1) := by decide +kernel
theorem dX3_come_5 : decode cX3_come 5 = .ok (.aaload, 1) := by decide +kernel
theorem dX3_come_6 : decode cX3_come 6 = .ok (.astore_n 2, 1) := by decide +kernel
theorem dX3_come_7 : decode cX3_come 7 = .ok (.aload_n 2, 1) := by decide +kernel
theorem dX3_come_8 : decode cX3_come 8 = .ok (.iconst 0, 1) := by decide +kernel
theorem dX3_come_9 : decode cX3_come 9 = .ok (.putfield 147, 3) := by decide +kernel
theorem dX3_come_12 : decode cX3_come 12 = .ok (.aload_n 2, 1) := by decide +kernel
theorem dX3_come_13 : decode cX3_come 13 = .ok (.aload_n 0, 1) := by decide +kernel
theorem dX3_come_14 : decode cX3_come 14 = .ok (.getfield 78, 3) := by decide +kernel
theorem dX3_come_17 : decode cX3_come 17 = .ok (.invokevirtual 151, 3) := by decide +kernel
theorem dX3_come_20 : decode cX3_come 20 = .ok (.ifCond .ne 4, 3) := by decide +kernel
theorem dX3_come_23 : decode cX3_come 23 = .ok (.return_, 1) := by decide +kernel
theorem dX3_come_24 : decode cX3_come 24 = .ok (.aload_n 2, 1) := by decide +kernel
theorem dX3_come_25 : decode cX3_come 25 = .ok (.dup, 1) := by decide +kernel
theorem dX3_come_26 : decode cX3_come 26 = .ok (.getfield 155, 3) := by decide +kernel
theorem dX3_come_29 : decode cX3_come 29 = .ok (.iconst 1, 1) := by decide +kernel
theorem dX3_come_30 : decode cX3_come 30 = .ok (.iadd, 1) := by decide +kernel
theorem dX3_come_31 : decode cX3_come 31 = .ok (.putfield 155, 3) := by decide +kernel
theorem dX3_come_34 : decode cX3_come 34 = .ok (.aload_n 0, 1) := by decide +kernel
theorem dX3_come_35 : decode cX3_come 35 = .ok (.getfield 23, 3) := by decide +kernel
theorem dX3_come_38 : decode cX3_come 38 = .ok (.iload_n 1, 1) := by decide +kernel
theorem dX3_come_39 : decode cX3_come 39 = .ok (.iaload, 1) := by decide +kernel
theorem dX3_come_40 : decode cX3_come 40 = .ok (.bipush 99, 2) := by decide +kernel
theorem dX3_come_42 : decode cX3_come 42 = .ok (.if_icmp .lt 14, 3) := by decide +kernel
theorem dX3_come_45 : decode cX3_come 45 = .ok (.aload_n 2, 1) := by decide +kernel
theorem dX3_come_46 : decode cX3_come 46 = .ok (.dup, 1) := by decide +kernel
theorem dX3_come_47 : decode cX3_come 47 = .ok (.getfield 158, 3) := by decide +kernel
theorem dX3_come_50 : decode cX3_come 50 = .ok (.iconst 1, 1) := by decide +kernel
theorem dX3_come_51 : decode cX3_come 51 = .ok (.iadd, 1) := by decide +kernel
theorem dX3_come_52 : decode cX3_come 52 = .ok (.putfield 158, 3) := by decide +kernel
theorem dX3_come_55 : decode cX3_come 55 = .ok (.return_, 1) := by decide +kernel
theorem dX3_come_56 : decode cX3_come 56 = .ok (.aload_n 0, 1) := by decide +kernel
theorem dX3_come_57 : decode cX3_come 57 = .ok (.getfield 23, 3) := by decide +kernel
theorem dX3_come_60 : decode cX3_come 60 = .ok (.iload_n 1, 1) := by decide +kernel
theorem dX3_come_61 : decode cX3_come 61 = .ok (.dup2, 1) := by decide +kernel
theorem dX3_come_62 : decode cX3_come 62 = .ok (.iaload, 1) := by decide +kernel
theorem dX3_come_63 : decode cX3_come 63 = .ok (.iconst 1, 1) := by decide +kernel
theorem dX3_come_64 : decode cX3_come 64 = .ok (.iadd, 1) := by decide +kernel
theorem dX3_come_65 : decode cX3_come 65 = .ok (.iastore, 1) := by decide +kernel
theorem dX3_come_66 : decode cX3_come 66 = .ok (.aload_n 2, 1) := by decide +kernel
theorem dX3_come_67 : decode cX3_come 67 = .ok (.iconst 1, 1) := by decide +kernel
theorem dX3_come_68 : decode cX3_come 68 = .ok (.putfield 147, 3) := by decide +kernel
theorem dX3_come_71 : decode cX3_come 71 = .ok (.return_, 1) := by decide +kernel
set_option maxRecDepth 20000 in
theorem ggX3_take_X0_takesIn : GoodIn wsX3_take wsX0_takesIn := goodIn_r _ [11, 12, 42, 43, 44, 45, 46, 47, 48, 49] (by decide +kernel) (by decide +kernel)
set_option maxRecDepth 20000 in
theorem gX3_take_X0_takesIn : GoodIn wsX3_take (wsV RX3 161 RX0 yX0_takesIn wsX0_takesIn) := goodIn_app (goodIn_of _ (by decide +kernel)) ggX3_take_X0_takesIn
set_option maxRecDepth 20000 in
theorem ggX3_take_X3_goneFrom : GoodIn wsX3_take wsX3_goneFrom := goodIn_r _ [17, 18, 19, 20, 21, 22, 23, 24, 25, 16, 26, 27, 28, 29, 3, 30, 31, 32, 33, 34, 35, 36, 37, 38, 39, 40, 41, 50, 51, 52, 53, 54, 55, 56, 57, 58, 59, 60, 61, 62, 63, 64, 65, 66] (by decide +kernel) (by decide +kernel)
set_option maxRecDepth 20000 in
theorem gX3_take_X3_goneFrom : GoodIn wsX3_take (wsV RX3 170 RX3 yX3_goneFrom wsX3_goneFrom) := goodIn_app (goodIn_of _ (by decide +kernel)) ggX3_take_X3_goneFrom
theorem dX3_take_0 : decode cX3_take 0 = .ok (.aload_n 0, 1) := by decide +kernel
theorem dX3_take_1 : decode cX3_take 1 = .ok (.getfield 19, 3) := by decide +kernel
theorem dX3_take_4 : decode cX3_take 4 = .ok (.iload_n 1, 1) := by decide +kernel
theorem dX3_take_5 : decode cX3_take 5 = .ok (.aaload, 1) := by decide +kernel
theorem dX3_take_6 : decode cX3_take 6 = .ok (.astore_n 2, 1) := by decide +kernel
theorem dX3_take_7 : decode cX3_take 7 = .ok (.aload_n 0, 1) := by decide +kernel
theorem dX3_take_8 : decode cX3_take 8 = .ok (.getfield 53, 3) := by decide +kernel
theorem dX3_take_11 : decode cX3_take 11 = .ok (.iconst 3, 1) := by decide +kernel
theorem dX3_take_12 : decode cX3_take 12 = .ok (.imul, 1) := by decide +kernel
theorem dX3_take_13 : decode cX3_take 13 = .ok (.iload_n 1, 1) := by decide +kernel
theorem dX3_take_14 : decode cX3_take 14 = .ok (.iadd, 1) := by decide +kernel
theorem dX3_take_15 : decode cX3_take 15 = .ok (.istore_n 3, 1) := by decide +kernel
theorem dX3_take_16 : decode cX3_take 16 = .ok (.aload_n 2, 1) := by decide +kernel
theorem dX3_take_17 : decode cX3_take 17 = .ok (.aload_n 2, 1) := by decide +kernel
theorem dX3_take_18 : decode cX3_take 18 = .ok (.aload_n 0, 1) := by decide +kernel
theorem dX3_take_19 : decode cX3_take 19 = .ok (.getfield 78, 3) := by decide +kernel
theorem dX3_take_22 : decode cX3_take 22 = .ok (.invokevirtual 161, 3) := by decide +kernel
theorem dX3_take_25 : decode cX3_take 25 = .ok (.ifCond .eq 16, 3) := by decide +kernel
theorem dX3_take_28 : decode cX3_take 28 = .ok (.aload_n 0, 1) := by decide +kernel
theorem dX3_take_29 : decode cX3_take 29 = .ok (.getfield 23, 3) := by decide +kernel
theorem dX3_take_32 : decode cX3_take 32 = .ok (.iload_n 3, 1) := by decide +kernel
theorem dX3_take_33 : decode cX3_take 33 = .ok (.iaload, 1) := by decide +kernel
theorem dX3_take_34 : decode cX3_take 34 = .ok (.ifCond .le 7, 3) := by decide +kernel
theorem dX3_take_37 : decode cX3_take 37 = .ok (.iconst 1, 1) := by decide +kernel
theorem dX3_take_38 : decode cX3_take 38 = .ok (.goto 4, 3) := by decide +kernel
theorem dX3_take_41 : decode cX3_take 41 = .ok (.iconst 0, 1) := by decide +kernel
theorem dX3_take_42 : decode cX3_take 42 = .ok (.putfield 164, 3) := by decide +kernel
theorem dX3_take_45 : decode cX3_take 45 = .ok (.aload_n 2, 1) := by decide +kernel
theorem dX3_take_46 : decode cX3_take 46 = .ok (.getfield 164, 3) := by decide +kernel
theorem dX3_take_49 : decode cX3_take 49 = .ok (.ifCond .eq 34, 3) := by decide +kernel
theorem dX3_take_52 : decode cX3_take 52 = .ok (.aload_n 0, 1) := by decide +kernel
theorem dX3_take_53 : decode cX3_take 53 = .ok (.getfield 23, 3) := by decide +kernel
theorem dX3_take_56 : decode cX3_take 56 = .ok (.iload_n 3, 1) := by decide +kernel
theorem dX3_take_57 : decode cX3_take 57 = .ok (.dup2, 1) := by decide +kernel
theorem dX3_take_58 : decode cX3_take 58 = .ok (.iaload, 1) := by decide +kernel
theorem dX3_take_59 : decode cX3_take 59 = .ok (.iconst 1, 1) := by decide +kernel
theorem dX3_take_60 : decode cX3_take 60 = .ok (.isub, 1) := by decide +kernel
theorem dX3_take_61 : decode cX3_take 61 = .ok (.iastore, 1) := by decide +kernel
theorem dX3_take_62 : decode cX3_take 62 = .ok (.aload_n 2, 1) := by decide +kernel
theorem dX3_take_63 : decode cX3_take 63 = .ok (.dup, 1) := by decide +kernel
theorem dX3_take_64 : decode cX3_take 64 = .ok (.getfield 167, 3) := by decide +kernel
theorem dX3_take_67 : decode cX3_take 67 = .ok (.iconst 1, 1) := by decide +kernel
theorem dX3_take_68 : decode cX3_take 68 = .ok (.iadd, 1) := by decide +kernel
theorem dX3_take_69 : decode cX3_take 69 = .ok (.putfield 167, 3) := by decide +kernel
theorem dX3_take_72 : decode cX3_take 72 = .ok (.aload_n 0, 1) := by decide +kernel
theorem dX3_take_73 : decode cX3_take 73 = .ok (.aload_n 0, 1) := by decide +kernel
theorem dX3_take_74 : decode cX3_take 74 = .ok (.getfield 53, 3) := by decide +kernel
theorem dX3_take_77 : decode cX3_take 77 = .ok (.iconst 1, 1) := by decide +kernel
theorem dX3_take_78 : decode cX3_take 78 = .ok (.isub, 1) := by decide +kernel
theorem dX3_take_79 : decode cX3_take 79 = .ok (.iload_n 1, 1) := by decide +kernel
theorem dX3_take_80 : decode cX3_take 80 = .ok (.invokevirtual 170, 3) := by decide +kernel
theorem dX3_take_83 : decode cX3_take 83 = .ok (.return_, 1) := by decide +kernel
set_option maxRecDepth 20000 in
theorem ggX3_sendOver_X3_nextSender : GoodIn wsX3_sendOver wsX3_nextSender := goodIn_r _ [15, 1, 16, 3, 8, 7, 17, 18, 19, 20, 21, 22, 23, 24, 39, 40, 41, 42, 43, 44, 45, 46, 47, 48, 49, 50, 51, 52, 53, 54, 55, 56, 57, 58, 59, 60, 61, 62, 63, 64, 65, 66] (by decide +kernel) (by decide +kernel)
set_option maxRecDepth 20000 in
theorem gX3_sendOver_X3_nextSender : GoodIn wsX3_sendOver (wsV RX3 174 RX3 yX3_nextSender wsX3_nextSender) := goodIn_app (goodIn_of _ (by decide +kernel)) ggX3_sendOver_X3_nextSender
set_option maxRecDepth 20000 in
theorem ggX3_sendOver_X3_goneFrom : GoodIn wsX3_sendOver wsX3_goneFrom := goodIn_r _ [28, 1, 8, 29, 30, 31, 32, 33, 34, 14, 35, 36, 37, 38, 5, 6, 39, 40, 41, 42, 43, 44, 45, 46, 47, 48, 49, 50, 51, 52, 53, 54, 55, 56, 57, 58, 59, 60, 61, 62, 63, 64, 65, 66] (by decide +kernel) (by decide +kernel)
set_option maxRecDepth 20000 in
theorem gX3_sendOver_X3_goneFrom : GoodIn wsX3_sendOver (wsV RX3 170 RX3 yX3_goneFrom wsX3_goneFrom) := goodIn_app (goodIn_of _ (by decide +kernel)) ggX3_sendOver_X3_goneFrom
theorem dX3_sendOver_0 : decode cX3_sendOver 0 = .ok (.aload_n 0, 1) := by decide +kernel
theorem dX3_sendOver_1 : decode cX3_sendOver 1 = .ok (.getfield 11, 3) := by decide +kernel
theorem dX3_sendOver_4 : decode cX3_sendOver 4 = .ok (.iload_n 1, 1) := by decide +kernel
theorem dX3_sendOver_5 : decode cX3_sendOver 5 = .ok (.aaload, 1) := by decide +kernel
theorem dX3_sendOver_6 : decode cX3_sendOver 6 = .ok (.astore_n 2, 1) := by decide +kernel
theorem dX3_sendOver_7 : decode cX3_sendOver 7 = .ok (.aload_n 0, 1) := by decide +kernel
theorem dX3_sendOver_8 : decode cX3_sendOver 8 = .ok (.iload_n 1, 1) := by decide +kernel
theorem dX3_sendOver_9 : decode cX3_sendOver 9 = .ok (.invokevirtual 174, 3) := by decide +kernel
theorem dX3_sendOver_12 : decode cX3_sendOver 12 = .ok (.istore_n 3, 1) := by decide +kernel
theorem dX3_sendOver_13 : decode cX3_sendOver 13 = .ok (.aload_n 2, 1) := by decide +kernel
theorem dX3_sendOver_14 : decode cX3_sendOver 14 = .ok (.iload_n 3, 1) := by decide +kernel
theorem dX3_sendOver_15 : decode cX3_sendOver 15 = .ok (.putfield 177, 3) := by decide +kernel
theorem dX3_sendOver_18 : decode cX3_sendOver 18 = .ok (.iload_n 3, 1) := by decide +kernel
theorem dX3_sendOver_19 : decode cX3_sendOver 19 = .ok (.iconst (-1), 1) := by decide +kernel
theorem dX3_sendOver_20 : decode cX3_sendOver 20 = .ok (.if_icmp .ne 4, 3) := by decide +kernel
theorem dX3_sendOver_23 : decode cX3_sendOver 23 = .ok (.return_, 1) := by decide +kernel
theorem dX3_sendOver_24 : decode cX3_sendOver 24 = .ok (.aload_n 2, 1) := by decide +kernel
theorem dX3_sendOver_25 : decode cX3_sendOver 25 = .ok (.iload_n 3, 1) := by decide +kernel
theorem dX3_sendOver_26 : decode cX3_sendOver 26 = .ok (.putfield 180, 3) := by decide +kernel
theorem dX3_sendOver_29 : decode cX3_sendOver 29 = .ok (.aload_n 2, 1) := by decide +kernel
theorem dX3_sendOver_30 : decode cX3_sendOver 30 = .ok (.getfield 122, 3) := by decide +kernel
theorem dX3_sendOver_33 : decode cX3_sendOver 33 = .ok (.aload_n 0, 1) := by decide +kernel
theorem dX3_sendOver_34 : decode cX3_sendOver 34 = .ok (.getfield 78, 3) := by decide +kernel
theorem dX3_sendOver_37 : decode cX3_sendOver 37 = .ok (.aload_n 2, 1) := by decide +kernel
theorem dX3_sendOver_38 : decode cX3_sendOver 38 = .ok (.getfield 183, 3) := by decide +kernel
theorem dX3_sendOver_41 : decode cX3_sendOver 41 = .ok (.iadd, 1) := by decide +kernel
theorem dX3_sendOver_42 : decode cX3_sendOver 42 = .ok (.iconst 5, 1) := by decide +kernel
theorem dX3_sendOver_43 : decode cX3_sendOver 43 = .ok (.irem, 1) := by decide +kernel
theorem dX3_sendOver_44 : decode cX3_sendOver 44 = .ok (.iload_n 3, 1) := by decide +kernel
theorem dX3_sendOver_45 : decode cX3_sendOver 45 = .ok (.iastore, 1) := by decide +kernel
theorem dX3_sendOver_46 : decode cX3_sendOver 46 = .ok (.aload_n 0, 1) := by decide +kernel
theorem dX3_sendOver_47 : decode cX3_sendOver 47 = .ok (.getfield 23, 3) := by decide +kernel
theorem dX3_sendOver_50 : decode cX3_sendOver 50 = .ok (.iload_n 1, 1) := by decide +kernel
theorem dX3_sendOver_51 : decode cX3_sendOver 51 = .ok (.iconst 3, 1) := by decide +kernel
theorem dX3_sendOver_52 : decode cX3_sendOver 52 = .ok (.imul, 1) := by decide +kernel
theorem dX3_sendOver_53 : decode cX3_sendOver 53 = .ok (.iload_n 3, 1) := by decide +kernel
theorem dX3_sendOver_54 : decode cX3_sendOver 54 = .ok (.iadd, 1) := by decide +kernel
theorem dX3_sendOver_55 : decode cX3_sendOver 55 = .ok (.dup2, 1) := by decide +kernel
theorem dX3_sendOver_56 : decode cX3_sendOver 56 = .ok (.iaload, 1) := by decide +kernel
theorem dX3_sendOver_57 : decode cX3_sendOver 57 = .ok (.iconst 1, 1) := by decide +kernel
theorem dX3_sendOver_58 : decode cX3_sendOver 58 = .ok (.isub, 1) := by decide +kernel
theorem dX3_sendOver_59 : decode cX3_sendOver 59 = .ok (.iastore, 1) := by decide +kernel
theorem dX3_sendOver_60 : decode cX3_sendOver 60 = .ok (.aload_n 2, 1) := by decide +kernel
theorem dX3_sendOver_61 : decode cX3_sendOver 61 = .ok (.getfield 128, 3) := by decide +kernel
theorem dX3_sendOver_64 : decode cX3_sendOver 64 = .ok (.iload_n 3, 1) := by decide +kernel
theorem dX3_sendOver_65 : decode cX3_sendOver 65 = .ok (.aaload, 1) := by decide +kernel
theorem dX3_sendOver_66 : decode cX3_sendOver 66 = .ok (.astore 4, 2) := by decide +kernel
theorem dX3_sendOver_68 : decode cX3_sendOver 68 = .ok (.aload 4, 2) := by decide +kernel
theorem dX3_sendOver_70 : decode cX3_sendOver 70 = .ok (.aload 4, 2) := by decide +kernel
theorem dX3_sendOver_72 : decode cX3_sendOver 72 = .ok (.getfield 186, 3) := by decide +kernel
theorem dX3_sendOver_75 : decode cX3_sendOver 75 = .ok (.iconst 1, 1) := by decide +kernel
theorem dX3_sendOver_76 : decode cX3_sendOver 76 = .ok (.iadd, 1) := by decide +kernel
theorem dX3_sendOver_77 : decode cX3_sendOver 77 = .ok (.bipush 63, 2) := by decide +kernel
theorem dX3_sendOver_79 : decode cX3_sendOver 79 = .ok (.iand, 1) := by decide +kernel
theorem dX3_sendOver_80 : decode cX3_sendOver 80 = .ok (.putfield 186, 3) := by decide +kernel
theorem dX3_sendOver_83 : decode cX3_sendOver 83 = .ok (.aload 4, 2) := by decide +kernel
theorem dX3_sendOver_85 : decode cX3_sendOver 85 = .ok (.dup, 1) := by decide +kernel
theorem dX3_sendOver_86 : decode cX3_sendOver 86 = .ok (.getfield 189, 3) := by decide +kernel
theorem dX3_sendOver_89 : decode cX3_sendOver 89 = .ok (.iconst 1, 1) := by decide +kernel
theorem dX3_sendOver_90 : decode cX3_sendOver 90 = .ok (.iadd, 1) := by decide +kernel
theorem dX3_sendOver_91 : decode cX3_sendOver 91 = .ok (.putfield 189, 3) := by decide +kernel
theorem dX3_sendOver_94 : decode cX3_sendOver 94 = .ok (.iload_n 1, 1) := by decide +kernel
theorem dX3_sendOver_95 : decode cX3_sendOver 95 = .ok (.ifCond .le 11, 3) := by decide +kernel
theorem dX3_sendOver_98 : decode cX3_sendOver 98 = .ok (.aload_n 0, 1) := by decide +kernel
theorem dX3_sendOver_99 : decode cX3_sendOver 99 = .ok (.iload_n 1, 1) := by decide +kernel
theorem dX3_sendOver_100 : decode cX3_sendOver 100 = .ok (.iconst 1, 1) := by decide +kernel
theorem dX3_sendOver_101 : decode cX3_sendOver 101 = .ok (.isub, 1) := by decide +kernel
theorem dX3_sendOver_102 : decode cX3_sendOver 102 = .ok (.iload_n 3, 1) := by decide +kernel
theorem dX3_sendOver_103 : decode cX3_sendOver 103 = .ok (.invokevirtual 170, 3) := by decide +kernel
theorem dX3_sendOver_106 : decode cX3_sendOver 106 = .ok (.return_, 1) := by decide +kernel
set_option maxRecDepth 20000 in
theorem ggX3_nextSender_X1_out : GoodIn wsX3_nextSender wsX1_out := goodIn_r _ [11, 12, 13, 35, 36, 37, 38, 39, 40, 41] (by decide +kernel) (by decide +kernel)
set_option maxRecDepth 20000 in
theorem gX3_nextSender_X1_out : GoodIn wsX3_nextSender (wsV RX3 192 RX1 yX1_out wsX1_out) := goodIn_app (goodIn_of _ (by decide +kernel)) ggX3_nextSender_X1_out
theorem dX3_nextSender_0 : decode cX3_nextSender 0 = .ok (.aload_n 0, 1) := by decide +kernel
theorem dX3_nextSender_1 : decode cX3_nextSender 1 = .ok (.getfield 11, 3) := by decide +kernel
theorem dX3_nextSender_4 : decode cX3_nextSender 4 = .ok (.iload_n 1, 1) := by decide +kernel
theorem dX3_nextSender_5 : decode cX3_nextSender 5 = .ok (.aaload, 1) := by decide +kernel
theorem dX3_nextSender_6 : decode cX3_nextSender 6 = .ok (.astore_n 2, 1) := by decide +kernel
theorem dX3_nextSender_7 : decode cX3_nextSender 7 = .ok (.iconst 1, 1) := by decide +kernel
theorem dX3_nextSender_8 : decode cX3_nextSender 8 = .ok (.istore_n 3, 1) := by decide +kernel
theorem dX3_nextSender_9 : decode cX3_nextSender 9 = .ok (.iload_n 3, 1) := by decide +kernel
theorem dX3_nextSender_10 : decode cX3_nextSender 10 = .ok (.aload_n 0, 1) := by decide +kernel
theorem dX3_nextSender_11 : decode cX3_nextSender 11 = .ok (.getfield 62, 3) := by decide +kernel
theorem dX3_nextSender_14 : decode cX3_nextSender 14 = .ok (.if_icmp .gt 61, 3) := by decide +kernel
theorem dX3_nextSender_17 : decode cX3_nextSender 17 = .ok (.aload_n 2, 1) := by decide +kernel
theorem dX3_nextSender_18 : decode cX3_nextSender 18 = .ok (.getfield 180, 3) := by decide +kernel
theorem dX3_nextSender_21 : decode cX3_nextSender 21 = .ok (.iload_n 3, 1) := by decide +kernel
theorem dX3_nextSender_22 : decode cX3_nextSender 22 = .ok (.iadd, 1) := by decide +kernel
theorem dX3_nextSender_23 : decode cX3_nextSender 23 = .ok (.aload_n 0, 1) := by decide +kernel
theorem dX3_nextSender_24 : decode cX3_nextSender 24 = .ok (.getfield 62, 3) := by decide +kernel
theorem dX3_nextSender_27 : decode cX3_nextSender 27 = .ok (.irem, 1) := by decide +kernel
theorem dX3_nextSender_28 : decode cX3_nextSender 28 = .ok (.istore 4, 2) := by decide +kernel
theorem dX3_nextSender_30 : decode cX3_nextSender 30 = .ok (.aload_n 2, 1) := by decide +kernel
theorem dX3_nextSender_31 : decode cX3_nextSender 31 = .ok (.getfield 128, 3) := by decide +kernel
theorem dX3_nextSender_34 : decode cX3_nextSender 34 = .ok (.iload 4, 2) := by decide +kernel
theorem dX3_nextSender_36 : decode cX3_nextSender 36 = .ok (.aaload, 1) := by decide +kernel
theorem dX3_nextSender_37 : decode cX3_nextSender 37 = .ok (.astore 5, 2) := by decide +kernel
theorem dX3_nextSender_39 : decode cX3_nextSender 39 = .ok (.aload_n 0, 1) := by decide +kernel
theorem dX3_nextSender_40 : decode cX3_nextSender 40 = .ok (.getfield 23, 3) := by decide +kernel
theorem dX3_nextSender_43 : decode cX3_nextSender 43 = .ok (.iload_n 1, 1) := by decide +kernel
theorem dX3_nextSender_44 : decode cX3_nextSender 44 = .ok (.iconst 3, 1) := by decide +kernel
theorem dX3_nextSender_45 : decode cX3_nextSender 45 = .ok (.imul, 1) := by decide +kernel
theorem dX3_nextSender_46 : decode cX3_nextSender 46 = .ok (.iload 4, 2) := by decide +kernel
theorem dX3_nextSender_48 : decode cX3_nextSender 48 = .ok (.iadd, 1) := by decide +kernel
theorem dX3_nextSender_49 : decode cX3_nextSender 49 = .ok (.iaload, 1) := by decide +kernel
theorem dX3_nextSender_50 : decode cX3_nextSender 50 = .ok (.ifCond .le 19, 3) := by decide +kernel
theorem dX3_nextSender_53 : decode cX3_nextSender 53 = .ok (.aload 5, 2) := by decide +kernel
theorem dX3_nextSender_55 : decode cX3_nextSender 55 = .ok (.invokevirtual 192, 3) := by decide +kernel
theorem dX3_nextSender_58 : decode cX3_nextSender 58 = .ok (.aload 5, 2) := by decide +kernel
theorem dX3_nextSender_60 : decode cX3_nextSender 60 = .ok (.getfield 195, 3) := by decide +kernel
theorem dX3_nextSender_63 : decode cX3_nextSender 63 = .ok (.if_icmp .ge 6, 3) := by decide +kernel
theorem dX3_nextSender_66 : decode cX3_nextSender 66 = .ok (.iload 4, 2) := by decide +kernel
theorem dX3_nextSender_68 : decode cX3_nextSender 68 = .ok (.ireturn, 1) := by decide +kernel
theorem dX3_nextSender_69 : decode cX3_nextSender 69 = .ok (.iinc 3 1, 3) := by decide +kernel
theorem dX3_nextSender_72 : decode cX3_nextSender 72 = .ok (.goto (-63), 3) := by decide +kernel
theorem dX3_nextSender_75 : decode cX3_nextSender 75 = .ok (.iconst (-1), 1) := by decide +kernel
theorem dX3_nextSender_76 : decode cX3_nextSender 76 = .ok (.ireturn, 1) := by decide +kernel
set_option maxRecDepth 20000 in
theorem ggX3_goneFrom_X3_sendUpdate : GoodIn wsX3_goneFrom wsX3_sendUpdate := goodIn_r _ [10, 11, 12, 13, 14, 15, 2, 3, 27, 28, 29, 30, 31, 32, 33, 34, 35, 36, 16, 17, 18, 19, 20, 21, 22, 23, 24, 25, 26, 37, 38, 39, 40, 41, 42, 43] (by decide +kernel) (by decide +kernel)
set_option maxRecDepth 20000 in
theorem gX3_goneFrom_X3_sendUpdate : GoodIn wsX3_goneFrom (wsV RX3 140 RX3 yX3_sendUpdate wsX3_sendUpdate) := goodIn_app (goodIn_of _ (by decide +kernel)) ggX3_goneFrom_X3_sendUpdate
theorem dX3_goneFrom_0 : decode cX3_goneFrom 0 = .ok (.aload_n 0, 1) := by decide +kernel
theorem dX3_goneFrom_1 : decode cX3_goneFrom 1 = .ok (.getfield 11, 3) := by decide +kernel
theorem dX3_goneFrom_4 : decode cX3_goneFrom 4 = .ok (.iload_n 1, 1) := by decide +kernel
theorem dX3_goneFrom_5 : decode cX3_goneFrom 5 = .ok (.aaload, 1) := by decide +kernel
theorem dX3_goneFrom_6 : decode cX3_goneFrom 6 = .ok (.astore_n 3, 1) := by decide +kernel
theorem dX3_goneFrom_7 : decode cX3_goneFrom 7 = .ok (.aload_n 3, 1) := by decide +kernel
theorem dX3_goneFrom_8 : decode cX3_goneFrom 8 = .ok (.getfield 128, 3) := by decide +kernel
theorem dX3_goneFrom_11 : decode cX3_goneFrom 11 = .ok (.iload_n 2, 1) := by decide +kernel
theorem dX3_goneFrom_12 : decode cX3_goneFrom 12 = .ok (.aaload, 1) := by decide +kernel
theorem dX3_goneFrom_13 : decode cX3_goneFrom 13 = .ok (.astore 4, 2) := by decide +kernel
theorem dX3_goneFrom_15 : decode cX3_goneFrom 15 = .ok (.aload 4, 2) := by decide +kernel
theorem dX3_goneFrom_17 : decode cX3_goneFrom 17 = .ok (.aload 4, 2) := by decide +kernel
theorem dX3_goneFrom_19 : decode cX3_goneFrom 19 = .ok (.getfield 198, 3) := by decide +kernel
theorem dX3_goneFrom_22 : decode cX3_goneFrom 22 = .ok (.iconst 1, 1) := by decide +kernel
theorem dX3_goneFrom_23 : decode cX3_goneFrom 23 = .ok (.iadd, 1) := by decide +kernel
theorem dX3_goneFrom_24 : decode cX3_goneFrom 24 = .ok (.bipush 63, 2) := by decide +kernel
theorem dX3_goneFrom_26 : decode cX3_goneFrom 26 = .ok (.iand, 1) := by decide +kernel
theorem dX3_goneFrom_27 : decode cX3_goneFrom 27 = .ok (.putfield 198, 3) := by decide +kernel
theorem dX3_goneFrom_30 : decode cX3_goneFrom 30 = .ok (.aload 4, 2) := by decide +kernel
theorem dX3_goneFrom_32 : decode cX3_goneFrom 32 = .ok (.dup, 1) := by decide +kernel
theorem dX3_goneFrom_33 : decode cX3_goneFrom 33 = .ok (.getfield 201, 3) := by decide +kernel
theorem dX3_goneFrom_36 : decode cX3_goneFrom 36 = .ok (.iconst 1, 1) := by decide +kernel
theorem dX3_goneFrom_37 : decode cX3_goneFrom 37 = .ok (.iadd, 1) := by decide +kernel
theorem dX3_goneFrom_38 : decode cX3_goneFrom 38 = .ok (.putfield 201, 3) := by decide +kernel
theorem dX3_goneFrom_41 : decode cX3_goneFrom 41 = .ok (.aload 4, 2) := by decide +kernel
theorem dX3_goneFrom_43 : decode cX3_goneFrom 43 = .ok (.getfield 201, 3) := by decide +kernel
theorem dX3_goneFrom_46 : decode cX3_goneFrom 46 = .ok (.aload_n 3, 1) := by decide +kernel
theorem dX3_goneFrom_47 : decode cX3_goneFrom 47 = .ok (.getfield 204, 3) := by decide +kernel
theorem dX3_goneFrom_50 : decode cX3_goneFrom 50 = .ok (.if_icmp .lt 15, 3) := by decide +kernel
theorem dX3_goneFrom_53 : decode cX3_goneFrom 53 = .ok (.aload 4, 2) := by decide +kernel
theorem dX3_goneFrom_55 : decode cX3_goneFrom 55 = .ok (.iconst 0, 1) := by decide +kernel
theorem dX3_goneFrom_56 : decode cX3_goneFrom 56 = .ok (.putfield 201, 3) := by decide +kernel
theorem dX3_goneFrom_59 : decode cX3_goneFrom 59 = .ok (.aload_n 0, 1) := by decide +kernel
theorem dX3_goneFrom_60 : decode cX3_goneFrom 60 = .ok (.aload_n 3, 1) := by decide +kernel
theorem dX3_goneFrom_61 : decode cX3_goneFrom 61 = .ok (.iload_n 2, 1) := by decide +kernel
theorem dX3_goneFrom_62 : decode cX3_goneFrom 62 = .ok (.invokevirtual 140, 3) := by decide +kernel
theorem dX3_goneFrom_65 : decode cX3_goneFrom 65 = .ok (.return_, 1) := by decide +kernel
theorem dX3_sendUpdate_0 : decode cX3_sendUpdate 0 = .ok (.aload_n 1, 1) := by decide +kernel
theorem dX3_sendUpdate_1 : decode cX3_sendUpdate 1 = .ok (.getfield 207, 3) := by decide +kernel
theorem dX3_sendUpdate_4 : decode cX3_sendUpdate 4 = .ok (.ifCond .le 24, 3) := by decide +kernel
theorem dX3_sendUpdate_7 : decode cX3_sendUpdate 7 = .ok (.aload_n 1, 1) := by decide +kernel
theorem dX3_sendUpdate_8 : decode cX3_sendUpdate 8 = .ok (.dup, 1) := by decide +kernel
theorem dX3_sendUpdate_9 : decode cX3_sendUpdate 9 = .ok (.getfield 207, 3) := by decide +kernel
theorem dX3_sendUpdate_12 : decode cX3_sendUpdate 12 = .ok (.iconst 1, 1) := by decide +kernel
theorem dX3_sendUpdate_13 : decode cX3_sendUpdate 13 = .ok (.isub, 1) := by decide +kernel
theorem dX3_sendUpdate_14 : decode cX3_sendUpdate 14 = .ok (.putfield 207, 3) := by decide +kernel
theorem dX3_sendUpdate_17 : decode cX3_sendUpdate 17 = .ok (.aload_n 0, 1) := by decide +kernel
theorem dX3_sendUpdate_18 : decode cX3_sendUpdate 18 = .ok (.dup, 1) := by decide +kernel
theorem dX3_sendUpdate_19 : decode cX3_sendUpdate 19 = .ok (.getfield 81, 3) := by decide +kernel
theorem dX3_sendUpdate_22 : decode cX3_sendUpdate 22 = .ok (.iconst 1, 1) := by decide +kernel
theorem dX3_sendUpdate_23 : decode cX3_sendUpdate 23 = .ok (.iadd, 1) := by decide +kernel
theorem dX3_sendUpdate_24 : decode cX3_sendUpdate 24 = .ok (.putfield 81, 3) := by decide +kernel
theorem dX3_sendUpdate_27 : decode cX3_sendUpdate 27 = .ok (.return_, 1) := by decide +kernel
theorem dX3_sendUpdate_28 : decode cX3_sendUpdate 28 = .ok (.aload_n 1, 1) := by decide +kernel
theorem dX3_sendUpdate_29 : decode cX3_sendUpdate 29 = .ok (.getfield 125, 3) := by decide +kernel
theorem dX3_sendUpdate_32 : decode cX3_sendUpdate 32 = .ok (.aload_n 0, 1) := by decide +kernel
theorem dX3_sendUpdate_33 : decode cX3_sendUpdate 33 = .ok (.getfield 78, 3) := by decide +kernel
theorem dX3_sendUpdate_36 : decode cX3_sendUpdate 36 = .ok (.aload_n 1, 1) := by decide +kernel
theorem dX3_sendUpdate_37 : decode cX3_sendUpdate 37 = .ok (.getfield 183, 3) := by decide +kernel
theorem dX3_sendUpdate_40 : decode cX3_sendUpdate 40 = .ok (.iadd, 1) := by decide +kernel
theorem dX3_sendUpdate_41 : decode cX3_sendUpdate 41 = .ok (.iconst 5, 1) := by decide +kernel
theorem dX3_sendUpdate_42 : decode cX3_sendUpdate 42 = .ok (.irem, 1) := by decide +kernel
theorem dX3_sendUpdate_43 : decode cX3_sendUpdate 43 = .ok (.iconst 3, 1) := by decide +kernel
theorem dX3_sendUpdate_44 : decode cX3_sendUpdate 44 = .ok (.imul, 1) := by decide +kernel
theorem dX3_sendUpdate_45 : decode cX3_sendUpdate 45 = .ok (.iload_n 2, 1) := by decide +kernel
theorem dX3_sendUpdate_46 : decode cX3_sendUpdate 46 = .ok (.iadd, 1) := by decide +kernel
theorem dX3_sendUpdate_47 : decode cX3_sendUpdate 47 = .ok (.aload_n 1, 1) := by decide +kernel
theorem dX3_sendUpdate_48 : decode cX3_sendUpdate 48 = .ok (.getfield 128, 3) := by decide +kernel
theorem dX3_sendUpdate_51 : decode cX3_sendUpdate 51 = .ok (.iload_n 2, 1) := by decide +kernel
theorem dX3_sendUpdate_52 : decode cX3_sendUpdate 52 = .ok (.aaload, 1) := by decide +kernel
theorem dX3_sendUpdate_53 : decode cX3_sendUpdate 53 = .ok (.getfield 198, 3) := by decide +kernel
theorem dX3_sendUpdate_56 : decode cX3_sendUpdate 56 = .ok (.iastore, 1) := by decide +kernel
theorem dX3_sendUpdate_57 : decode cX3_sendUpdate 57 = .ok (.return_, 1) := by decide +kernel
theorem dX3_sendProbe_0 : decode cX3_sendProbe 0 = .ok (.aload_n 1, 1) := by decide +kernel
theorem dX3_sendProbe_1 : decode cX3_sendProbe 1 = .ok (.getfield 137, 3) := by decide +kernel
theorem dX3_sendProbe_4 : decode cX3_sendProbe 4 = .ok (.aload_n 0, 1) := by decide +kernel
theorem dX3_sendProbe_5 : decode cX3_sendProbe 5 = .ok (.getfield 78, 3) := by decide +kernel
theorem dX3_sendProbe_8 : decode cX3_sendProbe 8 = .ok (.aload_n 1, 1) := by decide +kernel
theorem dX3_sendProbe_9 : decode cX3_sendProbe 9 = .ok (.getfield 183, 3) := by decide +kernel
theorem dX3_sendProbe_12 : decode cX3_sendProbe 12 = .ok (.iadd, 1) := by decide +kernel
theorem dX3_sendProbe_13 : decode cX3_sendProbe 13 = .ok (.iconst 5, 1) := by decide +kernel
theorem dX3_sendProbe_14 : decode cX3_sendProbe 14 = .ok (.irem, 1) := by decide +kernel
theorem dX3_sendProbe_15 : decode cX3_sendProbe 15 = .ok (.iconst 3, 1) := by decide +kernel
theorem dX3_sendProbe_16 : decode cX3_sendProbe 16 = .ok (.imul, 1) := by decide +kernel
theorem dX3_sendProbe_17 : decode cX3_sendProbe 17 = .ok (.iload_n 2, 1) := by decide +kernel
theorem dX3_sendProbe_18 : decode cX3_sendProbe 18 = .ok (.iadd, 1) := by decide +kernel
theorem dX3_sendProbe_19 : decode cX3_sendProbe 19 = .ok (.dup2, 1) := by decide +kernel
theorem dX3_sendProbe_20 : decode cX3_sendProbe 20 = .ok (.iaload, 1) := by decide +kernel
theorem dX3_sendProbe_21 : decode cX3_sendProbe 21 = .ok (.iconst 1, 1) := by decide +kernel
theorem dX3_sendProbe_22 : decode cX3_sendProbe 22 = .ok (.iadd, 1) := by decide +kernel
theorem dX3_sendProbe_23 : decode cX3_sendProbe 23 = .ok (.iastore, 1) := by decide +kernel
theorem dX3_sendProbe_24 : decode cX3_sendProbe 24 = .ok (.aload_n 1, 1) := by decide +kernel
theorem dX3_sendProbe_25 : decode cX3_sendProbe 25 = .ok (.getfield 128, 3) := by decide +kernel
theorem dX3_sendProbe_28 : decode cX3_sendProbe 28 = .ok (.iload_n 2, 1) := by decide +kernel
theorem dX3_sendProbe_29 : decode cX3_sendProbe 29 = .ok (.aaload, 1) := by decide +kernel
theorem dX3_sendProbe_30 : decode cX3_sendProbe 30 = .ok (.iconst 0, 1) := by decide +kernel
theorem dX3_sendProbe_31 : decode cX3_sendProbe 31 = .ok (.putfield 210, 3) := by decide +kernel
theorem dX3_sendProbe_34 : decode cX3_sendProbe 34 = .ok (.aload_n 0, 1) := by decide +kernel
theorem dX3_sendProbe_35 : decode cX3_sendProbe 35 = .ok (.dup, 1) := by decide +kernel
theorem dX3_sendProbe_36 : decode cX3_sendProbe 36 = .ok (.getfield 84, 3) := by decide +kernel
theorem dX3_sendProbe_39 : decode cX3_sendProbe 39 = .ok (.iconst 1, 1) := by decide +kernel
theorem dX3_sendProbe_40 : decode cX3_sendProbe 40 = .ok (.iadd, 1) := by decide +kernel
theorem dX3_sendProbe_41 : decode cX3_sendProbe 41 = .ok (.putfield 84, 3) := by decide +kernel
theorem dX3_sendProbe_44 : decode cX3_sendProbe 44 = .ok (.return_, 1) := by decide +kernel
set_option maxRecDepth 20000 in
theorem ggX3_waitAt_X3_lacksCredit : GoodIn wsX3_waitAt wsX3_lacksCredit := goodIn_r _ [10, 11, 2, 3, 12, 13, 14, 15, 16, 17, 18, 19, 28, 29, 30, 31, 32, 33, 34, 35, 36, 37, 38, 39, 40, 41, 42, 43, 44, 45, 46, 47, 48, 49, 50, 51, 52, 53, 54, 55] (by decide +kernel) (by decide +kernel)
set_option maxRecDepth 20000 in
theorem gX3_waitAt_X3_lacksCredit : GoodIn wsX3_waitAt (wsV RX3 213 RX3 yX3_lacksCredit wsX3_lacksCredit) := goodIn_app (goodIn_of _ (by decide +kernel)) ggX3_waitAt_X3_lacksCredit
set_option maxRecDepth 20000 in
theorem ggX3_waitAt_X3_sendProbe : GoodIn wsX3_waitAt wsX3_sendProbe := goodIn_r _ [23, 24, 25, 26, 3, 4, 27, 39, 40, 41, 42, 43, 44, 45, 46, 47, 48, 28, 29, 30, 31, 32, 33, 34, 35, 36, 37, 38, 49, 50, 51, 52, 53, 54, 55] (by decide +kernel) (by decide +kernel)
set_option maxRecDepth 20000 in
theorem gX3_waitAt_X3_sendProbe : GoodIn wsX3_waitAt (wsV RX3 217 RX3 yX3_sendProbe wsX3_sendProbe) := goodIn_app (goodIn_of _ (by decide +kernel)) ggX3_waitAt_X3_sendProbe
theorem dX3_waitAt_0 : decode cX3_waitAt 0 = .ok (.iconst 0, 1) := by decide +kernel
theorem dX3_waitAt_1 : decode cX3_waitAt 1 = .ok (.istore_n 2, 1) := by decide +kernel
theorem dX3_waitAt_2 : decode cX3_waitAt 2 = .ok (.iload_n 2, 1) := by decide +kernel
theorem dX3_waitAt_3 : decode cX3_waitAt 3 = .ok (.aload_n 0, 1) := by decide +kernel
theorem dX3_waitAt_4 : decode cX3_waitAt 4 = .ok (.getfield 62, 3) := by decide +kernel
theorem dX3_waitAt_7 : decode cX3_waitAt 7 = .ok (.if_icmp .ge 73, 3) := by decide +kernel
theorem dX3_waitAt_10 : decode cX3_waitAt 10 = .ok (.aload_n 0, 1) := by decide +kernel
theorem dX3_waitAt_11 : decode cX3_waitAt 11 = .ok (.getfield 11, 3) := by decide +kernel
theorem dX3_waitAt_14 : decode cX3_waitAt 14 = .ok (.iload_n 1, 1) := by decide +kernel
theorem dX3_waitAt_15 : decode cX3_waitAt 15 = .ok (.aaload, 1) := by decide +kernel
theorem dX3_waitAt_16 : decode cX3_waitAt 16 = .ok (.getfield 128, 3) := by decide +kernel
theorem dX3_waitAt_19 : decode cX3_waitAt 19 = .ok (.iload_n 2, 1) := by decide +kernel
theorem dX3_waitAt_20 : decode cX3_waitAt 20 = .ok (.aaload, 1) := by decide +kernel
theorem dX3_waitAt_21 : decode cX3_waitAt 21 = .ok (.astore_n 3, 1) := by decide +kernel
theorem dX3_waitAt_22 : decode cX3_waitAt 22 = .ok (.aload_n 3, 1) := by decide +kernel
theorem dX3_waitAt_23 : decode cX3_waitAt 23 = .ok (.aload_n 0, 1) := by decide +kernel
theorem dX3_waitAt_24 : decode cX3_waitAt 24 = .ok (.iload_n 1, 1) := by decide +kernel
theorem dX3_waitAt_25 : decode cX3_waitAt 25 = .ok (.iload_n 2, 1) := by decide +kernel
theorem dX3_waitAt_26 : decode cX3_waitAt 26 = .ok (.invokevirtual 213, 3) := by decide +kernel
theorem dX3_waitAt_29 : decode cX3_waitAt 29 = .ok (.ifCond .eq 12, 3) := by decide +kernel
theorem dX3_waitAt_32 : decode cX3_waitAt 32 = .ok (.aload_n 3, 1) := by decide +kernel
theorem dX3_waitAt_33 : decode cX3_waitAt 33 = .ok (.getfield 210, 3) := by decide +kernel
theorem dX3_waitAt_36 : decode cX3_waitAt 36 = .ok (.iconst 1, 1) := by decide +kernel
theorem dX3_waitAt_37 : decode cX3_waitAt 37 = .ok (.iadd, 1) := by decide +kernel
theorem dX3_waitAt_38 : decode cX3_waitAt 38 = .ok (.goto 4, 3) := by decide +kernel
theorem dX3_waitAt_41 : decode cX3_waitAt 41 = .ok (.iconst 0, 1) := by decide +kernel
theorem dX3_waitAt_42 : decode cX3_waitAt 42 = .ok (.putfield 210, 3) := by decide +kernel
theorem dX3_waitAt_45 : decode cX3_waitAt 45 = .ok (.aload_n 0, 1) := by decide +kernel
theorem dX3_waitAt_46 : decode cX3_waitAt 46 = .ok (.getfield 50, 3) := by decide +kernel
theorem dX3_waitAt_49 : decode cX3_waitAt 49 = .ok (.ifCond .le 25, 3) := by decide +kernel
theorem dX3_waitAt_52 : decode cX3_waitAt 52 = .ok (.aload_n 3, 1) := by decide +kernel
theorem dX3_waitAt_53 : decode cX3_waitAt 53 = .ok (.getfield 210, 3) := by decide +kernel
theorem dX3_waitAt_56 : decode cX3_waitAt 56 = .ok (.aload_n 0, 1) := by decide +kernel
theorem dX3_waitAt_57 : decode cX3_waitAt 57 = .ok (.getfield 50, 3) := by decide +kernel
theorem dX3_waitAt_60 : decode cX3_waitAt 60 = .ok (.if_icmp .lt 14, 3) := by decide +kernel
theorem dX3_waitAt_63 : decode cX3_waitAt 63 = .ok (.aload_n 0, 1) := by decide +kernel
theorem dX3_waitAt_64 : decode cX3_waitAt 64 = .ok (.aload_n 0, 1) := by decide +kernel
theorem dX3_waitAt_65 : decode cX3_waitAt 65 = .ok (.getfield 11, 3) := by decide +kernel
theorem dX3_waitAt_68 : decode cX3_waitAt 68 = .ok (.iload_n 1, 1) := by decide +kernel
theorem dX3_waitAt_69 : decode cX3_waitAt 69 = .ok (.aaload, 1) := by decide +kernel
theorem dX3_waitAt_70 : decode cX3_waitAt 70 = .ok (.iload_n 2, 1) := by decide +kernel
theorem dX3_waitAt_71 : decode cX3_waitAt 71 = .ok (.invokevirtual 217, 3) := by decide +kernel
theorem dX3_waitAt_74 : decode cX3_waitAt 74 = .ok (.iinc 2 1, 3) := by decide +kernel
theorem dX3_waitAt_77 : decode cX3_waitAt 77 = .ok (.goto (-75), 3) := by decide +kernel
theorem dX3_waitAt_80 : decode cX3_waitAt 80 = .ok (.return_, 1) := by decide +kernel
set_option maxRecDepth 20000 in
theorem ggX3_adapt_X3_aimOf : GoodIn wsX3_adapt wsX3_aimOf := goodIn_r _ [16, 1, 2, 11, 17, 18, 35, 36, 37, 38, 39, 40, 41, 42, 43, 44, 45, 46, 47, 48, 49, 50, 51, 52, 53, 54, 55, 56, 57, 58, 59, 60, 61, 62] (by decide +kernel) (by decide +kernel)
set_option maxRecDepth 20000 in
theorem gX3_adapt_X3_aimOf : GoodIn wsX3_adapt (wsV RX3 220 RX3 yX3_aimOf wsX3_aimOf) := goodIn_app (goodIn_of _ (by decide +kernel)) ggX3_adapt_X3_aimOf
set_option maxRecDepth 20000 in
theorem ggX3_adapt_X2_roomFor : GoodIn wsX3_adapt wsX2_roomFor := goodIn_r _ [23, 24, 25, 26, 27, 9, 6, 10, 28, 29, 30, 31, 32, 33, 34, 46, 47, 48, 49, 50, 51, 52, 53, 54, 55, 56, 57, 58, 59, 60, 61, 62] (by decide +kernel) (by decide +kernel)
set_option maxRecDepth 20000 in
theorem gX3_adapt_X2_roomFor : GoodIn wsX3_adapt (wsV RX3 227 RX2 yX2_roomFor wsX2_roomFor) := goodIn_app (goodIn_of _ (by decide +kernel)) ggX3_adapt_X2_roomFor
theorem dX3_adapt_0 : decode cX3_adapt 0 = .ok (.iconst 0, 1) := by decide +kernel
theorem dX3_adapt_1 : decode cX3_adapt 1 = .ok (.istore_n 2, 1) := by decide +kernel
theorem dX3_adapt_2 : decode cX3_adapt 2 = .ok (.iload_n 2, 1) := by decide +kernel
theorem dX3_adapt_3 : decode cX3_adapt 3 = .ok (.aload_n 0, 1) := by decide +kernel
theorem dX3_adapt_4 : decode cX3_adapt 4 = .ok (.getfield 62, 3) := by decide +kernel
theorem dX3_adapt_7 : decode cX3_adapt 7 = .ok (.if_icmp .ge 33, 3) := by decide +kernel
theorem dX3_adapt_10 : decode cX3_adapt 10 = .ok (.aload_n 1, 1) := by decide +kernel
theorem dX3_adapt_11 : decode cX3_adapt 11 = .ok (.getfield 128, 3) := by decide +kernel
theorem dX3_adapt_14 : decode cX3_adapt 14 = .ok (.iload_n 2, 1) := by decide +kernel
theorem dX3_adapt_15 : decode cX3_adapt 15 = .ok (.aaload, 1) := by decide +kernel
theorem dX3_adapt_16 : decode cX3_adapt 16 = .ok (.astore_n 3, 1) := by decide +kernel
theorem dX3_adapt_17 : decode cX3_adapt 17 = .ok (.aload_n 3, 1) := by decide +kernel
theorem dX3_adapt_18 : decode cX3_adapt 18 = .ok (.aload_n 3, 1) := by decide +kernel
theorem dX3_adapt_19 : decode cX3_adapt 19 = .ok (.getfield 195, 3) := by decide +kernel
theorem dX3_adapt_22 : decode cX3_adapt 22 = .ok (.aload_n 0, 1) := by decide +kernel
theorem dX3_adapt_23 : decode cX3_adapt 23 = .ok (.aload_n 1, 1) := by decide +kernel
theorem dX3_adapt_24 : decode cX3_adapt 24 = .ok (.iload_n 2, 1) := by decide +kernel
theorem dX3_adapt_25 : decode cX3_adapt 25 = .ok (.invokevirtual 220, 3) := by decide +kernel
theorem dX3_adapt_28 : decode cX3_adapt 28 = .ok (.invokestatic 224, 3) := by decide +kernel
theorem dX3_adapt_31 : decode cX3_adapt 31 = .ok (.putfield 195, 3) := by decide +kernel
theorem dX3_adapt_34 : decode cX3_adapt 34 = .ok (.iinc 2 1, 3) := by decide +kernel
theorem dX3_adapt_37 : decode cX3_adapt 37 = .ok (.goto (-35), 3) := by decide +kernel
theorem dX3_adapt_40 : decode cX3_adapt 40 = .ok (.iconst 0, 1) := by decide +kernel
theorem dX3_adapt_41 : decode cX3_adapt 41 = .ok (.istore_n 2, 1) := by decide +kernel
theorem dX3_adapt_42 : decode cX3_adapt 42 = .ok (.iload_n 2, 1) := by decide +kernel
theorem dX3_adapt_43 : decode cX3_adapt 43 = .ok (.aload_n 0, 1) := by decide +kernel
theorem dX3_adapt_44 : decode cX3_adapt 44 = .ok (.getfield 62, 3) := by decide +kernel
theorem dX3_adapt_47 : decode cX3_adapt 47 = .ok (.if_icmp .ge 49, 3) := by decide +kernel
theorem dX3_adapt_50 : decode cX3_adapt 50 = .ok (.aload_n 1, 1) := by decide +kernel
theorem dX3_adapt_51 : decode cX3_adapt 51 = .ok (.getfield 128, 3) := by decide +kernel
theorem dX3_adapt_54 : decode cX3_adapt 54 = .ok (.iload_n 2, 1) := by decide +kernel
theorem dX3_adapt_55 : decode cX3_adapt 55 = .ok (.aaload, 1) := by decide +kernel
theorem dX3_adapt_56 : decode cX3_adapt 56 = .ok (.astore_n 3, 1) := by decide +kernel
theorem dX3_adapt_57 : decode cX3_adapt 57 = .ok (.aload_n 0, 1) := by decide +kernel
theorem dX3_adapt_58 : decode cX3_adapt 58 = .ok (.aload_n 1, 1) := by decide +kernel
theorem dX3_adapt_59 : decode cX3_adapt 59 = .ok (.iload_n 2, 1) := by decide +kernel
theorem dX3_adapt_60 : decode cX3_adapt 60 = .ok (.invokevirtual 220, 3) := by decide +kernel
theorem dX3_adapt_63 : decode cX3_adapt 63 = .ok (.aload_n 1, 1) := by decide +kernel
theorem dX3_adapt_64 : decode cX3_adapt 64 = .ok (.iload_n 2, 1) := by decide +kernel
theorem dX3_adapt_65 : decode cX3_adapt 65 = .ok (.aload_n 0, 1) := by decide +kernel
theorem dX3_adapt_66 : decode cX3_adapt 66 = .ok (.getfield 62, 3) := by decide +kernel
theorem dX3_adapt_69 : decode cX3_adapt 69 = .ok (.invokevirtual 227, 3) := by decide +kernel
theorem dX3_adapt_72 : decode cX3_adapt 72 = .ok (.invokestatic 224, 3) := by decide +kernel
theorem dX3_adapt_75 : decode cX3_adapt 75 = .ok (.istore 4, 2) := by decide +kernel
theorem dX3_adapt_77 : decode cX3_adapt 77 = .ok (.aload_n 3, 1) := by decide +kernel
theorem dX3_adapt_78 : decode cX3_adapt 78 = .ok (.aload_n 3, 1) := by decide +kernel
theorem dX3_adapt_79 : decode cX3_adapt 79 = .ok (.getfield 195, 3) := by decide +kernel
theorem dX3_adapt_82 : decode cX3_adapt 82 = .ok (.iload 4, 2) := by decide +kernel
theorem dX3_adapt_84 : decode cX3_adapt 84 = .ok (.invokestatic 64, 3) := by decide +kernel
theorem dX3_adapt_87 : decode cX3_adapt 87 = .ok (.putfield 195, 3) := by decide +kernel
theorem dX3_adapt_90 : decode cX3_adapt 90 = .ok (.iinc 2 1, 3) := by decide +kernel
theorem dX3_adapt_93 : decode cX3_adapt 93 = .ok (.goto (-51), 3) := by decide +kernel
theorem dX3_adapt_96 : decode cX3_adapt 96 = .ok (.iconst 0, 1) := by decide +kernel
theorem dX3_adapt_97 : decode cX3_adapt 97 = .ok (.istore_n 2, 1) := by decide +kernel
theorem dX3_adapt_98 : decode cX3_adapt 98 = .ok (.iload_n 2, 1) := by decide +kernel
theorem dX3_adapt_99 : decode cX3_adapt 99 = .ok (.aload_n 0, 1) := by decide +kernel
theorem dX3_adapt_100 : decode cX3_adapt 100 = .ok (.getfield 62, 3) := by decide +kernel
theorem dX3_adapt_103 : decode cX3_adapt 103 = .ok (.if_icmp .ge 19, 3) := by decide +kernel
theorem dX3_adapt_106 : decode cX3_adapt 106 = .ok (.aload_n 1, 1) := by decide +kernel
theorem dX3_adapt_107 : decode cX3_adapt 107 = .ok (.getfield 128, 3) := by decide +kernel
theorem dX3_adapt_110 : decode cX3_adapt 110 = .ok (.iload_n 2, 1) := by decide +kernel
theorem dX3_adapt_111 : decode cX3_adapt 111 = .ok (.aaload, 1) := by decide +kernel
theorem dX3_adapt_112 : decode cX3_adapt 112 = .ok (.iconst 0, 1) := by decide +kernel
theorem dX3_adapt_113 : decode cX3_adapt 113 = .ok (.putfield 189, 3) := by decide +kernel
theorem dX3_adapt_116 : decode cX3_adapt 116 = .ok (.iinc 2 1, 3) := by decide +kernel
theorem dX3_adapt_119 : decode cX3_adapt 119 = .ok (.goto (-21), 3) := by decide +kernel
theorem dX3_adapt_122 : decode cX3_adapt 122 = .ok (.return_, 1) := by decide +kernel
theorem dX3_aimOf_0 : decode cX3_aimOf 0 = .ok (.iconst 0, 1) := by decide +kernel
theorem dX3_aimOf_1 : decode cX3_aimOf 1 = .ok (.istore_n 3, 1) := by decide +kernel
theorem dX3_aimOf_2 : decode cX3_aimOf 2 = .ok (.iconst 0, 1) := by decide +kernel
theorem dX3_aimOf_3 : decode cX3_aimOf 3 = .ok (.istore 4, 2) := by decide +kernel
theorem dX3_aimOf_5 : decode cX3_aimOf 5 = .ok (.iload 4, 2) := by decide +kernel
theorem dX3_aimOf_7 : decode cX3_aimOf 7 = .ok (.aload_n 0, 1) := by decide +kernel
theorem dX3_aimOf_8 : decode cX3_aimOf 8 = .ok (.getfield 62, 3) := by decide +kernel
theorem dX3_aimOf_11 : decode cX3_aimOf 11 = .ok (.if_icmp .ge 22, 3) := by decide +kernel
theorem dX3_aimOf_14 : decode cX3_aimOf 14 = .ok (.iload_n 3, 1) := by decide +kernel
theorem dX3_aimOf_15 : decode cX3_aimOf 15 = .ok (.aload_n 1, 1) := by decide +kernel
theorem dX3_aimOf_16 : decode cX3_aimOf 16 = .ok (.getfield 128, 3) := by decide +kernel
theorem dX3_aimOf_19 : decode cX3_aimOf 19 = .ok (.iload 4, 2) := by decide +kernel
theorem dX3_aimOf_21 : decode cX3_aimOf 21 = .ok (.aaload, 1) := by decide +kernel
theorem dX3_aimOf_22 : decode cX3_aimOf 22 = .ok (.getfield 189, 3) := by decide +kernel
theorem dX3_aimOf_25 : decode cX3_aimOf 25 = .ok (.iadd, 1) := by decide +kernel
theorem dX3_aimOf_26 : decode cX3_aimOf 26 = .ok (.istore_n 3, 1) := by decide +kernel
theorem dX3_aimOf_27 : decode cX3_aimOf 27 = .ok (.iinc 4 1, 3) := by decide +kernel
theorem dX3_aimOf_30 : decode cX3_aimOf 30 = .ok (.goto (-25), 3) := by decide +kernel
theorem dX3_aimOf_33 : decode cX3_aimOf 33 = .ok (.aload_n 1, 1) := by decide +kernel
theorem dX3_aimOf_34 : decode cX3_aimOf 34 = .ok (.getfield 230, 3) := by decide +kernel
theorem dX3_aimOf_37 : decode cX3_aimOf 37 = .ok (.aload_n 0, 1) := by decide +kernel
theorem dX3_aimOf_38 : decode cX3_aimOf 38 = .ok (.getfield 59, 3) := by decide +kernel
theorem dX3_aimOf_41 : decode cX3_aimOf 41 = .ok (.aload_n 0, 1) := by decide +kernel
theorem dX3_aimOf_42 : decode cX3_aimOf 42 = .ok (.getfield 62, 3) := by decide +kernel
theorem dX3_aimOf_45 : decode cX3_aimOf 45 = .ok (.imul, 1) := by decide +kernel
theorem dX3_aimOf_46 : decode cX3_aimOf 46 = .ok (.isub, 1) := by decide +kernel
theorem dX3_aimOf_47 : decode cX3_aimOf 47 = .ok (.istore 4, 2) := by decide +kernel
theorem dX3_aimOf_49 : decode cX3_aimOf 49 = .ok (.iload_n 3, 1) := by decide +kernel
theorem dX3_aimOf_50 : decode cX3_aimOf 50 = .ok (.ifCond .le 23, 3) := by decide +kernel
theorem dX3_aimOf_53 : decode cX3_aimOf 53 = .ok (.aload_n 0, 1) := by decide +kernel
theorem dX3_aimOf_54 : decode cX3_aimOf 54 = .ok (.getfield 59, 3) := by decide +kernel
theorem dX3_aimOf_57 : decode cX3_aimOf 57 = .ok (.iload 4, 2) := by decide +kernel
theorem dX3_aimOf_59 : decode cX3_aimOf 59 = .ok (.aload_n 1, 1) := by decide +kernel
theorem dX3_aimOf_60 : decode cX3_aimOf 60 = .ok (.getfield 128, 3) := by decide +kernel
theorem dX3_aimOf_63 : decode cX3_aimOf 63 = .ok (.iload_n 2, 1) := by decide +kernel
theorem dX3_aimOf_64 : decode cX3_aimOf 64 = .ok (.aaload, 1) := by decide +kernel
theorem dX3_aimOf_65 : decode cX3_aimOf 65 = .ok (.getfield 189, 3) := by decide +kernel
theorem dX3_aimOf_68 : decode cX3_aimOf 68 = .ok (.imul, 1) := by decide +kernel
theorem dX3_aimOf_69 : decode cX3_aimOf 69 = .ok (.iload_n 3, 1) := by decide +kernel
theorem dX3_aimOf_70 : decode cX3_aimOf 70 = .ok (.idiv, 1) := by decide +kernel
theorem dX3_aimOf_71 : decode cX3_aimOf 71 = .ok (.iadd, 1) := by decide +kernel
theorem dX3_aimOf_72 : decode cX3_aimOf 72 = .ok (.ireturn, 1) := by decide +kernel
theorem dX3_aimOf_73 : decode cX3_aimOf 73 = .ok (.aload_n 0, 1) := by decide +kernel
theorem dX3_aimOf_74 : decode cX3_aimOf 74 = .ok (.getfield 62, 3) := by decide +kernel
theorem dX3_aimOf_77 : decode cX3_aimOf 77 = .ok (.ifCond .le 18, 3) := by decide +kernel
theorem dX3_aimOf_80 : decode cX3_aimOf 80 = .ok (.aload_n 0, 1) := by decide +kernel
theorem dX3_aimOf_81 : decode cX3_aimOf 81 = .ok (.getfield 59, 3) := by decide +kernel
theorem dX3_aimOf_84 : decode cX3_aimOf 84 = .ok (.iload 4, 2) := by decide +kernel
theorem dX3_aimOf_86 : decode cX3_aimOf 86 = .ok (.aload_n 0, 1) := by decide +kernel
theorem dX3_aimOf_87 : decode cX3_aimOf 87 = .ok (.getfield 62, 3) := by decide +kernel
theorem dX3_aimOf_90 : decode cX3_aimOf 90 = .ok (.idiv, 1) := by decide +kernel
theorem dX3_aimOf_91 : decode cX3_aimOf 91 = .ok (.iadd, 1) := by decide +kernel
theorem dX3_aimOf_92 : decode cX3_aimOf 92 = .ok (.goto 7, 3) := by decide +kernel
theorem dX3_aimOf_95 : decode cX3_aimOf 95 = .ok (.aload_n 0, 1) := by decide +kernel
theorem dX3_aimOf_96 : decode cX3_aimOf 96 = .ok (.getfield 59, 3) := by decide +kernel
theorem dX3_aimOf_99 : decode cX3_aimOf 99 = .ok (.ireturn, 1) := by decide +kernel
theorem dX3_waitingAt_0 : decode cX3_waitingAt 0 = .ok (.aload_n 0, 1) := by decide +kernel
theorem dX3_waitingAt_1 : decode cX3_waitingAt 1 = .ok (.getfield 23, 3) := by decide +kernel
theorem dX3_waitingAt_4 : decode cX3_waitingAt 4 = .ok (.iload_n 1, 1) := by decide +kernel
theorem dX3_waitingAt_5 : decode cX3_waitingAt 5 = .ok (.iconst 3, 1) := by decide +kernel
theorem dX3_waitingAt_6 : decode cX3_waitingAt 6 = .ok (.imul, 1) := by decide +kernel
theorem dX3_waitingAt_7 : decode cX3_waitingAt 7 = .ok (.iload_n 2, 1) := by decide +kernel
theorem dX3_waitingAt_8 : decode cX3_waitingAt 8 = .ok (.iadd, 1) := by decide +kernel
theorem dX3_waitingAt_9 : decode cX3_waitingAt 9 = .ok (.iaload, 1) := by decide +kernel
theorem dX3_waitingAt_10 : decode cX3_waitingAt 10 = .ok (.ireturn, 1) := by decide +kernel
set_option maxRecDepth 20000 in
theorem ggX3_lacksCredit_X1_out : GoodIn wsX3_lacksCredit wsX1_out := goodIn_r _ [9, 10, 11, 33, 34, 35, 36, 37, 38, 39] (by decide +kernel) (by decide +kernel)
set_option maxRecDepth 20000 in
theorem gX3_lacksCredit_X1_out : GoodIn wsX3_lacksCredit (wsV RX3 192 RX1 yX1_out wsX1_out) := goodIn_app (goodIn_of _ (by decide +kernel)) ggX3_lacksCredit_X1_out
theorem dX3_lacksCredit_0 : decode cX3_lacksCredit 0 = .ok (.aload_n 0, 1) := by decide +kernel
theorem dX3_lacksCredit_1 : decode cX3_lacksCredit 1 = .ok (.getfield 23, 3) := by decide +kernel
theorem dX3_lacksCredit_4 : decode cX3_lacksCredit 4 = .ok (.iload_n 1, 1) := by decide +kernel
theorem dX3_lacksCredit_5 : decode cX3_lacksCredit 5 = .ok (.iconst 3, 1) := by decide +kernel
theorem dX3_lacksCredit_6 : decode cX3_lacksCredit 6 = .ok (.imul, 1) := by decide +kernel
theorem dX3_lacksCredit_7 : decode cX3_lacksCredit 7 = .ok (.iload_n 2, 1) := by decide +kernel
theorem dX3_lacksCredit_8 : decode cX3_lacksCredit 8 = .ok (.iadd, 1) := by decide +kernel
theorem dX3_lacksCredit_9 : decode cX3_lacksCredit 9 = .ok (.iaload, 1) := by decide +kernel
theorem dX3_lacksCredit_10 : decode cX3_lacksCredit 10 = .ok (.ifCond .le 38, 3) := by decide +kernel
theorem dX3_lacksCredit_13 : decode cX3_lacksCredit 13 = .ok (.aload_n 0, 1) := by decide +kernel
theorem dX3_lacksCredit_14 : decode cX3_lacksCredit 14 = .ok (.getfield 11, 3) := by decide +kernel
theorem dX3_lacksCredit_17 : decode cX3_lacksCredit 17 = .ok (.iload_n 1, 1) := by decide +kernel
theorem dX3_lacksCredit_18 : decode cX3_lacksCredit 18 = .ok (.aaload, 1) := by decide +kernel
theorem dX3_lacksCredit_19 : decode cX3_lacksCredit 19 = .ok (.getfield 128, 3) := by decide +kernel
theorem dX3_lacksCredit_22 : decode cX3_lacksCredit 22 = .ok (.iload_n 2, 1) := by decide +kernel
theorem dX3_lacksCredit_23 : decode cX3_lacksCredit 23 = .ok (.aaload, 1) := by decide +kernel
theorem dX3_lacksCredit_24 : decode cX3_lacksCredit 24 = .ok (.invokevirtual 192, 3) := by decide +kernel
theorem dX3_lacksCredit_27 : decode cX3_lacksCredit 27 = .ok (.aload_n 0, 1) := by decide +kernel
theorem dX3_lacksCredit_28 : decode cX3_lacksCredit 28 = .ok (.getfield 11, 3) := by decide +kernel
theorem dX3_lacksCredit_31 : decode cX3_lacksCredit 31 = .ok (.iload_n 1, 1) := by decide +kernel
theorem dX3_lacksCredit_32 : decode cX3_lacksCredit 32 = .ok (.aaload, 1) := by decide +kernel
theorem dX3_lacksCredit_33 : decode cX3_lacksCredit 33 = .ok (.getfield 128, 3) := by decide +kernel
theorem dX3_lacksCredit_36 : decode cX3_lacksCredit 36 = .ok (.iload_n 2, 1) := by decide +kernel
theorem dX3_lacksCredit_37 : decode cX3_lacksCredit 37 = .ok (.aaload, 1) := by decide +kernel
theorem dX3_lacksCredit_38 : decode cX3_lacksCredit 38 = .ok (.getfield 195, 3) := by decide +kernel
theorem dX3_lacksCredit_41 : decode cX3_lacksCredit 41 = .ok (.if_icmp .lt 7, 3) := by decide +kernel
theorem dX3_lacksCredit_44 : decode cX3_lacksCredit 44 = .ok (.iconst 1, 1) := by decide +kernel
theorem dX3_lacksCredit_45 : decode cX3_lacksCredit 45 = .ok (.goto 4, 3) := by decide +kernel
theorem dX3_lacksCredit_48 : decode cX3_lacksCredit 48 = .ok (.iconst 0, 1) := by decide +kernel
theorem dX3_lacksCredit_49 : decode cX3_lacksCredit 49 = .ok (.ireturn, 1) := by decide +kernel
set_option maxRecDepth 20000 in
theorem ggX3_crowd_X3_waitingAt : GoodIn wsX3_crowd wsX3_waitingAt := goodIn_r _ [7, 8, 15, 16, 17, 18, 19, 20, 21, 22, 23, 24, 25] (by decide +kernel) (by decide +kernel)
set_option maxRecDepth 20000 in
theorem gX3_crowd_X3_waitingAt : GoodIn wsX3_crowd (wsV RX3 233 RX3 yX3_waitingAt wsX3_waitingAt) := goodIn_app (goodIn_of _ (by decide +kernel)) ggX3_crowd_X3_waitingAt
set_option maxRecDepth 20000 in
theorem ggX3_crowd_X2_cellsOnOf : GoodIn wsX3_crowd wsX2_cellsOnOf := goodIn_r _ [13, 14, 26, 27, 28, 29, 30, 31, 32, 33, 34, 35] (by decide +kernel) (by decide +kernel)
set_option maxRecDepth 20000 in
theorem gX3_crowd_X2_cellsOnOf : GoodIn wsX3_crowd (wsV RX3 236 RX2 yX2_cellsOnOf wsX2_cellsOnOf) := goodIn_app (goodIn_of _ (by decide +kernel)) ggX3_crowd_X2_cellsOnOf
theorem dX3_crowd_0 : decode cX3_crowd 0 = .ok (.iload_n 3, 1) := by decide +kernel
theorem dX3_crowd_1 : decode cX3_crowd 1 = .ok (.ifCond .eq 8, 3) := by decide +kernel
theorem dX3_crowd_4 : decode cX3_crowd 4 = .ok (.iload_n 3, 1) := by decide +kernel
theorem dX3_crowd_5 : decode cX3_crowd 5 = .ok (.iconst 3, 1) := by decide +kernel
theorem dX3_crowd_6 : decode cX3_crowd 6 = .ok (.if_icmp .ne 7, 3) := by decide +kernel
theorem dX3_crowd_9 : decode cX3_crowd 9 = .ok (.iconst 1, 1) := by decide +kernel
theorem dX3_crowd_10 : decode cX3_crowd 10 = .ok (.goto 4, 3) := by decide +kernel
theorem dX3_crowd_13 : decode cX3_crowd 13 = .ok (.iconst 0, 1) := by decide +kernel
theorem dX3_crowd_14 : decode cX3_crowd 14 = .ok (.istore 4, 2) := by decide +kernel
theorem dX3_crowd_16 : decode cX3_crowd 16 = .ok (.iload_n 3, 1) := by decide +kernel
theorem dX3_crowd_17 : decode cX3_crowd 17 = .ok (.iconst 2, 1) := by decide +kernel
theorem dX3_crowd_18 : decode cX3_crowd 18 = .ok (.if_icmp .lt 11, 3) := by decide +kernel
theorem dX3_crowd_21 : decode cX3_crowd 21 = .ok (.iload_n 1, 1) := by decide +kernel
theorem dX3_crowd_22 : decode cX3_crowd 22 = .ok (.ifCond .le 7, 3) := by decide +kernel
theorem dX3_crowd_25 : decode cX3_crowd 25 = .ok (.iconst 1, 1) := by decide +kernel
theorem dX3_crowd_26 : decode cX3_crowd 26 = .ok (.goto 4, 3) := by decide +kernel
theorem dX3_crowd_29 : decode cX3_crowd 29 = .ok (.iconst 0, 1) := by decide +kernel
theorem dX3_crowd_30 : decode cX3_crowd 30 = .ok (.istore 5, 2) := by decide +kernel
theorem dX3_crowd_32 : decode cX3_crowd 32 = .ok (.iconst 0, 1) := by decide +kernel
theorem dX3_crowd_33 : decode cX3_crowd 33 = .ok (.istore 6, 2) := by decide +kernel
theorem dX3_crowd_35 : decode cX3_crowd 35 = .ok (.iconst 0, 1) := by decide +kernel
theorem dX3_crowd_36 : decode cX3_crowd 36 = .ok (.istore 7, 2) := by decide +kernel
theorem dX3_crowd_38 : decode cX3_crowd 38 = .ok (.iload 7, 2) := by decide +kernel
theorem dX3_crowd_40 : decode cX3_crowd 40 = .ok (.aload_n 0, 1) := by decide +kernel
theorem dX3_crowd_41 : decode cX3_crowd 41 = .ok (.getfield 62, 3) := by decide +kernel
theorem dX3_crowd_44 : decode cX3_crowd 44 = .ok (.if_icmp .ge 55, 3) := by decide +kernel
theorem dX3_crowd_47 : decode cX3_crowd 47 = .ok (.iload 4, 2) := by decide +kernel
theorem dX3_crowd_49 : decode cX3_crowd 49 = .ok (.ifCond .eq 9, 3) := by decide +kernel
theorem dX3_crowd_52 : decode cX3_crowd 52 = .ok (.iload 7, 2) := by decide +kernel
theorem dX3_crowd_54 : decode cX3_crowd 54 = .ok (.iload_n 2, 1) := by decide +kernel
theorem dX3_crowd_55 : decode cX3_crowd 55 = .ok (.if_icmp .ne 38, 3) := by decide +kernel
theorem dX3_crowd_58 : decode cX3_crowd 58 = .ok (.iload 6, 2) := by decide +kernel
theorem dX3_crowd_60 : decode cX3_crowd 60 = .ok (.aload_n 0, 1) := by decide +kernel
theorem dX3_crowd_61 : decode cX3_crowd 61 = .ok (.iload_n 1, 1) := by decide +kernel
theorem dX3_crowd_62 : decode cX3_crowd 62 = .ok (.iload 7, 2) := by decide +kernel
theorem dX3_crowd_64 : decode cX3_crowd 64 = .ok (.invokevirtual 233, 3) := by decide +kernel
theorem dX3_crowd_67 : decode cX3_crowd 67 = .ok (.iadd, 1) := by decide +kernel
theorem dX3_crowd_68 : decode cX3_crowd 68 = .ok (.istore 6, 2) := by decide +kernel
theorem dX3_crowd_70 : decode cX3_crowd 70 = .ok (.iload 5, 2) := by decide +kernel
theorem dX3_crowd_72 : decode cX3_crowd 72 = .ok (.ifCond .eq 21, 3) := by decide +kernel
theorem dX3_crowd_75 : decode cX3_crowd 75 = .ok (.iload 6, 2) := by decide +kernel
theorem dX3_crowd_77 : decode cX3_crowd 77 = .ok (.aload_n 0, 1) := by decide +kernel
theorem dX3_crowd_78 : decode cX3_crowd 78 = .ok (.getfield 11, 3) := by decide +kernel
theorem dX3_crowd_81 : decode cX3_crowd 81 = .ok (.iload_n 1, 1) := by decide +kernel
theorem dX3_crowd_82 : decode cX3_crowd 82 = .ok (.iconst 1, 1) := by decide +kernel
theorem dX3_crowd_83 : decode cX3_crowd 83 = .ok (.isub, 1) := by decide +kernel
theorem dX3_crowd_84 : decode cX3_crowd 84 = .ok (.aaload, 1) := by decide +kernel
theorem dX3_crowd_85 : decode cX3_crowd 85 = .ok (.iload 7, 2) := by decide +kernel
theorem dX3_crowd_87 : decode cX3_crowd 87 = .ok (.invokevirtual 236, 3) := by decide +kernel
theorem dX3_crowd_90 : decode cX3_crowd 90 = .ok (.iadd, 1) := by decide +kernel
theorem dX3_crowd_91 : decode cX3_crowd 91 = .ok (.istore 6, 2) := by decide +kernel
theorem dX3_crowd_93 : decode cX3_crowd 93 = .ok (.iinc 7 1, 3) := by decide +kernel
theorem dX3_crowd_96 : decode cX3_crowd 96 = .ok (.goto (-58), 3) := by decide +kernel
theorem dX3_crowd_99 : decode cX3_crowd 99 = .ok (.iload 6, 2) := by decide +kernel
theorem dX3_crowd_101 : decode cX3_crowd 101 = .ok (.ireturn, 1) := by decide +kernel
set_option maxRecDepth 20000 in
theorem ggX3_cellsOf_X3_waitingAt : GoodIn wsX3_cellsOf wsX3_waitingAt := goodIn_r _ [7, 8, 15, 16, 17, 18, 19, 20, 21, 22, 23, 24, 25] (by decide +kernel) (by decide +kernel)
set_option maxRecDepth 20000 in
theorem gX3_cellsOf_X3_waitingAt : GoodIn wsX3_cellsOf (wsV RX3 233 RX3 yX3_waitingAt wsX3_waitingAt) := goodIn_app (goodIn_of _ (by decide +kernel)) ggX3_cellsOf_X3_waitingAt
set_option maxRecDepth 20000 in
theorem ggX3_cellsOf_X2_cellsOnOf : GoodIn wsX3_cellsOf wsX2_cellsOnOf := goodIn_r _ [13, 14, 26, 27, 28, 29, 30, 31, 32, 33, 34, 35] (by decide +kernel) (by decide +kernel)
set_option maxRecDepth 20000 in
theorem gX3_cellsOf_X2_cellsOnOf : GoodIn wsX3_cellsOf (wsV RX3 236 RX2 yX2_cellsOnOf wsX2_cellsOnOf) := goodIn_app (goodIn_of _ (by decide +kernel)) ggX3_cellsOf_X2_cellsOnOf
theorem dX3_cellsOf_0 : decode cX3_cellsOf 0 = .ok (.iconst 0, 1) := by decide +kernel
theorem dX3_cellsOf_1 : decode cX3_cellsOf 1 = .ok (.istore_n 2, 1) := by decide +kernel
theorem dX3_cellsOf_2 : decode cX3_cellsOf 2 = .ok (.iconst 0, 1) := by decide +kernel
theorem dX3_cellsOf_3 : decode cX3_cellsOf 3 = .ok (.istore_n 3, 1) := by decide +kernel
theorem dX3_cellsOf_4 : decode cX3_cellsOf 4 = .ok (.iload_n 3, 1) := by decide +kernel
theorem dX3_cellsOf_5 : decode cX3_cellsOf 5 = .ok (.aload_n 0, 1) := by decide +kernel
theorem dX3_cellsOf_6 : decode cX3_cellsOf 6 = .ok (.getfield 53, 3) := by decide +kernel
theorem dX3_cellsOf_9 : decode cX3_cellsOf 9 = .ok (.if_icmp .gt 18, 3) := by decide +kernel
theorem dX3_cellsOf_12 : decode cX3_cellsOf 12 = .ok (.iload_n 2, 1) := by decide +kernel
theorem dX3_cellsOf_13 : decode cX3_cellsOf 13 = .ok (.aload_n 0, 1) := by decide +kernel
theorem dX3_cellsOf_14 : decode cX3_cellsOf 14 = .ok (.iload_n 3, 1) := by decide +kernel
theorem dX3_cellsOf_15 : decode cX3_cellsOf 15 = .ok (.iload_n 1, 1) := by decide +kernel
theorem dX3_cellsOf_16 : decode cX3_cellsOf 16 = .ok (.invokevirtual 233, 3) := by decide +kernel
theorem dX3_cellsOf_19 : decode cX3_cellsOf 19 = .ok (.iadd, 1) := by decide +kernel
theorem dX3_cellsOf_20 : decode cX3_cellsOf 20 = .ok (.istore_n 2, 1) := by decide +kernel
theorem dX3_cellsOf_21 : decode cX3_cellsOf 21 = .ok (.iinc 3 1, 3) := by decide +kernel
theorem dX3_cellsOf_24 : decode cX3_cellsOf 24 = .ok (.goto (-20), 3) := by decide +kernel
theorem dX3_cellsOf_27 : decode cX3_cellsOf 27 = .ok (.iconst 0, 1) := by decide +kernel
theorem dX3_cellsOf_28 : decode cX3_cellsOf 28 = .ok (.istore_n 3, 1) := by decide +kernel
theorem dX3_cellsOf_29 : decode cX3_cellsOf 29 = .ok (.iload_n 3, 1) := by decide +kernel
theorem dX3_cellsOf_30 : decode cX3_cellsOf 30 = .ok (.aload_n 0, 1) := by decide +kernel
theorem dX3_cellsOf_31 : decode cX3_cellsOf 31 = .ok (.getfield 53, 3) := by decide +kernel
theorem dX3_cellsOf_34 : decode cX3_cellsOf 34 = .ok (.if_icmp .ge 22, 3) := by decide +kernel
theorem dX3_cellsOf_37 : decode cX3_cellsOf 37 = .ok (.iload_n 2, 1) := by decide +kernel
theorem dX3_cellsOf_38 : decode cX3_cellsOf 38 = .ok (.aload_n 0, 1) := by decide +kernel
theorem dX3_cellsOf_39 : decode cX3_cellsOf 39 = .ok (.getfield 11, 3) := by decide +kernel
theorem dX3_cellsOf_42 : decode cX3_cellsOf 42 = .ok (.iload_n 3, 1) := by decide +kernel
theorem dX3_cellsOf_43 : decode cX3_cellsOf 43 = .ok (.aaload, 1) := by decide +kernel
theorem dX3_cellsOf_44 : decode cX3_cellsOf 44 = .ok (.iload_n 1, 1) := by decide +kernel
theorem dX3_cellsOf_45 : decode cX3_cellsOf 45 = .ok (.invokevirtual 236, 3) := by decide +kernel
theorem dX3_cellsOf_48 : decode cX3_cellsOf 48 = .ok (.iadd, 1) := by decide +kernel
theorem dX3_cellsOf_49 : decode cX3_cellsOf 49 = .ok (.istore_n 2, 1) := by decide +kernel
theorem dX3_cellsOf_50 : decode cX3_cellsOf 50 = .ok (.iinc 3 1, 3) := by decide +kernel
theorem dX3_cellsOf_53 : decode cX3_cellsOf 53 = .ok (.goto (-24), 3) := by decide +kernel
theorem dX3_cellsOf_56 : decode cX3_cellsOf 56 = .ok (.iload_n 2, 1) := by decide +kernel
theorem dX3_cellsOf_57 : decode cX3_cellsOf 57 = .ok (.ireturn, 1) := by decide +kernel
set_option maxRecDepth 20000 in
theorem ggX3_cellsOfAll_X3_cellsOf : GoodIn wsX3_cellsOfAll wsX3_cellsOf := goodIn_r _ [6, 7, 8, 9, 10, 11, 5, 12, 13, 14, 15, 16, 17, 18, 19, 20, 21, 22, 23, 24, 25, 26, 27, 28, 29, 30, 31, 32, 33, 34, 35, 36, 37, 38, 39, 40] (by decide +kernel) (by decide +kernel)
set_option maxRecDepth 20000 in
theorem gX3_cellsOfAll_X3_cellsOf : GoodIn wsX3_cellsOfAll (wsV RX3 239 RX3 yX3_cellsOf wsX3_cellsOf) := goodIn_app (goodIn_of _ (by decide +kernel)) ggX3_cellsOfAll_X3_cellsOf
theorem dX3_cellsOfAll_0 : decode cX3_cellsOfAll 0 = .ok (.iconst 0, 1) := by decide +kernel
theorem dX3_cellsOfAll_1 : decode cX3_cellsOfAll 1 = .ok (.istore_n 1, 1) := by decide +kernel
theorem dX3_cellsOfAll_2 : decode cX3_cellsOfAll 2 = .ok (.iconst 0, 1) := by decide +kernel
theorem dX3_cellsOfAll_3 : decode cX3_cellsOfAll 3 = .ok (.istore_n 2, 1) := by decide +kernel
theorem dX3_cellsOfAll_4 : decode cX3_cellsOfAll 4 = .ok (.iload_n 2, 1) := by decide +kernel
theorem dX3_cellsOfAll_5 : decode cX3_cellsOfAll 5 = .ok (.aload_n 0, 1) := by decide +kernel
theorem dX3_cellsOfAll_6 : decode cX3_cellsOfAll 6 = .ok (.getfield 62, 3) := by decide +kernel
theorem dX3_cellsOfAll_9 : decode cX3_cellsOfAll 9 = .ok (.if_icmp .ge 17, 3) := by decide +kernel
theorem dX3_cellsOfAll_12 : decode cX3_cellsOfAll 12 = .ok (.iload_n 1, 1) := by decide +kernel
theorem dX3_cellsOfAll_13 : decode cX3_cellsOfAll 13 = .ok (.aload_n 0, 1) := by decide +kernel
theorem dX3_cellsOfAll_14 : decode cX3_cellsOfAll 14 = .ok (.iload_n 2, 1) := by decide +kernel
theorem dX3_cellsOfAll_15 : decode cX3_cellsOfAll 15 = .ok (.invokevirtual 239, 3) := by decide +kernel
theorem dX3_cellsOfAll_18 : decode cX3_cellsOfAll 18 = .ok (.iadd, 1) := by decide +kernel
theorem dX3_cellsOfAll_19 : decode cX3_cellsOfAll 19 = .ok (.istore_n 1, 1) := by decide +kernel
theorem dX3_cellsOfAll_20 : decode cX3_cellsOfAll 20 = .ok (.iinc 2 1, 3) := by decide +kernel
theorem dX3_cellsOfAll_23 : decode cX3_cellsOfAll 23 = .ok (.goto (-19), 3) := by decide +kernel
theorem dX3_cellsOfAll_26 : decode cX3_cellsOfAll 26 = .ok (.iload_n 1, 1) := by decide +kernel
theorem dX3_cellsOfAll_27 : decode cX3_cellsOfAll 27 = .ok (.ireturn, 1) := by decide +kernel
theorem dX3_deliveredOfAll_0 : decode cX3_deliveredOfAll 0 = .ok (.iconst 0, 1) := by decide +kernel
theorem dX3_deliveredOfAll_1 : decode cX3_deliveredOfAll 1 = .ok (.istore_n 1, 1) := by decide +kernel
theorem dX3_deliveredOfAll_2 : decode cX3_deliveredOfAll 2 = .ok (.iconst 0, 1) := by decide +kernel
theorem dX3_deliveredOfAll_3 : decode cX3_deliveredOfAll 3 = .ok (.istore_n 2, 1) := by decide +kernel
theorem dX3_deliveredOfAll_4 : decode cX3_deliveredOfAll 4 = .ok (.iload_n 2, 1) := by decide +kernel
theorem dX3_deliveredOfAll_5 : decode cX3_deliveredOfAll 5 = .ok (.aload_n 0, 1) := by decide +kernel
theorem dX3_deliveredOfAll_6 : decode cX3_deliveredOfAll 6 = .ok (.getfield 62, 3) := by decide +kernel
theorem dX3_deliveredOfAll_9 : decode cX3_deliveredOfAll 9 = .ok (.if_icmp .ge 21, 3) := by decide +kernel
theorem dX3_deliveredOfAll_12 : decode cX3_deliveredOfAll 12 = .ok (.iload_n 1, 1) := by decide +kernel
theorem dX3_deliveredOfAll_13 : decode cX3_deliveredOfAll 13 = .ok (.aload_n 0, 1) := by decide +kernel
theorem dX3_deliveredOfAll_14 : decode cX3_deliveredOfAll 14 = .ok (.getfield 19, 3) := by decide +kernel
theorem dX3_deliveredOfAll_17 : decode cX3_deliveredOfAll 17 = .ok (.iload_n 2, 1) := by decide +kernel
theorem dX3_deliveredOfAll_18 : decode cX3_deliveredOfAll 18 = .ok (.aaload, 1) := by decide +kernel
theorem dX3_deliveredOfAll_19 : decode cX3_deliveredOfAll 19 = .ok (.getfield 167, 3) := by decide +kernel
theorem dX3_deliveredOfAll_22 : decode cX3_deliveredOfAll 22 = .ok (.iadd, 1) := by decide +kernel
theorem dX3_deliveredOfAll_23 : decode cX3_deliveredOfAll 23 = .ok (.istore_n 1, 1) := by decide +kernel
theorem dX3_deliveredOfAll_24 : decode cX3_deliveredOfAll 24 = .ok (.iinc 2 1, 3) := by decide +kernel
theorem dX3_deliveredOfAll_27 : decode cX3_deliveredOfAll 27 = .ok (.goto (-23), 3) := by decide +kernel
theorem dX3_deliveredOfAll_30 : decode cX3_deliveredOfAll 30 = .ok (.iload_n 1, 1) := by decide +kernel
theorem dX3_deliveredOfAll_31 : decode cX3_deliveredOfAll 31 = .ok (.ireturn, 1) := by decide +kernel
theorem dX3_unknown_0 : decode cX3_unknown 0 = .ok (.iconst 0, 1) := by decide +kernel
theorem dX3_unknown_1 : decode cX3_unknown 1 = .ok (.istore_n 1, 1) := by decide +kernel
theorem dX3_unknown_2 : decode cX3_unknown 2 = .ok (.iconst 0, 1) := by decide +kernel
theorem dX3_unknown_3 : decode cX3_unknown 3 = .ok (.istore_n 2, 1) := by decide +kernel
theorem dX3_unknown_4 : decode cX3_unknown 4 = .ok (.iload_n 2, 1) := by decide +kernel
theorem dX3_unknown_5 : decode cX3_unknown 5 = .ok (.aload_n 0, 1) := by decide +kernel
theorem dX3_unknown_6 : decode cX3_unknown 6 = .ok (.getfield 53, 3) := by decide +kernel
theorem dX3_unknown_9 : decode cX3_unknown 9 = .ok (.if_icmp .ge 54, 3) := by decide +kernel
theorem dX3_unknown_12 : decode cX3_unknown 12 = .ok (.iconst 0, 1) := by decide +kernel
theorem dX3_unknown_13 : decode cX3_unknown 13 = .ok (.istore_n 3, 1) := by decide +kernel
theorem dX3_unknown_14 : decode cX3_unknown 14 = .ok (.iload_n 3, 1) := by decide +kernel
theorem dX3_unknown_15 : decode cX3_unknown 15 = .ok (.aload_n 0, 1) := by decide +kernel
theorem dX3_unknown_16 : decode cX3_unknown 16 = .ok (.getfield 62, 3) := by decide +kernel
theorem dX3_unknown_19 : decode cX3_unknown 19 = .ok (.if_icmp .ge 38, 3) := by decide +kernel
theorem dX3_unknown_22 : decode cX3_unknown 22 = .ok (.aload_n 0, 1) := by decide +kernel
theorem dX3_unknown_23 : decode cX3_unknown 23 = .ok (.getfield 11, 3) := by decide +kernel
theorem dX3_unknown_26 : decode cX3_unknown 26 = .ok (.iload_n 2, 1) := by decide +kernel
theorem dX3_unknown_27 : decode cX3_unknown 27 = .ok (.aaload, 1) := by decide +kernel
theorem dX3_unknown_28 : decode cX3_unknown 28 = .ok (.getfield 128, 3) := by decide +kernel
theorem dX3_unknown_31 : decode cX3_unknown 31 = .ok (.iload_n 3, 1) := by decide +kernel
theorem dX3_unknown_32 : decode cX3_unknown 32 = .ok (.aaload, 1) := by decide +kernel
theorem dX3_unknown_33 : decode cX3_unknown 33 = .ok (.astore 4, 2) := by decide +kernel
theorem dX3_unknown_35 : decode cX3_unknown 35 = .ok (.aload 4, 2) := by decide +kernel
theorem dX3_unknown_37 : decode cX3_unknown 37 = .ok (.getfield 242, 3) := by decide +kernel
theorem dX3_unknown_40 : decode cX3_unknown 40 = .ok (.aload 4, 2) := by decide +kernel
theorem dX3_unknown_42 : decode cX3_unknown 42 = .ok (.getfield 198, 3) := by decide +kernel
theorem dX3_unknown_45 : decode cX3_unknown 45 = .ok (.if_icmp .eq 6, 3) := by decide +kernel
theorem dX3_unknown_48 : decode cX3_unknown 48 = .ok (.iinc 1 1, 3) := by decide +kernel
theorem dX3_unknown_51 : decode cX3_unknown 51 = .ok (.iinc 3 1, 3) := by decide +kernel
theorem dX3_unknown_54 : decode cX3_unknown 54 = .ok (.goto (-40), 3) := by decide +kernel
theorem dX3_unknown_57 : decode cX3_unknown 57 = .ok (.iinc 2 1, 3) := by decide +kernel
theorem dX3_unknown_60 : decode cX3_unknown 60 = .ok (.goto (-56), 3) := by decide +kernel
theorem dX3_unknown_63 : decode cX3_unknown 63 = .ok (.iload_n 1, 1) := by decide +kernel
theorem dX3_unknown_64 : decode cX3_unknown 64 = .ok (.ireturn, 1) := by decide +kernel
theorem dX3_movedNow_0 : decode cX3_movedNow 0 = .ok (.iconst 0, 1) := by decide +kernel
theorem dX3_movedNow_1 : decode cX3_movedNow 1 = .ok (.istore_n 1, 1) := by decide +kernel
theorem dX3_movedNow_2 : decode cX3_movedNow 2 = .ok (.iload_n 1, 1) := by decide +kernel
theorem dX3_movedNow_3 : decode cX3_movedNow 3 = .ok (.aload_n 0, 1) := by decide +kernel
theorem dX3_movedNow_4 : decode cX3_movedNow 4 = .ok (.getfield 53, 3) := by decide +kernel
theorem dX3_movedNow_7 : decode cX3_movedNow 7 = .ok (.if_icmp .ge 24, 3) := by decide +kernel
theorem dX3_movedNow_10 : decode cX3_movedNow 10 = .ok (.aload_n 0, 1) := by decide +kernel
theorem dX3_movedNow_11 : decode cX3_movedNow 11 = .ok (.getfield 11, 3) := by decide +kernel
theorem dX3_movedNow_14 : decode cX3_movedNow 14 = .ok (.iload_n 1, 1) := by decide +kernel
theorem dX3_movedNow_15 : decode cX3_movedNow 15 = .ok (.aaload, 1) := by decide +kernel
theorem dX3_movedNow_16 : decode cX3_movedNow 16 = .ok (.getfield 177, 3) := by decide +kernel
theorem dX3_movedNow_19 : decode cX3_movedNow 19 = .ok (.iconst (-1), 1) := by decide +kernel
theorem dX3_movedNow_20 : decode cX3_movedNow 20 = .ok (.if_icmp .eq 5, 3) := by decide +kernel
theorem dX3_movedNow_23 : decode cX3_movedNow 23 = .ok (.iconst 1, 1) := by decide +kernel
theorem dX3_movedNow_24 : decode cX3_movedNow 24 = .ok (.ireturn, 1) := by decide +kernel
theorem dX3_movedNow_25 : decode cX3_movedNow 25 = .ok (.iinc 1 1, 3) := by decide +kernel
theorem dX3_movedNow_28 : decode cX3_movedNow 28 = .ok (.goto (-26), 3) := by decide +kernel
theorem dX3_movedNow_31 : decode cX3_movedNow 31 = .ok (.iconst 0, 1) := by decide +kernel
theorem dX3_movedNow_32 : decode cX3_movedNow 32 = .ok (.istore_n 1, 1) := by decide +kernel
theorem dX3_movedNow_33 : decode cX3_movedNow 33 = .ok (.iload_n 1, 1) := by decide +kernel
theorem dX3_movedNow_34 : decode cX3_movedNow 34 = .ok (.aload_n 0, 1) := by decide +kernel
theorem dX3_movedNow_35 : decode cX3_movedNow 35 = .ok (.getfield 62, 3) := by decide +kernel
theorem dX3_movedNow_38 : decode cX3_movedNow 38 = .ok (.if_icmp .ge 23, 3) := by decide +kernel
theorem dX3_movedNow_41 : decode cX3_movedNow 41 = .ok (.aload_n 0, 1) := by decide +kernel
theorem dX3_movedNow_42 : decode cX3_movedNow 42 = .ok (.getfield 19, 3) := by decide +kernel
theorem dX3_movedNow_45 : decode cX3_movedNow 45 = .ok (.iload_n 1, 1) := by decide +kernel
theorem dX3_movedNow_46 : decode cX3_movedNow 46 = .ok (.aaload, 1) := by decide +kernel
theorem dX3_movedNow_47 : decode cX3_movedNow 47 = .ok (.getfield 164, 3) := by decide +kernel
theorem dX3_movedNow_50 : decode cX3_movedNow 50 = .ok (.ifCond .eq 5, 3) := by decide +kernel
theorem dX3_movedNow_53 : decode cX3_movedNow 53 = .ok (.iconst 1, 1) := by decide +kernel
theorem dX3_movedNow_54 : decode cX3_movedNow 54 = .ok (.ireturn, 1) := by decide +kernel
theorem dX3_movedNow_55 : decode cX3_movedNow 55 = .ok (.iinc 1 1, 3) := by decide +kernel
theorem dX3_movedNow_58 : decode cX3_movedNow 58 = .ok (.goto (-25), 3) := by decide +kernel
theorem dX3_movedNow_61 : decode cX3_movedNow 61 = .ok (.iconst 0, 1) := by decide +kernel
theorem dX3_movedNow_62 : decode cX3_movedNow 62 = .ok (.ireturn, 1) := by decide +kernel
theorem dX4_init_0 : decode cX4_init 0 = .ok (.aload_n 0, 1) := by decide +kernel
theorem dX4_init_1 : decode cX4_init 1 = .ok (.invokespecial 3, 3) := by decide +kernel
theorem dX4_init_4 : decode cX4_init 4 = .ok (.aload_n 0, 1) := by decide +kernel
theorem dX4_init_5 : decode cX4_init 5 = .ok (.iconst 0, 1) := by decide +kernel
theorem dX4_init_6 : decode cX4_init 6 = .ok (.newarray .int, 2) := by decide +kernel
theorem dX4_init_8 : decode cX4_init 8 = .ok (.putfield 9, 3) := by decide +kernel
theorem dX4_init_11 : decode cX4_init 11 = .ok (.aload_n 0, 1) := by decide +kernel
theorem dX4_init_12 : decode cX4_init 12 = .ok (.bipush 21, 2) := by decide +kernel
theorem dX4_init_14 : decode cX4_init 14 = .ok (.newarray .int, 2) := by decide +kernel
theorem dX4_init_16 : decode cX4_init 16 = .ok (.putfield 15, 3) := by decide +kernel
theorem dX4_init_19 : decode cX4_init 19 = .ok (.return_, 1) := by decide +kernel
set_option maxRecDepth 20000 in
theorem ggX4_faultOf_X4_setUsual : GoodIn wsX4_faultOf wsX4_setUsual := goodIn_r _ [15, 16, 17, 18, 19, 14, 20, 94, 95, 96, 97, 98, 99, 100] (by decide +kernel) (by decide +kernel)
set_option maxRecDepth 20000 in
theorem gX4_faultOf_X4_setUsual : GoodIn wsX4_faultOf (wsV RX4 40 RX4 yX4_setUsual wsX4_setUsual) := goodIn_app (goodIn_of _ (by decide +kernel)) ggX4_faultOf_X4_setUsual
set_option maxRecDepth 20000 in
theorem ggX4_faultOf_X4_readClause : GoodIn wsX4_faultOf wsX4_readClause := goodIn_r _ [24, 7, 6, 1, 8, 25, 26, 27, 14, 28, 29, 30, 31, 32, 33, 34, 35, 36, 9, 10, 18, 19, 20, 37, 38, 39, 40, 41, 42, 43, 44, 45, 46, 47, 48, 49, 50, 51, 52, 53, 54, 55, 56, 57, 58, 59, 60, 61, 62, 63, 64, 65, 66, 67, 68, 69, 70, 71, 72, 73, 74, 75, 76, 77, 78, 79, 80, 81, 82, 83, 84, 85, 86, 16, 87, 88, 89, 90, 91, 92, 93, 94, 95, 96, 97, 98, 99, 100] (by decide +kernel) (by decide +kernel)
set_option maxRecDepth 20000 in
theorem gX4_faultOf_X4_readClause : GoodIn wsX4_faultOf (wsV RX4 43 RX4 yX4_readClause wsX4_readClause) := goodIn_app (goodIn_of _ (by decide +kernel)) ggX4_faultOf_X4_readClause
theorem dX4_faultOf_0 : decode cX4_faultOf 0 = .ok (.aload_n 0, 1) := by decide +kernel
theorem dX4_faultOf_1 : decode cX4_faultOf 1 = .ok (.aload_n 1, 1) := by decide +kernel
theorem dX4_faultOf_2 : decode cX4_faultOf 2 = .ok (.putfield 9, 3) := by decide +kernel
theorem dX4_faultOf_5 : decode cX4_faultOf 5 = .ok (.aload_n 0, 1) := by decide +kernel
theorem dX4_faultOf_6 : decode cX4_faultOf 6 = .ok (.iload_n 2, 1) := by decide +kernel
theorem dX4_faultOf_7 : decode cX4_faultOf 7 = .ok (.aload_n 1, 1) := by decide +kernel
theorem dX4_faultOf_8 : decode cX4_faultOf 8 = .ok (.arraylength, 1) := by decide +kernel
theorem dX4_faultOf_9 : decode cX4_faultOf 9 = .ok (.invokestatic 18, 3) := by decide +kernel
theorem dX4_faultOf_12 : decode cX4_faultOf 12 = .ok (.putfield 24, 3) := by decide +kernel
theorem dX4_faultOf_15 : decode cX4_faultOf 15 = .ok (.aload_n 0, 1) := by decide +kernel
theorem dX4_faultOf_16 : decode cX4_faultOf 16 = .ok (.iconst 0, 1) := by decide +kernel
theorem dX4_faultOf_17 : decode cX4_faultOf 17 = .ok (.putfield 28, 3) := by decide +kernel
theorem dX4_faultOf_20 : decode cX4_faultOf 20 = .ok (.aload_n 0, 1) := by decide +kernel
theorem dX4_faultOf_21 : decode cX4_faultOf 21 = .ok (.iconst (-1), 1) := by decide +kernel
theorem dX4_faultOf_22 : decode cX4_faultOf 22 = .ok (.putfield 31, 3) := by decide +kernel
