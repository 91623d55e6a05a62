theorem dX0_lay_0 : decode cX0_lay 0 = .ok (.aload_n 0, 1) := by decide +kernel
theorem dX0_lay_1 : decode cX0_lay 1 = .ok (.iload_n 1, 1) := by decide +kernel
theorem dX0_lay_2 : decode cX0_lay 2 = .ok (.putfield 7, 3) := by decide +kernel
theorem dX0_lay_5 : decode cX0_lay 5 = .ok (.aload_n 0, 1) := by decide +kernel
theorem dX0_lay_6 : decode cX0_lay 6 = .ok (.iload_n 2, 1) := by decide +kernel
theorem dX0_lay_7 : decode cX0_lay 7 = .ok (.putfield 13, 3) := by decide +kernel
theorem dX0_lay_10 : decode cX0_lay 10 = .ok (.aload_n 0, 1) := by decide +kernel
theorem dX0_lay_11 : decode cX0_lay 11 = .ok (.iload_n 3, 1) := by decide +kernel
theorem dX0_lay_12 : decode cX0_lay 12 = .ok (.putfield 16, 3) := by decide +kernel
theorem dX0_lay_15 : decode cX0_lay 15 = .ok (.aload_n 0, 1) := by decide +kernel
theorem dX0_lay_16 : decode cX0_lay 16 = .ok (.iconst 0, 1) := by decide +kernel
theorem dX0_lay_17 : decode cX0_lay 17 = .ok (.putfield 19, 3) := by decide +kernel
theorem dX0_lay_20 : decode cX0_lay 20 = .ok (.aload_n 0, 1) := by decide +kernel
theorem dX0_lay_21 : decode cX0_lay 21 = .ok (.iconst 0, 1) := by decide +kernel
theorem dX0_lay_22 : decode cX0_lay 22 = .ok (.putfield 22, 3) := by decide +kernel
theorem dX0_lay_25 : decode cX0_lay 25 = .ok (.aload_n 0, 1) := by decide +kernel
theorem dX0_lay_26 : decode cX0_lay 26 = .ok (.iconst 0, 1) := by decide +kernel
theorem dX0_lay_27 : decode cX0_lay 27 = .ok (.putfield 25, 3) := by decide +kernel
theorem dX0_lay_30 : decode cX0_lay 30 = .ok (.aload_n 0, 1) := by decide +kernel
theorem dX0_lay_31 : decode cX0_lay 31 = .ok (.iconst 0, 1) := by decide +kernel
theorem dX0_lay_32 : decode cX0_lay 32 = .ok (.putfield 28, 3) := by decide +kernel
theorem dX0_lay_35 : decode cX0_lay 35 = .ok (.aload_n 0, 1) := by decide +kernel
theorem dX0_lay_36 : decode cX0_lay 36 = .ok (.iconst 0, 1) := by decide +kernel
theorem dX0_lay_37 : decode cX0_lay 37 = .ok (.putfield 32, 3) := by decide +kernel
theorem dX0_lay_40 : decode cX0_lay 40 = .ok (.return_, 1) := by decide +kernel
theorem dX0_comesIn_0 : decode cX0_comesIn 0 = .ok (.aload_n 0, 1) := by decide +kernel
theorem dX0_comesIn_1 : decode cX0_comesIn 1 = .ok (.getfield 7, 3) := by decide +kernel
theorem dX0_comesIn_4 : decode cX0_comesIn 4 = .ok (.ifCond .le 29, 3) := by decide +kernel
theorem dX0_comesIn_33 : decode cX0_comesIn 33 = .ok (.iconst 0, 1) := by decide +kernel
theorem dX0_comesIn_34 : decode cX0_comesIn 34 = .ok (.ireturn, 1) := by decide +kernel
theorem dX0_takesIn_0 : decode cX0_takesIn 0 = .ok (.aload_n 0, 1) := by decide +kernel
theorem dX0_takesIn_1 : decode cX0_takesIn 1 = .ok (.getfield 16, 3) := by decide +kernel
theorem dX0_takesIn_4 : decode cX0_takesIn 4 = .ok (.ifCond .le 16, 3) := by decide +kernel
theorem dX0_takesIn_7 : decode cX0_takesIn 7 = .ok (.iload_n 1, 1) := by decide +kernel
theorem dX0_takesIn_8 : decode cX0_takesIn 8 = .ok (.aload_n 0, 1) := by decide +kernel
theorem dX0_takesIn_9 : decode cX0_takesIn 9 = .ok (.getfield 16, 3) := by decide +kernel
theorem dX0_takesIn_12 : decode cX0_takesIn 12 = .ok (.irem, 1) := by decide +kernel
theorem dX0_takesIn_13 : decode cX0_takesIn 13 = .ok (.ifCond .ne 7, 3) := by decide +kernel
theorem dX0_takesIn_16 : decode cX0_takesIn 16 = .ok (.iconst 1, 1) := by decide +kernel
theorem dX0_takesIn_17 : decode cX0_takesIn 17 = .ok (.goto 4, 3) := by decide +kernel
theorem dX0_takesIn_20 : decode cX0_takesIn 20 = .ok (.iconst 0, 1) := by decide +kernel
theorem dX0_takesIn_21 : decode cX0_takesIn 21 = .ok (.ireturn, 1) := by decide +kernel
theorem dX1_init_0 : decode cX1_init 0 = .ok (.aload_n 0, 1) := by decide +kernel
theorem dX1_init_1 : decode cX1_init 1 = .ok (.invokespecial 3, 3) := by decide +kernel
theorem dX1_init_4 : decode cX1_init 4 = .ok (.return_, 1) := by decide +kernel
theorem dX1_lay_0 : decode cX1_lay 0 = .ok (.aload_n 0, 1) := by decide +kernel
theorem dX1_lay_1 : decode cX1_lay 1 = .ok (.iconst 0, 1) := by decide +kernel
theorem dX1_lay_2 : decode cX1_lay 2 = .ok (.putfield 9, 3) := by decide +kernel
theorem dX1_lay_5 : decode cX1_lay 5 = .ok (.aload_n 0, 1) := by decide +kernel
theorem dX1_lay_6 : decode cX1_lay 6 = .ok (.iconst 0, 1) := by decide +kernel
theorem dX1_lay_7 : decode cX1_lay 7 = .ok (.putfield 15, 3) := by decide +kernel
theorem dX1_lay_10 : decode cX1_lay 10 = .ok (.aload_n 0, 1) := by decide +kernel
theorem dX1_lay_11 : decode cX1_lay 11 = .ok (.iconst 0, 1) := by decide +kernel
theorem dX1_lay_12 : decode cX1_lay 12 = .ok (.putfield 18, 3) := by decide +kernel
theorem dX1_lay_15 : decode cX1_lay 15 = .ok (.aload_n 0, 1) := by decide +kernel
theorem dX1_lay_16 : decode cX1_lay 16 = .ok (.iload_n 1, 1) := by decide +kernel
theorem dX1_lay_17 : decode cX1_lay 17 = .ok (.putfield 21, 3) := by decide +kernel
theorem dX1_lay_20 : decode cX1_lay 20 = .ok (.aload_n 0, 1) := by decide +kernel
theorem dX1_lay_21 : decode cX1_lay 21 = .ok (.iconst 0, 1) := by decide +kernel
theorem dX1_lay_22 : decode cX1_lay 22 = .ok (.putfield 24, 3) := by decide +kernel
theorem dX1_lay_25 : decode cX1_lay 25 = .ok (.aload_n 0, 1) := by decide +kernel
theorem dX1_lay_26 : decode cX1_lay 26 = .ok (.iconst 0, 1) := by decide +kernel
theorem dX1_lay_27 : decode cX1_lay 27 = .ok (.putfield 27, 3) := by decide +kernel
theorem dX1_lay_30 : decode cX1_lay 30 = .ok (.aload_n 0, 1) := by decide +kernel
theorem dX1_lay_31 : decode cX1_lay 31 = .ok (.iconst 0, 1) := by decide +kernel
theorem dX1_lay_32 : decode cX1_lay 32 = .ok (.putfield 30, 3) := by decide +kernel
theorem dX1_lay_35 : decode cX1_lay 35 = .ok (.return_, 1) := by decide +kernel
theorem dX1_out_0 : decode cX1_out 0 = .ok (.aload_n 0, 1) := by decide +kernel
theorem dX1_out_1 : decode cX1_out 1 = .ok (.getfield 9, 3) := by decide +kernel
theorem dX1_out_4 : decode cX1_out 4 = .ok (.aload_n 0, 1) := by decide +kernel
theorem dX1_out_5 : decode cX1_out 5 = .ok (.getfield 18, 3) := by decide +kernel
theorem dX1_out_8 : decode cX1_out 8 = .ok (.isub, 1) := by decide +kernel
theorem dX1_out_9 : decode cX1_out 9 = .ok (.bipush 63, 2) := by decide +kernel
theorem dX1_out_11 : decode cX1_out 11 = .ok (.iand, 1) := by decide +kernel
theorem dX1_out_12 : decode cX1_out 12 = .ok (.ireturn, 1) := by decide +kernel
set_option maxRecDepth 20000 in
theorem ggX1_hear_X6_reaches : GoodIn wsX1_hear wsX6_reaches := goodIn_r _ [4] (by decide +kernel) (by decide +kernel)
theorem dX1_hear_0 : decode cX1_hear 0 = .ok (.iload_n 1, 1) := by decide +kernel
theorem dX1_hear_1 : decode cX1_hear 1 = .ok (.aload_n 0, 1) := by decide +kernel
theorem dX1_hear_2 : decode cX1_hear 2 = .ok (.getfield 18, 3) := by decide +kernel
theorem dX1_hear_5 : decode cX1_hear 5 = .ok (.invokestatic 43, 3) := by decide +kernel
theorem dX1_hear_8 : decode cX1_hear 8 = .ok (.ifCond .eq 8, 3) := by decide +kernel
theorem dX1_hear_11 : decode cX1_hear 11 = .ok (.aload_n 0, 1) := by decide +kernel
theorem dX1_hear_12 : decode cX1_hear 12 = .ok (.iload_n 1, 1) := by decide +kernel
theorem dX1_hear_13 : decode cX1_hear 13 = .ok (.putfield 18, 3) := by decide +kernel
theorem dX1_hear_16 : decode cX1_hear 16 = .ok (.return_, 1) := by decide +kernel
set_option maxRecDepth 20000 in
theorem ggX2_init_X1_init : GoodIn wsX2_init wsX1_init := goodIn_r _ [13, 14, 2, 3] (by decide +kernel) (by decide +kernel)
theorem dX2_init_0 : decode cX2_init 0 = .ok (.aload_n 0, 1) := by decide +kernel
theorem dX2_init_1 : decode cX2_init 1 = .ok (.invokespecial 3, 3) := by decide +kernel
theorem dX2_init_4 : decode cX2_init 4 = .ok (.aload_n 0, 1) := by decide +kernel
theorem dX2_init_5 : decode cX2_init 5 = .ok (.iconst 5, 1) := by decide +kernel
theorem dX2_init_6 : decode cX2_init 6 = .ok (.newarray .int, 2) := by decide +kernel
theorem dX2_init_8 : decode cX2_init 8 = .ok (.putfield 9, 3) := by decide +kernel
theorem dX2_init_11 : decode cX2_init 11 = .ok (.aload_n 0, 1) := by decide +kernel
theorem dX2_init_12 : decode cX2_init 12 = .ok (.bipush 15, 2) := by decide +kernel
theorem dX2_init_14 : decode cX2_init 14 = .ok (.newarray .int, 2) := by decide +kernel
theorem dX2_init_16 : decode cX2_init 16 = .ok (.putfield 15, 3) := by decide +kernel
theorem dX2_init_19 : decode cX2_init 19 = .ok (.aload_n 0, 1) := by decide +kernel
theorem dX2_init_20 : decode cX2_init 20 = .ok (.bipush 15, 2) := by decide +kernel
theorem dX2_init_22 : decode cX2_init 22 = .ok (.newarray .int, 2) := by decide +kernel
theorem dX2_init_24 : decode cX2_init 24 = .ok (.putfield 18, 3) := by decide +kernel
theorem dX2_init_27 : decode cX2_init 27 = .ok (.aload_n 0, 1) := by decide +kernel
theorem dX2_init_28 : decode cX2_init 28 = .ok (.iconst 3, 1) := by decide +kernel
theorem dX2_init_29 : decode cX2_init 29 = .ok (.anewarray 21, 3) := by decide +kernel
theorem dX2_init_32 : decode cX2_init 32 = .ok (.putfield 23, 3) := by decide +kernel
theorem dX2_init_35 : decode cX2_init 35 = .ok (.iconst 0, 1) := by decide +kernel
theorem dX2_init_36 : decode cX2_init 36 = .ok (.istore_n 1, 1) := by decide +kernel
theorem dX2_init_37 : decode cX2_init 37 = .ok (.iload_n 1, 1) := by decide +kernel
theorem dX2_init_38 : decode cX2_init 38 = .ok (.iconst 3, 1) := by decide +kernel
theorem dX2_init_39 : decode cX2_init 39 = .ok (.if_icmp .ge 22, 3) := by decide +kernel
theorem dX2_init_42 : decode cX2_init 42 = .ok (.aload_n 0, 1) := by decide +kernel
theorem dX2_init_43 : decode cX2_init 43 = .ok (.getfield 23, 3) := by decide +kernel
theorem dX2_init_46 : decode cX2_init 46 = .ok (.iload_n 1, 1) := by decide +kernel
theorem dX2_init_47 : decode cX2_init 47 = .ok (.new 21, 3) := by decide +kernel
theorem dX2_init_50 : decode cX2_init 50 = .ok (.dup, 1) := by decide +kernel
theorem dX2_init_51 : decode cX2_init 51 = .ok (.invokespecial 27, 3) := by decide +kernel
theorem dX2_init_54 : decode cX2_init 54 = .ok (.aastore, 1) := by decide +kernel
theorem dX2_init_55 : decode cX2_init 55 = .ok (.iinc 1 1, 3) := by decide +kernel
theorem dX2_init_58 : decode cX2_init 58 = .ok (.goto (-21), 3) := by decide +kernel
theorem dX2_init_61 : decode cX2_init 61 = .ok (.return_, 1) := by decide +kernel
set_option maxRecDepth 20000 in
theorem ggX2_lay_X2_clearSlot : GoodIn wsX2_lay wsX2_clearSlot := goodIn_r _ [12, 13, 14, 15, 28, 29, 30, 31, 32, 33, 34, 35, 36, 37] (by decide +kernel) (by decide +kernel)
set_option maxRecDepth 20000 in
theorem gX2_lay_X2_clearSlot : GoodIn wsX2_lay (wsV RX2 47 RX2 yX2_clearSlot wsX2_clearSlot) := goodIn_app (goodIn_of _ (by decide +kernel)) ggX2_lay_X2_clearSlot
set_option maxRecDepth 20000 in
theorem ggX2_lay_X1_lay : GoodIn wsX2_lay wsX1_lay := goodIn_r _ [20, 21, 22, 23, 24, 25, 26, 27, 38, 39, 40, 41, 42, 43, 44] (by decide +kernel) (by decide +kernel)
set_option maxRecDepth 20000 in
theorem gX2_lay_X1_lay : GoodIn wsX2_lay (wsV RX2 51 RX1 yX1_lay wsX1_lay) := goodIn_app (goodIn_of _ (by decide +kernel)) ggX2_lay_X1_lay
theorem dX2_lay_0 : decode cX2_lay 0 = .ok (.aload_n 0, 1) := by decide +kernel
theorem dX2_lay_1 : decode cX2_lay 1 = .ok (.iload_n 1, 1) := by decide +kernel
theorem dX2_lay_2 : decode cX2_lay 2 = .ok (.putfield 28, 3) := by decide +kernel
theorem dX2_lay_5 : decode cX2_lay 5 = .ok (.aload_n 0, 1) := by decide +kernel
theorem dX2_lay_6 : decode cX2_lay 6 = .ok (.iload_n 2, 1) := by decide +kernel
theorem dX2_lay_7 : decode cX2_lay 7 = .ok (.putfield 32, 3) := by decide +kernel
theorem dX2_lay_10 : decode cX2_lay 10 = .ok (.aload_n 0, 1) := by decide +kernel
theorem dX2_lay_11 : decode cX2_lay 11 = .ok (.iload_n 3, 1) := by decide +kernel
theorem dX2_lay_12 : decode cX2_lay 12 = .ok (.putfield 35, 3) := by decide +kernel
theorem dX2_lay_15 : decode cX2_lay 15 = .ok (.aload_n 0, 1) := by decide +kernel
theorem dX2_lay_16 : decode cX2_lay 16 = .ok (.iconst 0, 1) := by decide +kernel
theorem dX2_lay_17 : decode cX2_lay 17 = .ok (.putfield 38, 3) := by decide +kernel
theorem dX2_lay_20 : decode cX2_lay 20 = .ok (.aload_n 0, 1) := by decide +kernel
theorem dX2_lay_21 : decode cX2_lay 21 = .ok (.iconst (-1), 1) := by decide +kernel
theorem dX2_lay_22 : decode cX2_lay 22 = .ok (.putfield 41, 3) := by decide +kernel
theorem dX2_lay_25 : decode cX2_lay 25 = .ok (.aload_n 0, 1) := by decide +kernel
theorem dX2_lay_26 : decode cX2_lay 26 = .ok (.iconst (-1), 1) := by decide +kernel
theorem dX2_lay_27 : decode cX2_lay 27 = .ok (.putfield 44, 3) := by decide +kernel
theorem dX2_lay_30 : decode cX2_lay 30 = .ok (.iconst 0, 1) := by decide +kernel
theorem dX2_lay_31 : decode cX2_lay 31 = .ok (.istore 5, 2) := by decide +kernel
theorem dX2_lay_33 : decode cX2_lay 33 = .ok (.iload 5, 2) := by decide +kernel
theorem dX2_lay_35 : decode cX2_lay 35 = .ok (.iconst 5, 1) := by decide +kernel
theorem dX2_lay_36 : decode cX2_lay 36 = .ok (.if_icmp .ge 15, 3) := by decide +kernel
theorem dX2_lay_39 : decode cX2_lay 39 = .ok (.aload_n 0, 1) := by decide +kernel
theorem dX2_lay_40 : decode cX2_lay 40 = .ok (.iload 5, 2) := by decide +kernel
theorem dX2_lay_42 : decode cX2_lay 42 = .ok (.invokevirtual 47, 3) := by decide +kernel
theorem dX2_lay_45 : decode cX2_lay 45 = .ok (.iinc 5 1, 3) := by decide +kernel
theorem dX2_lay_48 : decode cX2_lay 48 = .ok (.goto (-15), 3) := by decide +kernel
theorem dX2_lay_51 : decode cX2_lay 51 = .ok (.iconst 0, 1) := by decide +kernel
theorem dX2_lay_52 : decode cX2_lay 52 = .ok (.istore 5, 2) := by decide +kernel
theorem dX2_lay_54 : decode cX2_lay 54 = .ok (.iload 5, 2) := by decide +kernel
theorem dX2_lay_56 : decode cX2_lay 56 = .ok (.iconst 3, 1) := by decide +kernel
theorem dX2_lay_57 : decode cX2_lay 57 = .ok (.if_icmp .ge 21, 3) := by decide +kernel
theorem dX2_lay_60 : decode cX2_lay 60 = .ok (.aload_n 0, 1) := by decide +kernel
theorem dX2_lay_61 : decode cX2_lay 61 = .ok (.getfield 23, 3) := by decide +kernel
theorem dX2_lay_64 : decode cX2_lay 64 = .ok (.iload 5, 2) := by decide +kernel
theorem dX2_lay_66 : decode cX2_lay 66 = .ok (.aaload, 1) := by decide +kernel
theorem dX2_lay_67 : decode cX2_lay 67 = .ok (.iload 4, 2) := by decide +kernel
theorem dX2_lay_69 : decode cX2_lay 69 = .ok (.invokevirtual 51, 3) := by decide +kernel
theorem dX2_lay_72 : decode cX2_lay 72 = .ok (.iinc 5 1, 3) := by decide +kernel
theorem dX2_lay_75 : decode cX2_lay 75 = .ok (.goto (-21), 3) := by decide +kernel
theorem dX2_lay_78 : decode cX2_lay 78 = .ok (.return_, 1) := by decide +kernel
theorem dX2_clearSlot_0 : decode cX2_clearSlot 0 = .ok (.aload_n 0, 1) := by decide +kernel
theorem dX2_clearSlot_1 : decode cX2_clearSlot 1 = .ok (.getfield 9, 3) := by decide +kernel
theorem dX2_clearSlot_4 : decode cX2_clearSlot 4 = .ok (.iload_n 1, 1) := by decide +kernel
theorem dX2_clearSlot_5 : decode cX2_clearSlot 5 = .ok (.iconst (-1), 1) := by decide +kernel
theorem dX2_clearSlot_6 : decode cX2_clearSlot 6 = .ok (.iastore, 1) := by decide +kernel
theorem dX2_clearSlot_7 : decode cX2_clearSlot 7 = .ok (.iconst 0, 1) := by decide +kernel
theorem dX2_clearSlot_8 : decode cX2_clearSlot 8 = .ok (.istore_n 2, 1) := by decide +kernel
theorem dX2_clearSlot_9 : decode cX2_clearSlot 9 = .ok (.iload_n 2, 1) := by decide +kernel
theorem dX2_clearSlot_10 : decode cX2_clearSlot 10 = .ok (.iconst 3, 1) := by decide +kernel
theorem dX2_clearSlot_11 : decode cX2_clearSlot 11 = .ok (.if_icmp .ge 31, 3) := by decide +kernel
theorem dX2_clearSlot_14 : decode cX2_clearSlot 14 = .ok (.aload_n 0, 1) := by decide +kernel
theorem dX2_clearSlot_15 : decode cX2_clearSlot 15 = .ok (.getfield 15, 3) := by decide +kernel
theorem dX2_clearSlot_18 : decode cX2_clearSlot 18 = .ok (.iload_n 1, 1) := by decide +kernel
theorem dX2_clearSlot_19 : decode cX2_clearSlot 19 = .ok (.iconst 3, 1) := by decide +kernel
theorem dX2_clearSlot_20 : decode cX2_clearSlot 20 = .ok (.imul, 1) := by decide +kernel
theorem dX2_clearSlot_21 : decode cX2_clearSlot 21 = .ok (.iload_n 2, 1) := by decide +kernel
theorem dX2_clearSlot_22 : decode cX2_clearSlot 22 = .ok (.iadd, 1) := by decide +kernel
theorem dX2_clearSlot_23 : decode cX2_clearSlot 23 = .ok (.iconst (-1), 1) := by decide +kernel
theorem dX2_clearSlot_24 : decode cX2_clearSlot 24 = .ok (.iastore, 1) := by decide +kernel
theorem dX2_clearSlot_25 : decode cX2_clearSlot 25 = .ok (.aload_n 0, 1) := by decide +kernel
theorem dX2_clearSlot_26 : decode cX2_clearSlot 26 = .ok (.getfield 18, 3) := by decide +kernel
theorem dX2_clearSlot_29 : decode cX2_clearSlot 29 = .ok (.iload_n 1, 1) := by decide +kernel
theorem dX2_clearSlot_30 : decode cX2_clearSlot 30 = .ok (.iconst 3, 1) := by decide +kernel
theorem dX2_clearSlot_31 : decode cX2_clearSlot 31 = .ok (.imul, 1) := by decide +kernel
theorem dX2_clearSlot_32 : decode cX2_clearSlot 32 = .ok (.iload_n 2, 1) := by decide +kernel
theorem dX2_clearSlot_33 : decode cX2_clearSlot 33 = .ok (.iadd, 1) := by decide +kernel
theorem dX2_clearSlot_34 : decode cX2_clearSlot 34 = .ok (.iconst 0, 1) := by decide +kernel
theorem dX2_clearSlot_35 : decode cX2_clearSlot 35 = .ok (.iastore, 1) := by decide +kernel
theorem dX2_clearSlot_36 : decode cX2_clearSlot 36 = .ok (.iinc 2 1, 3) := by decide +kernel
theorem dX2_clearSlot_39 : decode cX2_clearSlot 39 = .ok (.goto (-30), 3) := by decide +kernel
theorem dX2_clearSlot_42 : decode cX2_clearSlot 42 = .ok (.return_, 1) := by decide +kernel
set_option maxRecDepth 20000 in
theorem ggX3_init_X2_init : GoodIn wsX3_init wsX2_init := goodIn_r _ [16, 17, 2, 3, 8, 18, 19, 20, 21, 22, 23, 24, 25, 26, 27, 42, 43, 44, 45, 46, 47, 48, 49, 50, 51, 60, 61, 62, 63, 64, 65, 66] (by decide +kernel) (by decide +kernel)
set_option maxRecDepth 20000 in
theorem ggX3_init_X0_init : GoodIn wsX3_init wsX0_init := goodIn_r _ [29, 30, 2, 3] (by decide +kernel) (by decide +kernel)
theorem dX3_init_0 : decode cX3_init 0 = .ok (.aload_n 0, 1) := by decide +kernel
theorem dX3_init_1 : decode cX3_init 1 = .ok (.invokespecial 3, 3) := by decide +kernel
theorem dX3_init_4 : decode cX3_init 4 = .ok (.aload_n 0, 1) := by decide +kernel
theorem dX3_init_5 : decode cX3_init 5 = .ok (.iconst 3, 1) := by decide +kernel
theorem dX3_init_6 : decode cX3_init 6 = .ok (.anewarray 9, 3) := by decide +kernel
theorem dX3_init_9 : decode cX3_init 9 = .ok (.putfield 11, 3) := by decide +kernel
theorem dX3_init_12 : decode cX3_init 12 = .ok (.aload_n 0, 1) := by decide +kernel
theorem dX3_init_13 : decode cX3_init 13 = .ok (.iconst 3, 1) := by decide +kernel
theorem dX3_init_14 : decode cX3_init 14 = .ok (.anewarray 17, 3) := by decide +kernel
theorem dX3_init_17 : decode cX3_init 17 = .ok (.putfield 19, 3) := by decide +kernel
theorem dX3_init_20 : decode cX3_init 20 = .ok (.aload_n 0, 1) := by decide +kernel
theorem dX3_init_21 : decode cX3_init 21 = .ok (.bipush 12, 2) := by decide +kernel
theorem dX3_init_23 : decode cX3_init 23 = .ok (.newarray .int, 2) := by decide +kernel
theorem dX3_init_25 : decode cX3_init 25 = .ok (.putfield 23, 3) := by decide +kernel
theorem dX3_init_28 : decode cX3_init 28 = .ok (.iconst 0, 1) := by decide +kernel
theorem dX3_init_29 : decode cX3_init 29 = .ok (.istore_n 1, 1) := by decide +kernel
theorem dX3_init_30 : decode cX3_init 30 = .ok (.iload_n 1, 1) := by decide +kernel
theorem dX3_init_31 : decode cX3_init 31 = .ok (.iconst 3, 1) := by decide +kernel
theorem dX3_init_32 : decode cX3_init 32 = .ok (.if_icmp .ge 22, 3) := by decide +kernel
theorem dX3_init_35 : decode cX3_init 35 = .ok (.aload_n 0, 1) := by decide +kernel
theorem dX3_init_36 : decode cX3_init 36 = .ok (.getfield 11, 3) := by decide +kernel
theorem dX3_init_39 : decode cX3_init 39 = .ok (.iload_n 1, 1) := by decide +kernel
theorem dX3_init_40 : decode cX3_init 40 = .ok (.new 9, 3) := by decide +kernel
theorem dX3_init_43 : decode cX3_init 43 = .ok (.dup, 1) := by decide +kernel
theorem dX3_init_44 : decode cX3_init 44 = .ok (.invokespecial 27, 3) := by decide +kernel
theorem dX3_init_47 : decode cX3_init 47 = .ok (.aastore, 1) := by decide +kernel
theorem dX3_init_48 : decode cX3_init 48 = .ok (.iinc 1 1, 3) := by decide +kernel
theorem dX3_init_51 : decode cX3_init 51 = .ok (.goto (-21), 3) := by decide +kernel
theorem dX3_init_54 : decode cX3_init 54 = .ok (.iconst 0, 1) := by decide +kernel
theorem dX3_init_55 : decode cX3_init 55 = .ok (.istore_n 1, 1) := by decide +kernel
theorem dX3_init_56 : decode cX3_init 56 = .ok (.iload_n 1, 1) := by decide +kernel
theorem dX3_init_57 : decode cX3_init 57 = .ok (.iconst 3, 1) := by decide +kernel
theorem dX3_init_58 : decode cX3_init 58 = .ok (.if_icmp .ge 22, 3) := by decide +kernel
theorem dX3_init_61 : decode cX3_init 61 = .ok (.aload_n 0, 1) := by decide +kernel
theorem dX3_init_62 : decode cX3_init 62 = .ok (.getfield 19, 3) := by decide +kernel
theorem dX3_init_65 : decode cX3_init 65 = .ok (.iload_n 1, 1) := by decide +kernel
theorem dX3_init_66 : decode cX3_init 66 = .ok (.new 17, 3) := by decide +kernel
theorem dX3_init_69 : decode cX3_init 69 = .ok (.dup, 1) := by decide +kernel
theorem dX3_init_70 : decode cX3_init 70 = .ok (.invokespecial 28, 3) := by decide +kernel
theorem dX3_init_73 : decode cX3_init 73 = .ok (.aastore, 1) := by decide +kernel
theorem dX3_init_74 : decode cX3_init 74 = .ok (.iinc 1 1, 3) := by decide +kernel
theorem dX3_init_77 : decode cX3_init 77 = .ok (.goto (-21), 3) := by decide +kernel
theorem dX3_init_80 : decode cX3_init 80 = .ok (.return_, 1) := by decide +kernel
set_option maxRecDepth 20000 in
theorem ggX3_layAlone_X3_layRules : GoodIn wsX3_layAlone wsX3_layRules := goodIn_r _ [8, 9, 10, 11, 12, 13, 14, 15, 16, 3, 61, 62, 63, 64, 65, 66, 67, 68, 69, 70, 71] (by decide +kernel) (by decide +kernel)
set_option maxRecDepth 20000 in
theorem gX3_layAlone_X3_layRules : GoodIn wsX3_layAlone (wsV RX3 42 RX3 yX3_layRules wsX3_layRules) := goodIn_app (goodIn_of _ (by decide +kernel)) ggX3_layAlone_X3_layRules
set_option maxRecDepth 20000 in
theorem ggX3_layAlone_X2_lay : GoodIn wsX3_layAlone wsX2_lay := goodIn_r _ [21, 22, 23, 24, 25, 26, 27, 28, 29, 30, 31, 20, 32, 33, 34, 35, 36, 37, 38, 39, 40, 41, 42, 43, 44, 45, 46, 47, 72, 73, 74, 75, 76, 77, 78, 79, 80, 81, 82, 83, 84, 85, 86, 87, 88] (by decide +kernel) (by decide +kernel)
set_option maxRecDepth 20000 in
theorem gX3_layAlone_X2_lay : GoodIn wsX3_layAlone (wsV RX3 69 RX2 yX2_lay wsX2_lay) := goodIn_app (goodIn_of _ (by decide +kernel)) ggX3_layAlone_X2_lay
set_option maxRecDepth 20000 in
theorem ggX3_layAlone_X0_lay : GoodIn wsX3_layAlone wsX0_lay := goodIn_r _ [52, 53, 54, 55, 56, 57, 58, 59, 60, 89, 90, 91, 92, 93, 94, 95, 96] (by decide +kernel) (by decide +kernel)
set_option maxRecDepth 20000 in
theorem gX3_layAlone_X0_lay : GoodIn wsX3_layAlone (wsV RX3 76 RX0 yX0_lay wsX0_lay) := goodIn_app (goodIn_of _ (by decide +kernel)) ggX3_layAlone_X0_lay
theorem dX3_layAlone_0 : decode cX3_layAlone 0 = .ok (.aload_n 0, 1) := by decide +kernel
theorem dX3_layAlone_1 : decode cX3_layAlone 1 = .ok (.iconst 1, 1) := by decide +kernel
theorem dX3_layAlone_2 : decode cX3_layAlone 2 = .ok (.iconst 1, 1) := by decide +kernel
theorem dX3_layAlone_3 : decode cX3_layAlone 3 = .ok (.iconst 1, 1) := by decide +kernel
theorem dX3_layAlone_4 : decode cX3_layAlone 4 = .ok (.invokevirtual 42, 3) := by decide +kernel
theorem dX3_layAlone_7 : decode cX3_layAlone 7 = .ok (.aload_n 0, 1) := by decide +kernel
theorem dX3_layAlone_8 : decode cX3_layAlone 8 = .ok (.getfield 11, 3) := by decide +kernel
theorem dX3_layAlone_11 : decode cX3_layAlone 11 = .ok (.iconst 0, 1) := by decide +kernel
theorem dX3_layAlone_12 : decode cX3_layAlone 12 = .ok (.aaload, 1) := by decide +kernel
theorem dX3_layAlone_13 : decode cX3_layAlone 13 = .ok (.iload_n 1, 1) := by decide +kernel
theorem dX3_layAlone_14 : decode cX3_layAlone 14 = .ok (.bipush 30, 2) := by decide +kernel
theorem dX3_layAlone_16 : decode cX3_layAlone 16 = .ok (.iload_n 2, 1) := by decide +kernel
theorem dX3_layAlone_17 : decode cX3_layAlone 17 = .ok (.iload_n 3, 1) := by decide +kernel
theorem dX3_layAlone_18 : decode cX3_layAlone 18 = .ok (.invokevirtual 69, 3) := by decide +kernel
theorem dX3_layAlone_21 : decode cX3_layAlone 21 = .ok (.aload_n 0, 1) := by decide +kernel
theorem dX3_layAlone_22 : decode cX3_layAlone 22 = .ok (.getfield 19, 3) := by decide +kernel
theorem dX3_layAlone_25 : decode cX3_layAlone 25 = .ok (.iconst 0, 1) := by decide +kernel
theorem dX3_layAlone_26 : decode cX3_layAlone 26 = .ok (.aaload, 1) := by decide +kernel
theorem dX3_layAlone_27 : decode cX3_layAlone 27 = .ok (.iconst 0, 1) := by decide +kernel
theorem dX3_layAlone_28 : decode cX3_layAlone 28 = .ok (.iconst 0, 1) := by decide +kernel
theorem dX3_layAlone_29 : decode cX3_layAlone 29 = .ok (.iload 4, 2) := by decide +kernel
theorem dX3_layAlone_31 : decode cX3_layAlone 31 = .ok (.invokevirtual 76, 3) := by decide +kernel
theorem dX3_layAlone_34 : decode cX3_layAlone 34 = .ok (.aload_n 0, 1) := by decide +kernel
theorem dX3_layAlone_35 : decode cX3_layAlone 35 = .ok (.getfield 23, 3) := by decide +kernel
theorem dX3_layAlone_38 : decode cX3_layAlone 38 = .ok (.iconst 0, 1) := by decide +kernel
theorem dX3_layAlone_39 : decode cX3_layAlone 39 = .ok (.sipush 201, 3) := by decide +kernel
theorem dX3_layAlone_42 : decode cX3_layAlone 42 = .ok (.iastore, 1) := by decide +kernel
theorem dX3_layAlone_43 : decode cX3_layAlone 43 = .ok (.return_, 1) := by decide +kernel
theorem dX3_layRules_0 : decode cX3_layRules 0 = .ok (.aload_n 0, 1) := by decide +kernel
theorem dX3_layRules_1 : decode cX3_layRules 1 = .ok (.iload_n 1, 1) := by decide +kernel
theorem dX3_layRules_2 : decode cX3_layRules 2 = .ok (.putfield 53, 3) := by decide +kernel
theorem dX3_layRules_5 : decode cX3_layRules 5 = .ok (.aload_n 0, 1) := by decide +kernel
theorem dX3_layRules_6 : decode cX3_layRules 6 = .ok (.iload_n 2, 1) := by decide +kernel
theorem dX3_layRules_7 : decode cX3_layRules 7 = .ok (.putfield 62, 3) := by decide +kernel
theorem dX3_layRules_10 : decode cX3_layRules 10 = .ok (.aload_n 0, 1) := by decide +kernel
theorem dX3_layRules_11 : decode cX3_layRules 11 = .ok (.iload_n 3, 1) := by decide +kernel
theorem dX3_layRules_12 : decode cX3_layRules 12 = .ok (.putfield 59, 3) := by decide +kernel
theorem dX3_layRules_15 : decode cX3_layRules 15 = .ok (.aload_n 0, 1) := by decide +kernel
theorem dX3_layRules_16 : decode cX3_layRules 16 = .ok (.iconst 0, 1) := by decide +kernel
theorem dX3_layRules_17 : decode cX3_layRules 17 = .ok (.putfield 46, 3) := by decide +kernel
theorem dX3_layRules_20 : decode cX3_layRules 20 = .ok (.aload_n 0, 1) := by decide +kernel
theorem dX3_layRules_21 : decode cX3_layRules 21 = .ok (.iconst 0, 1) := by decide +kernel
theorem dX3_layRules_22 : decode cX3_layRules 22 = .ok (.putfield 50, 3) := by decide +kernel
theorem dX3_layRules_25 : decode cX3_layRules 25 = .ok (.aload_n 0, 1) := by decide +kernel
theorem dX3_layRules_26 : decode cX3_layRules 26 = .ok (.iconst 0, 1) := by decide +kernel
theorem dX3_layRules_27 : decode cX3_layRules 27 = .ok (.putfield 78, 3) := by decide +kernel
theorem dX3_layRules_30 : decode cX3_layRules 30 = .ok (.aload_n 0, 1) := by decide +kernel
theorem dX3_layRules_31 : decode cX3_layRules 31 = .ok (.iconst 0, 1) := by decide +kernel
theorem dX3_layRules_32 : decode cX3_layRules 32 = .ok (.putfield 81, 3) := by decide +kernel
theorem dX3_layRules_35 : decode cX3_layRules 35 = .ok (.aload_n 0, 1) := by decide +kernel
theorem dX3_layRules_36 : decode cX3_layRules 36 = .ok (.iconst 0, 1) := by decide +kernel
theorem dX3_layRules_37 : decode cX3_layRules 37 = .ok (.putfield 84, 3) := by decide +kernel
theorem dX3_layRules_40 : decode cX3_layRules 40 = .ok (.iconst 0, 1) := by decide +kernel
theorem dX3_layRules_41 : decode cX3_layRules 41 = .ok (.istore 4, 2) := by decide +kernel
theorem dX3_layRules_43 : decode cX3_layRules 43 = .ok (.iload 4, 2) := by decide +kernel
theorem dX3_layRules_45 : decode cX3_layRules 45 = .ok (.aload_n 0, 1) := by decide +kernel
theorem dX3_layRules_46 : decode cX3_layRules 46 = .ok (.getfield 23, 3) := by decide +kernel
theorem dX3_layRules_49 : decode cX3_layRules 49 = .ok (.arraylength, 1) := by decide +kernel
theorem dX3_layRules_50 : decode cX3_layRules 50 = .ok (.if_icmp .ge 17, 3) := by decide +kernel
theorem dX3_layRules_53 : decode cX3_layRules 53 = .ok (.aload_n 0, 1) := by decide +kernel
theorem dX3_layRules_54 : decode cX3_layRules 54 = .ok (.getfield 23, 3) := by decide +kernel
theorem dX3_layRules_57 : decode cX3_layRules 57 = .ok (.iload 4, 2) := by decide +kernel
theorem dX3_layRules_59 : decode cX3_layRules 59 = .ok (.iconst 0, 1) := by decide +kernel
theorem dX3_layRules_60 : decode cX3_layRules 60 = .ok (.iastore, 1) := by decide +kernel
theorem dX3_layRules_61 : decode cX3_layRules 61 = .ok (.iinc 4 1, 3) := by decide +kernel
theorem dX3_layRules_64 : decode cX3_layRules 64 = .ok (.goto (-21), 3) := by decide +kernel
theorem dX3_layRules_67 : decode cX3_layRules 67 = .ok (.return_, 1) := by decide +kernel
set_option maxRecDepth 20000 in
theorem ggX3_arriveOver_X1_hear : GoodIn wsX3_arriveOver wsX1_hear := goodIn_r _ [13, 14, 15, 16, 17, 56, 57, 58, 59, 60, 61, 62] (by decide +kernel) (by decide +kernel)
set_option maxRecDepth 20000 in
theorem gX3_arriveOver_X1_hear : GoodIn wsX3_arriveOver (wsV RX3 132 RX1 yX1_hear wsX1_hear) := goodIn_app (goodIn_of _ (by decide +kernel)) ggX3_arriveOver_X1_hear
set_option maxRecDepth 20000 in
theorem ggX3_arriveOver_X2_clearSlot : GoodIn wsX3_arriveOver wsX2_clearSlot := goodIn_r _ [31, 32, 33, 34, 46, 47, 48, 49, 50, 51, 52, 53, 54, 55] (by decide +kernel) (by decide +kernel)
set_option maxRecDepth 20000 in
theorem gX3_arriveOver_X2_clearSlot : GoodIn wsX3_arriveOver (wsV RX3 144 RX2 yX2_clearSlot wsX2_clearSlot) := goodIn_app (goodIn_of _ (by decide +kernel)) ggX3_arriveOver_X2_clearSlot
theorem dX3_arriveOver_0 : decode cX3_arriveOver 0 = .ok (.aload_n 0, 1) := by decide +kernel
theorem dX3_arriveOver_1 : decode cX3_arriveOver 1 = .ok (.getfield 11, 3) := by decide +kernel
theorem dX3_arriveOver_4 : decode cX3_arriveOver 4 = .ok (.iload_n 1, 1) := by decide +kernel
theorem dX3_arriveOver_5 : decode cX3_arriveOver 5 = .ok (.aaload, 1) := by decide +kernel
theorem dX3_arriveOver_6 : decode cX3_arriveOver 6 = .ok (.astore_n 2, 1) := by decide +kernel
theorem dX3_arriveOver_7 : decode cX3_arriveOver 7 = .ok (.aload_n 0, 1) := by decide +kernel
theorem dX3_arriveOver_8 : decode cX3_arriveOver 8 = .ok (.getfield 78, 3) := by decide +kernel
theorem dX3_arriveOver_11 : decode cX3_arriveOver 11 = .ok (.iconst 5, 1) := by decide +kernel
theorem dX3_arriveOver_12 : decode cX3_arriveOver 12 = .ok (.irem, 1) := by decide +kernel
theorem dX3_arriveOver_13 : decode cX3_arriveOver 13 = .ok (.istore_n 3, 1) := by decide +kernel
theorem dX3_arriveOver_14 : decode cX3_arriveOver 14 = .ok (.aload_n 2, 1) := by decide +kernel
theorem dX3_arriveOver_15 : decode cX3_arriveOver 15 = .ok (.getfield 122, 3) := by decide +kernel
theorem dX3_arriveOver_18 : decode cX3_arriveOver 18 = .ok (.iload_n 3, 1) := by decide +kernel
theorem dX3_arriveOver_19 : decode cX3_arriveOver 19 = .ok (.iaload, 1) := by decide +kernel
theorem dX3_arriveOver_20 : decode cX3_arriveOver 20 = .ok (.istore 4, 2) := by decide +kernel
theorem dX3_arriveOver_22 : decode cX3_arriveOver 22 = .ok (.iload 4, 2) := by decide +kernel
theorem dX3_arriveOver_24 : decode cX3_arriveOver 24 = .ok (.iconst (-1), 1) := by decide +kernel
theorem dX3_arriveOver_25 : decode cX3_arriveOver 25 = .ok (.if_icmp .eq 20, 3) := by decide +kernel
theorem dX3_arriveOver_28 : decode cX3_arriveOver 28 = .ok (.aload_n 0, 1) := by decide +kernel
theorem dX3_arriveOver_29 : decode cX3_arriveOver 29 = .ok (.getfield 23, 3) := by decide +kernel
theorem dX3_arriveOver_32 : decode cX3_arriveOver 32 = .ok (.iload_n 1, 1) := by decide +kernel
theorem dX3_arriveOver_33 : decode cX3_arriveOver 33 = .ok (.iconst 1, 1) := by decide +kernel
theorem dX3_arriveOver_34 : decode cX3_arriveOver 34 = .ok (.iadd, 1) := by decide +kernel
theorem dX3_arriveOver_35 : decode cX3_arriveOver 35 = .ok (.iconst 3, 1) := by decide +kernel
theorem dX3_arriveOver_36 : decode cX3_arriveOver 36 = .ok (.imul, 1) := by decide +kernel
theorem dX3_arriveOver_37 : decode cX3_arriveOver 37 = .ok (.iload 4, 2) := by decide +kernel
theorem dX3_arriveOver_39 : decode cX3_arriveOver 39 = .ok (.iadd, 1) := by decide +kernel
theorem dX3_arriveOver_40 : decode cX3_arriveOver 40 = .ok (.dup2, 1) := by decide +kernel
theorem dX3_arriveOver_41 : decode cX3_arriveOver 41 = .ok (.iaload, 1) := by decide +kernel
theorem dX3_arriveOver_42 : decode cX3_arriveOver 42 = .ok (.iconst 1, 1) := by decide +kernel
theorem dX3_arriveOver_43 : decode cX3_arriveOver 43 = .ok (.iadd, 1) := by decide +kernel
theorem dX3_arriveOver_44 : decode cX3_arriveOver 44 = .ok (.iastore, 1) := by decide +kernel
theorem dX3_arriveOver_45 : decode cX3_arriveOver 45 = .ok (.iconst 0, 1) := by decide +kernel
theorem dX3_arriveOver_46 : decode cX3_arriveOver 46 = .ok (.istore 5, 2) := by decide +kernel
theorem dX3_arriveOver_48 : decode cX3_arriveOver 48 = .ok (.iload 5, 2) := by decide +kernel
theorem dX3_arriveOver_50 : decode cX3_arriveOver 50 = .ok (.aload_n 0, 1) := by decide +kernel
theorem dX3_arriveOver_51 : decode cX3_arriveOver 51 = .ok (.getfield 62, 3) := by decide +kernel
theorem dX3_arriveOver_54 : decode cX3_arriveOver 54 = .ok (.if_icmp .ge 76, 3) := by decide +kernel
theorem dX3_arriveOver_57 : decode cX3_arriveOver 57 = .ok (.aload_n 2, 1) := by decide +kernel
theorem dX3_arriveOver_58 : decode cX3_arriveOver 58 = .ok (.getfield 125, 3) := by decide +kernel
theorem dX3_arriveOver_61 : decode cX3_arriveOver 61 = .ok (.iload_n 3, 1) := by decide +kernel
theorem dX3_arriveOver_62 : decode cX3_arriveOver 62 = .ok (.iconst 3, 1) := by decide +kernel
theorem dX3_arriveOver_63 : decode cX3_arriveOver 63 = .ok (.imul, 1) := by decide +kernel
theorem dX3_arriveOver_64 : decode cX3_arriveOver 64 = .ok (.iload 5, 2) := by decide +kernel
theorem dX3_arriveOver_66 : decode cX3_arriveOver 66 = .ok (.iadd, 1) := by decide +kernel
theorem dX3_arriveOver_67 : decode cX3_arriveOver 67 = .ok (.iaload, 1) := by decide +kernel
theorem dX3_arriveOver_68 : decode cX3_arriveOver 68 = .ok (.istore 6, 2) := by decide +kernel
theorem dX3_arriveOver_70 : decode cX3_arriveOver 70 = .ok (.iload 6, 2) := by decide +kernel
theorem dX3_arriveOver_72 : decode cX3_arriveOver 72 = .ok (.iconst (-1), 1) := by decide +kernel
theorem dX3_arriveOver_73 : decode cX3_arriveOver 73 = .ok (.if_icmp .eq 15, 3) := by decide +kernel
theorem dX3_arriveOver_76 : decode cX3_arriveOver 76 = .ok (.aload_n 2, 1) := by decide +kernel
theorem dX3_arriveOver_77 : decode cX3_arriveOver 77 = .ok (.getfield 128, 3) := by decide +kernel
theorem dX3_arriveOver_80 : decode cX3_arriveOver 80 = .ok (.iload 5, 2) := by decide +kernel
theorem dX3_arriveOver_82 : decode cX3_arriveOver 82 = .ok (.aaload, 1) := by decide +kernel
theorem dX3_arriveOver_83 : decode cX3_arriveOver 83 = .ok (.iload 6, 2) := by decide +kernel
theorem dX3_arriveOver_85 : decode cX3_arriveOver 85 = .ok (.invokevirtual 132, 3) := by decide +kernel
theorem dX3_arriveOver_88 : decode cX3_arriveOver 88 = .ok (.aload_n 2, 1) := by decide +kernel
theorem dX3_arriveOver_89 : decode cX3_arriveOver 89 = .ok (.getfield 137, 3) := by decide +kernel
theorem dX3_arriveOver_92 : decode cX3_arriveOver 92 = .ok (.iload_n 3, 1) := by decide +kernel
theorem dX3_arriveOver_93 : decode cX3_arriveOver 93 = .ok (.iconst 3, 1) := by decide +kernel
theorem dX3_arriveOver_94 : decode cX3_arriveOver 94 = .ok (.imul, 1) := by decide +kernel
theorem dX3_arriveOver_95 : decode cX3_arriveOver 95 = .ok (.iload 5, 2) := by decide +kernel
theorem dX3_arriveOver_97 : decode cX3_arriveOver 97 = .ok (.iadd, 1) := by decide +kernel
theorem dX3_arriveOver_98 : decode cX3_arriveOver 98 = .ok (.iaload, 1) := by decide +kernel
theorem dX3_arriveOver_99 : decode cX3_arriveOver 99 = .ok (.istore 7, 2) := by decide +kernel
theorem dX3_arriveOver_101 : decode cX3_arriveOver 101 = .ok (.iconst 0, 1) := by decide +kernel
theorem dX3_arriveOver_102 : decode cX3_arriveOver 102 = .ok (.istore 8, 2) := by decide +kernel
theorem dX3_arriveOver_104 : decode cX3_arriveOver 104 = .ok (.iload 8, 2) := by decide +kernel
theorem dX3_arriveOver_106 : decode cX3_arriveOver 106 = .ok (.iload 7, 2) := by decide +kernel
theorem dX3_arriveOver_108 : decode cX3_arriveOver 108 = .ok (.if_icmp .ge 16, 3) := by decide +kernel
theorem dX3_arriveOver_124 : decode cX3_arriveOver 124 = .ok (.iinc 5 1, 3) := by decide +kernel
theorem dX3_arriveOver_127 : decode cX3_arriveOver 127 = .ok (.goto (-79), 3) := by decide +kernel
theorem dX3_arriveOver_130 : decode cX3_arriveOver 130 = .ok (.aload_n 2, 1) := by decide +kernel
theorem dX3_arriveOver_131 : decode cX3_arriveOver 131 = .ok (.iload_n 3, 1) := by decide +kernel
theorem dX3_arriveOver_132 : decode cX3_arriveOver 132 = .ok (.invokevirtual 144, 3) := by decide +kernel
theorem dX3_arriveOver_135 : decode cX3_arriveOver 135 = .ok (.return_, 1) := by decide +kernel
set_option maxRecDepth 20000 in
theorem ggX3_come_X0_comesIn : GoodIn wsX3_come wsX0_comesIn := goodIn_r _ [11, 12, 13, 25, 26, 27, 28, 29, 30, 31, 32] (by decide +kernel) (by decide +kernel)
set_option maxRecDepth 20000 in
theorem gX3_come_X0_comesIn : GoodIn wsX3_come (wsV RX3 151 RX0 yX0_comesIn wsX0_comesIn) := goodIn_app (goodIn_of _ (by decide +kernel)) ggX3_come_X0_comesIn
theorem dX3_come_0 : decode cX3_come 0 = .ok (.aload_n 0, 1) := by decide +kernel
theorem dX3_come_1 : decode cX3_come 1 = .ok (.getfield 19, 3) := by decide +kernel
theorem dX3_come_4 : decode cX3_come 4 = .ok (.iload_n 1, 1) := by decide +kernel
theorem dX3_come_5 : decode cX3_come 5 = .ok (.aaload, 1) := by decide +kernel
theorem dX3_come_6 : decode cX3_come 6 = .ok (.astore_n 2, 1) := by decide +kernel
theorem dX3_come_7 : decode cX3_come 7 = .ok (.aload_n 2, 1) := by decide +kernel
theorem dX3_come_8 : decode cX3_come 8 = .ok (.iconst 0, 1) := by decide +kernel
theorem dX3_come_9 : decode cX3_come 9 = .ok (.putfield 147, 3) := by decide +kernel
theorem dX3_come_12 : decode cX3_come 12 = .ok (.aload_n 2, 1) := by decide +kernel
theorem dX3_come_13 : decode cX3_come 13 = .ok (.aload_n 0, 1) := by decide +kernel
theorem dX3_come_14 : decode cX3_come 14 = .ok (.getfield 78, 3) := by decide +kernel
theorem dX3_come_17 : decode cX3_come 17 = .ok (.invokevirtual 151, 3) := by decide +kernel
theorem dX3_come_20 : decode cX3_come 20 = .ok (.ifCond .ne 4, 3) := by decide +kernel
theorem dX3_come_23 : decode cX3_come 23 = .ok (.return_, 1) := by decide +kernel
set_option maxRecDepth 20000 in
theorem ggX3_take_X0_takesIn : GoodIn wsX3_take wsX0_takesIn := goodIn_r _ [11, 12, 42, 43, 44, 45, 46, 47, 48, 49] (by decide +kernel) (by decide +kernel)
set_option maxRecDepth 20000 in
theorem gX3_take_X0_takesIn : GoodIn wsX3_take (wsV RX3 161 RX0 yX0_takesIn wsX0_takesIn) := goodIn_app (goodIn_of _ (by decide +kernel)) ggX3_take_X0_takesIn
set_option maxRecDepth 20000 in
theorem ggX3_take_X3_goneFrom : GoodIn wsX3_take wsX3_goneFrom := goodIn_r _ [17, 18, 19, 20, 21, 22, 23, 24, 25, 16, 26, 27, 28, 29, 3, 30, 31, 32, 33, 34, 35, 36, 37, 38, 39, 40, 41, 50, 51, 52, 53, 54, 55, 56, 57, 58, 59, 60, 61, 62, 63, 64, 65, 66] (by decide +kernel) (by decide +kernel)
set_option maxRecDepth 20000 in
theorem gX3_take_X3_goneFrom : GoodIn wsX3_take (wsV RX3 170 RX3 yX3_goneFrom wsX3_goneFrom) := goodIn_app (goodIn_of _ (by decide +kernel)) ggX3_take_X3_goneFrom
theorem dX3_take_0 : decode cX3_take 0 = .ok (.aload_n 0, 1) := by decide +kernel
theorem dX3_take_1 : decode cX3_take 1 = .ok (.getfield 19, 3) := by decide +kernel
theorem dX3_take_4 : decode cX3_take 4 = .ok (.iload_n 1, 1) := by decide +kernel
theorem dX3_take_5 : decode cX3_take 5 = .ok (.aaload, 1) := by decide +kernel
theorem dX3_take_6 : decode cX3_take 6 = .ok (.astore_n 2, 1) := by decide +kernel
theorem dX3_take_7 : decode cX3_take 7 = .ok (.aload_n 0, 1) := by decide +kernel
theorem dX3_take_8 : decode cX3_take 8 = .ok (.getfield 53, 3) := by decide +kernel
theorem dX3_take_11 : decode cX3_take 11 = .ok (.iconst 3, 1) := by decide +kernel
theorem dX3_take_12 : decode cX3_take 12 = .ok (.imul, 1) := by decide +kernel
theorem dX3_take_13 : decode cX3_take 13 = .ok (.iload_n 1, 1) := by decide +kernel
theorem dX3_take_14 : decode cX3_take 14 = .ok (.iadd, 1) := by decide +kernel
theorem dX3_take_15 : decode cX3_take 15 = .ok (.istore_n 3, 1) := by decide +kernel
theorem dX3_take_16 : decode cX3_take 16 = .ok (.aload_n 2, 1) := by decide +kernel
theorem dX3_take_17 : decode cX3_take 17 = .ok (.aload_n 2, 1) := by decide +kernel
theorem dX3_take_18 : decode cX3_take 18 = .ok (.aload_n 0, 1) := by decide +kernel
theorem dX3_take_19 : decode cX3_take 19 = .ok (.getfield 78, 3) := by decide +kernel
theorem dX3_take_22 : decode cX3_take 22 = .ok (.invokevirtual 161, 3) := by decide +kernel
theorem dX3_take_25 : decode cX3_take 25 = .ok (.ifCond .eq 16, 3) := by decide +kernel
theorem dX3_take_28 : decode cX3_take 28 = .ok (.aload_n 0, 1) := by decide +kernel
theorem dX3_take_29 : decode cX3_take 29 = .ok (.getfield 23, 3) := by decide +kernel
theorem dX3_take_32 : decode cX3_take 32 = .ok (.iload_n 3, 1) := by decide +kernel
theorem dX3_take_33 : decode cX3_take 33 = .ok (.iaload, 1) := by decide +kernel
theorem dX3_take_34 : decode cX3_take 34 = .ok (.ifCond .le 7, 3) := by decide +kernel
theorem dX3_take_37 : decode cX3_take 37 = .ok (.iconst 1, 1) := by decide +kernel
theorem dX3_take_38 : decode cX3_take 38 = .ok (.goto 4, 3) := by decide +kernel
theorem dX3_take_41 : decode cX3_take 41 = .ok (.iconst 0, 1) := by decide +kernel
theorem dX3_take_42 : decode cX3_take 42 = .ok (.putfield 164, 3) := by decide +kernel
theorem dX3_take_45 : decode cX3_take 45 = .ok (.aload_n 2, 1) := by decide +kernel
theorem dX3_take_46 : decode cX3_take 46 = .ok (.getfield 164, 3) := by decide +kernel
theorem dX3_take_49 : decode cX3_take 49 = .ok (.ifCond .eq 34, 3) := by decide +kernel
theorem dX3_take_52 : decode cX3_take 52 = .ok (.aload_n 0, 1) := by decide +kernel
theorem dX3_take_53 : decode cX3_take 53 = .ok (.getfield 23, 3) := by decide +kernel
theorem dX3_take_56 : decode cX3_take 56 = .ok (.iload_n 3, 1) := by decide +kernel
theorem dX3_take_57 : decode cX3_take 57 = .ok (.dup2, 1) := by decide +kernel
theorem dX3_take_58 : decode cX3_take 58 = .ok (.iaload, 1) := by decide +kernel
theorem dX3_take_59 : decode cX3_take 59 = .ok (.iconst 1, 1) := by decide +kernel
theorem dX3_take_60 : decode cX3_take 60 = .ok (.isub, 1) := by decide +kernel
theorem dX3_take_61 : decode cX3_take 61 = .ok (.iastore, 1) := by decide +kernel
theorem dX3_take_62 : decode cX3_take 62 = .ok (.aload_n 2, 1) := by decide +kernel
theorem dX3_take_63 : decode cX3_take 63 = .ok (.dup, 1) := by decide +kernel
theorem dX3_take_64 : decode cX3_take 64 = .ok (.getfield 167, 3) := by decide +kernel
theorem dX3_take_67 : decode cX3_take 67 = .ok (.iconst 1, 1) := by decide +kernel
theorem dX3_take_68 : decode cX3_take 68 = .ok (.iadd, 1) := by decide +kernel
theorem dX3_take_69 : decode cX3_take 69 = .ok (.putfield 167, 3) := by decide +kernel
theorem dX3_take_72 : decode cX3_take 72 = .ok (.aload_n 0, 1) := by decide +kernel
theorem dX3_take_73 : decode cX3_take 73 = .ok (.aload_n 0, 1) := by decide +kernel
theorem dX3_take_74 : decode cX3_take 74 = .ok (.getfield 53, 3) := by decide +kernel
theorem dX3_take_77 : decode cX3_take 77 = .ok (.iconst 1, 1) := by decide +kernel
theorem dX3_take_78 : decode cX3_take 78 = .ok (.isub, 1) := by decide +kernel
theorem dX3_take_79 : decode cX3_take 79 = .ok (.iload_n 1, 1) := by decide +kernel
theorem dX3_take_80 : decode cX3_take 80 = .ok (.invokevirtual 170, 3) := by decide +kernel
theorem dX3_take_83 : decode cX3_take 83 = .ok (.return_, 1) := by decide +kernel
set_option maxRecDepth 20000 in
theorem ggX3_sendOver_X3_nextSender : GoodIn wsX3_sendOver wsX3_nextSender := goodIn_r _ [15, 1, 16, 3, 8, 7, 17, 18, 19, 20, 21, 22, 23, 24, 39, 40, 41, 42, 43, 44, 45, 46, 47, 48, 49, 50, 51, 52, 53, 54, 55, 56, 57, 58, 59, 60, 61, 62, 63, 64, 65, 66] (by decide +kernel) (by decide +kernel)
set_option maxRecDepth 20000 in
theorem gX3_sendOver_X3_nextSender : GoodIn wsX3_sendOver (wsV RX3 174 RX3 yX3_nextSender wsX3_nextSender) := goodIn_app (goodIn_of _ (by decide +kernel)) ggX3_sendOver_X3_nextSender
theorem dX3_sendOver_0 : decode cX3_sendOver 0 = .ok (.aload_n 0, 1) := by decide +kernel
theorem dX3_sendOver_1 : decode cX3_sendOver 1 = .ok (.getfield 11, 3) := by decide +kernel
theorem dX3_sendOver_4 : decode cX3_sendOver 4 = .ok (.iload_n 1, 1) := by decide +kernel
theorem dX3_sendOver_5 : decode cX3_sendOver 5 = .ok (.aaload, 1) := by decide +kernel
theorem dX3_sendOver_6 : decode cX3_sendOver 6 = .ok (.astore_n 2, 1) := by decide +kernel
theorem dX3_sendOver_7 : decode cX3_sendOver 7 = .ok (.aload_n 0, 1) := by decide +kernel
theorem dX3_sendOver_8 : decode cX3_sendOver 8 = .ok (.iload_n 1, 1) := by decide +kernel
theorem dX3_sendOver_9 : decode cX3_sendOver 9 = .ok (.invokevirtual 174, 3) := by decide +kernel
theorem dX3_sendOver_12 : decode cX3_sendOver 12 = .ok (.istore_n 3, 1) := by decide +kernel
theorem dX3_sendOver_13 : decode cX3_sendOver 13 = .ok (.aload_n 2, 1) := by decide +kernel
theorem dX3_sendOver_14 : decode cX3_sendOver 14 = .ok (.iload_n 3, 1) := by decide +kernel
theorem dX3_sendOver_15 : decode cX3_sendOver 15 = .ok (.putfield 177, 3) := by decide +kernel
theorem dX3_sendOver_18 : decode cX3_sendOver 18 = .ok (.iload_n 3, 1) := by decide +kernel
theorem dX3_sendOver_19 : decode cX3_sendOver 19 = .ok (.iconst (-1), 1) := by decide +kernel
theorem dX3_sendOver_20 : decode cX3_sendOver 20 = .ok (.if_icmp .ne 4, 3) := by decide +kernel
theorem dX3_sendOver_23 : decode cX3_sendOver 23 = .ok (.return_, 1) := by decide +kernel
theorem dX3_sendOver_24 : decode cX3_sendOver 24 = .ok (.aload_n 2, 1) := by decide +kernel
theorem dX3_sendOver_25 : decode cX3_sendOver 25 = .ok (.iload_n 3, 1) := by decide +kernel
theorem dX3_sendOver_26 : decode cX3_sendOver 26 = .ok (.putfield 180, 3) := by decide +kernel
theorem dX3_sendOver_29 : decode cX3_sendOver 29 = .ok (.aload_n 2, 1) := by decide +kernel
theorem dX3_sendOver_30 : decode cX3_sendOver 30 = .ok (.getfield 122, 3) := by decide +kernel
theorem dX3_sendOver_33 : decode cX3_sendOver 33 = .ok (.aload_n 0, 1) := by decide +kernel
theorem dX3_sendOver_34 : decode cX3_sendOver 34 = .ok (.getfield 78, 3) := by decide +kernel
theorem dX3_sendOver_37 : decode cX3_sendOver 37 = .ok (.aload_n 2, 1) := by decide +kernel
theorem dX3_sendOver_38 : decode cX3_sendOver 38 = .ok (.getfield 183, 3) := by decide +kernel
theorem dX3_sendOver_41 : decode cX3_sendOver 41 = .ok (.iadd, 1) := by decide +kernel
theorem dX3_sendOver_42 : decode cX3_sendOver 42 = .ok (.iconst 5, 1) := by decide +kernel
theorem dX3_sendOver_43 : decode cX3_sendOver 43 = .ok (.irem, 1) := by decide +kernel
theorem dX3_sendOver_44 : decode cX3_sendOver 44 = .ok (.iload_n 3, 1) := by decide +kernel
theorem dX3_sendOver_45 : decode cX3_sendOver 45 = .ok (.iastore, 1) := by decide +kernel
theorem dX3_sendOver_46 : decode cX3_sendOver 46 = .ok (.aload_n 0, 1) := by decide +kernel
theorem dX3_sendOver_47 : decode cX3_sendOver 47 = .ok (.getfield 23, 3) := by decide +kernel
theorem dX3_sendOver_50 : decode cX3_sendOver 50 = .ok (.iload_n 1, 1) := by decide +kernel
theorem dX3_sendOver_51 : decode cX3_sendOver 51 = .ok (.iconst 3, 1) := by decide +kernel
theorem dX3_sendOver_52 : decode cX3_sendOver 52 = .ok (.imul, 1) := by decide +kernel
theorem dX3_sendOver_53 : decode cX3_sendOver 53 = .ok (.iload_n 3, 1) := by decide +kernel
theorem dX3_sendOver_54 : decode cX3_sendOver 54 = .ok (.iadd, 1) := by decide +kernel
theorem dX3_sendOver_55 : decode cX3_sendOver 55 = .ok (.dup2, 1) := by decide +kernel
theorem dX3_sendOver_56 : decode cX3_sendOver 56 = .ok (.iaload, 1) := by decide +kernel
theorem dX3_sendOver_57 : decode cX3_sendOver 57 = .ok (.iconst 1, 1) := by decide +kernel
theorem dX3_sendOver_58 : decode cX3_sendOver 58 = .ok (.isub, 1) := by decide +kernel
theorem dX3_sendOver_59 : decode cX3_sendOver 59 = .ok (.iastore, 1) := by decide +kernel
theorem dX3_sendOver_60 : decode cX3_sendOver 60 = .ok (.aload_n 2, 1) := by decide +kernel
theorem dX3_sendOver_61 : decode cX3_sendOver 61 = .ok (.getfield 128, 3) := by decide +kernel
theorem dX3_sendOver_64 : decode cX3_sendOver 64 = .ok (.iload_n 3, 1) := by decide +kernel
theorem dX3_sendOver_65 : decode cX3_sendOver 65 = .ok (.aaload, 1) := by decide +kernel
theorem dX3_sendOver_66 : decode cX3_sendOver 66 = .ok (.astore 4, 2) := by decide +kernel
theorem dX3_sendOver_68 : decode cX3_sendOver 68 = .ok (.aload 4, 2) := by decide +kernel
theorem dX3_sendOver_70 : decode cX3_sendOver 70 = .ok (.aload 4, 2) := by decide +kernel
theorem dX3_sendOver_72 : decode cX3_sendOver 72 = .ok (.getfield 186, 3) := by decide +kernel
theorem dX3_sendOver_75 : decode cX3_sendOver 75 = .ok (.iconst 1, 1) := by decide +kernel
theorem dX3_sendOver_76 : decode cX3_sendOver 76 = .ok (.iadd, 1) := by decide +kernel
theorem dX3_sendOver_77 : decode cX3_sendOver 77 = .ok (.bipush 63, 2) := by decide +kernel
theorem dX3_sendOver_79 : decode cX3_sendOver 79 = .ok (.iand, 1) := by decide +kernel
theorem dX3_sendOver_80 : decode cX3_sendOver 80 = .ok (.putfield 186, 3) := by decide +kernel
theorem dX3_sendOver_83 : decode cX3_sendOver 83 = .ok (.aload 4, 2) := by decide +kernel
theorem dX3_sendOver_85 : decode cX3_sendOver 85 = .ok (.dup, 1) := by decide +kernel
theorem dX3_sendOver_86 : decode cX3_sendOver 86 = .ok (.getfield 189, 3) := by decide +kernel
theorem dX3_sendOver_89 : decode cX3_sendOver 89 = .ok (.iconst 1, 1) := by decide +kernel
theorem dX3_sendOver_90 : decode cX3_sendOver 90 = .ok (.iadd, 1) := by decide +kernel
theorem dX3_sendOver_91 : decode cX3_sendOver 91 = .ok (.putfield 189, 3) := by decide +kernel
theorem dX3_sendOver_94 : decode cX3_sendOver 94 = .ok (.iload_n 1, 1) := by decide +kernel
theorem dX3_sendOver_95 : decode cX3_sendOver 95 = .ok (.ifCond .le 11, 3) := by decide +kernel
theorem dX3_sendOver_106 : decode cX3_sendOver 106 = .ok (.return_, 1) := by decide +kernel
set_option maxRecDepth 20000 in
theorem ggX3_nextSender_X1_out : GoodIn wsX3_nextSender wsX1_out := goodIn_r _ [11, 12, 13, 35, 36, 37, 38, 39, 40, 41] (by decide +kernel) (by decide +kernel)
set_option maxRecDepth 20000 in
theorem gX3_nextSender_X1_out : GoodIn wsX3_nextSender (wsV RX3 192 RX1 yX1_out wsX1_out) := goodIn_app (goodIn_of _ (by decide +kernel)) ggX3_nextSender_X1_out
theorem dX3_nextSender_0 : decode cX3_nextSender 0 = .ok (.aload_n 0, 1) := by decide +kernel
theorem dX3_nextSender_1 : decode cX3_nextSender 1 = .ok (.getfield 11, 3) := by decide +kernel
theorem dX3_nextSender_4 : decode cX3_nextSender 4 = .ok (.iload_n 1, 1) := by decide +kernel
theorem dX3_nextSender_5 : decode cX3_nextSender 5 = .ok (.aaload, 1) := by decide +kernel
theorem dX3_nextSender_6 : decode cX3_nextSender 6 = .ok (.astore_n 2, 1) := by decide +kernel
theorem dX3_nextSender_7 : decode cX3_nextSender 7 = .ok (.iconst 1, 1) := by decide +kernel
theorem dX3_nextSender_8 : decode cX3_nextSender 8 = .ok (.istore_n 3, 1) := by decide +kernel
theorem dX3_nextSender_9 : decode cX3_nextSender 9 = .ok (.iload_n 3, 1) := by decide +kernel
theorem dX3_nextSender_10 : decode cX3_nextSender 10 = .ok (.aload_n 0, 1) := by decide +kernel
theorem dX3_nextSender_11 : decode cX3_nextSender 11 = .ok (.getfield 62, 3) := by decide +kernel
theorem dX3_nextSender_14 : decode cX3_nextSender 14 = .ok (.if_icmp .gt 61, 3) := by decide +kernel
theorem dX3_nextSender_17 : decode cX3_nextSender 17 = .ok (.aload_n 2, 1) := by decide +kernel
theorem dX3_nextSender_18 : decode cX3_nextSender 18 = .ok (.getfield 180, 3) := by decide +kernel
theorem dX3_nextSender_21 : decode cX3_nextSender 21 = .ok (.iload_n 3, 1) := by decide +kernel
theorem dX3_nextSender_22 : decode cX3_nextSender 22 = .ok (.iadd, 1) := by decide +kernel
theorem dX3_nextSender_23 : decode cX3_nextSender 23 = .ok (.aload_n 0, 1) := by decide +kernel
theorem dX3_nextSender_24 : decode cX3_nextSender 24 = .ok (.getfield 62, 3) := by decide +kernel
theorem dX3_nextSender_27 : decode cX3_nextSender 27 = .ok (.irem, 1) := by decide +kernel
theorem dX3_nextSender_28 : decode cX3_nextSender 28 = .ok (.istore 4, 2) := by decide +kernel
theorem dX3_nextSender_30 : decode cX3_nextSender 30 = .ok (.aload_n 2, 1) := by decide +kernel
theorem dX3_nextSender_31 : decode cX3_nextSender 31 = .ok (.getfield 128, 3) := by decide +kernel
theorem dX3_nextSender_34 : decode cX3_nextSender 34 = .ok (.iload 4, 2) := by decide +kernel
theorem dX3_nextSender_36 : decode cX3_nextSender 36 = .ok (.aaload, 1) := by decide +kernel
theorem dX3_nextSender_37 : decode cX3_nextSender 37 = .ok (.astore 5, 2) := by decide +kernel
theorem dX3_nextSender_39 : decode cX3_nextSender 39 = .ok (.aload_n 0, 1) := by decide +kernel
theorem dX3_nextSender_40 : decode cX3_nextSender 40 = .ok (.getfield 23, 3) := by decide +kernel
theorem dX3_nextSender_43 : decode cX3_nextSender 43 = .ok (.iload_n 1, 1) := by decide +kernel
theorem dX3_nextSender_44 : decode cX3_nextSender 44 = .ok (.iconst 3, 1) := by decide +kernel
theorem dX3_nextSender_45 : decode cX3_nextSender 45 = .ok (.imul, 1) := by decide +kernel
theorem dX3_nextSender_46 : decode cX3_nextSender 46 = .ok (.iload 4, 2) := by decide +kernel
theorem dX3_nextSender_48 : decode cX3_nextSender 48 = .ok (.iadd, 1) := by decide +kernel
theorem dX3_nextSender_49 : decode cX3_nextSender 49 = .ok (.iaload, 1) := by decide +kernel
theorem dX3_nextSender_50 : decode cX3_nextSender 50 = .ok (.ifCond .le 19, 3) := by decide +kernel
theorem dX3_nextSender_53 : decode cX3_nextSender 53 = .ok (.aload 5, 2) := by decide +kernel
theorem dX3_nextSender_55 : decode cX3_nextSender 55 = .ok (.invokevirtual 192, 3) := by decide +kernel
theorem dX3_nextSender_58 : decode cX3_nextSender 58 = .ok (.aload 5, 2) := by decide +kernel
theorem dX3_nextSender_60 : decode cX3_nextSender 60 = .ok (.getfield 195, 3) := by decide +kernel
theorem dX3_nextSender_63 : decode cX3_nextSender 63 = .ok (.if_icmp .ge 6, 3) := by decide +kernel
theorem dX3_nextSender_66 : decode cX3_nextSender 66 = .ok (.iload 4, 2) := by decide +kernel
theorem dX3_nextSender_68 : decode cX3_nextSender 68 = .ok (.ireturn, 1) := by decide +kernel
theorem dX3_nextSender_69 : decode cX3_nextSender 69 = .ok (.iinc 3 1, 3) := by decide +kernel
theorem dX3_nextSender_72 : decode cX3_nextSender 72 = .ok (.goto (-63), 3) := by decide +kernel
theorem dX3_nextSender_75 : decode cX3_nextSender 75 = .ok (.iconst (-1), 1) := by decide +kernel
theorem dX3_nextSender_76 : decode cX3_nextSender 76 = .ok (.ireturn, 1) := by decide +kernel
set_option maxRecDepth 20000 in
theorem ggX3_goneFrom_X3_sendUpdate : GoodIn wsX3_goneFrom wsX3_sendUpdate := goodIn_r _ [10, 11, 12, 13, 14, 15, 2, 3, 27, 28, 29, 30, 31, 32, 33, 34, 35, 36, 16, 17, 18, 19, 20, 21, 22, 23, 24, 25, 26, 37, 38, 39, 40, 41, 42, 43] (by decide +kernel) (by decide +kernel)
set_option maxRecDepth 20000 in
theorem gX3_goneFrom_X3_sendUpdate : GoodIn wsX3_goneFrom (wsV RX3 140 RX3 yX3_sendUpdate wsX3_sendUpdate) := goodIn_app (goodIn_of _ (by decide +kernel)) ggX3_goneFrom_X3_sendUpdate
theorem dX3_goneFrom_0 : decode cX3_goneFrom 0 = .ok (.aload_n 0, 1) := by decide +kernel
theorem dX3_goneFrom_1 : decode cX3_goneFrom 1 = .ok (.getfield 11, 3) := by decide +kernel
theorem dX3_goneFrom_4 : decode cX3_goneFrom 4 = .ok (.iload_n 1, 1) := by decide +kernel
theorem dX3_goneFrom_5 : decode cX3_goneFrom 5 = .ok (.aaload, 1) := by decide +kernel
theorem dX3_goneFrom_6 : decode cX3_goneFrom 6 = .ok (.astore_n 3, 1) := by decide +kernel
theorem dX3_goneFrom_7 : decode cX3_goneFrom 7 = .ok (.aload_n 3, 1) := by decide +kernel
theorem dX3_goneFrom_8 : decode cX3_goneFrom 8 = .ok (.getfield 128, 3) := by decide +kernel
theorem dX3_goneFrom_11 : decode cX3_goneFrom 11 = .ok (.iload_n 2, 1) := by decide +kernel
theorem dX3_goneFrom_12 : decode cX3_goneFrom 12 = .ok (.aaload, 1) := by decide +kernel
theorem dX3_goneFrom_13 : decode cX3_goneFrom 13 = .ok (.astore 4, 2) := by decide +kernel
theorem dX3_goneFrom_15 : decode cX3_goneFrom 15 = .ok (.aload 4, 2) := by decide +kernel
theorem dX3_goneFrom_17 : decode cX3_goneFrom 17 = .ok (.aload 4, 2) := by decide +kernel
theorem dX3_goneFrom_19 : decode cX3_goneFrom 19 = .ok (.getfield 198, 3) := by decide +kernel
theorem dX3_goneFrom_22 : decode cX3_goneFrom 22 = .ok (.iconst 1, 1) := by decide +kernel
theorem dX3_goneFrom_23 : decode cX3_goneFrom 23 = .ok (.iadd, 1) := by decide +kernel
theorem dX3_goneFrom_24 : decode cX3_goneFrom 24 = .ok (.bipush 63, 2) := by decide +kernel
theorem dX3_goneFrom_26 : decode cX3_goneFrom 26 = .ok (.iand, 1) := by decide +kernel
theorem dX3_goneFrom_27 : decode cX3_goneFrom 27 = .ok (.putfield 198, 3) := by decide +kernel
theorem dX3_goneFrom_30 : decode cX3_goneFrom 30 = .ok (.aload 4, 2) := by decide +kernel
theorem dX3_goneFrom_32 : decode cX3_goneFrom 32 = .ok (.dup, 1) := by decide +kernel
theorem dX3_goneFrom_33 : decode cX3_goneFrom 33 = .ok (.getfield 201, 3) := by decide +kernel
theorem dX3_goneFrom_36 : decode cX3_goneFrom 36 = .ok (.iconst 1, 1) := by decide +kernel
theorem dX3_goneFrom_37 : decode cX3_goneFrom 37 = .ok (.iadd, 1) := by decide +kernel
theorem dX3_goneFrom_38 : decode cX3_goneFrom 38 = .ok (.putfield 201, 3) := by decide +kernel
theorem dX3_goneFrom_41 : decode cX3_goneFrom 41 = .ok (.aload 4, 2) := by decide +kernel
theorem dX3_goneFrom_43 : decode cX3_goneFrom 43 = .ok (.getfield 201, 3) := by decide +kernel
theorem dX3_goneFrom_46 : decode cX3_goneFrom 46 = .ok (.aload_n 3, 1) := by decide +kernel
theorem dX3_goneFrom_47 : decode cX3_goneFrom 47 = .ok (.getfield 204, 3) := by decide +kernel
theorem dX3_goneFrom_50 : decode cX3_goneFrom 50 = .ok (.if_icmp .lt 15, 3) := by decide +kernel
theorem dX3_goneFrom_53 : decode cX3_goneFrom 53 = .ok (.aload 4, 2) := by decide +kernel
theorem dX3_goneFrom_55 : decode cX3_goneFrom 55 = .ok (.iconst 0, 1) := by decide +kernel
theorem dX3_goneFrom_56 : decode cX3_goneFrom 56 = .ok (.putfield 201, 3) := by decide +kernel
theorem dX3_goneFrom_59 : decode cX3_goneFrom 59 = .ok (.aload_n 0, 1) := by decide +kernel
theorem dX3_goneFrom_60 : decode cX3_goneFrom 60 = .ok (.aload_n 3, 1) := by decide +kernel
theorem dX3_goneFrom_61 : decode cX3_goneFrom 61 = .ok (.iload_n 2, 1) := by decide +kernel
theorem dX3_goneFrom_62 : decode cX3_goneFrom 62 = .ok (.invokevirtual 140, 3) := by decide +kernel
theorem dX3_goneFrom_65 : decode cX3_goneFrom 65 = .ok (.return_, 1) := by decide +kernel
theorem dX3_sendUpdate_0 : decode cX3_sendUpdate 0 = .ok (.aload_n 1, 1) := by decide +kernel
theorem dX3_sendUpdate_1 : decode cX3_sendUpdate 1 = .ok (.getfield 207, 3) := by decide +kernel
theorem dX3_sendUpdate_4 : decode cX3_sendUpdate 4 = .ok (.ifCond .le 24, 3) := by decide +kernel
theorem dX3_sendUpdate_28 : decode cX3_sendUpdate 28 = .ok (.aload_n 1, 1) := by decide +kernel
theorem dX3_sendUpdate_29 : decode cX3_sendUpdate 29 = .ok (.getfield 125, 3) := by decide +kernel
theorem dX3_sendUpdate_32 : decode cX3_sendUpdate 32 = .ok (.aload_n 0, 1) := by decide +kernel
theorem dX3_sendUpdate_33 : decode cX3_sendUpdate 33 = .ok (.getfield 78, 3) := by decide +kernel
theorem dX3_sendUpdate_36 : decode cX3_sendUpdate 36 = .ok (.aload_n 1, 1) := by decide +kernel
theorem dX3_sendUpdate_37 : decode cX3_sendUpdate 37 = .ok (.getfield 183, 3) := by decide +kernel
theorem dX3_sendUpdate_40 : decode cX3_sendUpdate 40 = .ok (.iadd, 1) := by decide +kernel
theorem dX3_sendUpdate_41 : decode cX3_sendUpdate 41 = .ok (.iconst 5, 1) := by decide +kernel
theorem dX3_sendUpdate_42 : decode cX3_sendUpdate 42 = .ok (.irem, 1) := by decide +kernel
theorem dX3_sendUpdate_43 : decode cX3_sendUpdate 43 = .ok (.iconst 3, 1) := by decide +kernel
theorem dX3_sendUpdate_44 : decode cX3_sendUpdate 44 = .ok (.imul, 1) := by decide +kernel
theorem dX3_sendUpdate_45 : decode cX3_sendUpdate 45 = .ok (.iload_n 2, 1) := by decide +kernel
theorem dX3_sendUpdate_46 : decode cX3_sendUpdate 46 = .ok (.iadd, 1) := by decide +kernel
theorem dX3_sendUpdate_47 : decode cX3_sendUpdate 47 = .ok (.aload_n 1, 1) := by decide +kernel
theorem dX3_sendUpdate_48 : decode cX3_sendUpdate 48 = .ok (.getfield 128, 3) := by decide +kernel
theorem dX3_sendUpdate_51 : decode cX3_sendUpdate 51 = .ok (.iload_n 2, 1) := by decide +kernel
theorem dX3_sendUpdate_52 : decode cX3_sendUpdate 52 = .ok (.aaload, 1) := by decide +kernel
theorem dX3_sendUpdate_53 : decode cX3_sendUpdate 53 = .ok (.getfield 198, 3) := by decide +kernel
theorem dX3_sendUpdate_56 : decode cX3_sendUpdate 56 = .ok (.iastore, 1) := by decide +kernel
theorem dX3_sendUpdate_57 : decode cX3_sendUpdate 57 = .ok (.return_, 1) := by decide +kernel
set_option maxRecDepth 20000 in
theorem ggX3_waitAt_X3_lacksCredit : GoodIn wsX3_waitAt wsX3_lacksCredit := goodIn_r _ [10, 11, 2, 3, 12, 13, 14, 15, 16, 17, 18, 19, 28, 29, 30, 31, 32, 33, 34, 35, 36, 37, 38, 39, 40, 41, 42, 43, 44, 45, 46, 47, 48, 49, 50, 51, 52, 53, 54, 55] (by decide +kernel) (by decide +kernel)
set_option maxRecDepth 20000 in
theorem gX3_waitAt_X3_lacksCredit : GoodIn wsX3_waitAt (wsV RX3 213 RX3 yX3_lacksCredit wsX3_lacksCredit) := goodIn_app (goodIn_of _ (by decide +kernel)) ggX3_waitAt_X3_lacksCredit
theorem dX3_waitAt_0 : decode cX3_waitAt 0 = .ok (.iconst 0, 1) := by decide +kernel
theorem dX3_waitAt_1 : decode cX3_waitAt 1 = .ok (.istore_n 2, 1) := by decide +kernel
theorem dX3_waitAt_2 : decode cX3_waitAt 2 = .ok (.iload_n 2, 1) := by decide +kernel
theorem dX3_waitAt_3 : decode cX3_waitAt 3 = .ok (.aload_n 0, 1) := by decide +kernel
theorem dX3_waitAt_4 : decode cX3_waitAt 4 = .ok (.getfield 62, 3) := by decide +kernel
theorem dX3_waitAt_7 : decode cX3_waitAt 7 = .ok (.if_icmp .ge 73, 3) := by decide +kernel
theorem dX3_waitAt_10 : decode cX3_waitAt 10 = .ok (.aload_n 0, 1) := by decide +kernel
theorem dX3_waitAt_11 : decode cX3_waitAt 11 = .ok (.getfield 11, 3) := by decide +kernel
theorem dX3_waitAt_14 : decode cX3_waitAt 14 = .ok (.iload_n 1, 1) := by decide +kernel
theorem dX3_waitAt_15 : decode cX3_waitAt 15 = .ok (.aaload, 1) := by decide +kernel
theorem dX3_waitAt_16 : decode cX3_waitAt 16 = .ok (.getfield 128, 3) := by decide +kernel
theorem dX3_waitAt_19 : decode cX3_waitAt 19 = .ok (.iload_n 2, 1) := by decide +kernel
theorem dX3_waitAt_20 : decode cX3_waitAt 20 = .ok (.aaload, 1) := by decide +kernel
theorem dX3_waitAt_21 : decode cX3_waitAt 21 = .ok (.astore_n 3, 1) := by decide +kernel
theorem dX3_waitAt_22 : decode cX3_waitAt 22 = .ok (.aload_n 3, 1) := by decide +kernel
theorem dX3_waitAt_23 : decode cX3_waitAt 23 = .ok (.aload_n 0, 1) := by decide +kernel
theorem dX3_waitAt_24 : decode cX3_waitAt 24 = .ok (.iload_n 1, 1) := by decide +kernel
theorem dX3_waitAt_25 : decode cX3_waitAt 25 = .ok (.iload_n 2, 1) := by decide +kernel
theorem dX3_waitAt_26 : decode cX3_waitAt 26 = .ok (.invokevirtual 213, 3) := by decide +kernel
theorem dX3_waitAt_29 : decode cX3_waitAt 29 = .ok (.ifCond .eq 12, 3) := by decide +kernel
theorem dX3_waitAt_32 : decode cX3_waitAt 32 = .ok (.aload_n 3, 1) := by decide +kernel
theorem dX3_waitAt_33 : decode cX3_waitAt 33 = .ok (.getfield 210, 3) := by decide +kernel
theorem dX3_waitAt_36 : decode cX3_waitAt 36 = .ok (.iconst 1, 1) := by decide +kernel
theorem dX3_waitAt_37 : decode cX3_waitAt 37 = .ok (.iadd, 1) := by decide +kernel
theorem dX3_waitAt_38 : decode cX3_waitAt 38 = .ok (.goto 4, 3) := by decide +kernel
theorem dX3_waitAt_41 : decode cX3_waitAt 41 = .ok (.iconst 0, 1) := by decide +kernel
theorem dX3_waitAt_42 : decode cX3_waitAt 42 = .ok (.putfield 210, 3) := by decide +kernel
theorem dX3_waitAt_45 : decode cX3_waitAt 45 = .ok (.aload_n 0, 1) := by decide +kernel
theorem dX3_waitAt_46 : decode cX3_waitAt 46 = .ok (.getfield 50, 3) := by decide +kernel
theorem dX3_waitAt_49 : decode cX3_waitAt 49 = .ok (.ifCond .le 25, 3) := by decide +kernel
theorem dX3_waitAt_74 : decode cX3_waitAt 74 = .ok (.iinc 2 1, 3) := by decide +kernel
theorem dX3_waitAt_77 : decode cX3_waitAt 77 = .ok (.goto (-75), 3) := by decide +kernel
theorem dX3_waitAt_80 : decode cX3_waitAt 80 = .ok (.return_, 1) := by decide +kernel
set_option maxRecDepth 20000 in
theorem ggX3_lacksCredit_X1_out : GoodIn wsX3_lacksCredit wsX1_out := goodIn_r _ [9, 10, 11, 33, 34, 35, 36, 37, 38, 39] (by decide +kernel) (by decide +kernel)
set_option maxRecDepth 20000 in
theorem gX3_lacksCredit_X1_out : GoodIn wsX3_lacksCredit (wsV RX3 192 RX1 yX1_out wsX1_out) := goodIn_app (goodIn_of _ (by decide +kernel)) ggX3_lacksCredit_X1_out
theorem dX3_lacksCredit_0 : decode cX3_lacksCredit 0 = .ok (.aload_n 0, 1) := by decide +kernel
theorem dX3_lacksCredit_1 : decode cX3_lacksCredit 1 = .ok (.getfield 23, 3) := by decide +kernel
theorem dX3_lacksCredit_4 : decode cX3_lacksCredit 4 = .ok (.iload_n 1, 1) := by decide +kernel
theorem dX3_lacksCredit_5 : decode cX3_lacksCredit 5 = .ok (.iconst 3, 1) := by decide +kernel
theorem dX3_lacksCredit_6 : decode cX3_lacksCredit 6 = .ok (.imul, 1) := by decide +kernel
theorem dX3_lacksCredit_7 : decode cX3_lacksCredit 7 = .ok (.iload_n 2, 1) := by decide +kernel
theorem dX3_lacksCredit_8 : decode cX3_lacksCredit 8 = .ok (.iadd, 1) := by decide +kernel
theorem dX3_lacksCredit_9 : decode cX3_lacksCredit 9 = .ok (.iaload, 1) := by decide +kernel
theorem dX3_lacksCredit_10 : decode cX3_lacksCredit 10 = .ok (.ifCond .le 38, 3) := by decide +kernel
theorem dX3_lacksCredit_13 : decode cX3_lacksCredit 13 = .ok (.aload_n 0, 1) := by decide +kernel
theorem dX3_lacksCredit_14 : decode cX3_lacksCredit 14 = .ok (.getfield 11, 3) := by decide +kernel
theorem dX3_lacksCredit_17 : decode cX3_lacksCredit 17 = .ok (.iload_n 1, 1) := by decide +kernel
theorem dX3_lacksCredit_18 : decode cX3_lacksCredit 18 = .ok (.aaload, 1) := by decide +kernel
theorem dX3_lacksCredit_19 : decode cX3_lacksCredit 19 = .ok (.getfield 128, 3) := by decide +kernel
theorem dX3_lacksCredit_22 : decode cX3_lacksCredit 22 = .ok (.iload_n 2, 1) := by decide +kernel
theorem dX3_lacksCredit_23 : decode cX3_lacksCredit 23 = .ok (.aaload, 1) := by decide +kernel
theorem dX3_lacksCredit_24 : decode cX3_lacksCredit 24 = .ok (.invokevirtual 192, 3) := by decide +kernel
theorem dX3_lacksCredit_27 : decode cX3_lacksCredit 27 = .ok (.aload_n 0, 1) := by decide +kernel
theorem dX3_lacksCredit_28 : decode cX3_lacksCredit 28 = .ok (.getfield 11, 3) := by decide +kernel
theorem dX3_lacksCredit_31 : decode cX3_lacksCredit 31 = .ok (.iload_n 1, 1) := by decide +kernel
theorem dX3_lacksCredit_32 : decode cX3_lacksCredit 32 = .ok (.aaload, 1) := by decide +kernel
theorem dX3_lacksCredit_33 : decode cX3_lacksCredit 33 = .ok (.getfield 128, 3) := by decide +kernel
theorem dX3_lacksCredit_36 : decode cX3_lacksCredit 36 = .ok (.iload_n 2, 1) := by decide +kernel
theorem dX3_lacksCredit_37 : decode cX3_lacksCredit 37 = .ok (.aaload, 1) := by decide +kernel
theorem dX3_lacksCredit_38 : decode cX3_lacksCredit 38 = .ok (.getfield 195, 3) := by decide +kernel
theorem dX3_lacksCredit_41 : decode cX3_lacksCredit 41 = .ok (.if_icmp .lt 7, 3) := by decide +kernel
theorem dX3_lacksCredit_44 : decode cX3_lacksCredit 44 = .ok (.iconst 1, 1) := by decide +kernel
theorem dX3_lacksCredit_45 : decode cX3_lacksCredit 45 = .ok (.goto 4, 3) := by decide +kernel
theorem dX3_lacksCredit_48 : decode cX3_lacksCredit 48 = .ok (.iconst 0, 1) := by decide +kernel
theorem dX3_lacksCredit_49 : decode cX3_lacksCredit 49 = .ok (.ireturn, 1) := by decide +kernel
theorem dX4_init_0 : decode cX4_init 0 = .ok (.aload_n 0, 1) := by decide +kernel
theorem dX4_init_1 : decode cX4_init 1 = .ok (.invokespecial 3, 3) := by decide +kernel
theorem dX4_init_4 : decode cX4_init 4 = .ok (.aload_n 0, 1) := by decide +kernel
theorem dX4_init_5 : decode cX4_init 5 = .ok (.iconst 0, 1) := by decide +kernel
theorem dX4_init_6 : decode cX4_init 6 = .ok (.newarray .int, 2) := by decide +kernel
theorem dX4_init_8 : decode cX4_init 8 = .ok (.putfield 9, 3) := by decide +kernel
theorem dX4_init_11 : decode cX4_init 11 = .ok (.aload_n 0, 1) := by decide +kernel
theorem dX4_init_12 : decode cX4_init 12 = .ok (.bipush 21, 2) := by decide +kernel
theorem dX4_init_14 : decode cX4_init 14 = .ok (.newarray .int, 2) := by decide +kernel
theorem dX4_init_16 : decode cX4_init 16 = .ok (.putfield 15, 3) := by decide +kernel
theorem dX4_init_19 : decode cX4_init 19 = .ok (.return_, 1) := by decide +kernel
theorem dX5_init_0 : decode cX5_init 0 = .ok (.aload_n 0, 1) := by decide +kernel
theorem dX5_init_1 : decode cX5_init 1 = .ok (.invokespecial 1, 3) := by decide +kernel
theorem dX5_init_4 : decode cX5_init 4 = .ok (.aload_n 0, 1) := by decide +kernel
theorem dX5_init_5 : decode cX5_init 5 = .ok (.sipush 256, 3) := by decide +kernel
theorem dX5_init_8 : decode cX5_init 8 = .ok (.newarray .int, 2) := by decide +kernel
theorem dX5_init_10 : decode cX5_init 10 = .ok (.putfield 9, 3) := by decide +kernel
theorem dX5_init_13 : decode cX5_init 13 = .ok (.return_, 1) := by decide +kernel
set_option maxRecDepth 20000 in
theorem ggX6_init_X4_init : GoodIn wsX6_init wsX4_init := goodIn_r _ [22, 23, 2, 3, 4, 24, 25, 69, 70, 71, 72, 73, 74, 75] (by decide +kernel) (by decide +kernel)
set_option maxRecDepth 20000 in
theorem ggX6_init_X3_init : GoodIn wsX6_init wsX3_init := goodIn_r _ [28, 29, 2, 3, 30, 31, 32, 33, 4, 34, 35, 36, 37, 38, 39, 40, 41, 42, 43, 44, 45, 46, 47, 48, 49, 50, 51, 52, 53, 54, 55, 76, 77, 78, 79, 80, 81, 82, 83, 84, 85, 86, 93, 94, 95, 96, 97, 98, 99, 100, 101, 102, 103, 104, 105, 106, 107, 108, 109, 110, 111, 112, 113, 114, 115, 116, 117] (by decide +kernel) (by decide +kernel)
set_option maxRecDepth 20000 in
theorem ggX6_init_X5_init : GoodIn wsX6_init wsX5_init := goodIn_r _ [57, 58, 2, 3, 4, 59, 87, 88, 89, 90, 91, 92] (by decide +kernel) (by decide +kernel)
theorem dX6_init_0 : decode cX6_init 0 = .ok (.aload_n 0, 1) := by decide +kernel
theorem dX6_init_1 : decode cX6_init 1 = .ok (.invokespecial 1, 3) := by decide +kernel
theorem dX6_init_4 : decode cX6_init 4 = .ok (.aload_n 0, 1) := by decide +kernel
theorem dX6_init_5 : decode cX6_init 5 = .ok (.sipush 160, 3) := by decide +kernel
theorem dX6_init_8 : decode cX6_init 8 = .ok (.newarray .int, 2) := by decide +kernel
theorem dX6_init_10 : decode cX6_init 10 = .ok (.putfield 9, 3) := by decide +kernel
theorem dX6_init_13 : decode cX6_init 13 = .ok (.aload_n 0, 1) := by decide +kernel
theorem dX6_init_14 : decode cX6_init 14 = .ok (.iconst 4, 1) := by decide +kernel
theorem dX6_init_15 : decode cX6_init 15 = .ok (.newarray .int, 2) := by decide +kernel
theorem dX6_init_17 : decode cX6_init 17 = .ok (.putfield 13, 3) := by decide +kernel
theorem dX6_init_20 : decode cX6_init 20 = .ok (.aload_n 0, 1) := by decide +kernel
theorem dX6_init_21 : decode cX6_init 21 = .ok (.new 16, 3) := by decide +kernel
theorem dX6_init_24 : decode cX6_init 24 = .ok (.dup, 1) := by decide +kernel
theorem dX6_init_25 : decode cX6_init 25 = .ok (.invokespecial 18, 3) := by decide +kernel
theorem dX6_init_28 : decode cX6_init 28 = .ok (.putfield 19, 3) := by decide +kernel
theorem dX6_init_31 : decode cX6_init 31 = .ok (.aload_n 0, 1) := by decide +kernel
theorem dX6_init_32 : decode cX6_init 32 = .ok (.new 23, 3) := by decide +kernel
theorem dX6_init_35 : decode cX6_init 35 = .ok (.dup, 1) := by decide +kernel
theorem dX6_init_36 : decode cX6_init 36 = .ok (.invokespecial 25, 3) := by decide +kernel
theorem dX6_init_39 : decode cX6_init 39 = .ok (.putfield 26, 3) := by decide +kernel
theorem dX6_init_42 : decode cX6_init 42 = .ok (.aload_n 0, 1) := by decide +kernel
theorem dX6_init_43 : decode cX6_init 43 = .ok (.new 23, 3) := by decide +kernel
theorem dX6_init_46 : decode cX6_init 46 = .ok (.dup, 1) := by decide +kernel
theorem dX6_init_47 : decode cX6_init 47 = .ok (.invokespecial 25, 3) := by decide +kernel
theorem dX6_init_50 : decode cX6_init 50 = .ok (.putfield 30, 3) := by decide +kernel
theorem dX6_init_53 : decode cX6_init 53 = .ok (.aload_n 0, 1) := by decide +kernel
theorem dX6_init_54 : decode cX6_init 54 = .ok (.iconst 3, 1) := by decide +kernel
theorem dX6_init_55 : decode cX6_init 55 = .ok (.anewarray 33, 3) := by decide +kernel
theorem dX6_init_58 : decode cX6_init 58 = .ok (.putfield 35, 3) := by decide +kernel
theorem dX6_init_61 : decode cX6_init 61 = .ok (.aload_n 0, 1) := by decide +kernel
theorem dX6_init_62 : decode cX6_init 62 = .ok (.iconst 3, 1) := by decide +kernel
theorem dX6_init_63 : decode cX6_init 63 = .ok (.newarray .int, 2) := by decide +kernel
theorem dX6_init_65 : decode cX6_init 65 = .ok (.putfield 39, 3) := by decide +kernel
theorem dX6_init_68 : decode cX6_init 68 = .ok (.iconst 0, 1) := by decide +kernel
theorem dX6_init_69 : decode cX6_init 69 = .ok (.istore_n 1, 1) := by decide +kernel
theorem dX6_init_70 : decode cX6_init 70 = .ok (.iload_n 1, 1) := by decide +kernel
theorem dX6_init_71 : decode cX6_init 71 = .ok (.iconst 3, 1) := by decide +kernel
theorem dX6_init_72 : decode cX6_init 72 = .ok (.if_icmp .ge 22, 3) := by decide +kernel
theorem dX6_init_75 : decode cX6_init 75 = .ok (.aload_n 0, 1) := by decide +kernel
theorem dX6_init_76 : decode cX6_init 76 = .ok (.getfield 35, 3) := by decide +kernel
theorem dX6_init_79 : decode cX6_init 79 = .ok (.iload_n 1, 1) := by decide +kernel
theorem dX6_init_80 : decode cX6_init 80 = .ok (.new 33, 3) := by decide +kernel
theorem dX6_init_83 : decode cX6_init 83 = .ok (.dup, 1) := by decide +kernel
theorem dX6_init_84 : decode cX6_init 84 = .ok (.invokespecial 42, 3) := by decide +kernel
theorem dX6_init_87 : decode cX6_init 87 = .ok (.aastore, 1) := by decide +kernel
theorem dX6_init_88 : decode cX6_init 88 = .ok (.iinc 1 1, 3) := by decide +kernel
theorem dX6_init_91 : decode cX6_init 91 = .ok (.goto (-21), 3) := by decide +kernel
theorem dX6_init_94 : decode cX6_init 94 = .ok (.return_, 1) := by decide +kernel
set_option maxRecDepth 20000 in
theorem ggX6_feed_X6_signsIn : GoodIn wsX6_feed wsX6_signsIn := goodIn_r _ [5] (by decide +kernel) (by decide +kernel)
set_option maxRecDepth 20000 in
theorem gX6_feed_X6_signsIn : GoodIn wsX6_feed (va_wsS RX6 43 yX6_signsIn wsX6_signsIn) := goodIn_app (goodIn_of _ (by decide +kernel)) ggX6_feed_X6_signsIn
set_option maxRecDepth 20000 in
theorem ggX6_feed_X6_append : GoodIn wsX6_feed wsX6_append := goodIn_r _ [9, 1, 10, 11, 12, 13, 14, 15, 16, 17, 18, 19] (by decide +kernel) (by decide +kernel)
set_option maxRecDepth 20000 in
theorem gX6_feed_X6_append : GoodIn wsX6_feed (wsV RX6 51 RX6 yX6_append wsX6_append) := goodIn_app (goodIn_of _ (by decide +kernel)) ggX6_feed_X6_append
theorem dX6_feed_0 : decode cX6_feed 0 = .ok (.iload_n 1, 1) := by decide +kernel
theorem dX6_feed_1 : decode cX6_feed 1 = .ok (.invokestatic 43, 3) := by decide +kernel
theorem dX6_feed_4 : decode cX6_feed 4 = .ok (.iload_n 2, 1) := by decide +kernel
theorem dX6_feed_5 : decode cX6_feed 5 = .ok (.invokestatic 43, 3) := by decide +kernel
theorem dX6_feed_8 : decode cX6_feed 8 = .ok (.iadd, 1) := by decide +kernel
theorem dX6_feed_9 : decode cX6_feed 9 = .ok (.iload_n 3, 1) := by decide +kernel
theorem dX6_feed_10 : decode cX6_feed 10 = .ok (.invokestatic 43, 3) := by decide +kernel
theorem dX6_feed_13 : decode cX6_feed 13 = .ok (.iadd, 1) := by decide +kernel
theorem dX6_feed_14 : decode cX6_feed 14 = .ok (.iload 4, 2) := by decide +kernel
theorem dX6_feed_16 : decode cX6_feed 16 = .ok (.invokestatic 43, 3) := by decide +kernel
theorem dX6_feed_19 : decode cX6_feed 19 = .ok (.iadd, 1) := by decide +kernel
theorem dX6_feed_20 : decode cX6_feed 20 = .ok (.iload 5, 2) := by decide +kernel
theorem dX6_feed_22 : decode cX6_feed 22 = .ok (.invokestatic 43, 3) := by decide +kernel
theorem dX6_feed_25 : decode cX6_feed 25 = .ok (.iadd, 1) := by decide +kernel
theorem dX6_feed_26 : decode cX6_feed 26 = .ok (.istore 6, 2) := by decide +kernel
theorem dX6_feed_28 : decode cX6_feed 28 = .ok (.aload_n 0, 1) := by decide +kernel
theorem dX6_feed_29 : decode cX6_feed 29 = .ok (.getfield 47, 3) := by decide +kernel
theorem dX6_feed_32 : decode cX6_feed 32 = .ok (.iload 6, 2) := by decide +kernel
theorem dX6_feed_34 : decode cX6_feed 34 = .ok (.iadd, 1) := by decide +kernel
theorem dX6_feed_35 : decode cX6_feed 35 = .ok (.sipush 160, 3) := by decide +kernel
theorem dX6_feed_38 : decode cX6_feed 38 = .ok (.if_icmp .le 5, 3) := by decide +kernel
theorem dX6_feed_43 : decode cX6_feed 43 = .ok (.aload_n 0, 1) := by decide +kernel
theorem dX6_feed_44 : decode cX6_feed 44 = .ok (.iload_n 1, 1) := by decide +kernel
theorem dX6_feed_45 : decode cX6_feed 45 = .ok (.invokevirtual 51, 3) := by decide +kernel
