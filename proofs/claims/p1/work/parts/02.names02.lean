theorem dX3_sendOver_53 : decode cX3_sendOver 53 = .ok (.iload_n 3, 1) := by decide +kernel
theorem dX3_sendOver_54 : decode cX3_sendOver 54 = .ok (.iadd, 1) := by decide +kernel
theorem dX3_sendOver_55 : decode cX3_sendOver 55 = .ok (.dup2, 1) := by decide +kernel
theorem dX3_sendOver_56 : decode cX3_sendOver 56 = .ok (.iaload, 1) := by decide +kernel
theorem dX3_sendOver_57 : decode cX3_sendOver 57 = .ok (.iconst 1, 1) := by decide +kernel
theorem dX3_sendOver_58 : decode cX3_sendOver 58 = .ok (.isub, 1) := by decide +kernel
theorem dX3_sendOver_59 : decode cX3_sendOver 59 = .ok (.iastore, 1) := by decide +kernel
theorem dX3_sendOver_60 : decode cX3_sendOver 60 = .ok (.aload_n 2, 1) := by decide +kernel
theorem dX3_sendOver_61 : decode cX3_sendOver 61 = .ok (.getfield 128, 3) := by decide +kernel
theorem dX3_sendOver_64 : decode cX3_sendOver 64 = .ok (.iload_n 3, 1) := by decide +kernel
theorem dX3_sendOver_65 : decode cX3_sendOver 65 = .ok (.aaload, 1) := by decide +kernel
theorem dX3_sendOver_66 : decode cX3_sendOver 66 = .ok (.astore 4, 2) := by decide +kernel
theorem dX3_sendOver_68 : decode cX3_sendOver 68 = .ok (.aload 4, 2) := by decide +kernel
theorem dX3_sendOver_70 : decode cX3_sendOver 70 = .ok (.aload 4, 2) := by decide +kernel
theorem dX3_sendOver_72 : decode cX3_sendOver 72 = .ok (.getfield 186, 3) := by decide +kernel
theorem dX3_sendOver_75 : decode cX3_sendOver 75 = .ok (.iconst 1, 1) := by decide +kernel
theorem dX3_sendOver_76 : decode cX3_sendOver 76 = .ok (.iadd, 1) := by decide +kernel
theorem dX3_sendOver_77 : decode cX3_sendOver 77 = .ok (.bipush 63, 2) := by decide +kernel
theorem dX3_sendOver_79 : decode cX3_sendOver 79 = .ok (.iand, 1) := by decide +kernel
theorem dX3_sendOver_80 : decode cX3_sendOver 80 = .ok (.putfield 186, 3) := by decide +kernel
theorem dX3_sendOver_83 : decode cX3_sendOver 83 = .ok (.aload 4, 2) := by decide +kernel
theorem dX3_sendOver_85 : decode cX3_sendOver 85 = .ok (.dup, 1) := by decide +kernel
theorem dX3_sendOver_86 : decode cX3_sendOver 86 = .ok (.getfield 189, 3) := by decide +kernel
theorem dX3_sendOver_89 : decode cX3_sendOver 89 = .ok (.iconst 1, 1) := by decide +kernel
theorem dX3_sendOver_90 : decode cX3_sendOver 90 = .ok (.iadd, 1) := by decide +kernel
theorem dX3_sendOver_91 : decode cX3_sendOver 91 = .ok (.putfield 189, 3) := by decide +kernel
theorem dX3_sendOver_94 : decode cX3_sendOver 94 = .ok (.iload_n 1, 1) := by decide +kernel
theorem dX3_sendOver_95 : decode cX3_sendOver 95 = .ok (.ifCond .le 11, 3) := by decide +kernel
theorem dX3_sendOver_106 : decode cX3_sendOver 106 = .ok (.return_, 1) := by decide +kernel
set_option maxRecDepth 20000 in
theorem ggX3_nextSender_X1_out : GoodIn wsX3_nextSender wsX1_out := goodIn_r _ [11, 12, 13, 35, 36, 37, 38, 39, 40, 41] (by decide +kernel) (by decide +kernel)
set_option maxRecDepth 20000 in
theorem gX3_nextSender_X1_out : GoodIn wsX3_nextSender (wsV RX3 192 RX1 yX1_out wsX1_out) := goodIn_app (goodIn_of _ (by decide +kernel)) ggX3_nextSender_X1_out
theorem dX3_nextSender_0 : decode cX3_nextSender 0 = .ok (.aload_n 0, 1) := by decide +kernel
theorem dX3_nextSender_1 : decode cX3_nextSender 1 = .ok (.getfield 11, 3) := by decide +kernel
theorem dX3_nextSender_4 : decode cX3_nextSender 4 = .ok (.iload_n 1, 1) := by decide +kernel
theorem dX3_nextSender_5 : decode cX3_nextSender 5 = .ok (.aaload, 1) := by decide +kernel
theorem dX3_nextSender_6 : decode cX3_nextSender 6 = .ok (.astore_n 2, 1) := by decide +kernel
theorem dX3_nextSender_7 : decode cX3_nextSender 7 = .ok (.iconst 1, 1) := by decide +kernel
theorem dX3_nextSender_8 : decode cX3_nextSender 8 = .ok (.istore_n 3, 1) := by decide +kernel
theorem dX3_nextSender_9 : decode cX3_nextSender 9 = .ok (.iload_n 3, 1) := by decide +kernel
theorem dX3_nextSender_10 : decode cX3_nextSender 10 = .ok (.aload_n 0, 1) := by decide +kernel
theorem dX3_nextSender_11 : decode cX3_nextSender 11 = .ok (.getfield 62, 3) := by decide +kernel
theorem dX3_nextSender_14 : decode cX3_nextSender 14 = .ok (.if_icmp .gt 61, 3) := by decide +kernel
theorem dX3_nextSender_17 : decode cX3_nextSender 17 = .ok (.aload_n 2, 1) := by decide +kernel
theorem dX3_nextSender_18 : decode cX3_nextSender 18 = .ok (.getfield 180, 3) := by decide +kernel
theorem dX3_nextSender_21 : decode cX3_nextSender 21 = .ok (.iload_n 3, 1) := by decide +kernel
theorem dX3_nextSender_22 : decode cX3_nextSender 22 = .ok (.iadd, 1) := by decide +kernel
theorem dX3_nextSender_23 : decode cX3_nextSender 23 = .ok (.aload_n 0, 1) := by decide +kernel
theorem dX3_nextSender_24 : decode cX3_nextSender 24 = .ok (.getfield 62, 3) := by decide +kernel
theorem dX3_nextSender_27 : decode cX3_nextSender 27 = .ok (.irem, 1) := by decide +kernel
theorem dX3_nextSender_28 : decode cX3_nextSender 28 = .ok (.istore 4, 2) := by decide +kernel
theorem dX3_nextSender_30 : decode cX3_nextSender 30 = .ok (.aload_n 2, 1) := by decide +kernel
theorem dX3_nextSender_31 : decode cX3_nextSender 31 = .ok (.getfield 128, 3) := by decide +kernel
theorem dX3_nextSender_34 : decode cX3_nextSender 34 = .ok (.iload 4, 2) := by decide +kernel
theorem dX3_nextSender_36 : decode cX3_nextSender 36 = .ok (.aaload, 1) := by decide +kernel
theorem dX3_nextSender_37 : decode cX3_nextSender 37 = .ok (.astore 5, 2) := by decide +kernel
theorem dX3_nextSender_39 : decode cX3_nextSender 39 = .ok (.aload_n 0, 1) := by decide +kernel
theorem dX3_nextSender_40 : decode cX3_nextSender 40 = .ok (.getfield 23, 3) := by decide +kernel
theorem dX3_nextSender_43 : decode cX3_nextSender 43 = .ok (.iload_n 1, 1) := by decide +kernel
theorem dX3_nextSender_44 : decode cX3_nextSender 44 = .ok (.iconst 3, 1) := by decide +kernel
theorem dX3_nextSender_45 : decode cX3_nextSender 45 = .ok (.imul, 1) := by decide +kernel
theorem dX3_nextSender_46 : decode cX3_nextSender 46 = .ok (.iload 4, 2) := by decide +kernel
theorem dX3_nextSender_48 : decode cX3_nextSender 48 = .ok (.iadd, 1) := by decide +kernel
theorem dX3_nextSender_49 : decode cX3_nextSender 49 = .ok (.iaload, 1) := by decide +kernel
theorem dX3_nextSender_50 : decode cX3_nextSender 50 = .ok (.ifCond .le 19, 3) := by decide +kernel
theorem dX3_nextSender_53 : decode cX3_nextSender 53 = .ok (.aload 5, 2) := by decide +kernel
theorem dX3_nextSender_55 : decode cX3_nextSender 55 = .ok (.invokevirtual 192, 3) := by decide +kernel
theorem dX3_nextSender_58 : decode cX3_nextSender 58 = .ok (.aload 5, 2) := by decide +kernel
theorem dX3_nextSender_60 : decode cX3_nextSender 60 = .ok (.getfield 195, 3) := by decide +kernel
theorem dX3_nextSender_63 : decode cX3_nextSender 63 = .ok (.if_icmp .ge 6, 3) := by decide +kernel
theorem dX3_nextSender_66 : decode cX3_nextSender 66 = .ok (.iload 4, 2) := by decide +kernel
theorem dX3_nextSender_68 : decode cX3_nextSender 68 = .ok (.ireturn, 1) := by decide +kernel
theorem dX3_nextSender_69 : decode cX3_nextSender 69 = .ok (.iinc 3 1, 3) := by decide +kernel
theorem dX3_nextSender_72 : decode cX3_nextSender 72 = .ok (.goto (-63), 3) := by decide +kernel
theorem dX3_nextSender_75 : decode cX3_nextSender 75 = .ok (.iconst (-1), 1) := by decide +kernel
theorem dX3_nextSender_76 : decode cX3_nextSender 76 = .ok (.ireturn, 1) := by decide +kernel
set_option maxRecDepth 20000 in
theorem ggX3_goneFrom_X3_sendUpdate : GoodIn wsX3_goneFrom wsX3_sendUpdate := goodIn_r _ [10, 11, 12, 13, 14, 15, 2, 3, 27, 28, 29, 30, 31, 32, 33, 34, 35, 36, 16, 17, 18, 19, 20, 21, 22, 23, 24, 25, 26, 37, 38, 39, 40, 41, 42, 43] (by decide +kernel) (by decide +kernel)
set_option maxRecDepth 20000 in
theorem gX3_goneFrom_X3_sendUpdate : GoodIn wsX3_goneFrom (wsV RX3 140 RX3 yX3_sendUpdate wsX3_sendUpdate) := goodIn_app (goodIn_of _ (by decide +kernel)) ggX3_goneFrom_X3_sendUpdate
theorem dX3_goneFrom_0 : decode cX3_goneFrom 0 = .ok (.aload_n 0, 1) := by decide +kernel
theorem dX3_goneFrom_1 : decode cX3_goneFrom 1 = .ok (.getfield 11, 3) := by decide +kernel
theorem dX3_goneFrom_4 : decode cX3_goneFrom 4 = .ok (.iload_n 1, 1) := by decide +kernel
theorem dX3_goneFrom_5 : decode cX3_goneFrom 5 = .ok (.aaload, 1) := by decide +kernel
theorem dX3_goneFrom_6 : decode cX3_goneFrom 6 = .ok (.astore_n 3, 1) := by decide +kernel
theorem dX3_goneFrom_7 : decode cX3_goneFrom 7 = .ok (.aload_n 3, 1) := by decide +kernel
theorem dX3_goneFrom_8 : decode cX3_goneFrom 8 = .ok (.getfield 128, 3) := by decide +kernel
theorem dX3_goneFrom_11 : decode cX3_goneFrom 11 = .ok (.iload_n 2, 1) := by decide +kernel
theorem dX3_goneFrom_12 : decode cX3_goneFrom 12 = .ok (.aaload, 1) := by decide +kernel
theorem dX3_goneFrom_13 : decode cX3_goneFrom 13 = .ok (.astore 4, 2) := by decide +kernel
theorem dX3_goneFrom_15 : decode cX3_goneFrom 15 = .ok (.aload 4, 2) := by decide +kernel
theorem dX3_goneFrom_17 : decode cX3_goneFrom 17 = .ok (.aload 4, 2) := by decide +kernel
theorem dX3_goneFrom_19 : decode cX3_goneFrom 19 = .ok (.getfield 198, 3) := by decide +kernel
theorem dX3_goneFrom_22 : decode cX3_goneFrom 22 = .ok (.iconst 1, 1) := by decide +kernel
theorem dX3_goneFrom_23 : decode cX3_goneFrom 23 = .ok (.iadd, 1) := by decide +kernel
theorem dX3_goneFrom_24 : decode cX3_goneFrom 24 = .ok (.bipush 63, 2) := by decide +kernel
theorem dX3_goneFrom_26 : decode cX3_goneFrom 26 = .ok (.iand, 1) := by decide +kernel
theorem dX3_goneFrom_27 : decode cX3_goneFrom 27 = .ok (.putfield 198, 3) := by decide +kernel
theorem dX3_goneFrom_30 : decode cX3_goneFrom 30 = .ok (.aload 4, 2) := by decide +kernel
theorem dX3_goneFrom_32 : decode cX3_goneFrom 32 = .ok (.dup, 1) := by decide +kernel
theorem dX3_goneFrom_33 : decode cX3_goneFrom 33 = .ok (.getfield 201, 3) := by decide +kernel
theorem dX3_goneFrom_36 : decode cX3_goneFrom 36 = .ok (.iconst 1, 1) := by decide +kernel
theorem dX3_goneFrom_37 : decode cX3_goneFrom 37 = .ok (.iadd, 1) := by decide +kernel
theorem dX3_goneFrom_38 : decode cX3_goneFrom 38 = .ok (.putfield 201, 3) := by decide +kernel
theorem dX3_goneFrom_41 : decode cX3_goneFrom 41 = .ok (.aload 4, 2) := by decide +kernel
theorem dX3_goneFrom_43 : decode cX3_goneFrom 43 = .ok (.getfield 201, 3) := by decide +kernel
theorem dX3_goneFrom_46 : decode cX3_goneFrom 46 = .ok (.aload_n 3, 1) := by decide +kernel
theorem dX3_goneFrom_47 : decode cX3_goneFrom 47 = .ok (.getfield 204, 3) := by decide +kernel
theorem dX3_goneFrom_50 : decode cX3_goneFrom 50 = .ok (.if_icmp .lt 15, 3) := by decide +kernel
theorem dX3_goneFrom_53 : decode cX3_goneFrom 53 = .ok (.aload 4, 2) := by decide +kernel
theorem dX3_goneFrom_55 : decode cX3_goneFrom 55 = .ok (.iconst 0, 1) := by decide +kernel
theorem dX3_goneFrom_56 : decode cX3_goneFrom 56 = .ok (.putfield 201, 3) := by decide +kernel
theorem dX3_goneFrom_59 : decode cX3_goneFrom 59 = .ok (.aload_n 0, 1) := by decide +kernel
theorem dX3_goneFrom_60 : decode cX3_goneFrom 60 = .ok (.aload_n 3, 1) := by decide +kernel
theorem dX3_goneFrom_61 : decode cX3_goneFrom 61 = .ok (.iload_n 2, 1) := by decide +kernel
theorem dX3_goneFrom_62 : decode cX3_goneFrom 62 = .ok (.invokevirtual 140, 3) := by decide +kernel
theorem dX3_goneFrom_65 : decode cX3_goneFrom 65 = .ok (.return_, 1) := by decide +kernel
theorem dX3_sendUpdate_0 : decode cX3_sendUpdate 0 = .ok (.aload_n 1, 1) := by decide +kernel
theorem dX3_sendUpdate_1 : decode cX3_sendUpdate 1 = .ok (.getfield 207, 3) := by decide +kernel
theorem dX3_sendUpdate_4 : decode cX3_sendUpdate 4 = .ok (.ifCond .le 24, 3) := by decide +kernel
theorem dX3_sendUpdate_28 : decode cX3_sendUpdate 28 = .ok (.aload_n 1, 1) := by decide +kernel
theorem dX3_sendUpdate_29 : decode cX3_sendUpdate 29 = .ok (.getfield 125, 3) := by decide +kernel
theorem dX3_sendUpdate_32 : decode cX3_sendUpdate 32 = .ok (.aload_n 0, 1) := by decide +kernel
theorem dX3_sendUpdate_33 : decode cX3_sendUpdate 33 = .ok (.getfield 78, 3) := by decide +kernel
theorem dX3_sendUpdate_36 : decode cX3_sendUpdate 36 = .ok (.aload_n 1, 1) := by decide +kernel
theorem dX3_sendUpdate_37 : decode cX3_sendUpdate 37 = .ok (.getfield 183, 3) := by decide +kernel
theorem dX3_sendUpdate_40 : decode cX3_sendUpdate 40 = .ok (.iadd, 1) := by decide +kernel
theorem dX3_sendUpdate_41 : decode cX3_sendUpdate 41 = .ok (.iconst 5, 1) := by decide +kernel
theorem dX3_sendUpdate_42 : decode cX3_sendUpdate 42 = .ok (.irem, 1) := by decide +kernel
theorem dX3_sendUpdate_43 : decode cX3_sendUpdate 43 = .ok (.iconst 3, 1) := by decide +kernel
theorem dX3_sendUpdate_44 : decode cX3_sendUpdate 44 = .ok (.imul, 1) := by decide +kernel
theorem dX3_sendUpdate_45 : decode cX3_sendUpdate 45 = .ok (.iload_n 2, 1) := by decide +kernel
theorem dX3_sendUpdate_46 : decode cX3_sendUpdate 46 = .ok (.iadd, 1) := by decide +kernel
theorem dX3_sendUpdate_47 : decode cX3_sendUpdate 47 = .ok (.aload_n 1, 1) := by decide +kernel
theorem dX3_sendUpdate_48 : decode cX3_sendUpdate 48 = .ok (.getfield 128, 3) := by decide +kernel
theorem dX3_sendUpdate_51 : decode cX3_sendUpdate 51 = .ok (.iload_n 2, 1) := by decide +kernel
theorem dX3_sendUpdate_52 : decode cX3_sendUpdate 52 = .ok (.aaload, 1) := by decide +kernel
theorem dX3_sendUpdate_53 : decode cX3_sendUpdate 53 = .ok (.getfield 198, 3) := by decide +kernel
theorem dX3_sendUpdate_56 : decode cX3_sendUpdate 56 = .ok (.iastore, 1) := by decide +kernel
theorem dX3_sendUpdate_57 : decode cX3_sendUpdate 57 = .ok (.return_, 1) := by decide +kernel
set_option maxRecDepth 20000 in
theorem ggX3_waitAt_X3_lacksCredit : GoodIn wsX3_waitAt wsX3_lacksCredit := goodIn_r _ [10, 11, 2, 3, 12, 13, 14, 15, 16, 17, 18, 19, 28, 29, 30, 31, 32, 33, 34, 35, 36, 37, 38, 39, 40, 41, 42, 43, 44, 45, 46, 47, 48, 49, 50, 51, 52, 53, 54, 55] (by decide +kernel) (by decide +kernel)
set_option maxRecDepth 20000 in
theorem gX3_waitAt_X3_lacksCredit : GoodIn wsX3_waitAt (wsV RX3 213 RX3 yX3_lacksCredit wsX3_lacksCredit) := goodIn_app (goodIn_of _ (by decide +kernel)) ggX3_waitAt_X3_lacksCredit
theorem dX3_waitAt_0 : decode cX3_waitAt 0 = .ok (.iconst 0, 1) := by decide +kernel
theorem dX3_waitAt_1 : decode cX3_waitAt 1 = .ok (.istore_n 2, 1) := by decide +kernel
theorem dX3_waitAt_2 : decode cX3_waitAt 2 = .ok (.iload_n 2, 1) := by decide +kernel
theorem dX3_waitAt_3 : decode cX3_waitAt 3 = .ok (.aload_n 0, 1) := by decide +kernel
theorem dX3_waitAt_4 : decode cX3_waitAt 4 = .ok (.getfield 62, 3) := by decide +kernel
theorem dX3_waitAt_7 : decode cX3_waitAt 7 = .ok (.if_icmp .ge 73, 3) := by decide +kernel
theorem dX3_waitAt_10 : decode cX3_waitAt 10 = .ok (.aload_n 0, 1) := by decide +kernel
theorem dX3_waitAt_11 : decode cX3_waitAt 11 = .ok (.getfield 11, 3) := by decide +kernel
theorem dX3_waitAt_14 : decode cX3_waitAt 14 = .ok (.iload_n 1, 1) := by decide +kernel
theorem dX3_waitAt_15 : decode cX3_waitAt 15 = .ok (.aaload, 1) := by decide +kernel
theorem dX3_waitAt_16 : decode cX3_waitAt 16 = .ok (.getfield 128, 3) := by decide +kernel
theorem dX3_waitAt_19 : decode cX3_waitAt 19 = .ok (.iload_n 2, 1) := by decide +kernel
theorem dX3_waitAt_20 : decode cX3_waitAt 20 = .ok (.aaload, 1) := by decide +kernel
theorem dX3_waitAt_21 : decode cX3_waitAt 21 = .ok (.astore_n 3, 1) := by decide +kernel
theorem dX3_waitAt_22 : decode cX3_waitAt 22 = .ok (.aload_n 3, 1) := by decide +kernel
theorem dX3_waitAt_23 : decode cX3_waitAt 23 = .ok (.aload_n 0, 1) := by decide +kernel
theorem dX3_waitAt_24 : decode cX3_waitAt 24 = .ok (.iload_n 1, 1) := by decide +kernel
theorem dX3_waitAt_25 : decode cX3_waitAt 25 = .ok (.iload_n 2, 1) := by decide +kernel
theorem dX3_waitAt_26 : decode cX3_waitAt 26 = .ok (.invokevirtual 213, 3) := by decide +kernel
theorem dX3_waitAt_29 : decode cX3_waitAt 29 = .ok (.ifCond .eq 12, 3) := by decide +kernel
theorem dX3_waitAt_32 : decode cX3_waitAt 32 = .ok (.aload_n 3, 1) := by decide +kernel
theorem dX3_waitAt_33 : decode cX3_waitAt 33 = .ok (.getfield 210, 3) := by decide +kernel
theorem dX3_waitAt_36 : decode cX3_waitAt 36 = .ok (.iconst 1, 1) := by decide +kernel
theorem dX3_waitAt_37 : decode cX3_waitAt 37 = .ok (.iadd, 1) := by decide +kernel
theorem dX3_waitAt_38 : decode cX3_waitAt 38 = .ok (.goto 4, 3) := by decide +kernel
theorem dX3_waitAt_41 : decode cX3_waitAt 41 = .ok (.iconst 0, 1) := by decide +kernel
theorem dX3_waitAt_42 : decode cX3_waitAt 42 = .ok (.putfield 210, 3) := by decide +kernel
theorem dX3_waitAt_45 : decode cX3_waitAt 45 = .ok (.aload_n 0, 1) := by decide +kernel
theorem dX3_waitAt_46 : decode cX3_waitAt 46 = .ok (.getfield 50, 3) := by decide +kernel
theorem dX3_waitAt_49 : decode cX3_waitAt 49 = .ok (.ifCond .le 25, 3) := by decide +kernel
theorem dX3_waitAt_74 : decode cX3_waitAt 74 = .ok (.iinc 2 1, 3) := by decide +kernel
theorem dX3_waitAt_77 : decode cX3_waitAt 77 = .ok (.goto (-75), 3) := by decide +kernel
theorem dX3_waitAt_80 : decode cX3_waitAt 80 = .ok (.return_, 1) := by decide +kernel
set_option maxRecDepth 20000 in
theorem ggX3_lacksCredit_X1_out : GoodIn wsX3_lacksCredit wsX1_out := goodIn_r _ [9, 10, 11, 33, 34, 35, 36, 37, 38, 39] (by decide +kernel) (by decide +kernel)
set_option maxRecDepth 20000 in
theorem gX3_lacksCredit_X1_out : GoodIn wsX3_lacksCredit (wsV RX3 192 RX1 yX1_out wsX1_out) := goodIn_app (goodIn_of _ (by decide +kernel)) ggX3_lacksCredit_X1_out
theorem dX3_lacksCredit_0 : decode cX3_lacksCredit 0 = .ok (.aload_n 0, 1) := by decide +kernel
theorem dX3_lacksCredit_1 : decode cX3_lacksCredit 1 = .ok (.getfield 23, 3) := by decide +kernel
theorem dX3_lacksCredit_4 : decode cX3_lacksCredit 4 = .ok (.iload_n 1, 1) := by decide +kernel
theorem dX3_lacksCredit_5 : decode cX3_lacksCredit 5 = .ok (.iconst 3, 1) := by decide +kernel
theorem dX3_lacksCredit_6 : decode cX3_lacksCredit 6 = .ok (.imul, 1) := by decide +kernel
theorem dX3_lacksCredit_7 : decode cX3_lacksCredit 7 = .ok (.iload_n 2, 1) := by decide +kernel
theorem dX3_lacksCredit_8 : decode cX3_lacksCredit 8 = .ok (.iadd, 1) := by decide +kernel
theorem dX3_lacksCredit_9 : decode cX3_lacksCredit 9 = .ok (.iaload, 1) := by decide +kernel
theorem dX3_lacksCredit_10 : decode cX3_lacksCredit 10 = .ok (.ifCond .le 38, 3) := by decide +kernel
theorem dX3_lacksCredit_13 : decode cX3_lacksCredit 13 = .ok (.aload_n 0, 1) := by decide +kernel
theorem dX3_lacksCredit_14 : decode cX3_lacksCredit 14 = .ok (.getfield 11, 3) := by decide +kernel
theorem dX3_lacksCredit_17 : decode cX3_lacksCredit 17 = .ok (.iload_n 1, 1) := by decide +kernel
theorem dX3_lacksCredit_18 : decode cX3_lacksCredit 18 = .ok (.aaload, 1) := by decide +kernel
theorem dX3_lacksCredit_19 : decode cX3_lacksCredit 19 = .ok (.getfield 128, 3) := by decide +kernel
theorem dX3_lacksCredit_22 : decode cX3_lacksCredit 22 = .ok (.iload_n 2, 1) := by decide +kernel
theorem dX3_lacksCredit_23 : decode cX3_lacksCredit 23 = .ok (.aaload, 1) := by decide +kernel
theorem dX3_lacksCredit_24 : decode cX3_lacksCredit 24 = .ok (.invokevirtual 192, 3) := by decide +kernel
theorem dX3_lacksCredit_27 : decode cX3_lacksCredit 27 = .ok (.aload_n 0, 1) := by decide +kernel
theorem dX3_lacksCredit_28 : decode cX3_lacksCredit 28 = .ok (.getfield 11, 3) := by decide +kernel
theorem dX3_lacksCredit_31 : decode cX3_lacksCredit 31 = .ok (.iload_n 1, 1) := by decide +kernel
theorem dX3_lacksCredit_32 : decode cX3_lacksCredit 32 = .ok (.aaload, 1) := by decide +kernel
theorem dX3_lacksCredit_33 : decode cX3_lacksCredit 33 = .ok (.getfield 128, 3) := by decide +kernel
theorem dX3_lacksCredit_36 : decode cX3_lacksCredit 36 = .ok (.iload_n 2, 1) := by decide +kernel
theorem dX3_lacksCredit_37 : decode cX3_lacksCredit 37 = .ok (.aaload, 1) := by decide +kernel
theorem dX3_lacksCredit_38 : decode cX3_lacksCredit 38 = .ok (.getfield 195, 3) := by decide +kernel
theorem dX3_lacksCredit_41 : decode cX3_lacksCredit 41 = .ok (.if_icmp .lt 7, 3) := by decide +kernel
theorem dX3_lacksCredit_44 : decode cX3_lacksCredit 44 = .ok (.iconst 1, 1) := by decide +kernel
theorem dX3_lacksCredit_45 : decode cX3_lacksCredit 45 = .ok (.goto 4, 3) := by decide +kernel
theorem dX3_lacksCredit_48 : decode cX3_lacksCredit 48 = .ok (.iconst 0, 1) := by decide +kernel
theorem dX3_lacksCredit_49 : decode cX3_lacksCredit 49 = .ok (.ireturn, 1) := by decide +kernel
theorem dX4_init_0 : decode cX4_init 0 = .ok (.aload_n 0, 1) := by decide +kernel
theorem dX4_init_1 : decode cX4_init 1 = .ok (.invokespecial 3, 3) := by decide +kernel
theorem dX4_init_4 : decode cX4_init 4 = .ok (.aload_n 0, 1) := by decide +kernel
theorem dX4_init_5 : decode cX4_init 5 = .ok (.iconst 0, 1) := by decide +kernel
theorem dX4_init_6 : decode cX4_init 6 = .ok (.newarray .int, 2) := by decide +kernel
theorem dX4_init_8 : decode cX4_init 8 = .ok (.putfield 9, 3) := by decide +kernel
theorem dX4_init_11 : decode cX4_init 11 = .ok (.aload_n 0, 1) := by decide +kernel
theorem dX4_init_12 : decode cX4_init 12 = .ok (.bipush 21, 2) := by decide +kernel
theorem dX4_init_14 : decode cX4_init 14 = .ok (.newarray .int, 2) := by decide +kernel
theorem dX4_init_16 : decode cX4_init 16 = .ok (.putfield 15, 3) := by decide +kernel
theorem dX4_init_19 : decode cX4_init 19 = .ok (.return_, 1) := by decide +kernel
set_option maxRecDepth 20000 in
theorem ggX4_faultOf_X4_setUsual : GoodIn wsX4_faultOf wsX4_setUsual := goodIn_r _ [15, 16, 17, 18, 19, 14, 20, 94, 95, 96, 97, 98, 99, 100] (by decide +kernel) (by decide +kernel)
set_option maxRecDepth 20000 in
theorem gX4_faultOf_X4_setUsual : GoodIn wsX4_faultOf (wsV RX4 40 RX4 yX4_setUsual wsX4_setUsual) := goodIn_app (goodIn_of _ (by decide +kernel)) ggX4_faultOf_X4_setUsual
set_option maxRecDepth 20000 in
theorem ggX4_faultOf_X4_readClause : GoodIn wsX4_faultOf wsX4_readClause := goodIn_r _ [24, 7, 6, 1, 8, 25, 26, 27, 14, 28, 29, 30, 31, 32, 33, 34, 35, 36, 9, 10, 18, 19, 20, 37, 38, 39, 40, 41, 42, 43, 44, 45, 46, 47, 48, 49, 50, 51, 52, 53, 54, 55, 56, 57, 58, 59, 60, 61, 62, 63, 64, 65, 66, 67, 68, 69, 70, 71, 72, 73, 74, 75, 76, 77, 78, 79, 80, 81, 82, 83, 84, 85, 86, 16, 87, 88, 89, 90, 91, 92, 93, 94, 95, 96, 97, 98, 99, 100] (by decide +kernel) (by decide +kernel)
set_option maxRecDepth 20000 in
theorem gX4_faultOf_X4_readClause : GoodIn wsX4_faultOf (wsV RX4 43 RX4 yX4_readClause wsX4_readClause) := goodIn_app (goodIn_of _ (by decide +kernel)) ggX4_faultOf_X4_readClause
theorem dX4_faultOf_0 : decode cX4_faultOf 0 = .ok (.aload_n 0, 1) := by decide +kernel
theorem dX4_faultOf_1 : decode cX4_faultOf 1 = .ok (.aload_n 1, 1) := by decide +kernel
theorem dX4_faultOf_2 : decode cX4_faultOf 2 = .ok (.putfield 9, 3) := by decide +kernel
theorem dX4_faultOf_5 : decode cX4_faultOf 5 = .ok (.aload_n 0, 1) := by decide +kernel
theorem dX4_faultOf_6 : decode cX4_faultOf 6 = .ok (.iload_n 2, 1) := by decide +kernel
theorem dX4_faultOf_7 : decode cX4_faultOf 7 = .ok (.aload_n 1, 1) := by decide +kernel
theorem dX4_faultOf_8 : decode cX4_faultOf 8 = .ok (.arraylength, 1) := by decide +kernel
theorem dX4_faultOf_9 : decode cX4_faultOf 9 = .ok (.invokestatic 18, 3) := by decide +kernel
theorem dX4_faultOf_12 : decode cX4_faultOf 12 = .ok (.putfield 24, 3) := by decide +kernel
theorem dX4_faultOf_15 : decode cX4_faultOf 15 = .ok (.aload_n 0, 1) := by decide +kernel
theorem dX4_faultOf_16 : decode cX4_faultOf 16 = .ok (.iconst 0, 1) := by decide +kernel
theorem dX4_faultOf_17 : decode cX4_faultOf 17 = .ok (.putfield 28, 3) := by decide +kernel
theorem dX4_faultOf_20 : decode cX4_faultOf 20 = .ok (.aload_n 0, 1) := by decide +kernel
theorem dX4_faultOf_21 : decode cX4_faultOf 21 = .ok (.iconst (-1), 1) := by decide +kernel
theorem dX4_faultOf_22 : decode cX4_faultOf 22 = .ok (.putfield 31, 3) := by decide +kernel
theorem dX4_faultOf_25 : decode cX4_faultOf 25 = .ok (.aload_n 0, 1) := by decide +kernel
theorem dX4_faultOf_26 : decode cX4_faultOf 26 = .ok (.iconst 0, 1) := by decide +kernel
theorem dX4_faultOf_27 : decode cX4_faultOf 27 = .ok (.putfield 34, 3) := by decide +kernel
theorem dX4_faultOf_30 : decode cX4_faultOf 30 = .ok (.aload_n 0, 1) := by decide +kernel
theorem dX4_faultOf_31 : decode cX4_faultOf 31 = .ok (.iconst 0, 1) := by decide +kernel
theorem dX4_faultOf_32 : decode cX4_faultOf 32 = .ok (.putfield 37, 3) := by decide +kernel
theorem dX4_faultOf_35 : decode cX4_faultOf 35 = .ok (.aload_n 0, 1) := by decide +kernel
theorem dX4_faultOf_36 : decode cX4_faultOf 36 = .ok (.invokevirtual 40, 3) := by decide +kernel
theorem dX4_faultOf_39 : decode cX4_faultOf 39 = .ok (.iconst 1, 1) := by decide +kernel
theorem dX4_faultOf_40 : decode cX4_faultOf 40 = .ok (.istore_n 3, 1) := by decide +kernel
theorem dX4_faultOf_41 : decode cX4_faultOf 41 = .ok (.iconst 0, 1) := by decide +kernel
theorem dX4_faultOf_42 : decode cX4_faultOf 42 = .ok (.istore 4, 2) := by decide +kernel
theorem dX4_faultOf_44 : decode cX4_faultOf 44 = .ok (.iload_n 3, 1) := by decide +kernel
theorem dX4_faultOf_45 : decode cX4_faultOf 45 = .ok (.ifCond .eq 67, 3) := by decide +kernel
theorem dX4_faultOf_48 : decode cX4_faultOf 48 = .ok (.iload 4, 2) := by decide +kernel
theorem dX4_faultOf_50 : decode cX4_faultOf 50 = .ok (.aload_n 0, 1) := by decide +kernel
theorem dX4_faultOf_51 : decode cX4_faultOf 51 = .ok (.getfield 24, 3) := by decide +kernel
theorem dX4_faultOf_54 : decode cX4_faultOf 54 = .ok (.if_icmp .gt 58, 3) := by decide +kernel
theorem dX4_faultOf_57 : decode cX4_faultOf 57 = .ok (.aload_n 0, 1) := by decide +kernel
theorem dX4_faultOf_58 : decode cX4_faultOf 58 = .ok (.iload 4, 2) := by decide +kernel
theorem dX4_faultOf_60 : decode cX4_faultOf 60 = .ok (.ifCond .ne 7, 3) := by decide +kernel
theorem dX4_faultOf_63 : decode cX4_faultOf 63 = .ok (.iconst 1, 1) := by decide +kernel
theorem dX4_faultOf_64 : decode cX4_faultOf 64 = .ok (.goto 4, 3) := by decide +kernel
theorem dX4_faultOf_68 : decode cX4_faultOf 68 = .ok (.invokevirtual 43, 3) := by decide +kernel
theorem dX4_faultOf_71 : decode cX4_faultOf 71 = .ok (.aload_n 0, 1) := by decide +kernel
theorem dX4_faultOf_72 : decode cX4_faultOf 72 = .ok (.getfield 31, 3) := by decide +kernel
theorem dX4_faultOf_75 : decode cX4_faultOf 75 = .ok (.iconst (-1), 1) := by decide +kernel
theorem dX4_faultOf_76 : decode cX4_faultOf 76 = .ok (.if_icmp .ne 18, 3) := by decide +kernel
theorem dX4_faultOf_94 : decode cX4_faultOf 94 = .ok (.iconst 0, 1) := by decide +kernel
theorem dX4_faultOf_95 : decode cX4_faultOf 95 = .ok (.istore_n 3, 1) := by decide +kernel
theorem dX4_faultOf_96 : decode cX4_faultOf 96 = .ok (.aload_n 0, 1) := by decide +kernel
theorem dX4_faultOf_97 : decode cX4_faultOf 97 = .ok (.dup, 1) := by decide +kernel
theorem dX4_faultOf_98 : decode cX4_faultOf 98 = .ok (.getfield 28, 3) := by decide +kernel
theorem dX4_faultOf_101 : decode cX4_faultOf 101 = .ok (.iconst 1, 1) := by decide +kernel
theorem dX4_faultOf_102 : decode cX4_faultOf 102 = .ok (.iadd, 1) := by decide +kernel
theorem dX4_faultOf_103 : decode cX4_faultOf 103 = .ok (.putfield 28, 3) := by decide +kernel
theorem dX4_faultOf_106 : decode cX4_faultOf 106 = .ok (.iinc 4 1, 3) := by decide +kernel
theorem dX4_faultOf_109 : decode cX4_faultOf 109 = .ok (.goto (-65), 3) := by decide +kernel
theorem dX4_faultOf_112 : decode cX4_faultOf 112 = .ok (.aload_n 0, 1) := by decide +kernel
theorem dX4_faultOf_113 : decode cX4_faultOf 113 = .ok (.getfield 31, 3) := by decide +kernel
theorem dX4_faultOf_116 : decode cX4_faultOf 116 = .ok (.ireturn, 1) := by decide +kernel
set_option maxRecDepth 20000 in
theorem ggX4_setUsual_X4_kindOf : GoodIn wsX4_setUsual wsX4_kindOf := goodIn_r _ [6] (by decide +kernel) (by decide +kernel)
set_option maxRecDepth 20000 in
theorem gX4_setUsual_X4_kindOf : GoodIn wsX4_setUsual (va_wsS RX4 50 yX4_kindOf wsX4_kindOf) := goodIn_app (goodIn_of _ (by decide +kernel)) ggX4_setUsual_X4_kindOf
theorem dX4_setUsual_0 : decode cX4_setUsual 0 = .ok (.iconst 0, 1) := by decide +kernel
theorem dX4_setUsual_1 : decode cX4_setUsual 1 = .ok (.istore_n 1, 1) := by decide +kernel
theorem dX4_setUsual_2 : decode cX4_setUsual 2 = .ok (.iload_n 1, 1) := by decide +kernel
theorem dX4_setUsual_3 : decode cX4_setUsual 3 = .ok (.bipush 7, 2) := by decide +kernel
theorem dX4_setUsual_5 : decode cX4_setUsual 5 = .ok (.if_icmp .ge 44, 3) := by decide +kernel
theorem dX4_setUsual_8 : decode cX4_setUsual 8 = .ok (.iconst 0, 1) := by decide +kernel
theorem dX4_setUsual_9 : decode cX4_setUsual 9 = .ok (.istore_n 2, 1) := by decide +kernel
theorem dX4_setUsual_10 : decode cX4_setUsual 10 = .ok (.iload_n 2, 1) := by decide +kernel
theorem dX4_setUsual_11 : decode cX4_setUsual 11 = .ok (.iconst 3, 1) := by decide +kernel
theorem dX4_setUsual_12 : decode cX4_setUsual 12 = .ok (.if_icmp .ge 31, 3) := by decide +kernel
theorem dX4_setUsual_15 : decode cX4_setUsual 15 = .ok (.aload_n 0, 1) := by decide +kernel
theorem dX4_setUsual_16 : decode cX4_setUsual 16 = .ok (.getfield 15, 3) := by decide +kernel
theorem dX4_setUsual_19 : decode cX4_setUsual 19 = .ok (.iload_n 1, 1) := by decide +kernel
theorem dX4_setUsual_20 : decode cX4_setUsual 20 = .ok (.iconst 3, 1) := by decide +kernel
theorem dX4_setUsual_21 : decode cX4_setUsual 21 = .ok (.imul, 1) := by decide +kernel
theorem dX4_setUsual_22 : decode cX4_setUsual 22 = .ok (.iload_n 2, 1) := by decide +kernel
theorem dX4_setUsual_23 : decode cX4_setUsual 23 = .ok (.iadd, 1) := by decide +kernel
theorem dX4_setUsual_24 : decode cX4_setUsual 24 = .ok (.getstatic 47, 3) := by decide +kernel
theorem dX4_setUsual_27 : decode cX4_setUsual 27 = .ok (.iload_n 1, 1) := by decide +kernel
theorem dX4_setUsual_28 : decode cX4_setUsual 28 = .ok (.invokestatic 50, 3) := by decide +kernel
theorem dX4_setUsual_31 : decode cX4_setUsual 31 = .ok (.iconst 3, 1) := by decide +kernel
theorem dX4_setUsual_32 : decode cX4_setUsual 32 = .ok (.imul, 1) := by decide +kernel
theorem dX4_setUsual_33 : decode cX4_setUsual 33 = .ok (.iload_n 2, 1) := by decide +kernel
theorem dX4_setUsual_34 : decode cX4_setUsual 34 = .ok (.iadd, 1) := by decide +kernel
theorem dX4_setUsual_35 : decode cX4_setUsual 35 = .ok (.iaload, 1) := by decide +kernel
theorem dX4_setUsual_36 : decode cX4_setUsual 36 = .ok (.iastore, 1) := by decide +kernel
theorem dX4_setUsual_37 : decode cX4_setUsual 37 = .ok (.iinc 2 1, 3) := by decide +kernel
theorem dX4_setUsual_40 : decode cX4_setUsual 40 = .ok (.goto (-30), 3) := by decide +kernel
theorem dX4_setUsual_43 : decode cX4_setUsual 43 = .ok (.iinc 1 1, 3) := by decide +kernel
theorem dX4_setUsual_46 : decode cX4_setUsual 46 = .ok (.goto (-44), 3) := by decide +kernel
theorem dX4_setUsual_49 : decode cX4_setUsual 49 = .ok (.return_, 1) := by decide +kernel
theorem dX4_kindOf_0 : decode cX4_kindOf 0 = .ok (.iload_n 0, 1) := by decide +kernel
theorem dX4_kindOf_1 : decode cX4_kindOf 1 = .ok (.ifCond .ne 5, 3) := by decide +kernel
theorem dX4_kindOf_4 : decode cX4_kindOf 4 = .ok (.iconst 0, 1) := by decide +kernel
theorem dX4_kindOf_5 : decode cX4_kindOf 5 = .ok (.ireturn, 1) := by decide +kernel
theorem dX4_kindOf_6 : decode cX4_kindOf 6 = .ok (.iload_n 0, 1) := by decide +kernel
theorem dX4_kindOf_7 : decode cX4_kindOf 7 = .ok (.iconst 3, 1) := by decide +kernel
theorem dX4_kindOf_8 : decode cX4_kindOf 8 = .ok (.if_icmp .gt 7, 3) := by decide +kernel
theorem dX4_kindOf_11 : decode cX4_kindOf 11 = .ok (.iconst 1, 1) := by decide +kernel
theorem dX4_kindOf_12 : decode cX4_kindOf 12 = .ok (.goto 4, 3) := by decide +kernel
theorem dX4_kindOf_15 : decode cX4_kindOf 15 = .ok (.iconst 2, 1) := by decide +kernel
theorem dX4_kindOf_16 : decode cX4_kindOf 16 = .ok (.ireturn, 1) := by decide +kernel
set_option maxRecDepth 20000 in
theorem ggX4_readClause_X4_readHead : GoodIn wsX4_readClause wsX4_readHead := goodIn_r _ [9, 1, 2, 3, 4, 10, 11, 12, 8, 13, 14, 15, 16, 17, 18, 19, 81, 82, 83, 84, 85, 86, 87] (by decide +kernel) (by decide +kernel)
set_option maxRecDepth 20000 in
theorem gX4_readClause_X4_readHead : GoodIn wsX4_readClause (wsV RX4 54 RX4 yX4_readHead wsX4_readHead) := goodIn_app (goodIn_of _ (by decide +kernel)) ggX4_readClause_X4_readHead
theorem dX4_readClause_0 : decode cX4_readClause 0 = .ok (.aload_n 0, 1) := by decide +kernel
theorem dX4_readClause_1 : decode cX4_readClause 1 = .ok (.iload_n 1, 1) := by decide +kernel
theorem dX4_readClause_2 : decode cX4_readClause 2 = .ok (.invokevirtual 54, 3) := by decide +kernel
theorem dX4_readClause_5 : decode cX4_readClause 5 = .ok (.istore_n 2, 1) := by decide +kernel
theorem dX4_readClause_6 : decode cX4_readClause 6 = .ok (.iload_n 2, 1) := by decide +kernel
theorem dX4_readClause_7 : decode cX4_readClause 7 = .ok (.iconst (-1), 1) := by decide +kernel
theorem dX4_readClause_8 : decode cX4_readClause 8 = .ok (.if_icmp .ne 4, 3) := by decide +kernel
theorem dX4_readClause_11 : decode cX4_readClause 11 = .ok (.return_, 1) := by decide +kernel
set_option maxRecDepth 20000 in
theorem ggX4_readHead_X4_passBlanks : GoodIn wsX4_readHead wsX4_passBlanks := goodIn_r _ [9, 1, 2, 3, 16, 17, 18, 19, 20, 21, 22] (by decide +kernel) (by decide +kernel)
set_option maxRecDepth 20000 in
theorem gX4_readHead_X4_passBlanks : GoodIn wsX4_readHead (wsV RX4 58 RX4 yX4_passBlanks wsX4_passBlanks) := goodIn_app (goodIn_of _ (by decide +kernel)) ggX4_readHead_X4_passBlanks
theorem dX4_readHead_0 : decode cX4_readHead 0 = .ok (.aload_n 0, 1) := by decide +kernel
theorem dX4_readHead_1 : decode cX4_readHead 1 = .ok (.invokevirtual 58, 3) := by decide +kernel
theorem dX4_readHead_4 : decode cX4_readHead 4 = .ok (.iconst (-1), 1) := by decide +kernel
theorem dX4_readHead_5 : decode cX4_readHead 5 = .ok (.istore_n 2, 1) := by decide +kernel
theorem dX4_readHead_6 : decode cX4_readHead 6 = .ok (.aload_n 0, 1) := by decide +kernel
theorem dX4_readHead_7 : decode cX4_readHead 7 = .ok (.getfield 28, 3) := by decide +kernel
theorem dX4_readHead_10 : decode cX4_readHead 10 = .ok (.aload_n 0, 1) := by decide +kernel
theorem dX4_readHead_11 : decode cX4_readHead 11 = .ok (.getfield 24, 3) := by decide +kernel
theorem dX4_readHead_14 : decode cX4_readHead 14 = .ok (.if_icmp .ge 18, 3) := by decide +kernel
theorem dX4_readHead_32 : decode cX4_readHead 32 = .ok (.iload_n 2, 1) := by decide +kernel
theorem dX4_readHead_33 : decode cX4_readHead 33 = .ok (.iconst (-1), 1) := by decide +kernel
theorem dX4_readHead_34 : decode cX4_readHead 34 = .ok (.if_icmp .ne 13, 3) := by decide +kernel
theorem dX4_readHead_37 : decode cX4_readHead 37 = .ok (.aload_n 0, 1) := by decide +kernel
theorem dX4_readHead_38 : decode cX4_readHead 38 = .ok (.aload_n 0, 1) := by decide +kernel
theorem dX4_readHead_39 : decode cX4_readHead 39 = .ok (.getfield 28, 3) := by decide +kernel
theorem dX4_readHead_42 : decode cX4_readHead 42 = .ok (.putfield 31, 3) := by decide +kernel
theorem dX4_readHead_45 : decode cX4_readHead 45 = .ok (.iconst (-1), 1) := by decide +kernel
theorem dX4_readHead_46 : decode cX4_readHead 46 = .ok (.ireturn, 1) := by decide +kernel
theorem dX4_passBlanks_0 : decode cX4_passBlanks 0 = .ok (.aload_n 0, 1) := by decide +kernel
theorem dX4_passBlanks_1 : decode cX4_passBlanks 1 = .ok (.getfield 28, 3) := by decide +kernel
theorem dX4_passBlanks_4 : decode cX4_passBlanks 4 = .ok (.aload_n 0, 1) := by decide +kernel
theorem dX4_passBlanks_5 : decode cX4_passBlanks 5 = .ok (.getfield 24, 3) := by decide +kernel
theorem dX4_passBlanks_8 : decode cX4_passBlanks 8 = .ok (.if_icmp .ge 30, 3) := by decide +kernel
theorem dX4_passBlanks_38 : decode cX4_passBlanks 38 = .ok (.return_, 1) := by decide +kernel
theorem dX5_init_0 : decode cX5_init 0 = .ok (.aload_n 0, 1) := by decide +kernel
theorem dX5_init_1 : decode cX5_init 1 = .ok (.invokespecial 1, 3) := by decide +kernel
theorem dX5_init_4 : decode cX5_init 4 = .ok (.aload_n 0, 1) := by decide +kernel
theorem dX5_init_5 : decode cX5_init 5 = .ok (.sipush 256, 3) := by decide +kernel
theorem dX5_init_8 : decode cX5_init 8 = .ok (.newarray .int, 2) := by decide +kernel
theorem dX5_init_10 : decode cX5_init 10 = .ok (.putfield 9, 3) := by decide +kernel
theorem dX5_init_13 : decode cX5_init 13 = .ok (.return_, 1) := by decide +kernel
set_option maxRecDepth 20000 in
theorem ggX6_init_X4_init : GoodIn wsX6_init wsX4_init := goodIn_r _ [22, 23, 2, 3, 4, 24, 25, 69, 70, 71, 72, 73, 74, 75] (by decide +kernel) (by decide +kernel)
set_option maxRecDepth 20000 in
theorem ggX6_init_X3_init : GoodIn wsX6_init wsX3_init := goodIn_r _ [28, 29, 2, 3, 30, 31, 32, 33, 4, 34, 35, 36, 37, 38, 39, 40, 41, 42, 43, 44, 45, 46, 47, 48, 49, 50, 51, 52, 53, 54, 55, 76, 77, 78, 79, 80, 81, 82, 83, 84, 85, 86, 93, 94, 95, 96, 97, 98, 99, 100, 101, 102, 103, 104, 105, 106, 107, 108, 109, 110, 111, 112, 113, 114, 115, 116, 117] (by decide +kernel) (by decide +kernel)
set_option maxRecDepth 20000 in
theorem ggX6_init_X5_init : GoodIn wsX6_init wsX5_init := goodIn_r _ [57, 58, 2, 3, 4, 59, 87, 88, 89, 90, 91, 92] (by decide +kernel) (by decide +kernel)
theorem dX6_init_0 : decode cX6_init 0 = .ok (.aload_n 0, 1) := by decide +kernel
theorem dX6_init_1 : decode cX6_init 1 = .ok (.invokespecial 1, 3) := by decide +kernel
theorem dX6_init_4 : decode cX6_init 4 = .ok (.aload_n 0, 1) := by decide +kernel
theorem dX6_init_5 : decode cX6_init 5 = .ok (.sipush 160, 3) := by decide +kernel
theorem dX6_init_8 : decode cX6_init 8 = .ok (.newarray .int, 2) := by decide +kernel
theorem dX6_init_10 : decode cX6_init 10 = .ok (.putfield 9, 3) := by decide +kernel
theorem dX6_init_13 : decode cX6_init 13 = .ok (.aload_n 0, 1) := by decide +kernel
theorem dX6_init_14 : decode cX6_init 14 = .ok (.iconst 4, 1) := by decide +kernel
theorem dX6_init_15 : decode cX6_init 15 = .ok (.newarray .int, 2) := by decide +kernel
theorem dX6_init_17 : decode cX6_init 17 = .ok (.putfield 13, 3) := by decide +kernel
theorem dX6_init_20 : decode cX6_init 20 = .ok (.aload_n 0, 1) := by decide +kernel
theorem dX6_init_21 : decode cX6_init 21 = .ok (.new 16, 3) := by decide +kernel
theorem dX6_init_24 : decode cX6_init 24 = .ok (.dup, 1) := by decide +kernel
theorem dX6_init_25 : decode cX6_init 25 = .ok (.invokespecial 18, 3) := by decide +kernel
theorem dX6_init_28 : decode cX6_init 28 = .ok (.putfield 19, 3) := by decide +kernel
theorem dX6_init_31 : decode cX6_init 31 = .ok (.aload_n 0, 1) := by decide +kernel
theorem dX6_init_32 : decode cX6_init 32 = .ok (.new 23, 3) := by decide +kernel
theorem dX6_init_35 : decode cX6_init 35 = .ok (.dup, 1) := by decide +kernel
theorem dX6_init_36 : decode cX6_init 36 = .ok (.invokespecial 25, 3) := by decide +kernel
theorem dX6_init_39 : decode cX6_init 39 = .ok (.putfield 26, 3) := by decide +kernel
theorem dX6_init_42 : decode cX6_init 42 = .ok (.aload_n 0, 1) := by decide +kernel
theorem dX6_init_43 : decode cX6_init 43 = .ok (.new 23, 3) := by decide +kernel
theorem dX6_init_46 : decode cX6_init 46 = .ok (.dup, 1) := by decide +kernel
theorem dX6_init_47 : decode cX6_init 47 = .ok (.invokespecial 25, 3) := by decide +kernel
theorem dX6_init_50 : decode cX6_init 50 = .ok (.putfield 30, 3) := by decide +kernel
theorem dX6_init_53 : decode cX6_init 53 = .ok (.aload_n 0, 1) := by decide +kernel
theorem dX6_init_54 : decode cX6_init 54 = .ok (.iconst 3, 1) := by decide +kernel
theorem dX6_init_55 : decode cX6_init 55 = .ok (.anewarray 33, 3) := by decide +kernel
theorem dX6_init_58 : decode cX6_init 58 = .ok (.putfield 35, 3) := by decide +kernel
theorem dX6_init_61 : decode cX6_init 61 = .ok (.aload_n 0, 1) := by decide +kernel
theorem dX6_init_62 : decode cX6_init 62 = .ok (.iconst 3, 1) := by decide +kernel
theorem dX6_init_63 : decode cX6_init 63 = .ok (.newarray .int, 2) := by decide +kernel
theorem dX6_init_65 : decode cX6_init 65 = .ok (.putfield 39, 3) := by decide +kernel
theorem dX6_init_68 : decode cX6_init 68 = .ok (.iconst 0, 1) := by decide +kernel
theorem dX6_init_69 : decode cX6_init 69 = .ok (.istore_n 1, 1) := by decide +kernel
theorem dX6_init_70 : decode cX6_init 70 = .ok (.iload_n 1, 1) := by decide +kernel
theorem dX6_init_71 : decode cX6_init 71 = .ok (.iconst 3, 1) := by decide +kernel
theorem dX6_init_72 : decode cX6_init 72 = .ok (.if_icmp .ge 22, 3) := by decide +kernel
theorem dX6_init_75 : decode cX6_init 75 = .ok (.aload_n 0, 1) := by decide +kernel
theorem dX6_init_76 : decode cX6_init 76 = .ok (.getfield 35, 3) := by decide +kernel
theorem dX6_init_79 : decode cX6_init 79 = .ok (.iload_n 1, 1) := by decide +kernel
theorem dX6_init_80 : decode cX6_init 80 = .ok (.new 33, 3) := by decide +kernel
theorem dX6_init_83 : decode cX6_init 83 = .ok (.dup, 1) := by decide +kernel
theorem dX6_init_84 : decode cX6_init 84 = .ok (.invokespecial 42, 3) := by decide +kernel
theorem dX6_init_87 : decode cX6_init 87 = .ok (.aastore, 1) := by decide +kernel
theorem dX6_init_88 : decode cX6_init 88 = .ok (.iinc 1 1, 3) := by decide +kernel
theorem dX6_init_91 : decode cX6_init 91 = .ok (.goto (-21), 3) := by decide +kernel
theorem dX6_init_94 : decode cX6_init 94 = .ok (.return_, 1) := by decide +kernel
set_option maxRecDepth 20000 in
theorem ggX6_feed_X6_signsIn : GoodIn wsX6_feed wsX6_signsIn := goodIn_r _ [5] (by decide +kernel) (by decide +kernel)
set_option maxRecDepth 20000 in
theorem gX6_feed_X6_signsIn : GoodIn wsX6_feed (va_wsS RX6 43 yX6_signsIn wsX6_signsIn) := goodIn_app (goodIn_of _ (by decide +kernel)) ggX6_feed_X6_signsIn
set_option maxRecDepth 20000 in
theorem ggX6_feed_X6_append : GoodIn wsX6_feed wsX6_append := goodIn_r _ [9, 1, 10, 11, 12, 13, 14, 15, 16, 17, 18, 19] (by decide +kernel) (by decide +kernel)
set_option maxRecDepth 20000 in
theorem gX6_feed_X6_append : GoodIn wsX6_feed (wsV RX6 51 RX6 yX6_append wsX6_append) := goodIn_app (goodIn_of _ (by decide +kernel)) ggX6_feed_X6_append
theorem dX6_feed_0 : decode cX6_feed 0 = .ok (.iload_n 1, 1) := by decide +kernel
theorem dX6_feed_1 : decode cX6_feed 1 = .ok (.invokestatic 43, 3) := by decide +kernel
theorem dX6_feed_4 : decode cX6_feed 4 = .ok (.iload_n 2, 1) := by decide +kernel
theorem dX6_feed_5 : decode cX6_feed 5 = .ok (.invokestatic 43, 3) := by decide +kernel
theorem dX6_feed_8 : decode cX6_feed 8 = .ok (.iadd, 1) := by decide +kernel
theorem dX6_feed_9 : decode cX6_feed 9 = .ok (.iload_n 3, 1) := by decide +kernel
theorem dX6_feed_10 : decode cX6_feed 10 = .ok (.invokestatic 43, 3) := by decide +kernel
theorem dX6_feed_13 : decode cX6_feed 13 = .ok (.iadd, 1) := by decide +kernel
theorem dX6_feed_14 : decode cX6_feed 14 = .ok (.iload 4, 2) := by decide +kernel
theorem dX6_feed_16 : decode cX6_feed 16 = .ok (.invokestatic 43, 3) := by decide +kernel
theorem dX6_feed_19 : decode cX6_feed 19 = .ok (.iadd, 1) := by decide +kernel
theorem dX6_feed_20 : decode cX6_feed 20 = .ok (.iload 5, 2) := by decide +kernel
theorem dX6_feed_22 : decode cX6_feed 22 = .ok (.invokestatic 43, 3) := by decide +kernel
theorem dX6_feed_25 : decode cX6_feed 25 = .ok (.iadd, 1) := by decide +kernel
theorem dX6_feed_26 : decode cX6_feed 26 = .ok (.istore 6, 2) := by decide +kernel
theorem dX6_feed_28 : decode cX6_feed 28 = .ok (.aload_n 0, 1) := by decide +kernel
theorem dX6_feed_29 : decode cX6_feed 29 = .ok (.getfield 47, 3) := by decide +kernel
theorem dX6_feed_32 : decode cX6_feed 32 = .ok (.iload 6, 2) := by decide +kernel
theorem dX6_feed_34 : decode cX6_feed 34 = .ok (.iadd, 1) := by decide +kernel
theorem dX6_feed_35 : decode cX6_feed 35 = .ok (.sipush 160, 3) := by decide +kernel
theorem dX6_feed_38 : decode cX6_feed 38 = .ok (.if_icmp .le 5, 3) := by decide +kernel
theorem dX6_feed_43 : decode cX6_feed 43 = .ok (.aload_n 0, 1) := by decide +kernel
theorem dX6_feed_44 : decode cX6_feed 44 = .ok (.iload_n 1, 1) := by decide +kernel
theorem dX6_feed_45 : decode cX6_feed 45 = .ok (.invokevirtual 51, 3) := by decide +kernel
theorem dX6_feed_48 : decode cX6_feed 48 = .ok (.aload_n 0, 1) := by decide +kernel
theorem dX6_feed_49 : decode cX6_feed 49 = .ok (.iload_n 2, 1) := by decide +kernel
theorem dX6_feed_50 : decode cX6_feed 50 = .ok (.invokevirtual 51, 3) := by decide +kernel
theorem dX6_feed_53 : decode cX6_feed 53 = .ok (.aload_n 0, 1) := by decide +kernel
theorem dX6_feed_54 : decode cX6_feed 54 = .ok (.iload_n 3, 1) := by decide +kernel
theorem dX6_feed_55 : decode cX6_feed 55 = .ok (.invokevirtual 51, 3) := by decide +kernel
theorem dX6_feed_58 : decode cX6_feed 58 = .ok (.aload_n 0, 1) := by decide +kernel
theorem dX6_feed_59 : decode cX6_feed 59 = .ok (.iload 4, 2) := by decide +kernel
theorem dX6_feed_61 : decode cX6_feed 61 = .ok (.invokevirtual 51, 3) := by decide +kernel
theorem dX6_feed_64 : decode cX6_feed 64 = .ok (.aload_n 0, 1) := by decide +kernel
theorem dX6_feed_65 : decode cX6_feed 65 = .ok (.iload 5, 2) := by decide +kernel
theorem dX6_feed_67 : decode cX6_feed 67 = .ok (.invokevirtual 51, 3) := by decide +kernel
theorem dX6_feed_70 : decode cX6_feed 70 = .ok (.aload_n 0, 1) := by decide +kernel
theorem dX6_feed_71 : decode cX6_feed 71 = .ok (.getfield 47, 3) := by decide +kernel
theorem dX6_feed_74 : decode cX6_feed 74 = .ok (.ireturn, 1) := by decide +kernel
theorem dX6_signsIn_0 : decode cX6_signsIn 0 = .ok (.iconst 0, 1) := by decide +kernel
theorem dX6_signsIn_1 : decode cX6_signsIn 1 = .ok (.istore_n 1, 1) := by decide +kernel
theorem dX6_signsIn_2 : decode cX6_signsIn 2 = .ok (.bipush 24, 2) := by decide +kernel
theorem dX6_signsIn_4 : decode cX6_signsIn 4 = .ok (.istore_n 2, 1) := by decide +kernel
theorem dX6_signsIn_5 : decode cX6_signsIn 5 = .ok (.iload_n 2, 1) := by decide +kernel
theorem dX6_signsIn_6 : decode cX6_signsIn 6 = .ok (.ifCond .lt 22, 3) := by decide +kernel
theorem dX6_signsIn_9 : decode cX6_signsIn 9 = .ok (.iload_n 0, 1) := by decide +kernel
theorem dX6_signsIn_10 : decode cX6_signsIn 10 = .ok (.iload_n 2, 1) := by decide +kernel
theorem dX6_signsIn_11 : decode cX6_signsIn 11 = .ok (.iushr, 1) := by decide +kernel
theorem dX6_signsIn_12 : decode cX6_signsIn 12 = .ok (.sipush 255, 3) := by decide +kernel
theorem dX6_signsIn_15 : decode cX6_signsIn 15 = .ok (.iand, 1) := by decide +kernel
theorem dX6_signsIn_16 : decode cX6_signsIn 16 = .ok (.ifCond .eq 6, 3) := by decide +kernel
theorem dX6_signsIn_19 : decode cX6_signsIn 19 = .ok (.iinc 1 1, 3) := by decide +kernel
theorem dX6_signsIn_22 : decode cX6_signsIn 22 = .ok (.iinc 2 (-8), 3) := by decide +kernel
theorem dX6_signsIn_25 : decode cX6_signsIn 25 = .ok (.goto (-20), 3) := by decide +kernel
theorem dX6_signsIn_28 : decode cX6_signsIn 28 = .ok (.iload_n 1, 1) := by decide +kernel
theorem dX6_signsIn_29 : decode cX6_signsIn 29 = .ok (.ireturn, 1) := by decide +kernel
theorem dX6_append_0 : decode cX6_append 0 = .ok (.bipush 24, 2) := by decide +kernel
theorem dX6_append_2 : decode cX6_append 2 = .ok (.istore_n 2, 1) := by decide +kernel
theorem dX6_append_3 : decode cX6_append 3 = .ok (.iload_n 2, 1) := by decide +kernel
theorem dX6_append_4 : decode cX6_append 4 = .ok (.ifCond .lt 51, 3) := by decide +kernel
theorem dX6_append_7 : decode cX6_append 7 = .ok (.iload_n 1, 1) := by decide +kernel
theorem dX6_append_8 : decode cX6_append 8 = .ok (.iload_n 2, 1) := by decide +kernel
theorem dX6_append_9 : decode cX6_append 9 = .ok (.iushr, 1) := by decide +kernel
theorem dX6_append_10 : decode cX6_append 10 = .ok (.sipush 255, 3) := by decide +kernel
theorem dX6_append_13 : decode cX6_append 13 = .ok (.iand, 1) := by decide +kernel
theorem dX6_append_14 : decode cX6_append 14 = .ok (.istore_n 3, 1) := by decide +kernel
theorem dX6_append_15 : decode cX6_append 15 = .ok (.iload_n 3, 1) := by decide +kernel
theorem dX6_append_16 : decode cX6_append 16 = .ok (.ifCond .eq 33, 3) := by decide +kernel
theorem dX6_append_19 : decode cX6_append 19 = .ok (.aload_n 0, 1) := by decide +kernel
theorem dX6_append_20 : decode cX6_append 20 = .ok (.getfield 47, 3) := by decide +kernel
theorem dX6_append_23 : decode cX6_append 23 = .ok (.sipush 160, 3) := by decide +kernel
theorem dX6_append_26 : decode cX6_append 26 = .ok (.if_icmp .ge 23, 3) := by decide +kernel
theorem dX6_append_29 : decode cX6_append 29 = .ok (.aload_n 0, 1) := by decide +kernel
theorem dX6_append_30 : decode cX6_append 30 = .ok (.getfield 9, 3) := by decide +kernel
theorem dX6_append_33 : decode cX6_append 33 = .ok (.aload_n 0, 1) := by decide +kernel
theorem dX6_append_34 : decode cX6_append 34 = .ok (.getfield 47, 3) := by decide +kernel
theorem dX6_append_37 : decode cX6_append 37 = .ok (.iload_n 3, 1) := by decide +kernel
theorem dX6_append_38 : decode cX6_append 38 = .ok (.iastore, 1) := by decide +kernel
theorem dX6_append_39 : decode cX6_append 39 = .ok (.aload_n 0, 1) := by decide +kernel
theorem dX6_append_40 : decode cX6_append 40 = .ok (.dup, 1) := by decide +kernel
theorem dX6_append_41 : decode cX6_append 41 = .ok (.getfield 47, 3) := by decide +kernel
theorem dX6_append_44 : decode cX6_append 44 = .ok (.iconst 1, 1) := by decide +kernel
theorem dX6_append_45 : decode cX6_append 45 = .ok (.iadd, 1) := by decide +kernel
theorem dX6_append_46 : decode cX6_append 46 = .ok (.putfield 47, 3) := by decide +kernel
theorem dX6_append_49 : decode cX6_append 49 = .ok (.iinc 2 (-8), 3) := by decide +kernel
theorem dX6_append_52 : decode cX6_append 52 = .ok (.goto (-49), 3) := by decide +kernel
theorem dX6_append_55 : decode cX6_append 55 = .ok (.return_, 1) := by decide +kernel
set_option maxRecDepth 20000 in
theorem ggX6_end_X6_outside : GoodIn wsX6_end wsX6_outside := goodIn_r _ [5] (by decide +kernel) (by decide +kernel)
set_option maxRecDepth 20000 in
theorem gX6_end_X6_outside : GoodIn wsX6_end (va_wsS RX6 55 yX6_outside wsX6_outside) := goodIn_app (goodIn_of _ (by decide +kernel)) ggX6_end_X6_outside
theorem dX6_end_0 : decode cX6_end 0 = .ok (.iload_n 1, 1) := by decide +kernel
theorem dX6_end_1 : decode cX6_end 1 = .ok (.iconst 0, 1) := by decide +kernel
theorem dX6_end_2 : decode cX6_end 2 = .ok (.aload_n 0, 1) := by decide +kernel
theorem dX6_end_3 : decode cX6_end 3 = .ok (.getfield 47, 3) := by decide +kernel
theorem dX6_end_6 : decode cX6_end 6 = .ok (.invokestatic 55, 3) := by decide +kernel
theorem dX6_end_9 : decode cX6_end 9 = .ok (.ifCond .eq 5, 3) := by decide +kernel
theorem dX6_end_12 : decode cX6_end 12 = .ok (.iconst 0, 1) := by decide +kernel
theorem dX6_end_13 : decode cX6_end 13 = .ok (.ireturn, 1) := by decide +kernel
theorem dX6_end_14 : decode cX6_end 14 = .ok (.aload_n 0, 1) := by decide +kernel
theorem dX6_end_15 : decode cX6_end 15 = .ok (.iload_n 1, 1) := by decide +kernel
theorem dX6_end_16 : decode cX6_end 16 = .ok (.putfield 47, 3) := by decide +kernel
theorem dX6_end_19 : decode cX6_end 19 = .ok (.iconst 1, 1) := by decide +kernel
theorem dX6_end_20 : decode cX6_end 20 = .ok (.ireturn, 1) := by decide +kernel
set_option maxRecDepth 20000 in
theorem ggX6_fault_X4_faultOf : GoodIn wsX6_fault wsX4_faultOf := goodIn_r _ [8, 9, 10, 11, 12, 13, 14, 15, 16, 17, 18, 19, 20, 21, 7, 22, 23, 24, 25, 26, 27, 28, 29, 30, 31, 32, 33, 34, 35, 36, 37, 38, 39, 40, 41, 42, 43, 44, 45, 46, 47, 48, 49, 50, 51, 52, 53, 54, 55, 56, 57, 58, 59, 60, 61, 62, 63, 64, 65, 66, 67, 68, 69, 70, 71, 72, 73, 74, 75, 76, 77, 78, 79, 80, 81, 82, 83, 84, 85, 86, 87, 88, 89, 90, 91, 92, 93, 94, 95, 96, 97, 98, 99, 100, 110, 111, 112, 113, 114, 115, 116] (by decide +kernel) (by decide +kernel)
set_option maxRecDepth 20000 in
theorem gX6_fault_X4_faultOf : GoodIn wsX6_fault (wsV RX6 59 RX4 yX4_faultOf wsX4_faultOf) := goodIn_app (goodIn_of _ (by decide +kernel)) ggX6_fault_X4_faultOf
theorem dX6_fault_0 : decode cX6_fault 0 = .ok (.aload_n 0, 1) := by decide +kernel
theorem dX6_fault_1 : decode cX6_fault 1 = .ok (.getfield 19, 3) := by decide +kernel
theorem dX6_fault_4 : decode cX6_fault 4 = .ok (.aload_n 0, 1) := by decide +kernel
theorem dX6_fault_5 : decode cX6_fault 5 = .ok (.getfield 9, 3) := by decide +kernel
theorem dX6_fault_8 : decode cX6_fault 8 = .ok (.aload_n 0, 1) := by decide +kernel
theorem dX6_fault_9 : decode cX6_fault 9 = .ok (.getfield 47, 3) := by decide +kernel
theorem dX6_fault_12 : decode cX6_fault 12 = .ok (.invokevirtual 59, 3) := by decide +kernel
theorem dX6_fault_15 : decode cX6_fault 15 = .ok (.ireturn, 1) := by decide +kernel
set_option maxRecDepth 20000 in
theorem ggX6_net_X4_faultOf : GoodIn wsX6_net wsX4_faultOf := goodIn_r _ [12, 13, 14, 15, 16, 17, 18, 19, 20, 21, 22, 23, 24, 25, 11, 26, 27, 28, 29, 30, 31, 32, 33, 34, 35, 36, 37, 38, 39, 40, 41, 42, 43, 44, 45, 46, 47, 48, 49, 50, 51, 52, 53, 54, 55, 56, 57, 58, 59, 60, 61, 62, 63, 64, 65, 66, 67, 68, 69, 70, 71, 72, 73, 74, 75, 76, 77, 78, 79, 80, 81, 82, 83, 84, 85, 86, 87, 88, 89, 90, 91, 92, 93, 94, 95, 96, 97, 98, 99, 100, 101, 102, 103, 104, 223, 224, 225, 226, 227, 228, 229] (by decide +kernel) (by decide +kernel)
set_option maxRecDepth 20000 in
theorem gX6_net_X4_faultOf : GoodIn wsX6_net (wsV RX6 59 RX4 yX4_faultOf wsX4_faultOf) := goodIn_app (goodIn_of _ (by decide +kernel)) ggX6_net_X4_faultOf
theorem dX6_net_0 : decode cX6_net 0 = .ok (.aload_n 0, 1) := by decide +kernel
theorem dX6_net_1 : decode cX6_net 1 = .ok (.getfield 19, 3) := by decide +kernel
theorem dX6_net_4 : decode cX6_net 4 = .ok (.aload_n 0, 1) := by decide +kernel
theorem dX6_net_5 : decode cX6_net 5 = .ok (.getfield 9, 3) := by decide +kernel
theorem dX6_net_8 : decode cX6_net 8 = .ok (.aload_n 0, 1) := by decide +kernel
theorem dX6_net_9 : decode cX6_net 9 = .ok (.getfield 47, 3) := by decide +kernel
theorem dX6_net_12 : decode cX6_net 12 = .ok (.invokevirtual 59, 3) := by decide +kernel
theorem dX6_net_15 : decode cX6_net 15 = .ok (.iconst (-1), 1) := by decide +kernel
theorem dX6_net_16 : decode cX6_net 16 = .ok (.if_icmp .eq 5, 3) := by decide +kernel
theorem dX6_net_19 : decode cX6_net 19 = .ok (.iconst (-1), 1) := by decide +kernel
theorem dX6_net_20 : decode cX6_net 20 = .ok (.ireturn, 1) := by decide +kernel
theorem dX6_rule_0 : decode cX6_rule 0 = .ok (.aload_n 0, 1) := by decide +kernel
theorem dX6_rule_1 : decode cX6_rule 1 = .ok (.getfield 70, 3) := by decide +kernel
theorem dX6_rule_4 : decode cX6_rule 4 = .ok (.ifCond .ne 6, 3) := by decide +kernel
theorem dX6_rule_7 : decode cX6_rule 7 = .ok (.ldc 77, 2) := by decide +kernel
theorem dX6_rule_9 : decode cX6_rule 9 = .ok (.ireturn, 1) := by decide +kernel
set_option maxRecDepth 20000 in
theorem ggX6_hop_X6_isHop : GoodIn wsX6_hop wsX6_isHop := goodIn_r _ [14, 15, 3, 16, 36, 37, 38, 39, 40, 41, 42, 43, 44, 45, 46, 47, 48, 49, 50, 51, 52, 53, 54, 55] (by decide +kernel) (by decide +kernel)
set_option maxRecDepth 20000 in
theorem gX6_hop_X6_isHop : GoodIn wsX6_hop (wsV RX6 93 RX6 yX6_isHop wsX6_isHop) := goodIn_app (goodIn_of _ (by decide +kernel)) ggX6_hop_X6_isHop
theorem dX6_hop_0 : decode cX6_hop 0 = .ok (.aload_n 0, 1) := by decide +kernel
theorem dX6_hop_1 : decode cX6_hop 1 = .ok (.iload_n 1, 1) := by decide +kernel
theorem dX6_hop_2 : decode cX6_hop 2 = .ok (.invokevirtual 93, 3) := by decide +kernel
theorem dX6_hop_5 : decode cX6_hop 5 = .ok (.ifCond .eq 13, 3) := by decide +kernel
theorem dX6_hop_18 : decode cX6_hop 18 = .ok (.new 97, 3) := by decide +kernel
theorem dX6_hop_21 : decode cX6_hop 21 = .ok (.dup, 1) := by decide +kernel
theorem dX6_hop_22 : decode cX6_hop 22 = .ok (.ldc 99, 2) := by decide +kernel
theorem dX6_hop_24 : decode cX6_hop 24 = .ok (.invokespecial 101, 3) := by decide +kernel
theorem dX6_hop_27 : decode cX6_hop 27 = .ok (.athrow, 1) := by decide +kernel
set_option maxRecDepth 20000 in
theorem ggX6_circuit_X6_isCircuit : GoodIn wsX6_circuit wsX6_isCircuit := goodIn_r _ [15, 16, 3, 17, 39, 40, 41, 42, 43, 44, 45, 46, 47, 48, 49, 50, 51, 52, 53, 54, 55, 56, 57, 58] (by decide +kernel) (by decide +kernel)
set_option maxRecDepth 20000 in
theorem gX6_circuit_X6_isCircuit : GoodIn wsX6_circuit (wsV RX6 135 RX6 yX6_isCircuit wsX6_isCircuit) := goodIn_app (goodIn_of _ (by decide +kernel)) ggX6_circuit_X6_isCircuit
theorem dX6_circuit_0 : decode cX6_circuit 0 = .ok (.aload_n 0, 1) := by decide +kernel
theorem dX6_circuit_1 : decode cX6_circuit 1 = .ok (.iload_n 1, 1) := by decide +kernel
theorem dX6_circuit_2 : decode cX6_circuit 2 = .ok (.invokevirtual 135, 3) := by decide +kernel
theorem dX6_circuit_5 : decode cX6_circuit 5 = .ok (.ifCond .eq 13, 3) := by decide +kernel
theorem dX6_circuit_18 : decode cX6_circuit 18 = .ok (.new 97, 3) := by decide +kernel
theorem dX6_circuit_21 : decode cX6_circuit 21 = .ok (.dup, 1) := by decide +kernel
theorem dX6_circuit_22 : decode cX6_circuit 22 = .ok (.ldc 138, 2) := by decide +kernel
theorem dX6_circuit_24 : decode cX6_circuit 24 = .ok (.invokespecial 101, 3) := by decide +kernel
theorem dX6_circuit_27 : decode cX6_circuit 27 = .ok (.athrow, 1) := by decide +kernel
set_option maxRecDepth 20000 in
theorem ggX6_lane_X6_isLane : GoodIn wsX6_lane wsX6_isLane := goodIn_r _ [6, 7, 8, 9, 5, 10, 11, 1, 12, 13, 14, 15, 16, 17, 56, 57, 58, 59, 60, 61, 62, 63, 64, 65, 66, 67, 68, 69, 70, 71, 72, 73, 74, 75] (by decide +kernel) (by decide +kernel)
set_option maxRecDepth 20000 in
theorem gX6_lane_X6_isLane : GoodIn wsX6_lane (wsV RX6 167 RX6 yX6_isLane wsX6_isLane) := goodIn_app (goodIn_of _ (by decide +kernel)) ggX6_lane_X6_isLane
theorem dX6_lane_0 : decode cX6_lane 0 = .ok (.aload_n 0, 1) := by decide +kernel
theorem dX6_lane_1 : decode cX6_lane 1 = .ok (.iload_n 1, 1) := by decide +kernel
theorem dX6_lane_2 : decode cX6_lane 2 = .ok (.iload_n 2, 1) := by decide +kernel
theorem dX6_lane_3 : decode cX6_lane 3 = .ok (.invokevirtual 167, 3) := by decide +kernel
theorem dX6_lane_6 : decode cX6_lane 6 = .ok (.ifCond .eq 13, 3) := by decide +kernel
theorem dX6_lane_19 : decode cX6_lane 19 = .ok (.iconst (-1), 1) := by decide +kernel
theorem dX6_lane_20 : decode cX6_lane 20 = .ok (.ireturn, 1) := by decide +kernel
set_option maxRecDepth 20000 in
theorem ggX6_buffer_X6_isNode : GoodIn wsX6_buffer wsX6_isNode := goodIn_r _ [6, 7, 1, 8, 20, 21, 22, 23, 24, 25, 26, 27, 28, 29, 30, 31, 32, 33, 34, 35, 36, 37, 38, 39] (by decide +kernel) (by decide +kernel)
set_option maxRecDepth 20000 in
theorem gX6_buffer_X6_isNode : GoodIn wsX6_buffer (wsV RX6 211 RX6 yX6_isNode wsX6_isNode) := goodIn_app (goodIn_of _ (by decide +kernel)) ggX6_buffer_X6_isNode
theorem dX6_buffer_0 : decode cX6_buffer 0 = .ok (.aload_n 0, 1) := by decide +kernel
theorem dX6_buffer_1 : decode cX6_buffer 1 = .ok (.iload_n 1, 1) := by decide +kernel
theorem dX6_buffer_2 : decode cX6_buffer 2 = .ok (.invokevirtual 211, 3) := by decide +kernel
theorem dX6_buffer_5 : decode cX6_buffer 5 = .ok (.ifCond .eq 11, 3) := by decide +kernel
theorem dX6_buffer_16 : decode cX6_buffer 16 = .ok (.iconst (-1), 1) := by decide +kernel
theorem dX6_buffer_17 : decode cX6_buffer 17 = .ok (.ireturn, 1) := by decide +kernel
set_option maxRecDepth 20000 in
theorem ggX6_way_X6_isHop : GoodIn wsX6_way wsX6_isHop := goodIn_r _ [10, 11, 1, 12, 27, 28, 29, 30, 31, 32, 33, 34, 35, 36, 37, 38, 39, 40, 41, 42, 43, 44, 45, 46] (by decide +kernel) (by decide +kernel)
set_option maxRecDepth 20000 in
theorem gX6_way_X6_isHop : GoodIn wsX6_way (wsV RX6 93 RX6 yX6_isHop wsX6_isHop) := goodIn_app (goodIn_of _ (by decide +kernel)) ggX6_way_X6_isHop
theorem dX6_way_0 : decode cX6_way 0 = .ok (.aload_n 0, 1) := by decide +kernel
theorem dX6_way_1 : decode cX6_way 1 = .ok (.iload_n 1, 1) := by decide +kernel
theorem dX6_way_2 : decode cX6_way 2 = .ok (.invokevirtual 93, 3) := by decide +kernel
theorem dX6_way_5 : decode cX6_way 5 = .ok (.ifCond .eq 21, 3) := by decide +kernel
theorem dX6_way_26 : decode cX6_way 26 = .ok (.iconst (-1), 1) := by decide +kernel
theorem dX6_way_27 : decode cX6_way 27 = .ok (.ireturn, 1) := by decide +kernel
set_option maxRecDepth 20000 in
theorem ggX6_go_X6_refuse : GoodIn wsX6_go wsX6_refuse := goodIn_r _ [8, 9, 176, 177, 178, 179, 180, 181, 182, 183, 184] (by decide +kernel) (by decide +kernel)
set_option maxRecDepth 20000 in
theorem gX6_go_X6_refuse : GoodIn wsX6_go (wsV RX6 227 RX6 yX6_refuse wsX6_refuse) := goodIn_app (goodIn_of _ (by decide +kernel)) ggX6_go_X6_refuse
theorem dX6_go_0 : decode cX6_go 0 = .ok (.aload_n 0, 1) := by decide +kernel
theorem dX6_go_1 : decode cX6_go 1 = .ok (.getfield 70, 3) := by decide +kernel
theorem dX6_go_4 : decode cX6_go 4 = .ok (.ifCond .ne 9, 3) := by decide +kernel
theorem dX6_go_7 : decode cX6_go 7 = .ok (.aload_n 0, 1) := by decide +kernel
theorem dX6_go_8 : decode cX6_go 8 = .ok (.iconst 0, 1) := by decide +kernel
theorem dX6_go_9 : decode cX6_go 9 = .ok (.invokevirtual 227, 3) := by decide +kernel
theorem dX6_go_12 : decode cX6_go 12 = .ok (.ireturn, 1) := by decide +kernel
set_option maxRecDepth 20000 in
theorem ggX6_jam_X6_isHop : GoodIn wsX6_jam wsX6_isHop := goodIn_r _ [8, 9, 1, 10, 19, 20, 21, 22, 23, 24, 25, 26, 27, 28, 29, 30, 31, 32, 33, 34, 35, 36, 37, 38] (by decide +kernel) (by decide +kernel)
set_option maxRecDepth 20000 in
theorem gX6_jam_X6_isHop : GoodIn wsX6_jam (wsV RX6 93 RX6 yX6_isHop wsX6_isHop) := goodIn_app (goodIn_of _ (by decide +kernel)) ggX6_jam_X6_isHop
set_option maxRecDepth 20000 in
theorem ggX6_jam_X6_refuse : GoodIn wsX6_jam wsX6_refuse := goodIn_r _ [14, 15, 19, 20, 21, 22, 23, 24, 25, 26, 27] (by decide +kernel) (by decide +kernel)
set_option maxRecDepth 20000 in
theorem gX6_jam_X6_refuse : GoodIn wsX6_jam (wsV RX6 227 RX6 yX6_refuse wsX6_refuse) := goodIn_app (goodIn_of _ (by decide +kernel)) ggX6_jam_X6_refuse
theorem dX6_jam_0 : decode cX6_jam 0 = .ok (.aload_n 0, 1) := by decide +kernel
theorem dX6_jam_1 : decode cX6_jam 1 = .ok (.iload_n 1, 1) := by decide +kernel
theorem dX6_jam_2 : decode cX6_jam 2 = .ok (.invokevirtual 93, 3) := by decide +kernel
theorem dX6_jam_5 : decode cX6_jam 5 = .ok (.ifCond .ne 9, 3) := by decide +kernel
theorem dX6_jam_8 : decode cX6_jam 8 = .ok (.aload_n 0, 1) := by decide +kernel
theorem dX6_jam_9 : decode cX6_jam 9 = .ok (.iconst 0, 1) := by decide +kernel
theorem dX6_jam_10 : decode cX6_jam 10 = .ok (.invokevirtual 227, 3) := by decide +kernel
theorem dX6_jam_13 : decode cX6_jam 13 = .ok (.ireturn, 1) := by decide +kernel
set_option maxRecDepth 20000 in
theorem ggX6_source_X6_isCircuit : GoodIn wsX6_source wsX6_isCircuit := goodIn_r _ [9, 10, 1, 11, 20, 21, 22, 23, 24, 25, 26, 27, 28, 29, 30, 31, 32, 33, 34, 35, 36, 37, 38, 39] (by decide +kernel) (by decide +kernel)
set_option maxRecDepth 20000 in
theorem gX6_source_X6_isCircuit : GoodIn wsX6_source (wsV RX6 135 RX6 yX6_isCircuit wsX6_isCircuit) := goodIn_app (goodIn_of _ (by decide +kernel)) ggX6_source_X6_isCircuit
set_option maxRecDepth 20000 in
theorem ggX6_source_X6_refuse : GoodIn wsX6_source wsX6_refuse := goodIn_r _ [15, 16, 20, 21, 22, 23, 24, 25, 26, 27, 28] (by decide +kernel) (by decide +kernel)
set_option maxRecDepth 20000 in
theorem gX6_source_X6_refuse : GoodIn wsX6_source (wsV RX6 227 RX6 yX6_refuse wsX6_refuse) := goodIn_app (goodIn_of _ (by decide +kernel)) ggX6_source_X6_refuse
theorem dX6_source_0 : decode cX6_source 0 = .ok (.aload_n 0, 1) := by decide +kernel
theorem dX6_source_1 : decode cX6_source 1 = .ok (.iload_n 1, 1) := by decide +kernel
theorem dX6_source_2 : decode cX6_source 2 = .ok (.invokevirtual 135, 3) := by decide +kernel
theorem dX6_source_5 : decode cX6_source 5 = .ok (.ifCond .ne 9, 3) := by decide +kernel
theorem dX6_source_8 : decode cX6_source 8 = .ok (.aload_n 0, 1) := by decide +kernel
theorem dX6_source_9 : decode cX6_source 9 = .ok (.iconst 0, 1) := by decide +kernel
theorem dX6_source_10 : decode cX6_source 10 = .ok (.invokevirtual 227, 3) := by decide +kernel
theorem dX6_source_13 : decode cX6_source 13 = .ok (.ireturn, 1) := by decide +kernel
set_option maxRecDepth 20000 in
theorem ggX6_takes_X6_isCircuit : GoodIn wsX6_takes wsX6_isCircuit := goodIn_r _ [8, 9, 1, 10, 19, 20, 21, 22, 23, 24, 25, 26, 27, 28, 29, 30, 31, 32, 33, 34, 35, 36, 37, 38] (by decide +kernel) (by decide +kernel)
set_option maxRecDepth 20000 in
theorem gX6_takes_X6_isCircuit : GoodIn wsX6_takes (wsV RX6 135 RX6 yX6_isCircuit wsX6_isCircuit) := goodIn_app (goodIn_of _ (by decide +kernel)) ggX6_takes_X6_isCircuit
set_option maxRecDepth 20000 in
theorem ggX6_takes_X6_refuse : GoodIn wsX6_takes wsX6_refuse := goodIn_r _ [14, 15, 19, 20, 21, 22, 23, 24, 25, 26, 27] (by decide +kernel) (by decide +kernel)
set_option maxRecDepth 20000 in
theorem gX6_takes_X6_refuse : GoodIn wsX6_takes (wsV RX6 227 RX6 yX6_refuse wsX6_refuse) := goodIn_app (goodIn_of _ (by decide +kernel)) ggX6_takes_X6_refuse
theorem dX6_takes_0 : decode cX6_takes 0 = .ok (.aload_n 0, 1) := by decide +kernel
theorem dX6_takes_1 : decode cX6_takes 1 = .ok (.iload_n 1, 1) := by decide +kernel
theorem dX6_takes_2 : decode cX6_takes 2 = .ok (.invokevirtual 135, 3) := by decide +kernel
theorem dX6_takes_5 : decode cX6_takes 5 = .ok (.ifCond .ne 9, 3) := by decide +kernel
theorem dX6_takes_8 : decode cX6_takes 8 = .ok (.aload_n 0, 1) := by decide +kernel
theorem dX6_takes_9 : decode cX6_takes 9 = .ok (.iconst 0, 1) := by decide +kernel
theorem dX6_takes_10 : decode cX6_takes 10 = .ok (.invokevirtual 227, 3) := by decide +kernel
theorem dX6_takes_13 : decode cX6_takes 13 = .ok (.ireturn, 1) := by decide +kernel
set_option maxRecDepth 20000 in
theorem ggX6_zone_X6_zoneRefusal : GoodIn wsX6_zone wsX6_zoneRefusal := goodIn_r _ [9, 1, 2, 10, 11, 3, 4, 12, 13, 14, 8, 15, 16, 17, 18, 19, 20, 21, 22, 23, 24, 25, 26, 27, 28, 29, 30, 31, 32, 33, 34, 35, 36, 37, 38, 39, 40, 41, 42, 43, 44, 45, 46, 47, 48, 49, 50, 51, 52, 53, 59, 60, 61, 62, 63, 64, 65, 66, 67, 68, 69, 70, 71, 72, 73, 74, 75, 76, 77, 78, 79, 80, 81, 82, 83, 84, 85, 86, 87, 88, 89, 90, 91, 92, 93, 94, 95] (by decide +kernel) (by decide +kernel)
set_option maxRecDepth 20000 in
theorem gX6_zone_X6_zoneRefusal : GoodIn wsX6_zone (wsV RX6 248 RX6 yX6_zoneRefusal wsX6_zoneRefusal) := goodIn_app (goodIn_of _ (by decide +kernel)) ggX6_zone_X6_zoneRefusal
set_option maxRecDepth 20000 in
theorem ggX6_zone_X6_refuse : GoodIn wsX6_zone wsX6_refuse := goodIn_r _ [57, 58, 59, 60, 61, 62, 63, 64, 65, 66, 67] (by decide +kernel) (by decide +kernel)
set_option maxRecDepth 20000 in
theorem gX6_zone_X6_refuse : GoodIn wsX6_zone (wsV RX6 227 RX6 yX6_refuse wsX6_refuse) := goodIn_app (goodIn_of _ (by decide +kernel)) ggX6_zone_X6_refuse
theorem dX6_zone_0 : decode cX6_zone 0 = .ok (.aload_n 0, 1) := by decide +kernel
theorem dX6_zone_1 : decode cX6_zone 1 = .ok (.iload_n 1, 1) := by decide +kernel
theorem dX6_zone_2 : decode cX6_zone 2 = .ok (.iload_n 2, 1) := by decide +kernel
theorem dX6_zone_3 : decode cX6_zone 3 = .ok (.iload_n 3, 1) := by decide +kernel
theorem dX6_zone_4 : decode cX6_zone 4 = .ok (.invokevirtual 248, 3) := by decide +kernel
theorem dX6_zone_7 : decode cX6_zone 7 = .ok (.istore 4, 2) := by decide +kernel
theorem dX6_zone_9 : decode cX6_zone 9 = .ok (.iload 4, 2) := by decide +kernel
theorem dX6_zone_11 : decode cX6_zone 11 = .ok (.iconst (-1), 1) := by decide +kernel
theorem dX6_zone_12 : decode cX6_zone 12 = .ok (.if_icmp .eq 10, 3) := by decide +kernel
theorem dX6_zone_15 : decode cX6_zone 15 = .ok (.aload_n 0, 1) := by decide +kernel
theorem dX6_zone_16 : decode cX6_zone 16 = .ok (.iload 4, 2) := by decide +kernel
theorem dX6_zone_18 : decode cX6_zone 18 = .ok (.invokevirtual 227, 3) := by decide +kernel
theorem dX6_zone_21 : decode cX6_zone 21 = .ok (.ireturn, 1) := by decide +kernel
set_option maxRecDepth 20000 in
theorem ggX6_zoneRefusal_X6_isLane : GoodIn wsX6_zoneRefusal wsX6_isLane := goodIn_r _ [11, 12, 13, 14, 10, 15, 16, 1, 17, 18, 19, 20, 21, 22, 50, 51, 52, 53, 54, 55, 56, 57, 58, 59, 60, 61, 62, 63, 64, 65, 66, 67, 68, 69] (by decide +kernel) (by decide +kernel)
set_option maxRecDepth 20000 in
theorem gX6_zoneRefusal_X6_isLane : GoodIn wsX6_zoneRefusal (wsV RX6 167 RX6 yX6_isLane wsX6_isLane) := goodIn_app (goodIn_of _ (by decide +kernel)) ggX6_zoneRefusal_X6_isLane
theorem dX6_zoneRefusal_0 : decode cX6_zoneRefusal 0 = .ok (.aload_n 0, 1) := by decide +kernel
theorem dX6_zoneRefusal_1 : decode cX6_zoneRefusal 1 = .ok (.iload_n 1, 1) := by decide +kernel
theorem dX6_zoneRefusal_2 : decode cX6_zoneRefusal 2 = .ok (.iload_n 2, 1) := by decide +kernel
theorem dX6_zoneRefusal_3 : decode cX6_zoneRefusal 3 = .ok (.invokevirtual 167, 3) := by decide +kernel
theorem dX6_zoneRefusal_6 : decode cX6_zoneRefusal 6 = .ok (.ifCond .ne 5, 3) := by decide +kernel
theorem dX6_zoneRefusal_9 : decode cX6_zoneRefusal 9 = .ok (.iconst 0, 1) := by decide +kernel
theorem dX6_zoneRefusal_10 : decode cX6_zoneRefusal 10 = .ok (.ireturn, 1) := by decide +kernel
set_option maxRecDepth 20000 in
theorem ggX6_probe_X6_isLane : GoodIn wsX6_probe wsX6_isLane := goodIn_r _ [8, 9, 10, 11, 7, 12, 13, 1, 14, 15, 16, 17, 18, 19, 43, 44, 45, 46, 47, 48, 49, 50, 51, 52, 53, 54, 55, 56, 57, 58, 59, 60, 61, 62] (by decide +kernel) (by decide +kernel)
set_option maxRecDepth 20000 in
theorem gX6_probe_X6_isLane : GoodIn wsX6_probe (wsV RX6 167 RX6 yX6_isLane wsX6_isLane) := goodIn_app (goodIn_of _ (by decide +kernel)) ggX6_probe_X6_isLane
set_option maxRecDepth 20000 in
theorem ggX6_probe_X6_refuse : GoodIn wsX6_probe wsX6_refuse := goodIn_r _ [23, 24, 43, 44, 45, 46, 47, 48, 49, 50, 51] (by decide +kernel) (by decide +kernel)
set_option maxRecDepth 20000 in
theorem gX6_probe_X6_refuse : GoodIn wsX6_probe (wsV RX6 227 RX6 yX6_refuse wsX6_refuse) := goodIn_app (goodIn_of _ (by decide +kernel)) ggX6_probe_X6_refuse
theorem dX6_probe_0 : decode cX6_probe 0 = .ok (.aload_n 0, 1) := by decide +kernel
theorem dX6_probe_1 : decode cX6_probe 1 = .ok (.iload_n 1, 1) := by decide +kernel
theorem dX6_probe_2 : decode cX6_probe 2 = .ok (.iload_n 2, 1) := by decide +kernel
theorem dX6_probe_3 : decode cX6_probe 3 = .ok (.invokevirtual 167, 3) := by decide +kernel
theorem dX6_probe_6 : decode cX6_probe 6 = .ok (.ifCond .ne 9, 3) := by decide +kernel
theorem dX6_probe_9 : decode cX6_probe 9 = .ok (.aload_n 0, 1) := by decide +kernel
theorem dX6_probe_10 : decode cX6_probe 10 = .ok (.iconst 0, 1) := by decide +kernel
theorem dX6_probe_11 : decode cX6_probe 11 = .ok (.invokevirtual 227, 3) := by decide +kernel
theorem dX6_probe_14 : decode cX6_probe 14 = .ok (.ireturn, 1) := by decide +kernel
set_option maxRecDepth 20000 in
theorem ggX6_status_X6_outside : GoodIn wsX6_status wsX6_outside := goodIn_r _ [5] (by decide +kernel) (by decide +kernel)
set_option maxRecDepth 20000 in
theorem gX6_status_X6_outside : GoodIn wsX6_status (va_wsS RX6 55 yX6_outside wsX6_outside) := goodIn_app (goodIn_of _ (by decide +kernel)) ggX6_status_X6_outside
theorem dX6_status_0 : decode cX6_status 0 = .ok (.iload_n 1, 1) := by decide +kernel
theorem dX6_status_1 : decode cX6_status 1 = .ok (.iconst 0, 1) := by decide +kernel
theorem dX6_status_2 : decode cX6_status 2 = .ok (.iconst 3, 1) := by decide +kernel
theorem dX6_status_3 : decode cX6_status 3 = .ok (.invokestatic 55, 3) := by decide +kernel
theorem dX6_status_6 : decode cX6_status 6 = .ok (.ifCond .eq 7, 3) := by decide +kernel
theorem dX6_status_9 : decode cX6_status 9 = .ok (.iconst (-1), 1) := by decide +kernel
theorem dX6_status_10 : decode cX6_status 10 = .ok (.goto 9, 3) := by decide +kernel
theorem dX6_status_13 : decode cX6_status 13 = .ok (.aload_n 0, 1) := by decide +kernel
theorem dX6_status_14 : decode cX6_status 14 = .ok (.getfield 13, 3) := by decide +kernel
theorem dX6_status_17 : decode cX6_status 17 = .ok (.iload_n 1, 1) := by decide +kernel
theorem dX6_status_18 : decode cX6_status 18 = .ok (.iaload, 1) := by decide +kernel
theorem dX6_status_19 : decode cX6_status 19 = .ok (.ireturn, 1) := by decide +kernel
theorem dX6_refuse_0 : decode cX6_refuse 0 = .ok (.aload_n 0, 1) := by decide +kernel
theorem dX6_refuse_1 : decode cX6_refuse 1 = .ok (.getfield 13, 3) := by decide +kernel
theorem dX6_refuse_4 : decode cX6_refuse 4 = .ok (.iload_n 1, 1) := by decide +kernel
theorem dX6_refuse_5 : decode cX6_refuse 5 = .ok (.dup2, 1) := by decide +kernel
theorem dX6_refuse_6 : decode cX6_refuse 6 = .ok (.iaload, 1) := by decide +kernel
theorem dX6_refuse_7 : decode cX6_refuse 7 = .ok (.iconst 1, 1) := by decide +kernel
theorem dX6_refuse_8 : decode cX6_refuse 8 = .ok (.iadd, 1) := by decide +kernel
theorem dX6_refuse_9 : decode cX6_refuse 9 = .ok (.iastore, 1) := by decide +kernel
theorem dX6_refuse_10 : decode cX6_refuse 10 = .ok (.iconst (-1), 1) := by decide +kernel
theorem dX6_refuse_11 : decode cX6_refuse 11 = .ok (.ireturn, 1) := by decide +kernel
set_option maxRecDepth 20000 in
theorem ggX6_laneAhead_X6_isLane : GoodIn wsX6_laneAhead wsX6_isLane := goodIn_r _ [6, 7, 8, 9, 5, 10, 11, 12, 13, 14, 15, 16, 17, 18, 223, 224, 225, 226, 227, 228, 229, 230, 231, 232, 233, 234, 235, 236, 237, 238, 239, 240, 241, 242] (by decide +kernel) (by decide +kernel)
set_option maxRecDepth 20000 in
theorem gX6_laneAhead_X6_isLane : GoodIn wsX6_laneAhead (wsV RX6 167 RX6 yX6_isLane wsX6_isLane) := goodIn_app (goodIn_of _ (by decide +kernel)) ggX6_laneAhead_X6_isLane
theorem dX6_laneAhead_0 : decode cX6_laneAhead 0 = .ok (.aload_n 0, 1) := by decide +kernel
theorem dX6_laneAhead_1 : decode cX6_laneAhead 1 = .ok (.iload_n 1, 1) := by decide +kernel
theorem dX6_laneAhead_2 : decode cX6_laneAhead 2 = .ok (.iload_n 2, 1) := by decide +kernel
theorem dX6_laneAhead_3 : decode cX6_laneAhead 3 = .ok (.invokevirtual 167, 3) := by decide +kernel
theorem dX6_laneAhead_6 : decode cX6_laneAhead 6 = .ok (.ifCond .eq 25, 3) := by decide +kernel
theorem dX6_laneAhead_31 : decode cX6_laneAhead 31 = .ok (.iconst (-1), 1) := by decide +kernel
theorem dX6_laneAhead_32 : decode cX6_laneAhead 32 = .ok (.ireturn, 1) := by decide +kernel
set_option maxRecDepth 20000 in
theorem ggX6_bufferAhead_X6_isNode : GoodIn wsX6_bufferAhead wsX6_isNode := goodIn_r _ [6, 7, 8, 9, 200, 201, 202, 203, 204, 205, 206, 207, 208, 209, 210, 211, 212, 213, 214, 215, 216, 217, 218, 219] (by decide +kernel) (by decide +kernel)
set_option maxRecDepth 20000 in
theorem gX6_bufferAhead_X6_isNode : GoodIn wsX6_bufferAhead (wsV RX6 211 RX6 yX6_isNode wsX6_isNode) := goodIn_app (goodIn_of _ (by decide +kernel)) ggX6_bufferAhead_X6_isNode
theorem dX6_bufferAhead_0 : decode cX6_bufferAhead 0 = .ok (.aload_n 0, 1) := by decide +kernel
theorem dX6_bufferAhead_1 : decode cX6_bufferAhead 1 = .ok (.iload_n 1, 1) := by decide +kernel
theorem dX6_bufferAhead_2 : decode cX6_bufferAhead 2 = .ok (.invokevirtual 211, 3) := by decide +kernel
theorem dX6_bufferAhead_5 : decode cX6_bufferAhead 5 = .ok (.ifCond .eq 22, 3) := by decide +kernel
theorem dX6_bufferAhead_27 : decode cX6_bufferAhead 27 = .ok (.iconst (-1), 1) := by decide +kernel
theorem dX6_bufferAhead_28 : decode cX6_bufferAhead 28 = .ok (.ireturn, 1) := by decide +kernel
theorem dX6_delivered_0 : decode cX6_delivered 0 = .ok (.aload_n 0, 1) := by decide +kernel
theorem dX6_delivered_1 : decode cX6_delivered 1 = .ok (.getfield 70, 3) := by decide +kernel
theorem dX6_delivered_4 : decode cX6_delivered 4 = .ok (.ifCond .eq 27, 3) := by decide +kernel
theorem dX6_delivered_31 : decode cX6_delivered 31 = .ok (.iconst (-1), 1) := by decide +kernel
theorem dX6_delivered_32 : decode cX6_delivered 32 = .ok (.ireturn, 1) := by decide +kernel
set_option maxRecDepth 20000 in
theorem ggX6_heldUp_X6_isLane : GoodIn wsX6_heldUp wsX6_isLane := goodIn_r _ [9, 10, 11, 12, 8, 13, 14, 2, 15, 16, 17, 18, 19, 20, 191, 192, 193, 194, 195, 196, 197, 198, 199, 200, 201, 202, 203, 204, 205, 206, 207, 208, 209, 210] (by decide +kernel) (by decide +kernel)
set_option maxRecDepth 20000 in
theorem gX6_heldUp_X6_isLane : GoodIn wsX6_heldUp (wsV RX6 167 RX6 yX6_isLane wsX6_isLane) := goodIn_app (goodIn_of _ (by decide +kernel)) ggX6_heldUp_X6_isLane
theorem dX6_heldUp_0 : decode cX6_heldUp 0 = .ok (.aload_n 0, 1) := by decide +kernel
theorem dX6_heldUp_1 : decode cX6_heldUp 1 = .ok (.iload_n 1, 1) := by decide +kernel
theorem dX6_heldUp_2 : decode cX6_heldUp 2 = .ok (.iload_n 2, 1) := by decide +kernel
theorem dX6_heldUp_3 : decode cX6_heldUp 3 = .ok (.invokevirtual 167, 3) := by decide +kernel
theorem dX6_heldUp_6 : decode cX6_heldUp 6 = .ok (.ifCond .ne 5, 3) := by decide +kernel
theorem dX6_heldUp_9 : decode cX6_heldUp 9 = .ok (.iconst (-1), 1) := by decide +kernel
theorem dX6_heldUp_10 : decode cX6_heldUp 10 = .ok (.ireturn, 1) := by decide +kernel
set_option maxRecDepth 20000 in
theorem ggX6_idle_X6_isHop : GoodIn wsX6_idle wsX6_isHop := goodIn_r _ [6, 7, 8, 9, 194, 195, 196, 197, 198, 199, 200, 201, 202, 203, 204, 205, 206, 207, 208, 209, 210, 211, 212, 213] (by decide +kernel) (by decide +kernel)
set_option maxRecDepth 20000 in
theorem gX6_idle_X6_isHop : GoodIn wsX6_idle (wsV RX6 93 RX6 yX6_isHop wsX6_isHop) := goodIn_app (goodIn_of _ (by decide +kernel)) ggX6_idle_X6_isHop
theorem dX6_idle_0 : decode cX6_idle 0 = .ok (.aload_n 0, 1) := by decide +kernel
theorem dX6_idle_1 : decode cX6_idle 1 = .ok (.iload_n 1, 1) := by decide +kernel
theorem dX6_idle_2 : decode cX6_idle 2 = .ok (.invokevirtual 93, 3) := by decide +kernel
theorem dX6_idle_5 : decode cX6_idle 5 = .ok (.ifCond .eq 14, 3) := by decide +kernel
theorem dX6_idle_19 : decode cX6_idle 19 = .ok (.iconst (-1), 1) := by decide +kernel
theorem dX6_idle_20 : decode cX6_idle 20 = .ok (.ireturn, 1) := by decide +kernel
set_option maxRecDepth 20000 in
theorem ggX6_most_X6_isNode : GoodIn wsX6_most wsX6_isNode := goodIn_r _ [11, 12, 2, 13, 201, 202, 203, 204, 205, 206, 207, 208, 209, 210, 211, 212, 213, 214, 215, 216, 217, 218, 219, 220] (by decide +kernel) (by decide +kernel)
