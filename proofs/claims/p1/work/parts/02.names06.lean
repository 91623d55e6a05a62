theorem dX7_loss_16 : decode cX7_loss 16 = .ok (.invokestatic 60, 3) := by decide +kernel
theorem dX7_loss_19 : decode cX7_loss 19 = .ok (.ifCond .eq 20, 3) := by decide +kernel
theorem dX7_loss_22 : decode cX7_loss 22 = .ok (.iload_n 2, 1) := by decide +kernel
theorem dX7_loss_23 : decode cX7_loss 23 = .ok (.iconst 1, 1) := by decide +kernel
theorem dX7_loss_24 : decode cX7_loss 24 = .ok (.invokestatic 253, 3) := by decide +kernel
theorem dX7_loss_27 : decode cX7_loss 27 = .ok (.ifCond .eq 12, 3) := by decide +kernel
theorem dX7_loss_30 : decode cX7_loss 30 = .ok (.aload_n 0, 1) := by decide +kernel
theorem dX7_loss_31 : decode cX7_loss 31 = .ok (.iload_n 1, 1) := by decide +kernel
theorem dX7_loss_32 : decode cX7_loss 32 = .ok (.iload_n 2, 1) := by decide +kernel
theorem dX7_loss_33 : decode cX7_loss 33 = .ok (.invokevirtual 286, 3) := by decide +kernel
theorem dX7_loss_36 : decode cX7_loss 36 = .ok (.goto 5, 3) := by decide +kernel
theorem dX7_loss_39 : decode cX7_loss 39 = .ok (.ldc 236, 2) := by decide +kernel
theorem dX7_loss_41 : decode cX7_loss 41 = .ok (.ireturn, 1) := by decide +kernel
set_option maxRecDepth 20000 in
theorem ggX7_lossOf_X7_putAside : GoodIn wsX7_lossOf wsX7_putAside := goodIn_r _ [5, 6, 7, 134, 135, 136, 137, 138, 139, 140, 141, 142, 143, 144, 145, 146, 147, 148, 149, 150, 151, 152, 153, 154] (by decide +kernel) (by decide +kernel)
set_option maxRecDepth 20000 in
theorem gX7_lossOf_X7_putAside : GoodIn wsX7_lossOf (wsV RX7 256 RX7 yX7_putAside wsX7_putAside) := goodIn_app (goodIn_of _ (by decide +kernel)) ggX7_lossOf_X7_putAside
set_option maxRecDepth 20000 in
theorem ggX7_lossOf_X7_deliveredIn : GoodIn wsX7_lossOf wsX7_deliveredIn := goodIn_r _ [11, 12, 13, 14, 4, 15, 16, 7, 17, 18, 19, 20, 21, 22, 23, 24, 25, 26, 27, 28, 29, 30, 31, 32, 33, 34, 35, 36, 37, 38, 39, 40, 41, 42, 43, 44, 45, 46, 47, 48, 49, 50, 51, 52, 53, 54, 55, 56, 57, 58, 59, 60, 61, 62, 63, 64, 65, 66, 67, 68, 69, 70, 71, 72, 73, 74, 75, 76, 77, 78, 79, 80, 81, 82, 83, 84, 85, 86, 87, 88, 89, 90, 91, 92, 93, 94, 95, 96, 97, 98, 99, 100, 101, 102, 103, 104, 105, 106, 107, 108, 109, 110, 111, 112, 113, 114, 115, 116, 117, 118, 119, 120, 121, 122, 123, 124, 125, 126, 127, 128, 129, 6, 134, 135, 136, 137, 138, 139, 140, 141, 142, 143, 144, 145, 146, 147, 148, 149, 150, 151, 152, 153, 154] (by decide +kernel) (by decide +kernel)
set_option maxRecDepth 20000 in
theorem gX7_lossOf_X7_deliveredIn : GoodIn wsX7_lossOf (wsV RX7 268 RX7 yX7_deliveredIn wsX7_deliveredIn) := goodIn_app (goodIn_of _ (by decide +kernel)) ggX7_lossOf_X7_deliveredIn
set_option maxRecDepth 20000 in
theorem ggX7_lossOf_X7_deliveredJammed : GoodIn wsX7_lossOf wsX7_deliveredJammed := goodIn_r _ [133, 28, 7, 1, 2, 3, 4, 5, 6, 8, 9, 10, 11, 12, 13, 14, 15, 16, 17, 18, 19, 20, 21, 22, 23, 24, 25, 26, 27, 29, 30, 31, 32, 33, 34, 35, 36, 37, 38, 39, 40, 41, 42, 43, 44, 45, 46, 47, 48, 49, 50, 51, 52, 53, 54, 55, 56, 57, 58, 59, 60, 61, 62, 63, 64, 65, 66, 67, 68, 69, 70, 71, 72, 73, 74, 75, 76, 77, 78, 79, 80, 81, 82, 83, 84, 85, 86, 87, 88, 89, 90, 91, 92, 93, 94, 95, 96, 97, 98, 99, 100, 101, 102, 103, 104, 105, 106, 107, 108, 109, 110, 111, 112, 113, 114, 115, 116, 117, 118, 119, 120, 121, 122, 123, 124, 125, 126, 127, 128, 129, 134, 135, 136, 137, 138, 139, 140, 141, 142, 143, 144, 145, 146, 147, 148, 149, 150, 151, 152, 153, 154] (by decide +kernel) (by decide +kernel)
set_option maxRecDepth 20000 in
theorem gX7_lossOf_X7_deliveredJammed : GoodIn wsX7_lossOf (wsV RX7 289 RX7 yX7_deliveredJammed wsX7_deliveredJammed) := goodIn_app (goodIn_of _ (by decide +kernel)) ggX7_lossOf_X7_deliveredJammed
theorem dX7_lossOf_0 : decode cX7_lossOf 0 = .ok (.aload_n 0, 1) := by decide +kernel
theorem dX7_lossOf_1 : decode cX7_lossOf 1 = .ok (.invokevirtual 256, 3) := by decide +kernel
theorem dX7_lossOf_4 : decode cX7_lossOf 4 = .ok (.aload_n 0, 1) := by decide +kernel
theorem dX7_lossOf_5 : decode cX7_lossOf 5 = .ok (.iconst (-1), 1) := by decide +kernel
theorem dX7_lossOf_6 : decode cX7_lossOf 6 = .ok (.iload_n 2, 1) := by decide +kernel
theorem dX7_lossOf_7 : decode cX7_lossOf 7 = .ok (.invokevirtual 268, 3) := by decide +kernel
theorem dX7_lossOf_10 : decode cX7_lossOf 10 = .ok (.istore_n 3, 1) := by decide +kernel
theorem dX7_lossOf_11 : decode cX7_lossOf 11 = .ok (.iload_n 3, 1) := by decide +kernel
theorem dX7_lossOf_12 : decode cX7_lossOf 12 = .ok (.aload_n 0, 1) := by decide +kernel
theorem dX7_lossOf_13 : decode cX7_lossOf 13 = .ok (.iload_n 1, 1) := by decide +kernel
theorem dX7_lossOf_14 : decode cX7_lossOf 14 = .ok (.iload_n 2, 1) := by decide +kernel
theorem dX7_lossOf_15 : decode cX7_lossOf 15 = .ok (.invokevirtual 289, 3) := by decide +kernel
theorem dX7_lossOf_18 : decode cX7_lossOf 18 = .ok (.isub, 1) := by decide +kernel
theorem dX7_lossOf_19 : decode cX7_lossOf 19 = .ok (.ireturn, 1) := by decide +kernel
set_option maxRecDepth 20000 in
theorem ggX7_bears_X7_isNet : GoodIn wsX7_bears wsX7_isNet := goodIn_r _ [6, 7, 149, 150, 151, 152, 153, 154, 155, 156, 157, 158, 159, 160, 161, 162, 163, 164, 165, 166, 167, 168, 169] (by decide +kernel) (by decide +kernel)
set_option maxRecDepth 20000 in
theorem gX7_bears_X7_isNet : GoodIn wsX7_bears (wsV RX7 136 RX7 yX7_isNet wsX7_isNet) := goodIn_app (goodIn_of _ (by decide +kernel)) ggX7_bears_X7_isNet
set_option maxRecDepth 20000 in
theorem ggX7_bears_X7_isSpan : GoodIn wsX7_bears wsX7_isSpan := goodIn_r _ [10, 11, 12, 5, 13] (by decide +kernel) (by decide +kernel)
set_option maxRecDepth 20000 in
theorem gX7_bears_X7_isSpan : GoodIn wsX7_bears (va_wsS RX7 253 yX7_isSpan wsX7_isSpan) := goodIn_app (goodIn_of _ (by decide +kernel)) ggX7_bears_X7_isSpan
set_option maxRecDepth 20000 in
theorem ggX7_bears_X7_lossOf : GoodIn wsX7_bears wsX7_lossOf := goodIn_r _ [17, 18, 19, 20, 5, 21, 22, 23, 24, 25, 26, 27, 28, 29, 30, 31, 32, 33, 34, 35, 36, 37, 38, 39, 40, 41, 42, 43, 7, 44, 45, 46, 47, 48, 49, 50, 51, 52, 53, 54, 55, 56, 57, 58, 59, 60, 61, 62, 63, 64, 65, 66, 67, 68, 69, 70, 71, 72, 73, 74, 75, 76, 77, 78, 79, 80, 81, 82, 83, 84, 85, 86, 87, 88, 89, 90, 91, 92, 93, 94, 95, 96, 97, 98, 99, 100, 101, 102, 103, 104, 105, 106, 107, 108, 109, 110, 111, 112, 113, 114, 115, 116, 117, 118, 119, 120, 121, 122, 123, 124, 125, 126, 127, 128, 129, 130, 131, 132, 133, 134, 135, 136, 137, 138, 139, 140, 141, 142, 143, 144, 145, 146, 147, 148, 149, 150, 151, 152, 153, 154, 155, 156, 157, 158, 159, 160, 161, 162, 163, 164, 165, 166, 167, 168, 169] (by decide +kernel) (by decide +kernel)
set_option maxRecDepth 20000 in
theorem gX7_bears_X7_lossOf : GoodIn wsX7_bears (wsV RX7 286 RX7 yX7_lossOf wsX7_lossOf) := goodIn_app (goodIn_of _ (by decide +kernel)) ggX7_bears_X7_lossOf
theorem dX7_bears_0 : decode cX7_bears 0 = .ok (.aload_n 0, 1) := by decide +kernel
theorem dX7_bears_1 : decode cX7_bears 1 = .ok (.iconst 0, 1) := by decide +kernel
theorem dX7_bears_2 : decode cX7_bears 2 = .ok (.putfield 49, 3) := by decide +kernel
theorem dX7_bears_5 : decode cX7_bears 5 = .ok (.aload_n 0, 1) := by decide +kernel
theorem dX7_bears_6 : decode cX7_bears 6 = .ok (.invokevirtual 136, 3) := by decide +kernel
theorem dX7_bears_9 : decode cX7_bears 9 = .ok (.ifCond .eq 11, 3) := by decide +kernel
theorem dX7_bears_12 : decode cX7_bears 12 = .ok (.iload_n 1, 1) := by decide +kernel
theorem dX7_bears_13 : decode cX7_bears 13 = .ok (.iconst 1, 1) := by decide +kernel
theorem dX7_bears_14 : decode cX7_bears 14 = .ok (.invokestatic 253, 3) := by decide +kernel
theorem dX7_bears_17 : decode cX7_bears 17 = .ok (.ifCond .ne 5, 3) := by decide +kernel
theorem dX7_bears_20 : decode cX7_bears 20 = .ok (.iconst (-1), 1) := by decide +kernel
theorem dX7_bears_21 : decode cX7_bears 21 = .ok (.ireturn, 1) := by decide +kernel
theorem dX7_bears_22 : decode cX7_bears 22 = .ok (.bipush 9, 2) := by decide +kernel
theorem dX7_bears_24 : decode cX7_bears 24 = .ok (.istore_n 2, 1) := by decide +kernel
theorem dX7_bears_25 : decode cX7_bears 25 = .ok (.iload_n 2, 1) := by decide +kernel
theorem dX7_bears_26 : decode cX7_bears 26 = .ok (.ifCond .le 18, 3) := by decide +kernel
theorem dX7_bears_29 : decode cX7_bears 29 = .ok (.aload_n 0, 1) := by decide +kernel
theorem dX7_bears_30 : decode cX7_bears 30 = .ok (.iload_n 2, 1) := by decide +kernel
theorem dX7_bears_31 : decode cX7_bears 31 = .ok (.iload_n 1, 1) := by decide +kernel
theorem dX7_bears_32 : decode cX7_bears 32 = .ok (.invokevirtual 286, 3) := by decide +kernel
theorem dX7_bears_35 : decode cX7_bears 35 = .ok (.ifCond .le 9, 3) := by decide +kernel
theorem dX7_bears_38 : decode cX7_bears 38 = .ok (.iinc 2 (-1), 3) := by decide +kernel
theorem dX7_bears_41 : decode cX7_bears 41 = .ok (.goto (-16), 3) := by decide +kernel
theorem dX7_bears_44 : decode cX7_bears 44 = .ok (.iload_n 2, 1) := by decide +kernel
theorem dX7_bears_45 : decode cX7_bears 45 = .ok (.ireturn, 1) := by decide +kernel
set_option maxRecDepth 20000 in
theorem ggX7_fair_X7_isNet : GoodIn wsX7_fair wsX7_isNet := goodIn_r _ [14, 15, 141, 142, 143, 144, 145, 146, 147, 148, 149, 150, 151, 152, 153, 154, 155, 156, 157, 158, 159, 160, 161] (by decide +kernel) (by decide +kernel)
set_option maxRecDepth 20000 in
theorem gX7_fair_X7_isNet : GoodIn wsX7_fair (wsV RX7 136 RX7 yX7_isNet wsX7_isNet) := goodIn_app (goodIn_of _ (by decide +kernel)) ggX7_fair_X7_isNet
set_option maxRecDepth 20000 in
theorem ggX7_fair_X7_isSpan : GoodIn wsX7_fair wsX7_isSpan := goodIn_r _ [18, 19, 20, 13, 21] (by decide +kernel) (by decide +kernel)
set_option maxRecDepth 20000 in
theorem gX7_fair_X7_isSpan : GoodIn wsX7_fair (va_wsS RX7 253 yX7_isSpan wsX7_isSpan) := goodIn_app (goodIn_of _ (by decide +kernel)) ggX7_fair_X7_isSpan
set_option maxRecDepth 20000 in
theorem ggX7_fair_X7_putAside : GoodIn wsX7_fair wsX7_putAside := goodIn_r _ [25, 26, 27, 141, 142, 143, 144, 145, 146, 147, 148, 149, 150, 151, 152, 153, 154, 155, 156, 157, 158, 159, 160, 161] (by decide +kernel) (by decide +kernel)
set_option maxRecDepth 20000 in
theorem gX7_fair_X7_putAside : GoodIn wsX7_fair (wsV RX7 256 RX7 yX7_putAside wsX7_putAside) := goodIn_app (goodIn_of _ (by decide +kernel)) ggX7_fair_X7_putAside
set_option maxRecDepth 20000 in
theorem ggX7_fair_X7_deliveredIn : GoodIn wsX7_fair wsX7_deliveredIn := goodIn_r _ [31, 32, 33, 34, 13, 35, 2, 27, 36, 37, 38, 39, 40, 41, 42, 43, 44, 45, 46, 15, 47, 48, 49, 50, 51, 52, 53, 54, 55, 56, 57, 58, 59, 60, 61, 62, 63, 64, 65, 66, 67, 68, 69, 70, 71, 72, 73, 74, 75, 76, 77, 78, 79, 80, 81, 82, 83, 84, 85, 86, 87, 3, 4, 5, 6, 88, 89, 90, 91, 92, 93, 94, 95, 96, 97, 98, 99, 100, 101, 102, 103, 104, 105, 106, 107, 108, 109, 110, 111, 112, 113, 114, 115, 116, 117, 118, 119, 120, 121, 122, 123, 124, 7, 8, 9, 125, 126, 127, 128, 129, 130, 131, 132, 133, 134, 135, 136, 137, 138, 139, 140, 26, 141, 142, 143, 144, 145, 146, 147, 148, 149, 150, 151, 152, 153, 154, 155, 156, 157, 158, 159, 160, 161] (by decide +kernel) (by decide +kernel)
set_option maxRecDepth 20000 in
theorem gX7_fair_X7_deliveredIn : GoodIn wsX7_fair (wsV RX7 268 RX7 yX7_deliveredIn wsX7_deliveredIn) := goodIn_app (goodIn_of _ (by decide +kernel)) ggX7_fair_X7_deliveredIn
theorem dX7_fair_0 : decode cX7_fair 0 = .ok (.aload_n 0, 1) := by decide +kernel
theorem dX7_fair_1 : decode cX7_fair 1 = .ok (.iconst 0, 1) := by decide +kernel
theorem dX7_fair_2 : decode cX7_fair 2 = .ok (.putfield 49, 3) := by decide +kernel
theorem dX7_fair_5 : decode cX7_fair 5 = .ok (.aload_n 0, 1) := by decide +kernel
theorem dX7_fair_6 : decode cX7_fair 6 = .ok (.invokevirtual 136, 3) := by decide +kernel
theorem dX7_fair_9 : decode cX7_fair 9 = .ok (.ifCond .eq 11, 3) := by decide +kernel
theorem dX7_fair_12 : decode cX7_fair 12 = .ok (.iload_n 1, 1) := by decide +kernel
theorem dX7_fair_13 : decode cX7_fair 13 = .ok (.iconst 1, 1) := by decide +kernel
theorem dX7_fair_14 : decode cX7_fair 14 = .ok (.invokestatic 253, 3) := by decide +kernel
theorem dX7_fair_17 : decode cX7_fair 17 = .ok (.ifCond .ne 5, 3) := by decide +kernel
theorem dX7_fair_20 : decode cX7_fair 20 = .ok (.iconst (-1), 1) := by decide +kernel
theorem dX7_fair_21 : decode cX7_fair 21 = .ok (.ireturn, 1) := by decide +kernel
theorem dX7_fair_22 : decode cX7_fair 22 = .ok (.iconst (-1), 1) := by decide +kernel
theorem dX7_fair_23 : decode cX7_fair 23 = .ok (.istore_n 2, 1) := by decide +kernel
theorem dX7_fair_24 : decode cX7_fair 24 = .ok (.iconst (-1), 1) := by decide +kernel
theorem dX7_fair_25 : decode cX7_fair 25 = .ok (.istore_n 3, 1) := by decide +kernel
theorem dX7_fair_26 : decode cX7_fair 26 = .ok (.iconst 0, 1) := by decide +kernel
theorem dX7_fair_27 : decode cX7_fair 27 = .ok (.istore 4, 2) := by decide +kernel
theorem dX7_fair_29 : decode cX7_fair 29 = .ok (.iload 4, 2) := by decide +kernel
theorem dX7_fair_31 : decode cX7_fair 31 = .ok (.aload_n 0, 1) := by decide +kernel
theorem dX7_fair_32 : decode cX7_fair 32 = .ok (.getfield 127, 3) := by decide +kernel
theorem dX7_fair_35 : decode cX7_fair 35 = .ok (.if_icmp .ge 46, 3) := by decide +kernel
theorem dX7_fair_38 : decode cX7_fair 38 = .ok (.aload_n 0, 1) := by decide +kernel
theorem dX7_fair_39 : decode cX7_fair 39 = .ok (.invokevirtual 256, 3) := by decide +kernel
theorem dX7_fair_42 : decode cX7_fair 42 = .ok (.aload_n 0, 1) := by decide +kernel
theorem dX7_fair_43 : decode cX7_fair 43 = .ok (.iload 4, 2) := by decide +kernel
theorem dX7_fair_45 : decode cX7_fair 45 = .ok (.iload_n 1, 1) := by decide +kernel
theorem dX7_fair_46 : decode cX7_fair 46 = .ok (.invokevirtual 268, 3) := by decide +kernel
theorem dX7_fair_49 : decode cX7_fair 49 = .ok (.istore 5, 2) := by decide +kernel
theorem dX7_fair_51 : decode cX7_fair 51 = .ok (.iload_n 2, 1) := by decide +kernel
theorem dX7_fair_52 : decode cX7_fair 52 = .ok (.iload 5, 2) := by decide +kernel
theorem dX7_fair_54 : decode cX7_fair 54 = .ok (.invokestatic 154, 3) := by decide +kernel
theorem dX7_fair_57 : decode cX7_fair 57 = .ok (.istore_n 2, 1) := by decide +kernel
theorem dX7_fair_58 : decode cX7_fair 58 = .ok (.iload_n 3, 1) := by decide +kernel
theorem dX7_fair_59 : decode cX7_fair 59 = .ok (.iconst (-1), 1) := by decide +kernel
theorem dX7_fair_60 : decode cX7_fair 60 = .ok (.if_icmp .ne 8, 3) := by decide +kernel
theorem dX7_fair_63 : decode cX7_fair 63 = .ok (.iload 5, 2) := by decide +kernel
theorem dX7_fair_65 : decode cX7_fair 65 = .ok (.goto 9, 3) := by decide +kernel
theorem dX7_fair_68 : decode cX7_fair 68 = .ok (.iload_n 3, 1) := by decide +kernel
theorem dX7_fair_69 : decode cX7_fair 69 = .ok (.iload 5, 2) := by decide +kernel
theorem dX7_fair_71 : decode cX7_fair 71 = .ok (.invokestatic 175, 3) := by decide +kernel
theorem dX7_fair_74 : decode cX7_fair 74 = .ok (.istore_n 3, 1) := by decide +kernel
theorem dX7_fair_75 : decode cX7_fair 75 = .ok (.iinc 4 1, 3) := by decide +kernel
theorem dX7_fair_78 : decode cX7_fair 78 = .ok (.goto (-49), 3) := by decide +kernel
theorem dX7_fair_81 : decode cX7_fair 81 = .ok (.iload_n 2, 1) := by decide +kernel
theorem dX7_fair_82 : decode cX7_fair 82 = .ok (.iload_n 3, 1) := by decide +kernel
theorem dX7_fair_83 : decode cX7_fair 83 = .ok (.isub, 1) := by decide +kernel
theorem dX7_fair_84 : decode cX7_fair 84 = .ok (.ireturn, 1) := by decide +kernel
set_option maxRecDepth 20000 in
theorem ggX7_learns_X7_isLane : GoodIn wsX7_learns wsX7_isLane := goodIn_r _ [7, 8, 9, 10, 6, 11, 12, 13, 14, 15, 16, 17, 18, 19, 20, 134, 135, 136, 137, 138, 139, 140, 141, 142, 143, 144, 145, 146, 147, 148, 149, 150, 151, 152, 153, 154] (by decide +kernel) (by decide +kernel)
set_option maxRecDepth 20000 in
theorem gX7_learns_X7_isLane : GoodIn wsX7_learns (wsV RX7 229 RX7 yX7_isLane wsX7_isLane) := goodIn_app (goodIn_of _ (by decide +kernel)) ggX7_learns_X7_isLane
set_option maxRecDepth 20000 in
theorem ggX7_learns_X7_putAside : GoodIn wsX7_learns wsX7_putAside := goodIn_r _ [24, 25, 2, 134, 135, 136, 137, 138, 139, 140, 141, 142, 143, 144, 145, 146, 147, 148, 149, 150, 151, 152, 153, 154] (by decide +kernel) (by decide +kernel)
set_option maxRecDepth 20000 in
theorem gX7_learns_X7_putAside : GoodIn wsX7_learns (wsV RX7 256 RX7 yX7_putAside wsX7_putAside) := goodIn_app (goodIn_of _ (by decide +kernel)) ggX7_learns_X7_putAside
set_option maxRecDepth 20000 in
theorem ggX7_learns_X7_lane : GoodIn wsX7_learns wsX7_lane := goodIn_r _ [28] (by decide +kernel) (by decide +kernel)
set_option maxRecDepth 20000 in
theorem gX7_learns_X7_lane : GoodIn wsX7_learns (va_wsS RX7 163 yX7_lane wsX7_lane) := goodIn_app (goodIn_of _ (by decide +kernel)) ggX7_learns_X7_lane
set_option maxRecDepth 20000 in
theorem ggX7_learns_X7_less : GoodIn wsX7_learns wsX7_less := goodIn_r _ [31] (by decide +kernel) (by decide +kernel)
set_option maxRecDepth 20000 in
theorem gX7_learns_X7_less : GoodIn wsX7_learns (va_wsS RX7 166 yX7_less wsX7_less) := goodIn_app (goodIn_of _ (by decide +kernel)) ggX7_learns_X7_less
set_option maxRecDepth 20000 in
theorem ggX7_learns_X7_ticks : GoodIn wsX7_learns wsX7_ticks := goodIn_r _ [35, 12, 20, 36, 2, 37, 38, 39, 6, 40, 41, 42, 43, 44, 45, 46, 26, 27, 28, 29, 30, 31, 47, 48, 49, 50, 51, 52, 53, 54, 55, 56, 57, 58, 59, 60, 61, 62, 63, 64, 65, 66, 67, 68, 69, 70, 71, 72, 73, 74, 75, 76, 77, 78, 79, 80, 81, 82, 83, 84, 85, 86, 87, 88, 89, 90, 91, 92, 93, 94, 95, 96, 97, 98, 99, 100, 101, 102, 103, 104, 105, 106, 107, 108, 109, 110, 111, 112, 113, 114, 115, 116, 117, 118, 119, 120, 121, 122, 123, 124, 125, 126, 127, 128, 129, 134, 135, 136, 137, 138, 139, 140, 141, 142, 143, 144, 145, 146, 147, 148, 149, 150, 151, 152, 153, 154] (by decide +kernel) (by decide +kernel)
set_option maxRecDepth 20000 in
theorem gX7_learns_X7_ticks : GoodIn wsX7_learns (wsV RX7 226 RX7 yX7_ticks wsX7_ticks) := goodIn_app (goodIn_of _ (by decide +kernel)) ggX7_learns_X7_ticks
set_option maxRecDepth 20000 in
theorem ggX7_learns_X7_bringBack : GoodIn wsX7_learns wsX7_bringBack := goodIn_r _ [133, 2, 25, 134, 135, 136, 137, 138, 139, 140, 141, 142, 143, 144, 145, 146, 147, 148, 149, 150, 151, 152, 153, 154] (by decide +kernel) (by decide +kernel)
set_option maxRecDepth 20000 in
theorem gX7_learns_X7_bringBack : GoodIn wsX7_learns (wsV RX7 262 RX7 yX7_bringBack wsX7_bringBack) := goodIn_app (goodIn_of _ (by decide +kernel)) ggX7_learns_X7_bringBack
theorem dX7_learns_0 : decode cX7_learns 0 = .ok (.aload_n 0, 1) := by decide +kernel
theorem dX7_learns_1 : decode cX7_learns 1 = .ok (.iconst 0, 1) := by decide +kernel
theorem dX7_learns_2 : decode cX7_learns 2 = .ok (.putfield 49, 3) := by decide +kernel
theorem dX7_learns_5 : decode cX7_learns 5 = .ok (.aload_n 0, 1) := by decide +kernel
theorem dX7_learns_6 : decode cX7_learns 6 = .ok (.iload_n 1, 1) := by decide +kernel
theorem dX7_learns_7 : decode cX7_learns 7 = .ok (.iload_n 2, 1) := by decide +kernel
theorem dX7_learns_8 : decode cX7_learns 8 = .ok (.invokevirtual 229, 3) := by decide +kernel
theorem dX7_learns_11 : decode cX7_learns 11 = .ok (.ifCond .ne 5, 3) := by decide +kernel
theorem dX7_learns_14 : decode cX7_learns 14 = .ok (.iconst (-1), 1) := by decide +kernel
theorem dX7_learns_15 : decode cX7_learns 15 = .ok (.ireturn, 1) := by decide +kernel
theorem dX7_learns_16 : decode cX7_learns 16 = .ok (.aload_n 0, 1) := by decide +kernel
theorem dX7_learns_17 : decode cX7_learns 17 = .ok (.invokevirtual 256, 3) := by decide +kernel
theorem dX7_learns_20 : decode cX7_learns 20 = .ok (.aload_n 0, 1) := by decide +kernel
theorem dX7_learns_21 : decode cX7_learns 21 = .ok (.getfield 22, 3) := by decide +kernel
theorem dX7_learns_24 : decode cX7_learns 24 = .ok (.iload_n 1, 1) := by decide +kernel
theorem dX7_learns_25 : decode cX7_learns 25 = .ok (.iload_n 2, 1) := by decide +kernel
theorem dX7_learns_26 : decode cX7_learns 26 = .ok (.invokestatic 163, 3) := by decide +kernel
theorem dX7_learns_29 : decode cX7_learns 29 = .ok (.iconst 1, 1) := by decide +kernel
theorem dX7_learns_30 : decode cX7_learns 30 = .ok (.iadd, 1) := by decide +kernel
theorem dX7_learns_31 : decode cX7_learns 31 = .ok (.iaload, 1) := by decide +kernel
theorem dX7_learns_32 : decode cX7_learns 32 = .ok (.istore_n 3, 1) := by decide +kernel
theorem dX7_learns_33 : decode cX7_learns 33 = .ok (.iconst 0, 1) := by decide +kernel
theorem dX7_learns_34 : decode cX7_learns 34 = .ok (.istore 4, 2) := by decide +kernel
theorem dX7_learns_36 : decode cX7_learns 36 = .ok (.iload 4, 2) := by decide +kernel
theorem dX7_learns_38 : decode cX7_learns 38 = .ok (.sipush 200, 3) := by decide +kernel
theorem dX7_learns_41 : decode cX7_learns 41 = .ok (.if_icmp .gt 34, 3) := by decide +kernel
theorem dX7_learns_44 : decode cX7_learns 44 = .ok (.aload_n 0, 1) := by decide +kernel
theorem dX7_learns_45 : decode cX7_learns 45 = .ok (.getfield 22, 3) := by decide +kernel
theorem dX7_learns_48 : decode cX7_learns 48 = .ok (.iload_n 1, 1) := by decide +kernel
theorem dX7_learns_49 : decode cX7_learns 49 = .ok (.iload_n 2, 1) := by decide +kernel
theorem dX7_learns_50 : decode cX7_learns 50 = .ok (.invokestatic 163, 3) := by decide +kernel
theorem dX7_learns_53 : decode cX7_learns 53 = .ok (.iconst 2, 1) := by decide +kernel
theorem dX7_learns_54 : decode cX7_learns 54 = .ok (.iadd, 1) := by decide +kernel
theorem dX7_learns_55 : decode cX7_learns 55 = .ok (.iaload, 1) := by decide +kernel
theorem dX7_learns_56 : decode cX7_learns 56 = .ok (.iload_n 3, 1) := by decide +kernel
theorem dX7_learns_57 : decode cX7_learns 57 = .ok (.invokestatic 166, 3) := by decide +kernel
theorem dX7_learns_60 : decode cX7_learns 60 = .ok (.bipush 32, 2) := by decide +kernel
theorem dX7_learns_62 : decode cX7_learns 62 = .ok (.if_icmp .lt 13, 3) := by decide +kernel
theorem dX7_learns_65 : decode cX7_learns 65 = .ok (.aload_n 0, 1) := by decide +kernel
theorem dX7_learns_66 : decode cX7_learns 66 = .ok (.invokevirtual 226, 3) := by decide +kernel
theorem dX7_learns_69 : decode cX7_learns 69 = .ok (.iinc 4 1, 3) := by decide +kernel
theorem dX7_learns_72 : decode cX7_learns 72 = .ok (.goto (-36), 3) := by decide +kernel
theorem dX7_learns_75 : decode cX7_learns 75 = .ok (.aload_n 0, 1) := by decide +kernel
theorem dX7_learns_76 : decode cX7_learns 76 = .ok (.invokevirtual 262, 3) := by decide +kernel
theorem dX7_learns_79 : decode cX7_learns 79 = .ok (.iload 4, 2) := by decide +kernel
theorem dX7_learns_81 : decode cX7_learns 81 = .ok (.sipush 200, 3) := by decide +kernel
theorem dX7_learns_84 : decode cX7_learns 84 = .ok (.if_icmp .gt 8, 3) := by decide +kernel
theorem dX7_learns_87 : decode cX7_learns 87 = .ok (.iload 4, 2) := by decide +kernel
theorem dX7_learns_89 : decode cX7_learns 89 = .ok (.goto 4, 3) := by decide +kernel
theorem dX7_learns_92 : decode cX7_learns 92 = .ok (.iconst (-1), 1) := by decide +kernel
theorem dX7_learns_93 : decode cX7_learns 93 = .ok (.ireturn, 1) := by decide +kernel
set_option maxRecDepth 20000 in
theorem ggX7_cellsAnywhere_X7_anywhere : GoodIn wsX7_cellsAnywhere wsX7_anywhere := goodIn_r _ [6, 7, 8, 9, 5, 10, 11, 12, 13, 14, 15, 16, 17, 18, 19, 20, 21, 22, 23, 24, 25, 26, 27, 28, 29, 30, 31] (by decide +kernel) (by decide +kernel)
set_option maxRecDepth 20000 in
theorem gX7_cellsAnywhere_X7_anywhere : GoodIn wsX7_cellsAnywhere (wsV RX7 244 RX7 yX7_anywhere wsX7_anywhere) := goodIn_app (goodIn_of _ (by decide +kernel)) ggX7_cellsAnywhere_X7_anywhere
theorem dX7_cellsAnywhere_0 : decode cX7_cellsAnywhere 0 = .ok (.iconst 0, 1) := by decide +kernel
theorem dX7_cellsAnywhere_1 : decode cX7_cellsAnywhere 1 = .ok (.istore_n 1, 1) := by decide +kernel
theorem dX7_cellsAnywhere_2 : decode cX7_cellsAnywhere 2 = .ok (.iconst 0, 1) := by decide +kernel
theorem dX7_cellsAnywhere_3 : decode cX7_cellsAnywhere 3 = .ok (.istore_n 2, 1) := by decide +kernel
theorem dX7_cellsAnywhere_4 : decode cX7_cellsAnywhere 4 = .ok (.iload_n 2, 1) := by decide +kernel
theorem dX7_cellsAnywhere_5 : decode cX7_cellsAnywhere 5 = .ok (.aload_n 0, 1) := by decide +kernel
theorem dX7_cellsAnywhere_6 : decode cX7_cellsAnywhere 6 = .ok (.getfield 127, 3) := by decide +kernel
theorem dX7_cellsAnywhere_9 : decode cX7_cellsAnywhere 9 = .ok (.if_icmp .ge 17, 3) := by decide +kernel
theorem dX7_cellsAnywhere_12 : decode cX7_cellsAnywhere 12 = .ok (.iload_n 1, 1) := by decide +kernel
theorem dX7_cellsAnywhere_13 : decode cX7_cellsAnywhere 13 = .ok (.aload_n 0, 1) := by decide +kernel
theorem dX7_cellsAnywhere_14 : decode cX7_cellsAnywhere 14 = .ok (.iload_n 2, 1) := by decide +kernel
theorem dX7_cellsAnywhere_15 : decode cX7_cellsAnywhere 15 = .ok (.invokevirtual 244, 3) := by decide +kernel
theorem dX7_cellsAnywhere_18 : decode cX7_cellsAnywhere 18 = .ok (.iadd, 1) := by decide +kernel
theorem dX7_cellsAnywhere_19 : decode cX7_cellsAnywhere 19 = .ok (.istore_n 1, 1) := by decide +kernel
theorem dX7_cellsAnywhere_20 : decode cX7_cellsAnywhere 20 = .ok (.iinc 2 1, 3) := by decide +kernel
theorem dX7_cellsAnywhere_23 : decode cX7_cellsAnywhere 23 = .ok (.goto (-19), 3) := by decide +kernel
theorem dX7_cellsAnywhere_26 : decode cX7_cellsAnywhere 26 = .ok (.iload_n 1, 1) := by decide +kernel
theorem dX7_cellsAnywhere_27 : decode cX7_cellsAnywhere 27 = .ok (.ireturn, 1) := by decide +kernel
set_option maxRecDepth 20000 in
theorem ggX7_stuck_X7_isNet : GoodIn wsX7_stuck wsX7_isNet := goodIn_r _ [8, 3, 140, 141, 142, 143, 144, 145, 146, 147, 148, 149, 150, 151, 152, 153, 154, 155, 156, 157, 158, 159, 160] (by decide +kernel) (by decide +kernel)
set_option maxRecDepth 20000 in
theorem gX7_stuck_X7_isNet : GoodIn wsX7_stuck (wsV RX7 136 RX7 yX7_isNet wsX7_isNet) := goodIn_app (goodIn_of _ (by decide +kernel)) ggX7_stuck_X7_isNet
set_option maxRecDepth 20000 in
theorem ggX7_stuck_X7_cellsAnywhere : GoodIn wsX7_stuck wsX7_cellsAnywhere := goodIn_r _ [12, 13, 14, 15, 16, 7, 17, 18, 19, 20, 21, 140, 141, 142, 143, 144, 145, 146, 147, 148, 149, 150, 151, 152, 153, 154, 155, 156, 157, 158, 159, 160] (by decide +kernel) (by decide +kernel)
set_option maxRecDepth 20000 in
theorem gX7_stuck_X7_cellsAnywhere : GoodIn wsX7_stuck (wsV RX7 292 RX7 yX7_cellsAnywhere wsX7_cellsAnywhere) := goodIn_app (goodIn_of _ (by decide +kernel)) ggX7_stuck_X7_cellsAnywhere
set_option maxRecDepth 20000 in
theorem ggX7_stuck_X7_putAside : GoodIn wsX7_stuck wsX7_putAside := goodIn_r _ [25, 26, 18, 140, 141, 142, 143, 144, 145, 146, 147, 148, 149, 150, 151, 152, 153, 154, 155, 156, 157, 158, 159, 160] (by decide +kernel) (by decide +kernel)
set_option maxRecDepth 20000 in
theorem gX7_stuck_X7_putAside : GoodIn wsX7_stuck (wsV RX7 256 RX7 yX7_putAside wsX7_putAside) := goodIn_app (goodIn_of _ (by decide +kernel)) ggX7_stuck_X7_putAside
set_option maxRecDepth 20000 in
theorem ggX7_stuck_X7_deliveredOf : GoodIn wsX7_stuck wsX7_deliveredOf := goodIn_r _ [30, 13, 18, 19, 20, 7, 21, 140, 141, 142, 143, 144, 145, 146, 147, 148, 149, 150, 151, 152, 153, 154, 155, 156, 157, 158, 159, 160] (by decide +kernel) (by decide +kernel)
set_option maxRecDepth 20000 in
theorem gX7_stuck_X7_deliveredOf : GoodIn wsX7_stuck (wsV RX7 265 RX7 yX7_deliveredOf wsX7_deliveredOf) := goodIn_app (goodIn_of _ (by decide +kernel)) ggX7_stuck_X7_deliveredOf
set_option maxRecDepth 20000 in
theorem ggX7_stuck_X7_sentOver : GoodIn wsX7_stuck wsX7_sentOver := goodIn_r _ [34, 13, 18, 35, 36, 7, 37, 140, 141, 142, 143, 144, 145, 146, 147, 148, 149, 150, 151, 152, 153, 154, 155, 156, 157, 158, 159, 160] (by decide +kernel) (by decide +kernel)
set_option maxRecDepth 20000 in
theorem gX7_stuck_X7_sentOver : GoodIn wsX7_stuck (wsV RX7 271 RX7 yX7_sentOver wsX7_sentOver) := goodIn_app (goodIn_of _ (by decide +kernel)) ggX7_stuck_X7_sentOver
set_option maxRecDepth 20000 in
theorem ggX7_stuck_X7_ticks : GoodIn wsX7_stuck wsX7_ticks := goodIn_r _ [41, 3, 13, 42, 18, 43, 44, 45, 7, 46, 47, 48, 49, 50, 51, 52, 35, 36, 37, 53, 54, 55, 56, 57, 58, 59, 60, 61, 62, 63, 64, 65, 66, 67, 68, 69, 70, 71, 72, 73, 74, 75, 19, 20, 21, 76, 77, 78, 79, 80, 81, 82, 83, 84, 85, 86, 87, 88, 89, 90, 91, 92, 93, 94, 95, 96, 97, 98, 99, 100, 101, 102, 103, 104, 105, 106, 107, 108, 109, 110, 111, 112, 113, 114, 115, 116, 117, 118, 119, 120, 121, 122, 123, 124, 125, 126, 127, 128, 129, 130, 131, 132, 133, 134, 135, 140, 141, 142, 143, 144, 145, 146, 147, 148, 149, 150, 151, 152, 153, 154, 155, 156, 157, 158, 159, 160] (by decide +kernel) (by decide +kernel)
set_option maxRecDepth 20000 in
theorem gX7_stuck_X7_ticks : GoodIn wsX7_stuck (wsV RX7 226 RX7 yX7_ticks wsX7_ticks) := goodIn_app (goodIn_of _ (by decide +kernel)) ggX7_stuck_X7_ticks
set_option maxRecDepth 20000 in
theorem ggX7_stuck_X7_bringBack : GoodIn wsX7_stuck wsX7_bringBack := goodIn_r _ [139, 18, 26, 140, 141, 142, 143, 144, 145, 146, 147, 148, 149, 150, 151, 152, 153, 154, 155, 156, 157, 158, 159, 160] (by decide +kernel) (by decide +kernel)
set_option maxRecDepth 20000 in
theorem gX7_stuck_X7_bringBack : GoodIn wsX7_stuck (wsV RX7 262 RX7 yX7_bringBack wsX7_bringBack) := goodIn_app (goodIn_of _ (by decide +kernel)) ggX7_stuck_X7_bringBack
theorem dX7_stuck_0 : decode cX7_stuck 0 = .ok (.aload_n 0, 1) := by decide +kernel
theorem dX7_stuck_1 : decode cX7_stuck 1 = .ok (.iconst 0, 1) := by decide +kernel
theorem dX7_stuck_2 : decode cX7_stuck 2 = .ok (.putfield 49, 3) := by decide +kernel
theorem dX7_stuck_5 : decode cX7_stuck 5 = .ok (.aload_n 0, 1) := by decide +kernel
theorem dX7_stuck_6 : decode cX7_stuck 6 = .ok (.invokevirtual 136, 3) := by decide +kernel
theorem dX7_stuck_9 : decode cX7_stuck 9 = .ok (.ifCond .eq 10, 3) := by decide +kernel
theorem dX7_stuck_12 : decode cX7_stuck 12 = .ok (.aload_n 0, 1) := by decide +kernel
theorem dX7_stuck_13 : decode cX7_stuck 13 = .ok (.invokevirtual 292, 3) := by decide +kernel
theorem dX7_stuck_16 : decode cX7_stuck 16 = .ok (.ifCond .ne 5, 3) := by decide +kernel
theorem dX7_stuck_19 : decode cX7_stuck 19 = .ok (.iconst 0, 1) := by decide +kernel
theorem dX7_stuck_20 : decode cX7_stuck 20 = .ok (.ireturn, 1) := by decide +kernel
theorem dX7_stuck_21 : decode cX7_stuck 21 = .ok (.aload_n 0, 1) := by decide +kernel
theorem dX7_stuck_22 : decode cX7_stuck 22 = .ok (.invokevirtual 256, 3) := by decide +kernel
theorem dX7_stuck_25 : decode cX7_stuck 25 = .ok (.aload_n 0, 1) := by decide +kernel
theorem dX7_stuck_26 : decode cX7_stuck 26 = .ok (.iconst (-1), 1) := by decide +kernel
theorem dX7_stuck_27 : decode cX7_stuck 27 = .ok (.invokevirtual 265, 3) := by decide +kernel
theorem dX7_stuck_30 : decode cX7_stuck 30 = .ok (.istore_n 1, 1) := by decide +kernel
theorem dX7_stuck_31 : decode cX7_stuck 31 = .ok (.iconst 1, 1) := by decide +kernel
theorem dX7_stuck_32 : decode cX7_stuck 32 = .ok (.istore_n 2, 1) := by decide +kernel
theorem dX7_stuck_33 : decode cX7_stuck 33 = .ok (.iconst 0, 1) := by decide +kernel
theorem dX7_stuck_34 : decode cX7_stuck 34 = .ok (.istore_n 3, 1) := by decide +kernel
theorem dX7_stuck_35 : decode cX7_stuck 35 = .ok (.iload_n 3, 1) := by decide +kernel
theorem dX7_stuck_36 : decode cX7_stuck 36 = .ok (.sipush 200, 3) := by decide +kernel
theorem dX7_stuck_39 : decode cX7_stuck 39 = .ok (.if_icmp .ge 113, 3) := by decide +kernel
theorem dX7_stuck_42 : decode cX7_stuck 42 = .ok (.iload_n 2, 1) := by decide +kernel
theorem dX7_stuck_43 : decode cX7_stuck 43 = .ok (.ifCond .eq 109, 3) := by decide +kernel
theorem dX7_stuck_46 : decode cX7_stuck 46 = .ok (.aload_n 0, 1) := by decide +kernel
theorem dX7_stuck_47 : decode cX7_stuck 47 = .ok (.getfield 40, 3) := by decide +kernel
theorem dX7_stuck_50 : decode cX7_stuck 50 = .ok (.astore 4, 2) := by decide +kernel
theorem dX7_stuck_52 : decode cX7_stuck 52 = .ok (.iconst 0, 1) := by decide +kernel
theorem dX7_stuck_53 : decode cX7_stuck 53 = .ok (.istore 5, 2) := by decide +kernel
theorem dX7_stuck_55 : decode cX7_stuck 55 = .ok (.iload 5, 2) := by decide +kernel
theorem dX7_stuck_57 : decode cX7_stuck 57 = .ok (.aload_n 0, 1) := by decide +kernel
theorem dX7_stuck_58 : decode cX7_stuck 58 = .ok (.getfield 124, 3) := by decide +kernel
theorem dX7_stuck_61 : decode cX7_stuck 61 = .ok (.if_icmp .ge 20, 3) := by decide +kernel
theorem dX7_stuck_64 : decode cX7_stuck 64 = .ok (.aload 4, 2) := by decide +kernel
theorem dX7_stuck_66 : decode cX7_stuck 66 = .ok (.iload 5, 2) := by decide +kernel
theorem dX7_stuck_68 : decode cX7_stuck 68 = .ok (.aload_n 0, 1) := by decide +kernel
theorem dX7_stuck_69 : decode cX7_stuck 69 = .ok (.iload 5, 2) := by decide +kernel
theorem dX7_stuck_71 : decode cX7_stuck 71 = .ok (.invokevirtual 271, 3) := by decide +kernel
theorem dX7_stuck_74 : decode cX7_stuck 74 = .ok (.iastore, 1) := by decide +kernel
theorem dX7_stuck_75 : decode cX7_stuck 75 = .ok (.iinc 5 1, 3) := by decide +kernel
theorem dX7_stuck_78 : decode cX7_stuck 78 = .ok (.goto (-23), 3) := by decide +kernel
theorem dX7_stuck_81 : decode cX7_stuck 81 = .ok (.aload_n 0, 1) := by decide +kernel
theorem dX7_stuck_82 : decode cX7_stuck 82 = .ok (.invokevirtual 226, 3) := by decide +kernel
theorem dX7_stuck_85 : decode cX7_stuck 85 = .ok (.iconst 0, 1) := by decide +kernel
theorem dX7_stuck_86 : decode cX7_stuck 86 = .ok (.istore 5, 2) := by decide +kernel
theorem dX7_stuck_88 : decode cX7_stuck 88 = .ok (.iload 5, 2) := by decide +kernel
theorem dX7_stuck_90 : decode cX7_stuck 90 = .ok (.aload_n 0, 1) := by decide +kernel
theorem dX7_stuck_91 : decode cX7_stuck 91 = .ok (.getfield 124, 3) := by decide +kernel
theorem dX7_stuck_94 : decode cX7_stuck 94 = .ok (.if_icmp .ge 33, 3) := by decide +kernel
theorem dX7_stuck_97 : decode cX7_stuck 97 = .ok (.iload_n 2, 1) := by decide +kernel
theorem dX7_stuck_98 : decode cX7_stuck 98 = .ok (.ifCond .eq 21, 3) := by decide +kernel
theorem dX7_stuck_101 : decode cX7_stuck 101 = .ok (.aload_n 0, 1) := by decide +kernel
theorem dX7_stuck_102 : decode cX7_stuck 102 = .ok (.iload 5, 2) := by decide +kernel
theorem dX7_stuck_104 : decode cX7_stuck 104 = .ok (.invokevirtual 271, 3) := by decide +kernel
theorem dX7_stuck_107 : decode cX7_stuck 107 = .ok (.aload 4, 2) := by decide +kernel
theorem dX7_stuck_109 : decode cX7_stuck 109 = .ok (.iload 5, 2) := by decide +kernel
theorem dX7_stuck_111 : decode cX7_stuck 111 = .ok (.iaload, 1) := by decide +kernel
theorem dX7_stuck_112 : decode cX7_stuck 112 = .ok (.if_icmp .ne 7, 3) := by decide +kernel
theorem dX7_stuck_115 : decode cX7_stuck 115 = .ok (.iconst 1, 1) := by decide +kernel
theorem dX7_stuck_116 : decode cX7_stuck 116 = .ok (.goto 4, 3) := by decide +kernel
theorem dX7_stuck_119 : decode cX7_stuck 119 = .ok (.iconst 0, 1) := by decide +kernel
theorem dX7_stuck_120 : decode cX7_stuck 120 = .ok (.istore_n 2, 1) := by decide +kernel
theorem dX7_stuck_121 : decode cX7_stuck 121 = .ok (.iinc 5 1, 3) := by decide +kernel
theorem dX7_stuck_124 : decode cX7_stuck 124 = .ok (.goto (-36), 3) := by decide +kernel
theorem dX7_stuck_127 : decode cX7_stuck 127 = .ok (.iload_n 2, 1) := by decide +kernel
theorem dX7_stuck_128 : decode cX7_stuck 128 = .ok (.ifCond .eq 16, 3) := by decide +kernel
theorem dX7_stuck_131 : decode cX7_stuck 131 = .ok (.aload_n 0, 1) := by decide +kernel
theorem dX7_stuck_132 : decode cX7_stuck 132 = .ok (.iconst (-1), 1) := by decide +kernel
theorem dX7_stuck_133 : decode cX7_stuck 133 = .ok (.invokevirtual 265, 3) := by decide +kernel
theorem dX7_stuck_136 : decode cX7_stuck 136 = .ok (.iload_n 1, 1) := by decide +kernel
theorem dX7_stuck_137 : decode cX7_stuck 137 = .ok (.if_icmp .ne 7, 3) := by decide +kernel
theorem dX7_stuck_140 : decode cX7_stuck 140 = .ok (.iconst 1, 1) := by decide +kernel
theorem dX7_stuck_141 : decode cX7_stuck 141 = .ok (.goto 4, 3) := by decide +kernel
theorem dX7_stuck_144 : decode cX7_stuck 144 = .ok (.iconst 0, 1) := by decide +kernel
theorem dX7_stuck_145 : decode cX7_stuck 145 = .ok (.istore_n 2, 1) := by decide +kernel
theorem dX7_stuck_146 : decode cX7_stuck 146 = .ok (.iinc 3 1, 3) := by decide +kernel
theorem dX7_stuck_149 : decode cX7_stuck 149 = .ok (.goto (-114), 3) := by decide +kernel
theorem dX7_stuck_152 : decode cX7_stuck 152 = .ok (.aload_n 0, 1) := by decide +kernel
theorem dX7_stuck_153 : decode cX7_stuck 153 = .ok (.invokevirtual 262, 3) := by decide +kernel
theorem dX7_stuck_156 : decode cX7_stuck 156 = .ok (.iload_n 2, 1) := by decide +kernel
theorem dX7_stuck_157 : decode cX7_stuck 157 = .ok (.ireturn, 1) := by decide +kernel
set_option maxRecDepth 20000 in
theorem ggX7_deliveredByZone_X7_putAside : GoodIn wsX7_deliveredByZone wsX7_putAside := goodIn_r _ [6, 7, 1, 130, 131, 132, 133, 134, 135, 136, 137, 138, 139, 140, 141, 142, 143, 144, 145, 146, 147, 148, 149, 150] (by decide +kernel) (by decide +kernel)
set_option maxRecDepth 20000 in
theorem gX7_deliveredByZone_X7_putAside : GoodIn wsX7_deliveredByZone (wsV RX7 256 RX7 yX7_putAside wsX7_putAside) := goodIn_app (goodIn_of _ (by decide +kernel)) ggX7_deliveredByZone_X7_putAside
set_option maxRecDepth 20000 in
theorem ggX7_deliveredByZone_X7_lane : GoodIn wsX7_deliveredByZone wsX7_lane := goodIn_r _ [10] (by decide +kernel) (by decide +kernel)
set_option maxRecDepth 20000 in
theorem gX7_deliveredByZone_X7_lane : GoodIn wsX7_deliveredByZone (va_wsS RX7 163 yX7_lane wsX7_lane) := goodIn_app (goodIn_of _ (by decide +kernel)) ggX7_deliveredByZone_X7_lane
set_option maxRecDepth 20000 in
theorem ggX7_deliveredByZone_X7_deliveredIn : GoodIn wsX7_deliveredByZone wsX7_deliveredIn := goodIn_r _ [14, 15, 16, 17, 5, 18, 19, 1, 20, 21, 22, 23, 24, 25, 26, 27, 28, 29, 30, 31, 32, 33, 34, 35, 36, 37, 38, 39, 40, 41, 42, 8, 9, 10, 43, 44, 45, 46, 47, 48, 49, 50, 51, 52, 53, 54, 55, 56, 57, 58, 59, 60, 61, 62, 63, 64, 65, 66, 67, 68, 69, 70, 71, 72, 73, 74, 75, 76, 77, 78, 79, 80, 81, 82, 83, 84, 85, 86, 87, 88, 89, 90, 91, 92, 93, 94, 95, 96, 97, 98, 99, 100, 101, 102, 103, 104, 105, 106, 107, 108, 109, 110, 111, 112, 113, 114, 115, 116, 117, 118, 119, 120, 121, 122, 123, 124, 125, 126, 127, 128, 129, 7, 130, 131, 132, 133, 134, 135, 136, 137, 138, 139, 140, 141, 142, 143, 144, 145, 146, 147, 148, 149, 150] (by decide +kernel) (by decide +kernel)
set_option maxRecDepth 20000 in
theorem gX7_deliveredByZone_X7_deliveredIn : GoodIn wsX7_deliveredByZone (wsV RX7 268 RX7 yX7_deliveredIn wsX7_deliveredIn) := goodIn_app (goodIn_of _ (by decide +kernel)) ggX7_deliveredByZone_X7_deliveredIn
theorem dX7_deliveredByZone_0 : decode cX7_deliveredByZone 0 = .ok (.aload_n 0, 1) := by decide +kernel
theorem dX7_deliveredByZone_1 : decode cX7_deliveredByZone 1 = .ok (.invokevirtual 256, 3) := by decide +kernel
theorem dX7_deliveredByZone_4 : decode cX7_deliveredByZone 4 = .ok (.aload_n 0, 1) := by decide +kernel
theorem dX7_deliveredByZone_5 : decode cX7_deliveredByZone 5 = .ok (.getfield 22, 3) := by decide +kernel
theorem dX7_deliveredByZone_8 : decode cX7_deliveredByZone 8 = .ok (.iload_n 1, 1) := by decide +kernel
theorem dX7_deliveredByZone_9 : decode cX7_deliveredByZone 9 = .ok (.iload_n 2, 1) := by decide +kernel
theorem dX7_deliveredByZone_10 : decode cX7_deliveredByZone 10 = .ok (.invokestatic 163, 3) := by decide +kernel
theorem dX7_deliveredByZone_13 : decode cX7_deliveredByZone 13 = .ok (.iconst 3, 1) := by decide +kernel
theorem dX7_deliveredByZone_14 : decode cX7_deliveredByZone 14 = .ok (.iadd, 1) := by decide +kernel
theorem dX7_deliveredByZone_15 : decode cX7_deliveredByZone 15 = .ok (.iload_n 3, 1) := by decide +kernel
theorem dX7_deliveredByZone_16 : decode cX7_deliveredByZone 16 = .ok (.iastore, 1) := by decide +kernel
theorem dX7_deliveredByZone_17 : decode cX7_deliveredByZone 17 = .ok (.aload_n 0, 1) := by decide +kernel
theorem dX7_deliveredByZone_18 : decode cX7_deliveredByZone 18 = .ok (.iconst (-1), 1) := by decide +kernel
theorem dX7_deliveredByZone_19 : decode cX7_deliveredByZone 19 = .ok (.iload 4, 2) := by decide +kernel
theorem dX7_deliveredByZone_21 : decode cX7_deliveredByZone 21 = .ok (.invokevirtual 268, 3) := by decide +kernel
theorem dX7_deliveredByZone_24 : decode cX7_deliveredByZone 24 = .ok (.ireturn, 1) := by decide +kernel
set_option maxRecDepth 20000 in
theorem ggX7_would_X7_whyZone : GoodIn wsX7_would wsX7_whyZone := goodIn_r _ [6, 7, 8, 9, 10, 11, 5, 12, 13, 14, 15, 16, 17, 18, 19, 20, 21, 22, 23, 24, 25, 26, 27, 28, 29, 30, 31, 32, 33, 34, 35, 36, 37, 38, 39, 40, 41, 42, 43, 44, 45, 46, 47, 48, 157, 158, 159, 160, 161, 162, 163, 164, 165, 166, 167, 168, 169, 170, 171, 172, 173, 174, 175, 176, 177] (by decide +kernel) (by decide +kernel)
set_option maxRecDepth 20000 in
theorem gX7_would_X7_whyZone : GoodIn wsX7_would (wsV RX7 232 RX7 yX7_whyZone wsX7_whyZone) := goodIn_app (goodIn_of _ (by decide +kernel)) ggX7_would_X7_whyZone
set_option maxRecDepth 20000 in
theorem ggX7_would_X7_isSpan : GoodIn wsX7_would wsX7_isSpan := goodIn_r _ [51, 18, 19, 5, 20] (by decide +kernel) (by decide +kernel)
set_option maxRecDepth 20000 in
theorem gX7_would_X7_isSpan : GoodIn wsX7_would (va_wsS RX7 253 yX7_isSpan wsX7_isSpan) := goodIn_app (goodIn_of _ (by decide +kernel)) ggX7_would_X7_isSpan
set_option maxRecDepth 20000 in
theorem ggX7_would_X7_deliveredByZone : GoodIn wsX7_would wsX7_deliveredByZone := goodIn_r _ [55, 8, 56, 57, 58, 5, 59, 60, 31, 32, 33, 61, 62, 63, 64, 65, 66, 67, 68, 25, 69, 70, 71, 72, 73, 74, 75, 76, 77, 78, 79, 17, 7, 80, 81, 82, 83, 84, 85, 86, 87, 88, 89, 46, 47, 48, 90, 91, 92, 93, 94, 95, 96, 97, 98, 99, 100, 101, 102, 103, 104, 30, 105, 106, 107, 108, 109, 110, 111, 112, 38, 39, 40, 41, 113, 114, 115, 116, 117, 118, 119, 120, 121, 122, 123, 124, 125, 126, 127, 128, 42, 43, 44, 45, 129, 130, 131, 132, 133, 134, 135, 136, 137, 138, 139, 140, 141, 142, 143, 144, 145, 146, 147, 148, 149, 150, 151, 152, 26, 27, 28, 29, 34, 35, 36, 37, 153, 154, 155, 156, 157, 158, 159, 160, 161, 162, 163, 164, 165, 166, 167, 168, 169, 170, 171, 172, 173, 174, 175, 176, 177] (by decide +kernel) (by decide +kernel)
set_option maxRecDepth 20000 in
theorem gX7_would_X7_deliveredByZone : GoodIn wsX7_would (wsV RX7 295 RX7 yX7_deliveredByZone wsX7_deliveredByZone) := goodIn_app (goodIn_of _ (by decide +kernel)) ggX7_would_X7_deliveredByZone
theorem dX7_would_0 : decode cX7_would 0 = .ok (.aload_n 0, 1) := by decide +kernel
theorem dX7_would_1 : decode cX7_would 1 = .ok (.iconst 0, 1) := by decide +kernel
theorem dX7_would_2 : decode cX7_would 2 = .ok (.putfield 49, 3) := by decide +kernel
theorem dX7_would_5 : decode cX7_would 5 = .ok (.aload_n 0, 1) := by decide +kernel
theorem dX7_would_6 : decode cX7_would 6 = .ok (.iload_n 1, 1) := by decide +kernel
theorem dX7_would_7 : decode cX7_would 7 = .ok (.iload_n 2, 1) := by decide +kernel
theorem dX7_would_8 : decode cX7_would 8 = .ok (.iload_n 3, 1) := by decide +kernel
theorem dX7_would_9 : decode cX7_would 9 = .ok (.invokevirtual 232, 3) := by decide +kernel
theorem dX7_would_12 : decode cX7_would 12 = .ok (.iconst (-1), 1) := by decide +kernel
theorem dX7_would_13 : decode cX7_would 13 = .ok (.if_icmp .ne 24, 3) := by decide +kernel
theorem dX7_would_16 : decode cX7_would 16 = .ok (.iload 4, 2) := by decide +kernel
theorem dX7_would_18 : decode cX7_would 18 = .ok (.iconst 0, 1) := by decide +kernel
theorem dX7_would_19 : decode cX7_would 19 = .ok (.invokestatic 253, 3) := by decide +kernel
theorem dX7_would_22 : decode cX7_would 22 = .ok (.ifCond .eq 15, 3) := by decide +kernel
theorem dX7_would_25 : decode cX7_would 25 = .ok (.aload_n 0, 1) := by decide +kernel
theorem dX7_would_26 : decode cX7_would 26 = .ok (.iload_n 1, 1) := by decide +kernel
theorem dX7_would_27 : decode cX7_would 27 = .ok (.iload_n 2, 1) := by decide +kernel
theorem dX7_would_28 : decode cX7_would 28 = .ok (.iload_n 3, 1) := by decide +kernel
theorem dX7_would_29 : decode cX7_would 29 = .ok (.iload 4, 2) := by decide +kernel
theorem dX7_would_31 : decode cX7_would 31 = .ok (.invokevirtual 295, 3) := by decide +kernel
theorem dX7_would_34 : decode cX7_would 34 = .ok (.goto 4, 3) := by decide +kernel
theorem dX7_would_37 : decode cX7_would 37 = .ok (.iconst (-1), 1) := by decide +kernel
theorem dX7_would_38 : decode cX7_would 38 = .ok (.ireturn, 1) := by decide +kernel
set_option maxRecDepth 20000 in
theorem ggX7_bestZone_X7_isLane : GoodIn wsX7_bestZone wsX7_isLane := goodIn_r _ [11, 12, 13, 14, 10, 15, 16, 17, 18, 19, 20, 21, 22, 23, 24, 154, 155, 156, 157, 158, 159, 160, 161, 162, 163, 164, 165, 166, 167, 168, 169, 170, 171, 172, 173, 174] (by decide +kernel) (by decide +kernel)
set_option maxRecDepth 20000 in
theorem gX7_bestZone_X7_isLane : GoodIn wsX7_bestZone (wsV RX7 229 RX7 yX7_isLane wsX7_isLane) := goodIn_app (goodIn_of _ (by decide +kernel)) ggX7_bestZone_X7_isLane
set_option maxRecDepth 20000 in
theorem ggX7_bestZone_X7_in : GoodIn wsX7_bestZone wsX7_in := goodIn_r _ [19] (by decide +kernel) (by decide +kernel)
set_option maxRecDepth 20000 in
theorem gX7_bestZone_X7_in : GoodIn wsX7_bestZone (va_wsS RX7 60 yX7_in wsX7_in) := goodIn_app (goodIn_of _ (by decide +kernel)) ggX7_bestZone_X7_in
set_option maxRecDepth 20000 in
theorem ggX7_bestZone_X7_pool : GoodIn wsX7_bestZone wsX7_pool := goodIn_r _ [28, 29, 154, 155, 156, 157, 158, 159, 160, 161, 162, 163, 164, 165, 166, 167, 168, 169, 170, 171, 172, 173, 174] (by decide +kernel) (by decide +kernel)
set_option maxRecDepth 20000 in
theorem gX7_bestZone_X7_pool : GoodIn wsX7_bestZone (wsV RX7 151 RX7 yX7_pool wsX7_pool) := goodIn_app (goodIn_of _ (by decide +kernel)) ggX7_bestZone_X7_pool
set_option maxRecDepth 20000 in
theorem ggX7_bestZone_X7_whyZone : GoodIn wsX7_bestZone wsX7_whyZone := goodIn_r _ [33, 34, 2, 7, 8, 9, 10, 11, 12, 13, 14, 15, 16, 17, 18, 19, 20, 21, 22, 23, 24, 25, 26, 27, 28, 29, 35, 36, 37, 38, 39, 40, 41, 3, 4, 5, 6, 42, 43, 44, 45, 46, 47, 48, 154, 155, 156, 157, 158, 159, 160, 161, 162, 163, 164, 165, 166, 167, 168, 169, 170, 171, 172, 173, 174] (by decide +kernel) (by decide +kernel)
set_option maxRecDepth 20000 in
theorem gX7_bestZone_X7_whyZone : GoodIn wsX7_bestZone (wsV RX7 232 RX7 yX7_whyZone wsX7_whyZone) := goodIn_app (goodIn_of _ (by decide +kernel)) ggX7_bestZone_X7_whyZone
set_option maxRecDepth 20000 in
theorem ggX7_bestZone_X7_lane : GoodIn wsX7_bestZone wsX7_lane := goodIn_r _ [37] (by decide +kernel) (by decide +kernel)
set_option maxRecDepth 20000 in
theorem gX7_bestZone_X7_lane : GoodIn wsX7_bestZone (va_wsS RX7 163 yX7_lane wsX7_lane) := goodIn_app (goodIn_of _ (by decide +kernel)) ggX7_bestZone_X7_lane
set_option maxRecDepth 20000 in
theorem ggX7_bestZone_X7_deliveredByZone : GoodIn wsX7_bestZone wsX7_deliveredByZone := goodIn_r _ [52, 2, 53, 54, 55, 10, 56, 57, 35, 36, 37, 58, 59, 60, 61, 62, 63, 64, 65, 24, 66, 67, 68, 69, 70, 71, 72, 73, 74, 75, 76, 16, 34, 77, 78, 79, 80, 81, 82, 83, 84, 85, 86, 46, 47, 48, 87, 88, 89, 90, 91, 92, 93, 94, 95, 96, 97, 98, 99, 100, 101, 29, 102, 103, 104, 105, 106, 107, 108, 109, 3, 4, 5, 6, 110, 111, 112, 113, 114, 115, 116, 117, 118, 119, 120, 121, 122, 123, 124, 125, 42, 43, 44, 45, 126, 127, 128, 129, 130, 131, 132, 133, 134, 135, 136, 137, 138, 139, 140, 141, 142, 143, 144, 145, 146, 147, 148, 149, 25, 26, 27, 28, 38, 39, 40, 41, 150, 151, 152, 153, 154, 155, 156, 157, 158, 159, 160, 161, 162, 163, 164, 165, 166, 167, 168, 169, 170, 171, 172, 173, 174] (by decide +kernel) (by decide +kernel)
set_option maxRecDepth 20000 in
theorem gX7_bestZone_X7_deliveredByZone : GoodIn wsX7_bestZone (wsV RX7 295 RX7 yX7_deliveredByZone wsX7_deliveredByZone) := goodIn_app (goodIn_of _ (by decide +kernel)) ggX7_bestZone_X7_deliveredByZone
theorem dX7_bestZone_0 : decode cX7_bestZone 0 = .ok (.aload_n 0, 1) := by decide +kernel
theorem dX7_bestZone_1 : decode cX7_bestZone 1 = .ok (.iconst 0, 1) := by decide +kernel
theorem dX7_bestZone_2 : decode cX7_bestZone 2 = .ok (.putfield 49, 3) := by decide +kernel
theorem dX7_bestZone_5 : decode cX7_bestZone 5 = .ok (.aload_n 0, 1) := by decide +kernel
theorem dX7_bestZone_6 : decode cX7_bestZone 6 = .ok (.iload_n 1, 1) := by decide +kernel
theorem dX7_bestZone_7 : decode cX7_bestZone 7 = .ok (.iload_n 2, 1) := by decide +kernel
theorem dX7_bestZone_8 : decode cX7_bestZone 8 = .ok (.invokevirtual 229, 3) := by decide +kernel
theorem dX7_bestZone_11 : decode cX7_bestZone 11 = .ok (.ifCond .eq 13, 3) := by decide +kernel
theorem dX7_bestZone_14 : decode cX7_bestZone 14 = .ok (.iload_n 3, 1) := by decide +kernel
theorem dX7_bestZone_15 : decode cX7_bestZone 15 = .ok (.iconst 1, 1) := by decide +kernel
theorem dX7_bestZone_16 : decode cX7_bestZone 16 = .ok (.bipush 60, 2) := by decide +kernel
theorem dX7_bestZone_18 : decode cX7_bestZone 18 = .ok (.invokestatic 60, 3) := by decide +kernel
theorem dX7_bestZone_21 : decode cX7_bestZone 21 = .ok (.ifCond .ne 5, 3) := by decide +kernel
theorem dX7_bestZone_24 : decode cX7_bestZone 24 = .ok (.iconst (-1), 1) := by decide +kernel
theorem dX7_bestZone_25 : decode cX7_bestZone 25 = .ok (.ireturn, 1) := by decide +kernel
theorem dX7_bestZone_26 : decode cX7_bestZone 26 = .ok (.iconst (-1), 1) := by decide +kernel
theorem dX7_bestZone_27 : decode cX7_bestZone 27 = .ok (.istore 4, 2) := by decide +kernel
theorem dX7_bestZone_29 : decode cX7_bestZone 29 = .ok (.iconst (-1), 1) := by decide +kernel
theorem dX7_bestZone_30 : decode cX7_bestZone 30 = .ok (.istore 5, 2) := by decide +kernel
theorem dX7_bestZone_32 : decode cX7_bestZone 32 = .ok (.iconst 0, 1) := by decide +kernel
theorem dX7_bestZone_33 : decode cX7_bestZone 33 = .ok (.istore 6, 2) := by decide +kernel
theorem dX7_bestZone_35 : decode cX7_bestZone 35 = .ok (.iload 6, 2) := by decide +kernel
theorem dX7_bestZone_37 : decode cX7_bestZone 37 = .ok (.aload_n 0, 1) := by decide +kernel
theorem dX7_bestZone_38 : decode cX7_bestZone 38 = .ok (.iload_n 1, 1) := by decide +kernel
theorem dX7_bestZone_39 : decode cX7_bestZone 39 = .ok (.invokevirtual 151, 3) := by decide +kernel
theorem dX7_bestZone_42 : decode cX7_bestZone 42 = .ok (.if_icmp .gt 94, 3) := by decide +kernel
theorem dX7_bestZone_45 : decode cX7_bestZone 45 = .ok (.aload_n 0, 1) := by decide +kernel
theorem dX7_bestZone_46 : decode cX7_bestZone 46 = .ok (.iload_n 1, 1) := by decide +kernel
theorem dX7_bestZone_47 : decode cX7_bestZone 47 = .ok (.iload_n 2, 1) := by decide +kernel
theorem dX7_bestZone_48 : decode cX7_bestZone 48 = .ok (.iload 6, 2) := by decide +kernel
theorem dX7_bestZone_50 : decode cX7_bestZone 50 = .ok (.invokevirtual 232, 3) := by decide +kernel
theorem dX7_bestZone_53 : decode cX7_bestZone 53 = .ok (.istore 7, 2) := by decide +kernel
theorem dX7_bestZone_55 : decode cX7_bestZone 55 = .ok (.iload 7, 2) := by decide +kernel
theorem dX7_bestZone_57 : decode cX7_bestZone 57 = .ok (.iconst (-1), 1) := by decide +kernel
theorem dX7_bestZone_58 : decode cX7_bestZone 58 = .ok (.if_icmp .eq 20, 3) := by decide +kernel
theorem dX7_bestZone_61 : decode cX7_bestZone 61 = .ok (.iload 6, 2) := by decide +kernel
theorem dX7_bestZone_63 : decode cX7_bestZone 63 = .ok (.aload_n 0, 1) := by decide +kernel
theorem dX7_bestZone_64 : decode cX7_bestZone 64 = .ok (.getfield 22, 3) := by decide +kernel
theorem dX7_bestZone_67 : decode cX7_bestZone 67 = .ok (.iload_n 1, 1) := by decide +kernel
theorem dX7_bestZone_68 : decode cX7_bestZone 68 = .ok (.iload_n 2, 1) := by decide +kernel
theorem dX7_bestZone_69 : decode cX7_bestZone 69 = .ok (.invokestatic 163, 3) := by decide +kernel
theorem dX7_bestZone_72 : decode cX7_bestZone 72 = .ok (.iconst 3, 1) := by decide +kernel
theorem dX7_bestZone_73 : decode cX7_bestZone 73 = .ok (.iadd, 1) := by decide +kernel
theorem dX7_bestZone_74 : decode cX7_bestZone 74 = .ok (.iaload, 1) := by decide +kernel
theorem dX7_bestZone_75 : decode cX7_bestZone 75 = .ok (.if_icmp .ne 7, 3) := by decide +kernel
theorem dX7_bestZone_78 : decode cX7_bestZone 78 = .ok (.iconst 1, 1) := by decide +kernel
theorem dX7_bestZone_79 : decode cX7_bestZone 79 = .ok (.goto 4, 3) := by decide +kernel
theorem dX7_bestZone_82 : decode cX7_bestZone 82 = .ok (.iconst 0, 1) := by decide +kernel
theorem dX7_bestZone_83 : decode cX7_bestZone 83 = .ok (.istore 8, 2) := by decide +kernel
theorem dX7_bestZone_85 : decode cX7_bestZone 85 = .ok (.iload 8, 2) := by decide +kernel
theorem dX7_bestZone_87 : decode cX7_bestZone 87 = .ok (.ifCond .eq 15, 3) := by decide +kernel
theorem dX7_bestZone_90 : decode cX7_bestZone 90 = .ok (.aload_n 0, 1) := by decide +kernel
theorem dX7_bestZone_91 : decode cX7_bestZone 91 = .ok (.iload_n 1, 1) := by decide +kernel
theorem dX7_bestZone_92 : decode cX7_bestZone 92 = .ok (.iload_n 2, 1) := by decide +kernel
theorem dX7_bestZone_93 : decode cX7_bestZone 93 = .ok (.iload 6, 2) := by decide +kernel
theorem dX7_bestZone_95 : decode cX7_bestZone 95 = .ok (.iload_n 3, 1) := by decide +kernel
theorem dX7_bestZone_96 : decode cX7_bestZone 96 = .ok (.invokevirtual 295, 3) := by decide +kernel
theorem dX7_bestZone_99 : decode cX7_bestZone 99 = .ok (.goto 4, 3) := by decide +kernel
theorem dX7_bestZone_102 : decode cX7_bestZone 102 = .ok (.iconst (-1), 1) := by decide +kernel
theorem dX7_bestZone_103 : decode cX7_bestZone 103 = .ok (.istore 9, 2) := by decide +kernel
theorem dX7_bestZone_105 : decode cX7_bestZone 105 = .ok (.iload 9, 2) := by decide +kernel
theorem dX7_bestZone_107 : decode cX7_bestZone 107 = .ok (.iload 5, 2) := by decide +kernel
theorem dX7_bestZone_109 : decode cX7_bestZone 109 = .ok (.if_icmp .le 8, 3) := by decide +kernel
theorem dX7_bestZone_112 : decode cX7_bestZone 112 = .ok (.iload 6, 2) := by decide +kernel
theorem dX7_bestZone_114 : decode cX7_bestZone 114 = .ok (.goto 5, 3) := by decide +kernel
theorem dX7_bestZone_117 : decode cX7_bestZone 117 = .ok (.iload 4, 2) := by decide +kernel
theorem dX7_bestZone_119 : decode cX7_bestZone 119 = .ok (.istore 4, 2) := by decide +kernel
theorem dX7_bestZone_121 : decode cX7_bestZone 121 = .ok (.iload 5, 2) := by decide +kernel
theorem dX7_bestZone_123 : decode cX7_bestZone 123 = .ok (.iload 9, 2) := by decide +kernel
theorem dX7_bestZone_125 : decode cX7_bestZone 125 = .ok (.invokestatic 154, 3) := by decide +kernel
theorem dX7_bestZone_128 : decode cX7_bestZone 128 = .ok (.istore 5, 2) := by decide +kernel
theorem dX7_bestZone_130 : decode cX7_bestZone 130 = .ok (.iinc 6 1, 3) := by decide +kernel
theorem dX7_bestZone_133 : decode cX7_bestZone 133 = .ok (.goto (-98), 3) := by decide +kernel
theorem dX7_bestZone_136 : decode cX7_bestZone 136 = .ok (.iload 4, 2) := by decide +kernel
theorem dX7_bestZone_138 : decode cX7_bestZone 138 = .ok (.ireturn, 1) := by decide +kernel
set_option maxRecDepth 20000 in
theorem ggX7_waitsOf_X7_putAside : GoodIn wsX7_waitsOf wsX7_putAside := goodIn_r _ [5, 6, 7, 118, 119, 120, 121, 122, 123, 124, 125, 126, 127, 128, 129, 130, 131, 132, 133, 134, 135, 136, 137, 138] (by decide +kernel) (by decide +kernel)
set_option maxRecDepth 20000 in
theorem gX7_waitsOf_X7_putAside : GoodIn wsX7_waitsOf (wsV RX7 256 RX7 yX7_putAside wsX7_putAside) := goodIn_app (goodIn_of _ (by decide +kernel)) ggX7_waitsOf_X7_putAside
set_option maxRecDepth 20000 in
theorem ggX7_waitsOf_X7_ticks : GoodIn wsX7_waitsOf wsX7_ticks := goodIn_r _ [11, 12, 13, 14, 7, 15, 16, 17, 4, 18, 19, 20, 21, 22, 23, 24, 25, 26, 27, 28, 29, 30, 31, 32, 33, 34, 35, 36, 37, 38, 39, 40, 41, 42, 43, 44, 45, 46, 47, 48, 49, 50, 51, 52, 53, 54, 55, 56, 57, 58, 59, 60, 61, 62, 63, 64, 65, 66, 67, 68, 69, 70, 71, 72, 73, 74, 75, 76, 77, 78, 79, 80, 81, 82, 83, 84, 85, 86, 87, 88, 89, 90, 91, 92, 93, 94, 95, 96, 97, 98, 99, 100, 101, 102, 103, 104, 105, 106, 107, 108, 109, 110, 111, 112, 113, 118, 119, 120, 121, 122, 123, 124, 125, 126, 127, 128, 129, 130, 131, 132, 133, 134, 135, 136, 137, 138] (by decide +kernel) (by decide +kernel)
set_option maxRecDepth 20000 in
theorem gX7_waitsOf_X7_ticks : GoodIn wsX7_waitsOf (wsV RX7 226 RX7 yX7_ticks wsX7_ticks) := goodIn_app (goodIn_of _ (by decide +kernel)) ggX7_waitsOf_X7_ticks
set_option maxRecDepth 20000 in
theorem ggX7_waitsOf_X7_isHeld : GoodIn wsX7_waitsOf wsX7_isHeld := goodIn_r _ [89, 7, 22, 23, 4, 24, 74, 75, 76, 77, 58, 59, 60, 61, 25, 26, 27, 78, 79, 80, 81, 28, 29, 30, 118, 119, 120, 121, 122, 123, 124, 125, 126, 127, 128, 129, 130, 131, 132, 133, 134, 135, 136, 137, 138] (by decide +kernel) (by decide +kernel)
set_option maxRecDepth 20000 in
theorem gX7_waitsOf_X7_isHeld : GoodIn wsX7_waitsOf (wsV RX7 196 RX7 yX7_isHeld wsX7_isHeld) := goodIn_app (goodIn_of _ (by decide +kernel)) ggX7_waitsOf_X7_isHeld
set_option maxRecDepth 20000 in
theorem ggX7_waitsOf_X7_bringBack : GoodIn wsX7_waitsOf wsX7_bringBack := goodIn_r _ [117, 7, 6, 118, 119, 120, 121, 122, 123, 124, 125, 126, 127, 128, 129, 130, 131, 132, 133, 134, 135, 136, 137, 138] (by decide +kernel) (by decide +kernel)
set_option maxRecDepth 20000 in
theorem gX7_waitsOf_X7_bringBack : GoodIn wsX7_waitsOf (wsV RX7 262 RX7 yX7_bringBack wsX7_bringBack) := goodIn_app (goodIn_of _ (by decide +kernel)) ggX7_waitsOf_X7_bringBack
theorem dX7_waitsOf_0 : decode cX7_waitsOf 0 = .ok (.aload_n 0, 1) := by decide +kernel
theorem dX7_waitsOf_1 : decode cX7_waitsOf 1 = .ok (.invokevirtual 256, 3) := by decide +kernel
theorem dX7_waitsOf_4 : decode cX7_waitsOf 4 = .ok (.iconst 0, 1) := by decide +kernel
theorem dX7_waitsOf_5 : decode cX7_waitsOf 5 = .ok (.istore 4, 2) := by decide +kernel
theorem dX7_waitsOf_7 : decode cX7_waitsOf 7 = .ok (.iconst 0, 1) := by decide +kernel
theorem dX7_waitsOf_8 : decode cX7_waitsOf 8 = .ok (.istore 5, 2) := by decide +kernel
theorem dX7_waitsOf_10 : decode cX7_waitsOf 10 = .ok (.iload 5, 2) := by decide +kernel
theorem dX7_waitsOf_12 : decode cX7_waitsOf 12 = .ok (.iload_n 3, 1) := by decide +kernel
theorem dX7_waitsOf_13 : decode cX7_waitsOf 13 = .ok (.if_icmp .ge 32, 3) := by decide +kernel
theorem dX7_waitsOf_16 : decode cX7_waitsOf 16 = .ok (.aload_n 0, 1) := by decide +kernel
theorem dX7_waitsOf_17 : decode cX7_waitsOf 17 = .ok (.invokevirtual 226, 3) := by decide +kernel
theorem dX7_waitsOf_20 : decode cX7_waitsOf 20 = .ok (.iload 4, 2) := by decide +kernel
theorem dX7_waitsOf_22 : decode cX7_waitsOf 22 = .ok (.aload_n 0, 1) := by decide +kernel
theorem dX7_waitsOf_23 : decode cX7_waitsOf 23 = .ok (.iload_n 1, 1) := by decide +kernel
theorem dX7_waitsOf_24 : decode cX7_waitsOf 24 = .ok (.iload_n 2, 1) := by decide +kernel
theorem dX7_waitsOf_25 : decode cX7_waitsOf 25 = .ok (.invokevirtual 196, 3) := by decide +kernel
theorem dX7_waitsOf_28 : decode cX7_waitsOf 28 = .ok (.ifCond .eq 7, 3) := by decide +kernel
theorem dX7_waitsOf_31 : decode cX7_waitsOf 31 = .ok (.iconst 1, 1) := by decide +kernel
theorem dX7_waitsOf_32 : decode cX7_waitsOf 32 = .ok (.goto 4, 3) := by decide +kernel
theorem dX7_waitsOf_35 : decode cX7_waitsOf 35 = .ok (.iconst 0, 1) := by decide +kernel
theorem dX7_waitsOf_36 : decode cX7_waitsOf 36 = .ok (.iadd, 1) := by decide +kernel
theorem dX7_waitsOf_37 : decode cX7_waitsOf 37 = .ok (.istore 4, 2) := by decide +kernel
theorem dX7_waitsOf_39 : decode cX7_waitsOf 39 = .ok (.iinc 5 1, 3) := by decide +kernel
theorem dX7_waitsOf_42 : decode cX7_waitsOf 42 = .ok (.goto (-32), 3) := by decide +kernel
theorem dX7_waitsOf_45 : decode cX7_waitsOf 45 = .ok (.aload_n 0, 1) := by decide +kernel
theorem dX7_waitsOf_46 : decode cX7_waitsOf 46 = .ok (.invokevirtual 262, 3) := by decide +kernel
theorem dX7_waitsOf_49 : decode cX7_waitsOf 49 = .ok (.iload 4, 2) := by decide +kernel
theorem dX7_waitsOf_51 : decode cX7_waitsOf 51 = .ok (.ireturn, 1) := by decide +kernel
set_option maxRecDepth 20000 in
theorem ggX7_waits__X7_isLane : GoodIn wsX7_waits_ wsX7_isLane := goodIn_r _ [6, 7, 8, 9, 5, 10, 11, 12, 13, 14, 15, 16, 17, 18, 19, 141, 142, 143, 144, 145, 146, 147, 148, 149, 150, 151, 152, 153, 154, 155, 156, 157, 158, 159, 160, 161] (by decide +kernel) (by decide +kernel)
set_option maxRecDepth 20000 in
theorem gX7_waits__X7_isLane : GoodIn wsX7_waits_ (wsV RX7 229 RX7 yX7_isLane wsX7_isLane) := goodIn_app (goodIn_of _ (by decide +kernel)) ggX7_waits__X7_isLane
set_option maxRecDepth 20000 in
theorem ggX7_waits__X7_isSpan : GoodIn wsX7_waits_ wsX7_isSpan := goodIn_r _ [22, 12, 13, 5, 14] (by decide +kernel) (by decide +kernel)
set_option maxRecDepth 20000 in
theorem gX7_waits__X7_isSpan : GoodIn wsX7_waits_ (va_wsS RX7 253 yX7_isSpan wsX7_isSpan) := goodIn_app (goodIn_of _ (by decide +kernel)) ggX7_waits__X7_isSpan
set_option maxRecDepth 20000 in
theorem ggX7_waits__X7_waitsOf : GoodIn wsX7_waits_ wsX7_waitsOf := goodIn_r _ [26, 27, 28, 29, 5, 30, 31, 32, 33, 34, 35, 36, 11, 19, 37, 38, 39, 40, 41, 42, 43, 44, 45, 46, 47, 48, 49, 50, 51, 52, 53, 54, 55, 56, 57, 58, 59, 60, 61, 62, 63, 64, 65, 66, 67, 68, 69, 70, 71, 72, 73, 74, 75, 76, 77, 78, 79, 80, 81, 82, 83, 84, 85, 86, 87, 88, 89, 90, 91, 92, 93, 94, 95, 96, 97, 98, 99, 100, 101, 102, 103, 104, 105, 106, 107, 108, 109, 110, 111, 112, 113, 114, 115, 116, 117, 118, 119, 120, 121, 122, 123, 124, 125, 126, 127, 128, 129, 130, 131, 132, 133, 134, 135, 136, 137, 138, 139, 140, 141, 142, 143, 144, 145, 146, 147, 148, 149, 150, 151, 152, 153, 154, 155, 156, 157, 158, 159, 160, 161] (by decide +kernel) (by decide +kernel)
set_option maxRecDepth 20000 in
theorem gX7_waits__X7_waitsOf : GoodIn wsX7_waits_ (wsV RX7 299 RX7 yX7_waitsOf wsX7_waitsOf) := goodIn_app (goodIn_of _ (by decide +kernel)) ggX7_waits__X7_waitsOf
theorem dX7_waits__0 : decode cX7_waits_ 0 = .ok (.aload_n 0, 1) := by decide +kernel
theorem dX7_waits__1 : decode cX7_waits_ 1 = .ok (.iconst 0, 1) := by decide +kernel
theorem dX7_waits__2 : decode cX7_waits_ 2 = .ok (.putfield 49, 3) := by decide +kernel
theorem dX7_waits__5 : decode cX7_waits_ 5 = .ok (.aload_n 0, 1) := by decide +kernel
theorem dX7_waits__6 : decode cX7_waits_ 6 = .ok (.iload_n 1, 1) := by decide +kernel
theorem dX7_waits__7 : decode cX7_waits_ 7 = .ok (.iload_n 2, 1) := by decide +kernel
theorem dX7_waits__8 : decode cX7_waits_ 8 = .ok (.invokevirtual 229, 3) := by decide +kernel
theorem dX7_waits__11 : decode cX7_waits_ 11 = .ok (.ifCond .eq 21, 3) := by decide +kernel
theorem dX7_waits__14 : decode cX7_waits_ 14 = .ok (.iload_n 3, 1) := by decide +kernel
theorem dX7_waits__15 : decode cX7_waits_ 15 = .ok (.iconst 1, 1) := by decide +kernel
theorem dX7_waits__16 : decode cX7_waits_ 16 = .ok (.invokestatic 253, 3) := by decide +kernel
theorem dX7_waits__19 : decode cX7_waits_ 19 = .ok (.ifCond .eq 13, 3) := by decide +kernel
theorem dX7_waits__22 : decode cX7_waits_ 22 = .ok (.aload_n 0, 1) := by decide +kernel
theorem dX7_waits__23 : decode cX7_waits_ 23 = .ok (.iload_n 1, 1) := by decide +kernel
theorem dX7_waits__24 : decode cX7_waits_ 24 = .ok (.iload_n 2, 1) := by decide +kernel
theorem dX7_waits__25 : decode cX7_waits_ 25 = .ok (.iload_n 3, 1) := by decide +kernel
theorem dX7_waits__26 : decode cX7_waits_ 26 = .ok (.invokevirtual 299, 3) := by decide +kernel
theorem dX7_waits__29 : decode cX7_waits_ 29 = .ok (.goto 4, 3) := by decide +kernel
theorem dX7_waits__32 : decode cX7_waits_ 32 = .ok (.iconst (-1), 1) := by decide +kernel
theorem dX7_waits__33 : decode cX7_waits_ 33 = .ok (.ireturn, 1) := by decide +kernel
set_option maxRecDepth 20000 in
theorem ggX7_worst_X7_isCircuit : GoodIn wsX7_worst wsX7_isCircuit := goodIn_r _ [11, 12, 13, 14, 10, 15, 133, 134, 135, 136, 137, 138, 139, 140, 141, 142, 143, 144, 145, 146, 147, 148, 149, 150, 151, 152, 153] (by decide +kernel) (by decide +kernel)
set_option maxRecDepth 20000 in
theorem gX7_worst_X7_isCircuit : GoodIn wsX7_worst (wsV RX7 133 RX7 yX7_isCircuit wsX7_isCircuit) := goodIn_app (goodIn_of _ (by decide +kernel)) ggX7_worst_X7_isCircuit
set_option maxRecDepth 20000 in
theorem ggX7_worst_X7_isSpan : GoodIn wsX7_worst wsX7_isSpan := goodIn_r _ [18, 13, 14, 10, 15] (by decide +kernel) (by decide +kernel)
set_option maxRecDepth 20000 in
theorem gX7_worst_X7_isSpan : GoodIn wsX7_worst (va_wsS RX7 253 yX7_isSpan wsX7_isSpan) := goodIn_app (goodIn_of _ (by decide +kernel)) ggX7_worst_X7_isSpan
set_option maxRecDepth 20000 in
theorem ggX7_worst_X7_waitsOf : GoodIn wsX7_worst wsX7_waitsOf := goodIn_r _ [22, 23, 24, 25, 10, 26, 27, 28, 29, 30, 31, 32, 2, 12, 33, 34, 35, 36, 37, 38, 39, 40, 41, 42, 43, 44, 45, 46, 47, 48, 49, 50, 51, 52, 53, 54, 55, 56, 57, 58, 59, 60, 61, 62, 63, 64, 65, 66, 67, 68, 69, 70, 71, 72, 73, 74, 75, 76, 3, 4, 5, 6, 77, 78, 79, 80, 81, 82, 83, 84, 85, 86, 87, 88, 89, 90, 91, 92, 93, 94, 95, 96, 97, 98, 99, 100, 101, 102, 103, 104, 105, 106, 107, 108, 109, 110, 111, 112, 113, 114, 115, 116, 117, 118, 119, 120, 121, 122, 123, 124, 125, 126, 127, 128, 129, 130, 131, 132, 133, 134, 135, 136, 137, 138, 139, 140, 141, 142, 143, 144, 145, 146, 147, 148, 149, 150, 151, 152, 153] (by decide +kernel) (by decide +kernel)
set_option maxRecDepth 20000 in
theorem gX7_worst_X7_waitsOf : GoodIn wsX7_worst (wsV RX7 299 RX7 yX7_waitsOf wsX7_waitsOf) := goodIn_app (goodIn_of _ (by decide +kernel)) ggX7_worst_X7_waitsOf
theorem dX7_worst_0 : decode cX7_worst 0 = .ok (.aload_n 0, 1) := by decide +kernel
theorem dX7_worst_1 : decode cX7_worst 1 = .ok (.iconst 0, 1) := by decide +kernel
theorem dX7_worst_2 : decode cX7_worst 2 = .ok (.putfield 49, 3) := by decide +kernel
theorem dX7_worst_5 : decode cX7_worst 5 = .ok (.aload_n 0, 1) := by decide +kernel
theorem dX7_worst_6 : decode cX7_worst 6 = .ok (.iload_n 1, 1) := by decide +kernel
theorem dX7_worst_7 : decode cX7_worst 7 = .ok (.invokevirtual 133, 3) := by decide +kernel
theorem dX7_worst_10 : decode cX7_worst 10 = .ok (.ifCond .eq 11, 3) := by decide +kernel
theorem dX7_worst_13 : decode cX7_worst 13 = .ok (.iload_n 2, 1) := by decide +kernel
theorem dX7_worst_14 : decode cX7_worst 14 = .ok (.iconst 1, 1) := by decide +kernel
theorem dX7_worst_15 : decode cX7_worst 15 = .ok (.invokestatic 253, 3) := by decide +kernel
theorem dX7_worst_18 : decode cX7_worst 18 = .ok (.ifCond .ne 5, 3) := by decide +kernel
theorem dX7_worst_21 : decode cX7_worst 21 = .ok (.iconst (-1), 1) := by decide +kernel
theorem dX7_worst_22 : decode cX7_worst 22 = .ok (.ireturn, 1) := by decide +kernel
theorem dX7_worst_23 : decode cX7_worst 23 = .ok (.iconst (-1), 1) := by decide +kernel
theorem dX7_worst_24 : decode cX7_worst 24 = .ok (.istore_n 3, 1) := by decide +kernel
theorem dX7_worst_25 : decode cX7_worst 25 = .ok (.iconst 0, 1) := by decide +kernel
theorem dX7_worst_26 : decode cX7_worst 26 = .ok (.istore 4, 2) := by decide +kernel
theorem dX7_worst_28 : decode cX7_worst 28 = .ok (.iconst 0, 1) := by decide +kernel
theorem dX7_worst_29 : decode cX7_worst 29 = .ok (.istore 5, 2) := by decide +kernel
theorem dX7_worst_31 : decode cX7_worst 31 = .ok (.iload 5, 2) := by decide +kernel
theorem dX7_worst_33 : decode cX7_worst 33 = .ok (.aload_n 0, 1) := by decide +kernel
theorem dX7_worst_34 : decode cX7_worst 34 = .ok (.getfield 124, 3) := by decide +kernel
theorem dX7_worst_37 : decode cX7_worst 37 = .ok (.if_icmp .ge 42, 3) := by decide +kernel
theorem dX7_worst_40 : decode cX7_worst 40 = .ok (.aload_n 0, 1) := by decide +kernel
theorem dX7_worst_41 : decode cX7_worst 41 = .ok (.iload 5, 2) := by decide +kernel
theorem dX7_worst_43 : decode cX7_worst 43 = .ok (.iload_n 1, 1) := by decide +kernel
theorem dX7_worst_44 : decode cX7_worst 44 = .ok (.iload_n 2, 1) := by decide +kernel
theorem dX7_worst_45 : decode cX7_worst 45 = .ok (.invokevirtual 299, 3) := by decide +kernel
theorem dX7_worst_48 : decode cX7_worst 48 = .ok (.istore 6, 2) := by decide +kernel
theorem dX7_worst_50 : decode cX7_worst 50 = .ok (.iload 6, 2) := by decide +kernel
theorem dX7_worst_52 : decode cX7_worst 52 = .ok (.iload 4, 2) := by decide +kernel
theorem dX7_worst_54 : decode cX7_worst 54 = .ok (.if_icmp .le 8, 3) := by decide +kernel
theorem dX7_worst_57 : decode cX7_worst 57 = .ok (.iload 5, 2) := by decide +kernel
theorem dX7_worst_59 : decode cX7_worst 59 = .ok (.goto 4, 3) := by decide +kernel
theorem dX7_worst_62 : decode cX7_worst 62 = .ok (.iload_n 3, 1) := by decide +kernel
theorem dX7_worst_63 : decode cX7_worst 63 = .ok (.istore_n 3, 1) := by decide +kernel
theorem dX7_worst_64 : decode cX7_worst 64 = .ok (.iload 4, 2) := by decide +kernel
theorem dX7_worst_66 : decode cX7_worst 66 = .ok (.iload 6, 2) := by decide +kernel
theorem dX7_worst_68 : decode cX7_worst 68 = .ok (.invokestatic 154, 3) := by decide +kernel
theorem dX7_worst_71 : decode cX7_worst 71 = .ok (.istore 4, 2) := by decide +kernel
theorem dX7_worst_73 : decode cX7_worst 73 = .ok (.iinc 5 1, 3) := by decide +kernel
theorem dX7_worst_76 : decode cX7_worst 76 = .ok (.goto (-45), 3) := by decide +kernel
theorem dX7_worst_79 : decode cX7_worst 79 = .ok (.iload_n 3, 1) := by decide +kernel
theorem dX7_worst_80 : decode cX7_worst 80 = .ok (.ireturn, 1) := by decide +kernel
theorem dX7_aloneSent_0 : decode cX7_aloneSent 0 = .ok (.iconst 0, 1) := by decide +kernel
theorem dX7_aloneSent_1 : decode cX7_aloneSent 1 = .ok (.istore 6, 2) := by decide +kernel
theorem dX7_aloneSent_3 : decode cX7_aloneSent 3 = .ok (.iload 6, 2) := by decide +kernel
theorem dX7_aloneSent_5 : decode cX7_aloneSent 5 = .ok (.bipush 8, 2) := by decide +kernel
theorem dX7_aloneSent_7 : decode cX7_aloneSent 7 = .ok (.if_icmp .ge 25, 3) := by decide +kernel
theorem dX7_aloneSent_10 : decode cX7_aloneSent 10 = .ok (.aload_n 0, 1) := by decide +kernel
theorem dX7_aloneSent_11 : decode cX7_aloneSent 11 = .ok (.getfield 43, 3) := by decide +kernel
theorem dX7_aloneSent_14 : decode cX7_aloneSent 14 = .ok (.iload 6, 2) := by decide +kernel
theorem dX7_aloneSent_16 : decode cX7_aloneSent 16 = .ok (.iconst 0, 1) := by decide +kernel
theorem dX7_aloneSent_17 : decode cX7_aloneSent 17 = .ok (.iastore, 1) := by decide +kernel
theorem dX7_aloneSent_18 : decode cX7_aloneSent 18 = .ok (.aload_n 0, 1) := by decide +kernel
theorem dX7_aloneSent_19 : decode cX7_aloneSent 19 = .ok (.getfield 46, 3) := by decide +kernel
theorem dX7_aloneSent_22 : decode cX7_aloneSent 22 = .ok (.iload 6, 2) := by decide +kernel
theorem dX7_aloneSent_24 : decode cX7_aloneSent 24 = .ok (.iconst (-1), 1) := by decide +kernel
theorem dX7_aloneSent_25 : decode cX7_aloneSent 25 = .ok (.iastore, 1) := by decide +kernel
theorem dX7_aloneSent_26 : decode cX7_aloneSent 26 = .ok (.iinc 6 1, 3) := by decide +kernel
theorem dX7_aloneSent_29 : decode cX7_aloneSent 29 = .ok (.goto (-26), 3) := by decide +kernel
theorem dX7_aloneSent_32 : decode cX7_aloneSent 32 = .ok (.iconst 0, 1) := by decide +kernel
theorem dX7_aloneSent_33 : decode cX7_aloneSent 33 = .ok (.istore 6, 2) := by decide +kernel
theorem dX7_aloneSent_35 : decode cX7_aloneSent 35 = .ok (.iconst 0, 1) := by decide +kernel
theorem dX7_aloneSent_36 : decode cX7_aloneSent 36 = .ok (.istore 7, 2) := by decide +kernel
theorem dX7_aloneSent_38 : decode cX7_aloneSent 38 = .ok (.iconst 0, 1) := by decide +kernel
theorem dX7_aloneSent_39 : decode cX7_aloneSent 39 = .ok (.istore 8, 2) := by decide +kernel
theorem dX7_aloneSent_41 : decode cX7_aloneSent 41 = .ok (.iconst 0, 1) := by decide +kernel
theorem dX7_aloneSent_42 : decode cX7_aloneSent 42 = .ok (.istore 9, 2) := by decide +kernel
theorem dX7_aloneSent_44 : decode cX7_aloneSent 44 = .ok (.iconst 0, 1) := by decide +kernel
theorem dX7_aloneSent_45 : decode cX7_aloneSent 45 = .ok (.istore 10, 2) := by decide +kernel
theorem dX7_aloneSent_47 : decode cX7_aloneSent 47 = .ok (.iload 10, 2) := by decide +kernel
theorem dX7_aloneSent_49 : decode cX7_aloneSent 49 = .ok (.iload 5, 2) := by decide +kernel
theorem dX7_aloneSent_51 : decode cX7_aloneSent 51 = .ok (.if_icmp .ge 137, 3) := by decide +kernel
theorem dX7_aloneSent_54 : decode cX7_aloneSent 54 = .ok (.iload 10, 2) := by decide +kernel
theorem dX7_aloneSent_56 : decode cX7_aloneSent 56 = .ok (.bipush 8, 2) := by decide +kernel
theorem dX7_aloneSent_58 : decode cX7_aloneSent 58 = .ok (.irem, 1) := by decide +kernel
theorem dX7_aloneSent_59 : decode cX7_aloneSent 59 = .ok (.istore 11, 2) := by decide +kernel
theorem dX7_aloneSent_61 : decode cX7_aloneSent 61 = .ok (.iload 9, 2) := by decide +kernel
theorem dX7_aloneSent_63 : decode cX7_aloneSent 63 = .ok (.aload_n 0, 1) := by decide +kernel
theorem dX7_aloneSent_64 : decode cX7_aloneSent 64 = .ok (.getfield 43, 3) := by decide +kernel
theorem dX7_aloneSent_67 : decode cX7_aloneSent 67 = .ok (.iload 11, 2) := by decide +kernel
theorem dX7_aloneSent_69 : decode cX7_aloneSent 69 = .ok (.iaload, 1) := by decide +kernel
theorem dX7_aloneSent_70 : decode cX7_aloneSent 70 = .ok (.iadd, 1) := by decide +kernel
theorem dX7_aloneSent_71 : decode cX7_aloneSent 71 = .ok (.istore 9, 2) := by decide +kernel
theorem dX7_aloneSent_73 : decode cX7_aloneSent 73 = .ok (.aload_n 0, 1) := by decide +kernel
theorem dX7_aloneSent_74 : decode cX7_aloneSent 74 = .ok (.getfield 46, 3) := by decide +kernel
theorem dX7_aloneSent_77 : decode cX7_aloneSent 77 = .ok (.iload 11, 2) := by decide +kernel
theorem dX7_aloneSent_79 : decode cX7_aloneSent 79 = .ok (.iaload, 1) := by decide +kernel
theorem dX7_aloneSent_80 : decode cX7_aloneSent 80 = .ok (.iconst (-1), 1) := by decide +kernel
theorem dX7_aloneSent_81 : decode cX7_aloneSent 81 = .ok (.if_icmp .ne 8, 3) := by decide +kernel
theorem dX7_aloneSent_84 : decode cX7_aloneSent 84 = .ok (.iload 8, 2) := by decide +kernel
theorem dX7_aloneSent_86 : decode cX7_aloneSent 86 = .ok (.goto 10, 3) := by decide +kernel
theorem dX7_aloneSent_89 : decode cX7_aloneSent 89 = .ok (.aload_n 0, 1) := by decide +kernel
theorem dX7_aloneSent_90 : decode cX7_aloneSent 90 = .ok (.getfield 46, 3) := by decide +kernel
theorem dX7_aloneSent_93 : decode cX7_aloneSent 93 = .ok (.iload 11, 2) := by decide +kernel
theorem dX7_aloneSent_95 : decode cX7_aloneSent 95 = .ok (.iaload, 1) := by decide +kernel
theorem dX7_aloneSent_96 : decode cX7_aloneSent 96 = .ok (.istore 8, 2) := by decide +kernel
theorem dX7_aloneSent_98 : decode cX7_aloneSent 98 = .ok (.aload_n 0, 1) := by decide +kernel
theorem dX7_aloneSent_99 : decode cX7_aloneSent 99 = .ok (.getfield 43, 3) := by decide +kernel
theorem dX7_aloneSent_102 : decode cX7_aloneSent 102 = .ok (.iload 11, 2) := by decide +kernel
theorem dX7_aloneSent_104 : decode cX7_aloneSent 104 = .ok (.iconst 0, 1) := by decide +kernel
theorem dX7_aloneSent_105 : decode cX7_aloneSent 105 = .ok (.iastore, 1) := by decide +kernel
theorem dX7_aloneSent_106 : decode cX7_aloneSent 106 = .ok (.aload_n 0, 1) := by decide +kernel
theorem dX7_aloneSent_107 : decode cX7_aloneSent 107 = .ok (.getfield 46, 3) := by decide +kernel
theorem dX7_aloneSent_110 : decode cX7_aloneSent 110 = .ok (.iload 11, 2) := by decide +kernel
theorem dX7_aloneSent_112 : decode cX7_aloneSent 112 = .ok (.iconst (-1), 1) := by decide +kernel
theorem dX7_aloneSent_113 : decode cX7_aloneSent 113 = .ok (.iastore, 1) := by decide +kernel
theorem dX7_aloneSent_114 : decode cX7_aloneSent 114 = .ok (.iload 10, 2) := by decide +kernel
theorem dX7_aloneSent_116 : decode cX7_aloneSent 116 = .ok (.iload_n 1, 1) := by decide +kernel
theorem dX7_aloneSent_117 : decode cX7_aloneSent 117 = .ok (.iadd, 1) := by decide +kernel
theorem dX7_aloneSent_118 : decode cX7_aloneSent 118 = .ok (.bipush 8, 2) := by decide +kernel
theorem dX7_aloneSent_120 : decode cX7_aloneSent 120 = .ok (.irem, 1) := by decide +kernel
theorem dX7_aloneSent_121 : decode cX7_aloneSent 121 = .ok (.istore 12, 2) := by decide +kernel
theorem dX7_aloneSent_123 : decode cX7_aloneSent 123 = .ok (.iload 10, 2) := by decide +kernel
theorem dX7_aloneSent_125 : decode cX7_aloneSent 125 = .ok (.iload 4, 2) := by decide +kernel
theorem dX7_aloneSent_127 : decode cX7_aloneSent 127 = .ok (.irem, 1) := by decide +kernel
theorem dX7_aloneSent_128 : decode cX7_aloneSent 128 = .ok (.ifCond .ne 34, 3) := by decide +kernel
theorem dX7_aloneSent_131 : decode cX7_aloneSent 131 = .ok (.iload 9, 2) := by decide +kernel
theorem dX7_aloneSent_133 : decode cX7_aloneSent 133 = .ok (.ifCond .le 29, 3) := by decide +kernel
theorem dX7_aloneSent_136 : decode cX7_aloneSent 136 = .ok (.iinc 9 (-1), 3) := by decide +kernel
theorem dX7_aloneSent_139 : decode cX7_aloneSent 139 = .ok (.iinc 7 1, 3) := by decide +kernel
theorem dX7_aloneSent_142 : decode cX7_aloneSent 142 = .ok (.aload_n 0, 1) := by decide +kernel
theorem dX7_aloneSent_143 : decode cX7_aloneSent 143 = .ok (.getfield 46, 3) := by decide +kernel
theorem dX7_aloneSent_146 : decode cX7_aloneSent 146 = .ok (.iload 12, 2) := by decide +kernel
theorem dX7_aloneSent_148 : decode cX7_aloneSent 148 = .ok (.iload 7, 2) := by decide +kernel
theorem dX7_aloneSent_150 : decode cX7_aloneSent 150 = .ok (.iload_n 2, 1) := by decide +kernel
theorem dX7_aloneSent_151 : decode cX7_aloneSent 151 = .ok (.irem, 1) := by decide +kernel
theorem dX7_aloneSent_152 : decode cX7_aloneSent 152 = .ok (.ifCond .ne 8, 3) := by decide +kernel
theorem dX7_aloneSent_155 : decode cX7_aloneSent 155 = .ok (.iload 7, 2) := by decide +kernel
theorem dX7_aloneSent_157 : decode cX7_aloneSent 157 = .ok (.goto 4, 3) := by decide +kernel
theorem dX7_aloneSent_160 : decode cX7_aloneSent 160 = .ok (.iconst (-1), 1) := by decide +kernel
theorem dX7_aloneSent_161 : decode cX7_aloneSent 161 = .ok (.iastore, 1) := by decide +kernel
theorem dX7_aloneSent_162 : decode cX7_aloneSent 162 = .ok (.iload 6, 2) := by decide +kernel
theorem dX7_aloneSent_164 : decode cX7_aloneSent 164 = .ok (.iload 8, 2) := by decide +kernel
theorem dX7_aloneSent_166 : decode cX7_aloneSent 166 = .ok (.isub, 1) := by decide +kernel
theorem dX7_aloneSent_167 : decode cX7_aloneSent 167 = .ok (.iload_n 3, 1) := by decide +kernel
theorem dX7_aloneSent_168 : decode cX7_aloneSent 168 = .ok (.if_icmp .ge 14, 3) := by decide +kernel
theorem dX7_aloneSent_171 : decode cX7_aloneSent 171 = .ok (.iinc 6 1, 3) := by decide +kernel
theorem dX7_aloneSent_174 : decode cX7_aloneSent 174 = .ok (.aload_n 0, 1) := by decide +kernel
theorem dX7_aloneSent_175 : decode cX7_aloneSent 175 = .ok (.getfield 43, 3) := by decide +kernel
theorem dX7_aloneSent_178 : decode cX7_aloneSent 178 = .ok (.iload 12, 2) := by decide +kernel
theorem dX7_aloneSent_180 : decode cX7_aloneSent 180 = .ok (.iconst 1, 1) := by decide +kernel
theorem dX7_aloneSent_181 : decode cX7_aloneSent 181 = .ok (.iastore, 1) := by decide +kernel
theorem dX7_aloneSent_182 : decode cX7_aloneSent 182 = .ok (.iinc 10 1, 3) := by decide +kernel
theorem dX7_aloneSent_185 : decode cX7_aloneSent 185 = .ok (.goto (-138), 3) := by decide +kernel
theorem dX7_aloneSent_188 : decode cX7_aloneSent 188 = .ok (.iload 6, 2) := by decide +kernel
theorem dX7_aloneSent_190 : decode cX7_aloneSent 190 = .ok (.ireturn, 1) := by decide +kernel
set_option maxRecDepth 20000 in
theorem ggX7_isAlone_X7_in : GoodIn wsX7_isAlone wsX7_in := goodIn_r _ [4] (by decide +kernel) (by decide +kernel)
set_option maxRecDepth 20000 in
theorem gX7_isAlone_X7_in : GoodIn wsX7_isAlone (va_wsS RX7 60 yX7_in wsX7_in) := goodIn_app (goodIn_of _ (by decide +kernel)) ggX7_isAlone_X7_in
set_option maxRecDepth 20000 in
theorem ggX7_isAlone_X7_isSpan : GoodIn wsX7_isAlone wsX7_isSpan := goodIn_r _ [7, 1, 2, 3, 4] (by decide +kernel) (by decide +kernel)
set_option maxRecDepth 20000 in
theorem gX7_isAlone_X7_isSpan : GoodIn wsX7_isAlone (va_wsS RX7 253 yX7_isSpan wsX7_isSpan) := goodIn_app (goodIn_of _ (by decide +kernel)) ggX7_isAlone_X7_isSpan
theorem dX7_isAlone_0 : decode cX7_isAlone 0 = .ok (.iload_n 0, 1) := by decide +kernel
theorem dX7_isAlone_1 : decode cX7_isAlone 1 = .ok (.iconst 1, 1) := by decide +kernel
theorem dX7_isAlone_2 : decode cX7_isAlone 2 = .ok (.iconst 4, 1) := by decide +kernel
theorem dX7_isAlone_3 : decode cX7_isAlone 3 = .ok (.invokestatic 60, 3) := by decide +kernel
theorem dX7_isAlone_6 : decode cX7_isAlone 6 = .ok (.ifCond .eq 34, 3) := by decide +kernel
theorem dX7_isAlone_9 : decode cX7_isAlone 9 = .ok (.iload_n 1, 1) := by decide +kernel
theorem dX7_isAlone_10 : decode cX7_isAlone 10 = .ok (.iconst 1, 1) := by decide +kernel
theorem dX7_isAlone_11 : decode cX7_isAlone 11 = .ok (.iconst 4, 1) := by decide +kernel
theorem dX7_isAlone_12 : decode cX7_isAlone 12 = .ok (.invokestatic 60, 3) := by decide +kernel
theorem dX7_isAlone_15 : decode cX7_isAlone 15 = .ok (.ifCond .eq 25, 3) := by decide +kernel
theorem dX7_isAlone_18 : decode cX7_isAlone 18 = .ok (.iload_n 2, 1) := by decide +kernel
theorem dX7_isAlone_19 : decode cX7_isAlone 19 = .ok (.iconst 1, 1) := by decide +kernel
theorem dX7_isAlone_20 : decode cX7_isAlone 20 = .ok (.bipush 9, 2) := by decide +kernel
theorem dX7_isAlone_22 : decode cX7_isAlone 22 = .ok (.invokestatic 60, 3) := by decide +kernel
theorem dX7_isAlone_25 : decode cX7_isAlone 25 = .ok (.ifCond .eq 15, 3) := by decide +kernel
theorem dX7_isAlone_28 : decode cX7_isAlone 28 = .ok (.iload_n 3, 1) := by decide +kernel
theorem dX7_isAlone_29 : decode cX7_isAlone 29 = .ok (.iconst 1, 1) := by decide +kernel
theorem dX7_isAlone_30 : decode cX7_isAlone 30 = .ok (.invokestatic 253, 3) := by decide +kernel
theorem dX7_isAlone_33 : decode cX7_isAlone 33 = .ok (.ifCond .eq 7, 3) := by decide +kernel
theorem dX7_isAlone_36 : decode cX7_isAlone 36 = .ok (.iconst 1, 1) := by decide +kernel
theorem dX7_isAlone_37 : decode cX7_isAlone 37 = .ok (.goto 4, 3) := by decide +kernel
theorem dX7_isAlone_40 : decode cX7_isAlone 40 = .ok (.iconst 0, 1) := by decide +kernel
theorem dX7_isAlone_41 : decode cX7_isAlone 41 = .ok (.ireturn, 1) := by decide +kernel
set_option maxRecDepth 20000 in
theorem ggX7_alone_X7_isAlone : GoodIn wsX7_alone wsX7_isAlone := goodIn_r _ [5, 6, 7, 4, 8, 9, 10, 11] (by decide +kernel) (by decide +kernel)
set_option maxRecDepth 20000 in
theorem gX7_alone_X7_isAlone : GoodIn wsX7_alone (va_wsS RX7 302 yX7_isAlone wsX7_isAlone) := goodIn_app (goodIn_of _ (by decide +kernel)) ggX7_alone_X7_isAlone
set_option maxRecDepth 20000 in
theorem ggX7_alone_X7_in : GoodIn wsX7_alone wsX7_in := goodIn_r _ [8] (by decide +kernel) (by decide +kernel)
set_option maxRecDepth 20000 in
theorem gX7_alone_X7_in : GoodIn wsX7_alone (va_wsS RX7 60 yX7_in wsX7_in) := goodIn_app (goodIn_of _ (by decide +kernel)) ggX7_alone_X7_in
set_option maxRecDepth 20000 in
theorem ggX7_alone_X7_aloneSent : GoodIn wsX7_alone wsX7_aloneSent := goodIn_r _ [15, 16, 17, 18, 19, 20, 21, 22, 23, 24, 25, 26, 27, 28, 29, 30, 31, 32, 33, 34, 35, 36, 37, 38] (by decide +kernel) (by decide +kernel)
set_option maxRecDepth 20000 in
theorem gX7_alone_X7_aloneSent : GoodIn wsX7_alone (wsV RX7 306 RX7 yX7_aloneSent wsX7_aloneSent) := goodIn_app (goodIn_of _ (by decide +kernel)) ggX7_alone_X7_aloneSent
theorem dX7_alone_0 : decode cX7_alone 0 = .ok (.aload_n 0, 1) := by decide +kernel
theorem dX7_alone_1 : decode cX7_alone 1 = .ok (.iconst 0, 1) := by decide +kernel
theorem dX7_alone_2 : decode cX7_alone 2 = .ok (.putfield 49, 3) := by decide +kernel
theorem dX7_alone_5 : decode cX7_alone 5 = .ok (.iload_n 1, 1) := by decide +kernel
theorem dX7_alone_6 : decode cX7_alone 6 = .ok (.iload_n 2, 1) := by decide +kernel
theorem dX7_alone_7 : decode cX7_alone 7 = .ok (.iload 4, 2) := by decide +kernel
theorem dX7_alone_9 : decode cX7_alone 9 = .ok (.iload 5, 2) := by decide +kernel
theorem dX7_alone_11 : decode cX7_alone 11 = .ok (.invokestatic 302, 3) := by decide +kernel
theorem dX7_alone_14 : decode cX7_alone 14 = .ok (.ifCond .eq 27, 3) := by decide +kernel
theorem dX7_alone_17 : decode cX7_alone 17 = .ok (.iload_n 3, 1) := by decide +kernel
theorem dX7_alone_18 : decode cX7_alone 18 = .ok (.iconst 1, 1) := by decide +kernel
theorem dX7_alone_19 : decode cX7_alone 19 = .ok (.bipush 30, 2) := by decide +kernel
theorem dX7_alone_21 : decode cX7_alone 21 = .ok (.invokestatic 60, 3) := by decide +kernel
theorem dX7_alone_24 : decode cX7_alone 24 = .ok (.ifCond .eq 17, 3) := by decide +kernel
theorem dX7_alone_27 : decode cX7_alone 27 = .ok (.aload_n 0, 1) := by decide +kernel
theorem dX7_alone_28 : decode cX7_alone 28 = .ok (.iload_n 1, 1) := by decide +kernel
theorem dX7_alone_29 : decode cX7_alone 29 = .ok (.iload_n 2, 1) := by decide +kernel
theorem dX7_alone_30 : decode cX7_alone 30 = .ok (.iload_n 3, 1) := by decide +kernel
theorem dX7_alone_31 : decode cX7_alone 31 = .ok (.iload 4, 2) := by decide +kernel
theorem dX7_alone_33 : decode cX7_alone 33 = .ok (.iload 5, 2) := by decide +kernel
theorem dX7_alone_35 : decode cX7_alone 35 = .ok (.invokevirtual 306, 3) := by decide +kernel
theorem dX7_alone_38 : decode cX7_alone 38 = .ok (.goto 4, 3) := by decide +kernel
theorem dX7_alone_41 : decode cX7_alone 41 = .ok (.iconst (-1), 1) := by decide +kernel
theorem dX7_alone_42 : decode cX7_alone 42 = .ok (.ireturn, 1) := by decide +kernel
set_option maxRecDepth 20000 in
theorem ggX7_full_X7_isAlone : GoodIn wsX7_full wsX7_isAlone := goodIn_r _ [5, 6, 7, 4, 8, 9, 10, 11] (by decide +kernel) (by decide +kernel)
set_option maxRecDepth 20000 in
theorem gX7_full_X7_isAlone : GoodIn wsX7_full (va_wsS RX7 302 yX7_isAlone wsX7_isAlone) := goodIn_app (goodIn_of _ (by decide +kernel)) ggX7_full_X7_isAlone
set_option maxRecDepth 20000 in
theorem ggX7_full_X7_aloneSent : GoodIn wsX7_full wsX7_aloneSent := goodIn_r _ [15, 16, 17, 18, 19, 20, 21, 22, 23, 24, 25, 26, 27, 28, 29, 30, 31, 32, 33, 34, 35, 36, 37, 38] (by decide +kernel) (by decide +kernel)
set_option maxRecDepth 20000 in
theorem gX7_full_X7_aloneSent : GoodIn wsX7_full (wsV RX7 306 RX7 yX7_aloneSent wsX7_aloneSent) := goodIn_app (goodIn_of _ (by decide +kernel)) ggX7_full_X7_aloneSent
theorem dX7_full_0 : decode cX7_full 0 = .ok (.aload_n 0, 1) := by decide +kernel
theorem dX7_full_1 : decode cX7_full 1 = .ok (.iconst 0, 1) := by decide +kernel
theorem dX7_full_2 : decode cX7_full 2 = .ok (.putfield 49, 3) := by decide +kernel
theorem dX7_full_5 : decode cX7_full 5 = .ok (.iload_n 1, 1) := by decide +kernel
theorem dX7_full_6 : decode cX7_full 6 = .ok (.iload_n 2, 1) := by decide +kernel
theorem dX7_full_7 : decode cX7_full 7 = .ok (.iload_n 3, 1) := by decide +kernel
theorem dX7_full_8 : decode cX7_full 8 = .ok (.iload 4, 2) := by decide +kernel
theorem dX7_full_10 : decode cX7_full 10 = .ok (.invokestatic 302, 3) := by decide +kernel
theorem dX7_full_13 : decode cX7_full 13 = .ok (.ifCond .ne 5, 3) := by decide +kernel
theorem dX7_full_16 : decode cX7_full 16 = .ok (.iconst (-1), 1) := by decide +kernel
theorem dX7_full_17 : decode cX7_full 17 = .ok (.ireturn, 1) := by decide +kernel
theorem dX7_full_18 : decode cX7_full 18 = .ok (.aload_n 0, 1) := by decide +kernel
theorem dX7_full_19 : decode cX7_full 19 = .ok (.iload_n 1, 1) := by decide +kernel
theorem dX7_full_20 : decode cX7_full 20 = .ok (.iload_n 2, 1) := by decide +kernel
theorem dX7_full_21 : decode cX7_full 21 = .ok (.bipush 30, 2) := by decide +kernel
theorem dX7_full_23 : decode cX7_full 23 = .ok (.iload_n 3, 1) := by decide +kernel
theorem dX7_full_24 : decode cX7_full 24 = .ok (.iload 4, 2) := by decide +kernel
theorem dX7_full_26 : decode cX7_full 26 = .ok (.invokevirtual 306, 3) := by decide +kernel
theorem dX7_full_29 : decode cX7_full 29 = .ok (.istore 5, 2) := by decide +kernel
theorem dX7_full_31 : decode cX7_full 31 = .ok (.iconst 1, 1) := by decide +kernel
theorem dX7_full_32 : decode cX7_full 32 = .ok (.istore 6, 2) := by decide +kernel
theorem dX7_full_34 : decode cX7_full 34 = .ok (.aload_n 0, 1) := by decide +kernel
theorem dX7_full_35 : decode cX7_full 35 = .ok (.iload_n 1, 1) := by decide +kernel
theorem dX7_full_36 : decode cX7_full 36 = .ok (.iload_n 2, 1) := by decide +kernel
theorem dX7_full_37 : decode cX7_full 37 = .ok (.iload 6, 2) := by decide +kernel
theorem dX7_full_39 : decode cX7_full 39 = .ok (.iload_n 3, 1) := by decide +kernel
theorem dX7_full_40 : decode cX7_full 40 = .ok (.iload 4, 2) := by decide +kernel
theorem dX7_full_42 : decode cX7_full 42 = .ok (.invokevirtual 306, 3) := by decide +kernel
theorem dX7_full_45 : decode cX7_full 45 = .ok (.iload 5, 2) := by decide +kernel
theorem dX7_full_47 : decode cX7_full 47 = .ok (.if_icmp .ge 9, 3) := by decide +kernel
theorem dX7_full_50 : decode cX7_full 50 = .ok (.iinc 6 1, 3) := by decide +kernel
theorem dX7_full_53 : decode cX7_full 53 = .ok (.goto (-19), 3) := by decide +kernel
theorem dX7_full_56 : decode cX7_full 56 = .ok (.iload 6, 2) := by decide +kernel
theorem dX7_full_58 : decode cX7_full 58 = .ok (.ireturn, 1) := by decide +kernel
set_option maxRecDepth 20000 in
theorem ggX7_law_X7_isAlone : GoodIn wsX7_law wsX7_isAlone := goodIn_r _ [5, 6, 7, 4, 8, 9, 10, 11] (by decide +kernel) (by decide +kernel)
set_option maxRecDepth 20000 in
theorem gX7_law_X7_isAlone : GoodIn wsX7_law (va_wsS RX7 302 yX7_isAlone wsX7_isAlone) := goodIn_app (goodIn_of _ (by decide +kernel)) ggX7_law_X7_isAlone
set_option maxRecDepth 20000 in
theorem ggX7_law_X7_in : GoodIn wsX7_law wsX7_in := goodIn_r _ [8] (by decide +kernel) (by decide +kernel)
set_option maxRecDepth 20000 in
theorem gX7_law_X7_in : GoodIn wsX7_law (va_wsS RX7 60 yX7_in wsX7_in) := goodIn_app (goodIn_of _ (by decide +kernel)) ggX7_law_X7_in
theorem dX7_law_0 : decode cX7_law 0 = .ok (.aload_n 0, 1) := by decide +kernel
theorem dX7_law_1 : decode cX7_law 1 = .ok (.iconst 0, 1) := by decide +kernel
theorem dX7_law_2 : decode cX7_law 2 = .ok (.putfield 49, 3) := by decide +kernel
theorem dX7_law_5 : decode cX7_law 5 = .ok (.iload_n 1, 1) := by decide +kernel
theorem dX7_law_6 : decode cX7_law 6 = .ok (.iload_n 2, 1) := by decide +kernel
theorem dX7_law_7 : decode cX7_law 7 = .ok (.iconst 1, 1) := by decide +kernel
theorem dX7_law_8 : decode cX7_law 8 = .ok (.iconst 1, 1) := by decide +kernel
theorem dX7_law_9 : decode cX7_law 9 = .ok (.invokestatic 302, 3) := by decide +kernel
theorem dX7_law_12 : decode cX7_law 12 = .ok (.ifCond .eq 29, 3) := by decide +kernel
theorem dX7_law_15 : decode cX7_law 15 = .ok (.iload_n 3, 1) := by decide +kernel
theorem dX7_law_16 : decode cX7_law 16 = .ok (.iconst 1, 1) := by decide +kernel
theorem dX7_law_17 : decode cX7_law 17 = .ok (.bipush 9, 2) := by decide +kernel
theorem dX7_law_19 : decode cX7_law 19 = .ok (.invokestatic 60, 3) := by decide +kernel
theorem dX7_law_22 : decode cX7_law 22 = .ok (.ifCond .eq 19, 3) := by decide +kernel
theorem dX7_law_25 : decode cX7_law 25 = .ok (.iconst 2, 1) := by decide +kernel
theorem dX7_law_26 : decode cX7_law 26 = .ok (.iload_n 1, 1) := by decide +kernel
theorem dX7_law_27 : decode cX7_law 27 = .ok (.imul, 1) := by decide +kernel
theorem dX7_law_28 : decode cX7_law 28 = .ok (.iload_n 3, 1) := by decide +kernel
theorem dX7_law_29 : decode cX7_law 29 = .ok (.iadd, 1) := by decide +kernel
theorem dX7_law_30 : decode cX7_law 30 = .ok (.iconst 1, 1) := by decide +kernel
theorem dX7_law_31 : decode cX7_law 31 = .ok (.isub, 1) := by decide +kernel
theorem dX7_law_32 : decode cX7_law 32 = .ok (.iload_n 3, 1) := by decide +kernel
theorem dX7_law_33 : decode cX7_law 33 = .ok (.idiv, 1) := by decide +kernel
theorem dX7_law_34 : decode cX7_law 34 = .ok (.iload_n 2, 1) := by decide +kernel
theorem dX7_law_35 : decode cX7_law 35 = .ok (.iadd, 1) := by decide +kernel
theorem dX7_law_36 : decode cX7_law 36 = .ok (.iconst 1, 1) := by decide +kernel
theorem dX7_law_37 : decode cX7_law 37 = .ok (.isub, 1) := by decide +kernel
theorem dX7_law_38 : decode cX7_law 38 = .ok (.goto 4, 3) := by decide +kernel
theorem dX7_law_41 : decode cX7_law 41 = .ok (.iconst (-1), 1) := by decide +kernel
theorem dX7_law_42 : decode cX7_law 42 = .ok (.ireturn, 1) := by decide +kernel
set_option maxRecDepth 20000 in
theorem ggX7_aim_X7_isLane : GoodIn wsX7_aim wsX7_isLane := goodIn_r _ [6, 7, 8, 9, 5, 10, 11, 12, 13, 14, 15, 16, 17, 18, 19, 34, 35, 36, 37, 38, 39, 40, 41, 42, 43, 44, 45, 46, 47, 48, 49, 50, 51, 52, 53, 54] (by decide +kernel) (by decide +kernel)
set_option maxRecDepth 20000 in
theorem gX7_aim_X7_isLane : GoodIn wsX7_aim (wsV RX7 229 RX7 yX7_isLane wsX7_isLane) := goodIn_app (goodIn_of _ (by decide +kernel)) ggX7_aim_X7_isLane
set_option maxRecDepth 20000 in
theorem ggX7_aim_X7_aimOf : GoodIn wsX7_aim wsX7_aimOf := goodIn_r _ [23, 19, 24, 25, 26, 27, 5, 28, 29, 30, 31, 32, 33, 34, 35, 36, 37, 38, 39, 40, 41, 42, 43, 44, 45, 46, 47, 48, 49, 50, 51, 52, 53, 54] (by decide +kernel) (by decide +kernel)
set_option maxRecDepth 20000 in
theorem gX7_aim_X7_aimOf : GoodIn wsX7_aim (wsV RX7 202 RX7 yX7_aimOf wsX7_aimOf) := goodIn_app (goodIn_of _ (by decide +kernel)) ggX7_aim_X7_aimOf
theorem dX7_aim_0 : decode cX7_aim 0 = .ok (.aload_n 0, 1) := by decide +kernel
theorem dX7_aim_1 : decode cX7_aim 1 = .ok (.iconst 0, 1) := by decide +kernel
theorem dX7_aim_2 : decode cX7_aim 2 = .ok (.putfield 49, 3) := by decide +kernel
theorem dX7_aim_5 : decode cX7_aim 5 = .ok (.aload_n 0, 1) := by decide +kernel
theorem dX7_aim_6 : decode cX7_aim 6 = .ok (.iload_n 1, 1) := by decide +kernel
theorem dX7_aim_7 : decode cX7_aim 7 = .ok (.iload_n 2, 1) := by decide +kernel
theorem dX7_aim_8 : decode cX7_aim 8 = .ok (.invokevirtual 229, 3) := by decide +kernel
theorem dX7_aim_11 : decode cX7_aim 11 = .ok (.ifCond .eq 12, 3) := by decide +kernel
theorem dX7_aim_14 : decode cX7_aim 14 = .ok (.aload_n 0, 1) := by decide +kernel
theorem dX7_aim_15 : decode cX7_aim 15 = .ok (.iload_n 1, 1) := by decide +kernel
theorem dX7_aim_16 : decode cX7_aim 16 = .ok (.iload_n 2, 1) := by decide +kernel
theorem dX7_aim_17 : decode cX7_aim 17 = .ok (.invokevirtual 202, 3) := by decide +kernel
theorem dX7_aim_20 : decode cX7_aim 20 = .ok (.goto 4, 3) := by decide +kernel
theorem dX7_aim_23 : decode cX7_aim 23 = .ok (.iconst (-1), 1) := by decide +kernel
theorem dX7_aim_24 : decode cX7_aim 24 = .ok (.ireturn, 1) := by decide +kernel
set_option maxRecDepth 20000 in
theorem ggX7_room_X7_isLane : GoodIn wsX7_room wsX7_isLane := goodIn_r _ [6, 7, 8, 9, 5, 10, 11, 12, 13, 14, 15, 16, 17, 18, 19, 51, 52, 53, 54, 55, 56, 57, 58, 59, 60, 61, 62, 63, 64, 65, 66, 67, 68, 69, 70, 71] (by decide +kernel) (by decide +kernel)
set_option maxRecDepth 20000 in
theorem gX7_room_X7_isLane : GoodIn wsX7_room (wsV RX7 229 RX7 yX7_isLane wsX7_isLane) := goodIn_app (goodIn_of _ (by decide +kernel)) ggX7_room_X7_isLane
set_option maxRecDepth 20000 in
theorem ggX7_room_X7_roomFor : GoodIn wsX7_room wsX7_roomFor := goodIn_r _ [23, 24, 25, 26, 27, 28, 29, 30, 31, 32, 33, 5, 34, 35, 36, 37, 38, 39, 40, 41, 42, 43, 19, 44, 45, 46, 47, 48, 49, 50, 51, 52, 53, 54, 55, 56, 57, 58, 59, 60, 61, 62, 63, 64, 65, 66, 67, 68, 69, 70, 71] (by decide +kernel) (by decide +kernel)
set_option maxRecDepth 20000 in
theorem gX7_room_X7_roomFor : GoodIn wsX7_room (wsV RX7 310 RX7 yX7_roomFor wsX7_roomFor) := goodIn_app (goodIn_of _ (by decide +kernel)) ggX7_room_X7_roomFor
theorem dX7_room_0 : decode cX7_room 0 = .ok (.aload_n 0, 1) := by decide +kernel
theorem dX7_room_1 : decode cX7_room 1 = .ok (.iconst 0, 1) := by decide +kernel
theorem dX7_room_2 : decode cX7_room 2 = .ok (.putfield 49, 3) := by decide +kernel
theorem dX7_room_5 : decode cX7_room 5 = .ok (.aload_n 0, 1) := by decide +kernel
theorem dX7_room_6 : decode cX7_room 6 = .ok (.iload_n 1, 1) := by decide +kernel
theorem dX7_room_7 : decode cX7_room 7 = .ok (.iload_n 2, 1) := by decide +kernel
theorem dX7_room_8 : decode cX7_room 8 = .ok (.invokevirtual 229, 3) := by decide +kernel
theorem dX7_room_11 : decode cX7_room 11 = .ok (.ifCond .eq 12, 3) := by decide +kernel
theorem dX7_room_14 : decode cX7_room 14 = .ok (.aload_n 0, 1) := by decide +kernel
theorem dX7_room_15 : decode cX7_room 15 = .ok (.iload_n 1, 1) := by decide +kernel
theorem dX7_room_16 : decode cX7_room 16 = .ok (.iload_n 2, 1) := by decide +kernel
theorem dX7_room_17 : decode cX7_room 17 = .ok (.invokevirtual 310, 3) := by decide +kernel
theorem dX7_room_20 : decode cX7_room 20 = .ok (.goto 4, 3) := by decide +kernel
theorem dX7_room_23 : decode cX7_room 23 = .ok (.iconst (-1), 1) := by decide +kernel
theorem dX7_room_24 : decode cX7_room 24 = .ok (.ireturn, 1) := by decide +kernel
set_option maxRecDepth 20000 in
theorem ggX7_trip_X7_isCircuit : GoodIn wsX7_trip wsX7_isCircuit := goodIn_r _ [7, 8, 9, 10, 6, 11, 15, 16, 17, 18, 19, 20, 21, 22, 23, 24, 25, 26, 27, 28, 29, 30, 31, 32, 33, 34, 35] (by decide +kernel) (by decide +kernel)
set_option maxRecDepth 20000 in
theorem gX7_trip_X7_isCircuit : GoodIn wsX7_trip (wsV RX7 133 RX7 yX7_isCircuit wsX7_isCircuit) := goodIn_app (goodIn_of _ (by decide +kernel)) ggX7_trip_X7_isCircuit
set_option maxRecDepth 20000 in
theorem ggX7_trip_X7_in : GoodIn wsX7_trip wsX7_in := goodIn_r _ [11] (by decide +kernel) (by decide +kernel)
set_option maxRecDepth 20000 in
theorem gX7_trip_X7_in : GoodIn wsX7_trip (va_wsS RX7 60 yX7_in wsX7_in) := goodIn_app (goodIn_of _ (by decide +kernel)) ggX7_trip_X7_in
set_option maxRecDepth 20000 in
theorem ggX7_trip_X7_circuitAt : GoodIn wsX7_trip wsX7_circuitAt := goodIn_r _ [14] (by decide +kernel) (by decide +kernel)
set_option maxRecDepth 20000 in
theorem gX7_trip_X7_circuitAt : GoodIn wsX7_trip (va_wsS RX7 147 yX7_circuitAt wsX7_circuitAt) := goodIn_app (goodIn_of _ (by decide +kernel)) ggX7_trip_X7_circuitAt
theorem dX7_trip_0 : decode cX7_trip 0 = .ok (.aload_n 0, 1) := by decide +kernel
theorem dX7_trip_1 : decode cX7_trip 1 = .ok (.iconst 0, 1) := by decide +kernel
theorem dX7_trip_2 : decode cX7_trip 2 = .ok (.putfield 49, 3) := by decide +kernel
theorem dX7_trip_5 : decode cX7_trip 5 = .ok (.aload_n 0, 1) := by decide +kernel
theorem dX7_trip_6 : decode cX7_trip 6 = .ok (.iload_n 1, 1) := by decide +kernel
theorem dX7_trip_7 : decode cX7_trip 7 = .ok (.invokevirtual 133, 3) := by decide +kernel
theorem dX7_trip_10 : decode cX7_trip 10 = .ok (.ifCond .eq 26, 3) := by decide +kernel
theorem dX7_trip_13 : decode cX7_trip 13 = .ok (.iload_n 2, 1) := by decide +kernel
theorem dX7_trip_14 : decode cX7_trip 14 = .ok (.iconst 0, 1) := by decide +kernel
theorem dX7_trip_15 : decode cX7_trip 15 = .ok (.iconst 2, 1) := by decide +kernel
theorem dX7_trip_16 : decode cX7_trip 16 = .ok (.invokestatic 60, 3) := by decide +kernel
theorem dX7_trip_19 : decode cX7_trip 19 = .ok (.ifCond .eq 17, 3) := by decide +kernel
theorem dX7_trip_22 : decode cX7_trip 22 = .ok (.aload_n 0, 1) := by decide +kernel
theorem dX7_trip_23 : decode cX7_trip 23 = .ok (.getfield 22, 3) := by decide +kernel
theorem dX7_trip_26 : decode cX7_trip 26 = .ok (.iload_n 1, 1) := by decide +kernel
theorem dX7_trip_27 : decode cX7_trip 27 = .ok (.invokestatic 147, 3) := by decide +kernel
theorem dX7_trip_30 : decode cX7_trip 30 = .ok (.iconst 5, 1) := by decide +kernel
theorem dX7_trip_31 : decode cX7_trip 31 = .ok (.iadd, 1) := by decide +kernel
theorem dX7_trip_32 : decode cX7_trip 32 = .ok (.iaload, 1) := by decide +kernel
theorem dX7_trip_33 : decode cX7_trip 33 = .ok (.ifCond .ne 5, 3) := by decide +kernel
theorem dX7_trip_36 : decode cX7_trip 36 = .ok (.iconst (-1), 1) := by decide +kernel
theorem dX7_trip_37 : decode cX7_trip 37 = .ok (.ireturn, 1) := by decide +kernel
theorem dX7_trip_38 : decode cX7_trip 38 = .ok (.aload_n 0, 1) := by decide +kernel
theorem dX7_trip_39 : decode cX7_trip 39 = .ok (.getfield 22, 3) := by decide +kernel
theorem dX7_trip_42 : decode cX7_trip 42 = .ok (.iload_n 1, 1) := by decide +kernel
theorem dX7_trip_43 : decode cX7_trip 43 = .ok (.invokestatic 147, 3) := by decide +kernel
theorem dX7_trip_46 : decode cX7_trip 46 = .ok (.bipush 6, 2) := by decide +kernel
theorem dX7_trip_48 : decode cX7_trip 48 = .ok (.iadd, 1) := by decide +kernel
theorem dX7_trip_49 : decode cX7_trip 49 = .ok (.iload_n 2, 1) := by decide +kernel
theorem dX7_trip_50 : decode cX7_trip 50 = .ok (.iadd, 1) := by decide +kernel
theorem dX7_trip_51 : decode cX7_trip 51 = .ok (.iaload, 1) := by decide +kernel
theorem dX7_trip_52 : decode cX7_trip 52 = .ok (.ireturn, 1) := by decide +kernel
set_option maxRecDepth 20000 in
theorem ggX7_oldest_X7_isCircuit : GoodIn wsX7_oldest wsX7_isCircuit := goodIn_r _ [7, 8, 9, 10, 6, 11, 19, 20, 21, 22, 23, 24, 25, 26, 27, 28, 29, 30, 31, 32, 33, 34, 35, 36, 37, 38, 39] (by decide +kernel) (by decide +kernel)
set_option maxRecDepth 20000 in
theorem gX7_oldest_X7_isCircuit : GoodIn wsX7_oldest (wsV RX7 133 RX7 yX7_isCircuit wsX7_isCircuit) := goodIn_app (goodIn_of _ (by decide +kernel)) ggX7_oldest_X7_isCircuit
set_option maxRecDepth 20000 in
theorem ggX7_oldest_X7_anywhere : GoodIn wsX7_oldest wsX7_anywhere := goodIn_r _ [15, 2, 16, 17, 6, 18, 19, 20, 21, 22, 23, 24, 25, 26, 27, 28, 29, 30, 31, 32, 33, 34, 35, 36, 37, 38, 39] (by decide +kernel) (by decide +kernel)
set_option maxRecDepth 20000 in
theorem gX7_oldest_X7_anywhere : GoodIn wsX7_oldest (wsV RX7 244 RX7 yX7_anywhere wsX7_anywhere) := goodIn_app (goodIn_of _ (by decide +kernel)) ggX7_oldest_X7_anywhere
set_option maxRecDepth 20000 in
theorem ggX7_oldest_X7_circuitAt : GoodIn wsX7_oldest wsX7_circuitAt := goodIn_r _ [18] (by decide +kernel) (by decide +kernel)
set_option maxRecDepth 20000 in
theorem gX7_oldest_X7_circuitAt : GoodIn wsX7_oldest (va_wsS RX7 147 yX7_circuitAt wsX7_circuitAt) := goodIn_app (goodIn_of _ (by decide +kernel)) ggX7_oldest_X7_circuitAt
theorem dX7_oldest_0 : decode cX7_oldest 0 = .ok (.aload_n 0, 1) := by decide +kernel
theorem dX7_oldest_1 : decode cX7_oldest 1 = .ok (.iconst 0, 1) := by decide +kernel
theorem dX7_oldest_2 : decode cX7_oldest 2 = .ok (.putfield 49, 3) := by decide +kernel
theorem dX7_oldest_5 : decode cX7_oldest 5 = .ok (.aload_n 0, 1) := by decide +kernel
theorem dX7_oldest_6 : decode cX7_oldest 6 = .ok (.iload_n 1, 1) := by decide +kernel
theorem dX7_oldest_7 : decode cX7_oldest 7 = .ok (.invokevirtual 133, 3) := by decide +kernel
theorem dX7_oldest_10 : decode cX7_oldest 10 = .ok (.ifCond .eq 11, 3) := by decide +kernel
theorem dX7_oldest_13 : decode cX7_oldest 13 = .ok (.aload_n 0, 1) := by decide +kernel
theorem dX7_oldest_14 : decode cX7_oldest 14 = .ok (.iload_n 1, 1) := by decide +kernel
theorem dX7_oldest_15 : decode cX7_oldest 15 = .ok (.invokevirtual 244, 3) := by decide +kernel
theorem dX7_oldest_18 : decode cX7_oldest 18 = .ok (.ifCond .ne 5, 3) := by decide +kernel
theorem dX7_oldest_21 : decode cX7_oldest 21 = .ok (.iconst (-1), 1) := by decide +kernel
theorem dX7_oldest_22 : decode cX7_oldest 22 = .ok (.ireturn, 1) := by decide +kernel
theorem dX7_oldest_23 : decode cX7_oldest 23 = .ok (.aload_n 0, 1) := by decide +kernel
theorem dX7_oldest_24 : decode cX7_oldest 24 = .ok (.getfield 22, 3) := by decide +kernel
theorem dX7_oldest_27 : decode cX7_oldest 27 = .ok (.sipush 1764, 3) := by decide +kernel
theorem dX7_oldest_30 : decode cX7_oldest 30 = .ok (.iaload, 1) := by decide +kernel
theorem dX7_oldest_31 : decode cX7_oldest 31 = .ok (.aload_n 0, 1) := by decide +kernel
theorem dX7_oldest_32 : decode cX7_oldest 32 = .ok (.getfield 22, 3) := by decide +kernel
theorem dX7_oldest_35 : decode cX7_oldest 35 = .ok (.sipush 228, 3) := by decide +kernel
theorem dX7_oldest_38 : decode cX7_oldest 38 = .ok (.sipush 512, 3) := by decide +kernel
theorem dX7_oldest_41 : decode cX7_oldest 41 = .ok (.iload_n 1, 1) := by decide +kernel
theorem dX7_oldest_42 : decode cX7_oldest 42 = .ok (.imul, 1) := by decide +kernel
theorem dX7_oldest_43 : decode cX7_oldest 43 = .ok (.iadd, 1) := by decide +kernel
theorem dX7_oldest_44 : decode cX7_oldest 44 = .ok (.aload_n 0, 1) := by decide +kernel
theorem dX7_oldest_45 : decode cX7_oldest 45 = .ok (.getfield 22, 3) := by decide +kernel
theorem dX7_oldest_48 : decode cX7_oldest 48 = .ok (.iload_n 1, 1) := by decide +kernel
theorem dX7_oldest_49 : decode cX7_oldest 49 = .ok (.invokestatic 147, 3) := by decide +kernel
theorem dX7_oldest_52 : decode cX7_oldest 52 = .ok (.iconst 5, 1) := by decide +kernel
theorem dX7_oldest_53 : decode cX7_oldest 53 = .ok (.iadd, 1) := by decide +kernel
theorem dX7_oldest_54 : decode cX7_oldest 54 = .ok (.iaload, 1) := by decide +kernel
theorem dX7_oldest_55 : decode cX7_oldest 55 = .ok (.sipush 512, 3) := by decide +kernel
theorem dX7_oldest_58 : decode cX7_oldest 58 = .ok (.irem, 1) := by decide +kernel
theorem dX7_oldest_59 : decode cX7_oldest 59 = .ok (.iadd, 1) := by decide +kernel
theorem dX7_oldest_60 : decode cX7_oldest 60 = .ok (.iaload, 1) := by decide +kernel
theorem dX7_oldest_61 : decode cX7_oldest 61 = .ok (.isub, 1) := by decide +kernel
theorem dX7_oldest_62 : decode cX7_oldest 62 = .ok (.ireturn, 1) := by decide +kernel
set_option maxRecDepth 20000 in
theorem ggX7_count_X7_isNet : GoodIn wsX7_count wsX7_isNet := goodIn_r _ [9, 10, 34, 35, 36, 37, 38, 39, 40, 41, 42, 43, 44, 45, 46, 47, 48, 49, 50, 51, 52, 53, 54] (by decide +kernel) (by decide +kernel)
set_option maxRecDepth 20000 in
theorem gX7_count_X7_isNet : GoodIn wsX7_count (wsV RX7 136 RX7 yX7_isNet wsX7_isNet) := goodIn_app (goodIn_of _ (by decide +kernel)) ggX7_count_X7_isNet
set_option maxRecDepth 20000 in
theorem ggX7_count_X7_cellsAnywhere : GoodIn wsX7_count wsX7_cellsAnywhere := goodIn_r _ [14, 15, 16, 17, 18, 8, 19, 4, 20, 21, 22, 34, 35, 36, 37, 38, 39, 40, 41, 42, 43, 44, 45, 46, 47, 48, 49, 50, 51, 52, 53, 54] (by decide +kernel) (by decide +kernel)
set_option maxRecDepth 20000 in
theorem gX7_count_X7_cellsAnywhere : GoodIn wsX7_count (wsV RX7 292 RX7 yX7_cellsAnywhere wsX7_cellsAnywhere) := goodIn_app (goodIn_of _ (by decide +kernel)) ggX7_count_X7_cellsAnywhere
set_option maxRecDepth 20000 in
theorem ggX7_count_X7_deliveredOf : GoodIn wsX7_count wsX7_deliveredOf := goodIn_r _ [26, 15, 4, 20, 21, 8, 22, 34, 35, 36, 37, 38, 39, 40, 41, 42, 43, 44, 45, 46, 47, 48, 49, 50, 51, 52, 53, 54] (by decide +kernel) (by decide +kernel)
set_option maxRecDepth 20000 in
theorem gX7_count_X7_deliveredOf : GoodIn wsX7_count (wsV RX7 265 RX7 yX7_deliveredOf wsX7_deliveredOf) := goodIn_app (goodIn_of _ (by decide +kernel)) ggX7_count_X7_deliveredOf
set_option maxRecDepth 20000 in
theorem ggX7_count_X7_unknown : GoodIn wsX7_count wsX7_unknown := goodIn_r _ [30, 10, 15, 4, 31, 32, 8, 33, 34, 35, 36, 37, 38, 39, 40, 41, 42, 43, 44, 45, 46, 47, 48, 49, 50, 51, 52, 53, 54] (by decide +kernel) (by decide +kernel)
set_option maxRecDepth 20000 in
theorem gX7_count_X7_unknown : GoodIn wsX7_count (wsV RX7 280 RX7 yX7_unknown wsX7_unknown) := goodIn_app (goodIn_of _ (by decide +kernel)) ggX7_count_X7_unknown
theorem dX7_count_0 : decode cX7_count 0 = .ok (.aload_n 0, 1) := by decide +kernel
theorem dX7_count_1 : decode cX7_count 1 = .ok (.iconst 0, 1) := by decide +kernel
theorem dX7_count_2 : decode cX7_count 2 = .ok (.putfield 49, 3) := by decide +kernel
theorem dX7_count_5 : decode cX7_count 5 = .ok (.iload_n 1, 1) := by decide +kernel
theorem dX7_count_6 : decode cX7_count 6 = .ok (.ifCond .ne 8, 3) := by decide +kernel
theorem dX7_count_9 : decode cX7_count 9 = .ok (.aload_n 0, 1) := by decide +kernel
theorem dX7_count_10 : decode cX7_count 10 = .ok (.getfield 57, 3) := by decide +kernel
theorem dX7_count_13 : decode cX7_count 13 = .ok (.ireturn, 1) := by decide +kernel
theorem dX7_count_14 : decode cX7_count 14 = .ok (.aload_n 0, 1) := by decide +kernel
theorem dX7_count_15 : decode cX7_count 15 = .ok (.invokevirtual 136, 3) := by decide +kernel
theorem dX7_count_18 : decode cX7_count 18 = .ok (.ifCond .ne 6, 3) := by decide +kernel
theorem dX7_count_21 : decode cX7_count 21 = .ok (.ldc 236, 2) := by decide +kernel
theorem dX7_count_23 : decode cX7_count 23 = .ok (.ireturn, 1) := by decide +kernel
theorem dX7_count_24 : decode cX7_count 24 = .ok (.iload_n 1, 1) := by decide +kernel
theorem dX7_count_25 : decode cX7_count 25 = .ok (.tableswitch 69 1 5 #[35, 40, 46, 55, 64], 35) := by decide +kernel
theorem dX7_count_60 : decode cX7_count 60 = .ok (.aload_n 0, 1) := by decide +kernel
theorem dX7_count_61 : decode cX7_count 61 = .ok (.invokevirtual 292, 3) := by decide +kernel
theorem dX7_count_64 : decode cX7_count 64 = .ok (.ireturn, 1) := by decide +kernel
theorem dX7_count_65 : decode cX7_count 65 = .ok (.aload_n 0, 1) := by decide +kernel
theorem dX7_count_66 : decode cX7_count 66 = .ok (.iconst (-1), 1) := by decide +kernel
theorem dX7_count_67 : decode cX7_count 67 = .ok (.invokevirtual 265, 3) := by decide +kernel
theorem dX7_count_70 : decode cX7_count 70 = .ok (.ireturn, 1) := by decide +kernel
theorem dX7_count_71 : decode cX7_count 71 = .ok (.aload_n 0, 1) := by decide +kernel
theorem dX7_count_72 : decode cX7_count 72 = .ok (.getfield 22, 3) := by decide +kernel
theorem dX7_count_75 : decode cX7_count 75 = .ok (.sipush 1765, 3) := by decide +kernel
theorem dX7_count_78 : decode cX7_count 78 = .ok (.iaload, 1) := by decide +kernel
theorem dX7_count_79 : decode cX7_count 79 = .ok (.ireturn, 1) := by decide +kernel
theorem dX7_count_80 : decode cX7_count 80 = .ok (.aload_n 0, 1) := by decide +kernel
theorem dX7_count_81 : decode cX7_count 81 = .ok (.getfield 22, 3) := by decide +kernel
theorem dX7_count_84 : decode cX7_count 84 = .ok (.sipush 1766, 3) := by decide +kernel
theorem dX7_count_87 : decode cX7_count 87 = .ok (.iaload, 1) := by decide +kernel
theorem dX7_count_88 : decode cX7_count 88 = .ok (.ireturn, 1) := by decide +kernel
theorem dX7_count_89 : decode cX7_count 89 = .ok (.aload_n 0, 1) := by decide +kernel
theorem dX7_count_90 : decode cX7_count 90 = .ok (.invokevirtual 280, 3) := by decide +kernel
theorem dX7_count_93 : decode cX7_count 93 = .ok (.ireturn, 1) := by decide +kernel
theorem dX7_count_94 : decode cX7_count 94 = .ok (.ldc 236, 2) := by decide +kernel
theorem dX7_count_96 : decode cX7_count 96 = .ok (.ireturn, 1) := by decide +kernel
theorem dJ9_max_7cf53_0 : decode cJ9_max_7cf53 0 = .ok (.iload_n 0, 1) := by decide +kernel
theorem dJ9_max_7cf53_1 : decode cJ9_max_7cf53 1 = .ok (.iload_n 1, 1) := by decide +kernel
theorem dJ9_max_7cf53_2 : decode cJ9_max_7cf53 2 = .ok (.if_icmp .lt 7, 3) := by decide +kernel
theorem dJ9_max_7cf53_5 : decode cJ9_max_7cf53 5 = .ok (.iload_n 0, 1) := by decide +kernel
theorem dJ9_max_7cf53_6 : decode cJ9_max_7cf53 6 = .ok (.goto 4, 3) := by decide +kernel
theorem dJ9_max_7cf53_9 : decode cJ9_max_7cf53 9 = .ok (.iload_n 1, 1) := by decide +kernel
theorem dJ9_max_7cf53_10 : decode cJ9_max_7cf53 10 = .ok (.ireturn, 1) := by decide +kernel
theorem dJ9_min_7cf53_0 : decode cJ9_min_7cf53 0 = .ok (.iload_n 0, 1) := by decide +kernel
theorem dJ9_min_7cf53_1 : decode cJ9_min_7cf53 1 = .ok (.iload_n 1, 1) := by decide +kernel
theorem dJ9_min_7cf53_2 : decode cJ9_min_7cf53 2 = .ok (.if_icmp .gt 7, 3) := by decide +kernel
theorem dJ9_min_7cf53_5 : decode cJ9_min_7cf53 5 = .ok (.iload_n 0, 1) := by decide +kernel
theorem dJ9_min_7cf53_6 : decode cJ9_min_7cf53 6 = .ok (.goto 4, 3) := by decide +kernel
theorem dJ9_min_7cf53_9 : decode cJ9_min_7cf53 9 = .ok (.iload_n 1, 1) := by decide +kernel
theorem dJ9_min_7cf53_10 : decode cJ9_min_7cf53 10 = .ok (.ireturn, 1) := by decide +kernel
set_option maxRecDepth 20000 in
theorem ggJ0_charAt_5068e_J0_isLatin1_aae02 : GoodIn wsJ0_charAt_5068e wsJ0_isLatin1_aae02 := goodIn_r _ [6, 7, 8] (by decide +kernel) (by decide +kernel)
set_option maxRecDepth 20000 in
theorem gJ0_charAt_5068e_J0_isLatin1_aae02 : GoodIn wsJ0_charAt_5068e (wsV RJ0 492 RJ0 yJ0_isLatin1_aae02 wsJ0_isLatin1_aae02) := goodIn_app (goodIn_of _ (by decide +kernel)) ggJ0_charAt_5068e_J0_isLatin1_aae02
set_option maxRecDepth 20000 in
theorem ggJ0_charAt_5068e_J1_charAt_3b067 : GoodIn wsJ0_charAt_5068e wsJ1_charAt_3b067 := goodIn_r _ [12, 13, 14, 5, 15, 16, 17, 18, 19, 20] (by decide +kernel) (by decide +kernel)
set_option maxRecDepth 20000 in
theorem gJ0_charAt_5068e_J1_charAt_3b067 : GoodIn wsJ0_charAt_5068e (va_wsS RJ0 495 yJ1_charAt_3b067 wsJ1_charAt_3b067) := goodIn_app (goodIn_of _ (by decide +kernel)) ggJ0_charAt_5068e_J1_charAt_3b067
set_option maxRecDepth 20000 in
theorem ggJ0_charAt_5068e_J2_charAt_3b067 : GoodIn wsJ0_charAt_5068e wsJ2_charAt_3b067 := goodIn_r _ [24, 25, 26, 23, 27, 28, 29, 30, 31, 14, 5, 15, 16, 17, 18, 19, 20, 32, 33, 34, 35, 36, 37] (by decide +kernel) (by decide +kernel)
set_option maxRecDepth 20000 in
theorem gJ0_charAt_5068e_J2_charAt_3b067 : GoodIn wsJ0_charAt_5068e (va_wsS RJ0 498 yJ2_charAt_3b067 wsJ2_charAt_3b067) := goodIn_app (goodIn_of _ (by decide +kernel)) ggJ0_charAt_5068e_J2_charAt_3b067
theorem dJ0_charAt_5068e_0 : decode cJ0_charAt_5068e 0 = .ok (.aload_n 0, 1) := by decide +kernel
theorem dJ0_charAt_5068e_1 : decode cJ0_charAt_5068e 1 = .ok (.invokevirtual 492, 3) := by decide +kernel
theorem dJ0_charAt_5068e_4 : decode cJ0_charAt_5068e 4 = .ok (.ifCond .eq 12, 3) := by decide +kernel
theorem dJ0_charAt_5068e_7 : decode cJ0_charAt_5068e 7 = .ok (.aload_n 0, 1) := by decide +kernel
theorem dJ0_charAt_5068e_8 : decode cJ0_charAt_5068e 8 = .ok (.getfield 9, 3) := by decide +kernel
theorem dJ0_charAt_5068e_11 : decode cJ0_charAt_5068e 11 = .ok (.iload_n 1, 1) := by decide +kernel
theorem dJ0_charAt_5068e_12 : decode cJ0_charAt_5068e 12 = .ok (.invokestatic 495, 3) := by decide +kernel
theorem dJ0_charAt_5068e_15 : decode cJ0_charAt_5068e 15 = .ok (.ireturn, 1) := by decide +kernel
theorem dJ0_charAt_5068e_16 : decode cJ0_charAt_5068e 16 = .ok (.aload_n 0, 1) := by decide +kernel
theorem dJ0_charAt_5068e_17 : decode cJ0_charAt_5068e 17 = .ok (.getfield 9, 3) := by decide +kernel
theorem dJ0_charAt_5068e_20 : decode cJ0_charAt_5068e 20 = .ok (.iload_n 1, 1) := by decide +kernel
theorem dJ0_charAt_5068e_21 : decode cJ0_charAt_5068e 21 = .ok (.invokestatic 498, 3) := by decide +kernel
theorem dJ0_charAt_5068e_24 : decode cJ0_charAt_5068e 24 = .ok (.ireturn, 1) := by decide +kernel
theorem dJ0_isLatin1_aae02_0 : decode cJ0_isLatin1_aae02 0 = .ok (.getstatic 38, 3) := by decide +kernel
theorem dJ0_isLatin1_aae02_3 : decode cJ0_isLatin1_aae02 3 = .ok (.ifCond .eq 14, 3) := by decide +kernel
theorem dJ0_isLatin1_aae02_6 : decode cJ0_isLatin1_aae02 6 = .ok (.aload_n 0, 1) := by decide +kernel
theorem dJ0_isLatin1_aae02_7 : decode cJ0_isLatin1_aae02 7 = .ok (.getfield 15, 3) := by decide +kernel
theorem dJ0_isLatin1_aae02_10 : decode cJ0_isLatin1_aae02 10 = .ok (.ifCond .ne 7, 3) := by decide +kernel
theorem dJ0_isLatin1_aae02_13 : decode cJ0_isLatin1_aae02 13 = .ok (.iconst 1, 1) := by decide +kernel
theorem dJ0_isLatin1_aae02_14 : decode cJ0_isLatin1_aae02 14 = .ok (.goto 4, 3) := by decide +kernel
theorem dJ0_isLatin1_aae02_17 : decode cJ0_isLatin1_aae02 17 = .ok (.iconst 0, 1) := by decide +kernel
theorem dJ0_isLatin1_aae02_18 : decode cJ0_isLatin1_aae02 18 = .ok (.ireturn, 1) := by decide +kernel
set_option maxRecDepth 20000 in
theorem ggJ0_checkIndex_df160_J3_checkIndex_8e157 : GoodIn wsJ0_checkIndex_df160 wsJ3_checkIndex_8e157 := goodIn_r _ [5] (by decide +kernel) (by decide +kernel)
set_option maxRecDepth 20000 in
theorem gJ0_checkIndex_df160_J3_checkIndex_8e157 : GoodIn wsJ0_checkIndex_df160 (va_wsS RJ0 1059 yJ3_checkIndex_8e157 wsJ3_checkIndex_8e157) := goodIn_app (goodIn_of _ (by decide +kernel)) ggJ0_checkIndex_df160_J3_checkIndex_8e157
theorem dJ0_checkIndex_df160_0 : decode cJ0_checkIndex_df160 0 = .ok (.iload_n 0, 1) := by decide +kernel
theorem dJ0_checkIndex_df160_1 : decode cJ0_checkIndex_df160 1 = .ok (.iload_n 1, 1) := by decide +kernel
theorem dJ0_checkIndex_df160_2 : decode cJ0_checkIndex_df160 2 = .ok (.getstatic 1053, 3) := by decide +kernel
theorem dJ0_checkIndex_df160_5 : decode cJ0_checkIndex_df160 5 = .ok (.invokestatic 1059, 3) := by decide +kernel
theorem dJ0_checkIndex_df160_8 : decode cJ0_checkIndex_df160 8 = .ok (.pop, 1) := by decide +kernel
theorem dJ0_checkIndex_df160_9 : decode cJ0_checkIndex_df160 9 = .ok (.return_, 1) := by decide +kernel
set_option maxRecDepth 20000 in
theorem ggJ1_charAt_3b067_J0_checkIndex_df160 : GoodIn wsJ1_charAt_3b067 wsJ0_checkIndex_df160 := goodIn_r _ [4, 5, 6, 7, 8, 9] (by decide +kernel) (by decide +kernel)
set_option maxRecDepth 20000 in
theorem gJ1_charAt_3b067_J0_checkIndex_df160 : GoodIn wsJ1_charAt_3b067 (va_wsS RJ1 9 yJ0_checkIndex_df160 wsJ0_checkIndex_df160) := goodIn_app (goodIn_of _ (by decide +kernel)) ggJ1_charAt_3b067_J0_checkIndex_df160
theorem dJ1_charAt_3b067_0 : decode cJ1_charAt_3b067 0 = .ok (.iload_n 1, 1) := by decide +kernel
theorem dJ1_charAt_3b067_1 : decode cJ1_charAt_3b067 1 = .ok (.aload_n 0, 1) := by decide +kernel
theorem dJ1_charAt_3b067_2 : decode cJ1_charAt_3b067 2 = .ok (.arraylength, 1) := by decide +kernel
theorem dJ1_charAt_3b067_3 : decode cJ1_charAt_3b067 3 = .ok (.invokestatic 9, 3) := by decide +kernel
theorem dJ1_charAt_3b067_6 : decode cJ1_charAt_3b067 6 = .ok (.aload_n 0, 1) := by decide +kernel
theorem dJ1_charAt_3b067_7 : decode cJ1_charAt_3b067 7 = .ok (.iload_n 1, 1) := by decide +kernel
theorem dJ1_charAt_3b067_8 : decode cJ1_charAt_3b067 8 = .ok (.baload, 1) := by decide +kernel
theorem dJ1_charAt_3b067_9 : decode cJ1_charAt_3b067 9 = .ok (.sipush 255, 3) := by decide +kernel
theorem dJ1_charAt_3b067_12 : decode cJ1_charAt_3b067 12 = .ok (.iand, 1) := by decide +kernel
theorem dJ1_charAt_3b067_13 : decode cJ1_charAt_3b067 13 = .ok (.i2c, 1) := by decide +kernel
theorem dJ1_charAt_3b067_14 : decode cJ1_charAt_3b067 14 = .ok (.ireturn, 1) := by decide +kernel
set_option maxRecDepth 20000 in
theorem ggJ2_getChar_3b067_J2_length_9d52b : GoodIn wsJ2_getChar_3b067 wsJ2_length_9d52b := goodIn_r _ [7] (by decide +kernel) (by decide +kernel)
set_option maxRecDepth 20000 in
theorem gJ2_getChar_3b067_J2_length_9d52b : GoodIn wsJ2_getChar_3b067 (va_wsS RJ2 48 yJ2_length_9d52b wsJ2_length_9d52b) := goodIn_app (goodIn_of _ (by decide +kernel)) ggJ2_getChar_3b067_J2_length_9d52b
theorem dJ2_getChar_3b067_0 : decode cJ2_getChar_3b067 0 = .ok (.getstatic 44, 3) := by decide +kernel
theorem dJ2_getChar_3b067_3 : decode cJ2_getChar_3b067 3 = .ok (.ifCond .ne 25, 3) := by decide +kernel
theorem dJ2_getChar_3b067_6 : decode cJ2_getChar_3b067 6 = .ok (.iload_n 1, 1) := by decide +kernel
theorem dJ2_getChar_3b067_7 : decode cJ2_getChar_3b067 7 = .ok (.ifCond .lt 11, 3) := by decide +kernel
theorem dJ2_getChar_3b067_10 : decode cJ2_getChar_3b067 10 = .ok (.iload_n 1, 1) := by decide +kernel
theorem dJ2_getChar_3b067_11 : decode cJ2_getChar_3b067 11 = .ok (.aload_n 0, 1) := by decide +kernel
theorem dJ2_getChar_3b067_12 : decode cJ2_getChar_3b067 12 = .ok (.invokestatic 48, 3) := by decide +kernel
theorem dJ2_getChar_3b067_15 : decode cJ2_getChar_3b067 15 = .ok (.if_icmp .lt 13, 3) := by decide +kernel
theorem dJ2_getChar_3b067_18 : decode cJ2_getChar_3b067 18 = .ok (.new 52, 3) := by decide +kernel
theorem dJ2_getChar_3b067_21 : decode cJ2_getChar_3b067 21 = .ok (.dup, 1) := by decide +kernel
theorem dJ2_getChar_3b067_22 : decode cJ2_getChar_3b067 22 = .ok (.ldc 54, 2) := by decide +kernel
theorem dJ2_getChar_3b067_24 : decode cJ2_getChar_3b067 24 = .ok (.invokespecial 56, 3) := by decide +kernel
theorem dJ2_getChar_3b067_27 : decode cJ2_getChar_3b067 27 = .ok (.athrow, 1) := by decide +kernel
theorem dJ2_getChar_3b067_28 : decode cJ2_getChar_3b067 28 = .ok (.iload_n 1, 1) := by decide +kernel
theorem dJ2_getChar_3b067_29 : decode cJ2_getChar_3b067 29 = .ok (.iconst 1, 1) := by decide +kernel
theorem dJ2_getChar_3b067_30 : decode cJ2_getChar_3b067 30 = .ok (.ishl, 1) := by decide +kernel
theorem dJ2_getChar_3b067_31 : decode cJ2_getChar_3b067 31 = .ok (.istore_n 1, 1) := by decide +kernel
theorem dJ2_getChar_3b067_32 : decode cJ2_getChar_3b067 32 = .ok (.aload_n 0, 1) := by decide +kernel
theorem dJ2_getChar_3b067_33 : decode cJ2_getChar_3b067 33 = .ok (.iload_n 1, 1) := by decide +kernel
theorem dJ2_getChar_3b067_34 : decode cJ2_getChar_3b067 34 = .ok (.iinc 1 1, 3) := by decide +kernel
theorem dJ2_getChar_3b067_37 : decode cJ2_getChar_3b067 37 = .ok (.baload, 1) := by decide +kernel
theorem dJ2_getChar_3b067_38 : decode cJ2_getChar_3b067 38 = .ok (.sipush 255, 3) := by decide +kernel
theorem dJ2_getChar_3b067_41 : decode cJ2_getChar_3b067 41 = .ok (.iand, 1) := by decide +kernel
theorem dJ2_getChar_3b067_42 : decode cJ2_getChar_3b067 42 = .ok (.getstatic 59, 3) := by decide +kernel
theorem dJ2_getChar_3b067_45 : decode cJ2_getChar_3b067 45 = .ok (.ishl, 1) := by decide +kernel
theorem dJ2_getChar_3b067_46 : decode cJ2_getChar_3b067 46 = .ok (.aload_n 0, 1) := by decide +kernel
theorem dJ2_getChar_3b067_47 : decode cJ2_getChar_3b067 47 = .ok (.iload_n 1, 1) := by decide +kernel
theorem dJ2_getChar_3b067_48 : decode cJ2_getChar_3b067 48 = .ok (.baload, 1) := by decide +kernel
theorem dJ2_getChar_3b067_49 : decode cJ2_getChar_3b067 49 = .ok (.sipush 255, 3) := by decide +kernel
theorem dJ2_getChar_3b067_52 : decode cJ2_getChar_3b067 52 = .ok (.iand, 1) := by decide +kernel
theorem dJ2_getChar_3b067_53 : decode cJ2_getChar_3b067 53 = .ok (.getstatic 63, 3) := by decide +kernel
theorem dJ2_getChar_3b067_56 : decode cJ2_getChar_3b067 56 = .ok (.ishl, 1) := by decide +kernel
theorem dJ2_getChar_3b067_57 : decode cJ2_getChar_3b067 57 = .ok (.ior, 1) := by decide +kernel
theorem dJ2_getChar_3b067_58 : decode cJ2_getChar_3b067 58 = .ok (.i2c, 1) := by decide +kernel
theorem dJ2_getChar_3b067_59 : decode cJ2_getChar_3b067 59 = .ok (.ireturn, 1) := by decide +kernel
theorem dJ2_length_9d52b_0 : decode cJ2_length_9d52b 0 = .ok (.aload_n 0, 1) := by decide +kernel
theorem dJ2_length_9d52b_1 : decode cJ2_length_9d52b 1 = .ok (.arraylength, 1) := by decide +kernel
theorem dJ2_length_9d52b_2 : decode cJ2_length_9d52b 2 = .ok (.iconst 1, 1) := by decide +kernel
theorem dJ2_length_9d52b_3 : decode cJ2_length_9d52b 3 = .ok (.ishr, 1) := by decide +kernel
theorem dJ2_length_9d52b_4 : decode cJ2_length_9d52b 4 = .ok (.ireturn, 1) := by decide +kernel
set_option maxRecDepth 20000 in
theorem ggJ2_charAt_3b067_J2_checkIndex_2214a : GoodIn wsJ2_charAt_3b067 wsJ2_checkIndex_2214a := goodIn_r _ [4, 5, 6, 3, 7, 8, 9, 10, 11, 12, 13, 14, 15, 16] (by decide +kernel) (by decide +kernel)
set_option maxRecDepth 20000 in
theorem gJ2_charAt_3b067_J2_checkIndex_2214a : GoodIn wsJ2_charAt_3b067 (va_wsS RJ2 67 yJ2_checkIndex_2214a wsJ2_checkIndex_2214a) := goodIn_app (goodIn_of _ (by decide +kernel)) ggJ2_charAt_3b067_J2_checkIndex_2214a
set_option maxRecDepth 20000 in
theorem ggJ2_charAt_3b067_J2_getChar_3b067 : GoodIn wsJ2_charAt_3b067 wsJ2_getChar_3b067 := goodIn_r _ [19, 20, 21, 22, 5, 6, 3, 7] (by decide +kernel) (by decide +kernel)
set_option maxRecDepth 20000 in
theorem gJ2_charAt_3b067_J2_getChar_3b067 : GoodIn wsJ2_charAt_3b067 (va_wsS RJ2 71 yJ2_getChar_3b067 wsJ2_getChar_3b067) := goodIn_app (goodIn_of _ (by decide +kernel)) ggJ2_charAt_3b067_J2_getChar_3b067
theorem dJ2_charAt_3b067_0 : decode cJ2_charAt_3b067 0 = .ok (.iload_n 1, 1) := by decide +kernel
theorem dJ2_charAt_3b067_1 : decode cJ2_charAt_3b067 1 = .ok (.aload_n 0, 1) := by decide +kernel
theorem dJ2_charAt_3b067_2 : decode cJ2_charAt_3b067 2 = .ok (.invokestatic 67, 3) := by decide +kernel
theorem dJ2_charAt_3b067_5 : decode cJ2_charAt_3b067 5 = .ok (.aload_n 0, 1) := by decide +kernel
theorem dJ2_charAt_3b067_6 : decode cJ2_charAt_3b067 6 = .ok (.iload_n 1, 1) := by decide +kernel
theorem dJ2_charAt_3b067_7 : decode cJ2_charAt_3b067 7 = .ok (.invokestatic 71, 3) := by decide +kernel
theorem dJ2_charAt_3b067_10 : decode cJ2_charAt_3b067 10 = .ok (.ireturn, 1) := by decide +kernel
set_option maxRecDepth 20000 in
theorem ggJ2_checkIndex_2214a_J2_length_9d52b : GoodIn wsJ2_checkIndex_2214a wsJ2_length_9d52b := goodIn_r _ [4] (by decide +kernel) (by decide +kernel)
set_option maxRecDepth 20000 in
theorem gJ2_checkIndex_2214a_J2_length_9d52b : GoodIn wsJ2_checkIndex_2214a (va_wsS RJ2 48 yJ2_length_9d52b wsJ2_length_9d52b) := goodIn_app (goodIn_of _ (by decide +kernel)) ggJ2_checkIndex_2214a_J2_length_9d52b
set_option maxRecDepth 20000 in
theorem ggJ2_checkIndex_2214a_J0_checkIndex_df160 : GoodIn wsJ2_checkIndex_2214a wsJ0_checkIndex_df160 := goodIn_r _ [8, 9, 10, 11, 12, 13] (by decide +kernel) (by decide +kernel)
set_option maxRecDepth 20000 in
theorem gJ2_checkIndex_2214a_J0_checkIndex_df160 : GoodIn wsJ2_checkIndex_2214a (va_wsS RJ2 414 yJ0_checkIndex_df160 wsJ0_checkIndex_df160) := goodIn_app (goodIn_of _ (by decide +kernel)) ggJ2_checkIndex_2214a_J0_checkIndex_df160
theorem dJ2_checkIndex_2214a_0 : decode cJ2_checkIndex_2214a 0 = .ok (.iload_n 0, 1) := by decide +kernel
theorem dJ2_checkIndex_2214a_1 : decode cJ2_checkIndex_2214a 1 = .ok (.aload_n 1, 1) := by decide +kernel
theorem dJ2_checkIndex_2214a_2 : decode cJ2_checkIndex_2214a 2 = .ok (.invokestatic 48, 3) := by decide +kernel
theorem dJ2_checkIndex_2214a_5 : decode cJ2_checkIndex_2214a 5 = .ok (.invokestatic 414, 3) := by decide +kernel
theorem dJ2_checkIndex_2214a_8 : decode cJ2_checkIndex_2214a 8 = .ok (.return_, 1) := by decide +kernel
theorem dJ3_checkIndex_8e157_0 : decode cJ3_checkIndex_8e157 0 = .ok (.iload_n 0, 1) := by decide +kernel
theorem dJ3_checkIndex_8e157_1 : decode cJ3_checkIndex_8e157 1 = .ok (.ifCond .lt 8, 3) := by decide +kernel
theorem dJ3_checkIndex_8e157_4 : decode cJ3_checkIndex_8e157 4 = .ok (.iload_n 0, 1) := by decide +kernel
theorem dJ3_checkIndex_8e157_5 : decode cJ3_checkIndex_8e157 5 = .ok (.iload_n 1, 1) := by decide +kernel
theorem dJ3_checkIndex_8e157_6 : decode cJ3_checkIndex_8e157 6 = .ok (.if_icmp .lt 10, 3) := by decide +kernel
theorem dJ3_checkIndex_8e157_9 : decode cJ3_checkIndex_8e157 9 = .ok (.aload_n 2, 1) := by decide +kernel
theorem dJ3_checkIndex_8e157_10 : decode cJ3_checkIndex_8e157 10 = .ok (.iload_n 0, 1) := by decide +kernel
theorem dJ3_checkIndex_8e157_11 : decode cJ3_checkIndex_8e157 11 = .ok (.iload_n 1, 1) := by decide +kernel
theorem dJ3_checkIndex_8e157_12 : decode cJ3_checkIndex_8e157 12 = .ok (.invokestatic 95, 3) := by decide +kernel
theorem dJ3_checkIndex_8e157_15 : decode cJ3_checkIndex_8e157 15 = .ok (.athrow, 1) := by decide +kernel
theorem dJ3_checkIndex_8e157_16 : decode cJ3_checkIndex_8e157 16 = .ok (.iload_n 0, 1) := by decide +kernel
theorem dJ3_checkIndex_8e157_17 : decode cJ3_checkIndex_8e157 17 = .ok (.ireturn, 1) := by decide +kernel
set_option maxRecDepth 20000 in
theorem ggL_hop_X6_hop : GoodIn wsL_hop wsX6_hop := goodIn_ca (goodIn_r _ [6, 7, 8, 9, 10, 11, 12, 13, 14, 15, 16, 17, 18, 5, 19, 20, 21, 22, 23, 24, 25, 26, 27, 28, 29, 30, 31, 32, 33, 34, 35, 36, 37, 38, 39, 40, 41, 42, 43, 44, 45, 46, 47, 48, 49, 50, 51, 52, 53, 54, 55, 56, 57, 58, 59, 60, 61, 62, 63, 64, 65, 66, 67, 68, 69, 70] (by decide +kernel) (by decide +kernel)) (goodIn_sub (fun _ h => List.mem_cons_of_mem _ (List.mem_append_right _ h)) (by decide +kernel))
set_option maxRecDepth 20000 in
theorem gL_hop_X6_hop : GoodIn wsL_hop (wsV RL 7 RX6 yX6_hop wsX6_hop) := goodIn_app (goodIn_of _ (by decide +kernel)) ggL_hop_X6_hop
theorem dL_hop_0 : decode cL_hop 0 = .ok (.aload_n 3, 1) := by decide +kernel
theorem dL_hop_1 : decode cL_hop 1 = .ok (.iconst 0, 1) := by decide +kernel
theorem dL_hop_2 : decode cL_hop 2 = .ok (.aload_n 0, 1) := by decide +kernel
theorem dL_hop_3 : decode cL_hop 3 = .ok (.iload_n 1, 1) := by decide +kernel
theorem dL_hop_4 : decode cL_hop 4 = .ok (.iload_n 2, 1) := by decide +kernel
theorem dL_hop_5 : decode cL_hop 5 = .ok (.invokevirtual 7, 3) := by decide +kernel
theorem dL_hop_8 : decode cL_hop 8 = .ok (.i2l, 1) := by decide +kernel
theorem dL_hop_9 : decode cL_hop 9 = .ok (.lastore, 1) := by decide +kernel
theorem dL_hop_10 : decode cL_hop 10 = .ok (.goto 7, 3) := by decide +kernel
theorem dL_hop_13 : decode cL_hop 13 = .ok (.astore 4, 2) := by decide +kernel
theorem dL_hop_15 : decode cL_hop 15 = .ok (.iconst 1, 1) := by decide +kernel
theorem dL_hop_16 : decode cL_hop 16 = .ok (.ireturn, 1) := by decide +kernel
theorem dL_hop_17 : decode cL_hop 17 = .ok (.iconst 0, 1) := by decide +kernel
theorem dL_hop_18 : decode cL_hop 18 = .ok (.ireturn, 1) := by decide +kernel
set_option maxRecDepth 20000 in
theorem ggL_circuit_X6_circuit : GoodIn wsL_circuit wsX6_circuit := goodIn_ca (goodIn_r _ [6, 7, 8, 9, 10, 11, 12, 13, 14, 15, 16, 17, 18, 19, 5, 20, 21, 22, 23, 24, 25, 26, 27, 28, 29, 30, 31, 32, 33, 34, 35, 36, 37, 38, 39, 40, 41, 42, 43, 44, 45, 46, 47, 48, 49, 50, 51, 52, 53, 54, 55, 56, 57, 58, 59, 60, 61, 62, 63, 64, 65, 66, 67, 68, 69, 70, 71, 72, 73, 74, 75, 76, 77, 78, 79, 80, 81] (by decide +kernel) (by decide +kernel)) (goodIn_sub (fun _ h => List.mem_cons_of_mem _ (List.mem_append_right _ h)) (by decide +kernel))
set_option maxRecDepth 20000 in
theorem gL_circuit_X6_circuit : GoodIn wsL_circuit (wsV RL 15 RX6 yX6_circuit wsX6_circuit) := goodIn_app (goodIn_of _ (by decide +kernel)) ggL_circuit_X6_circuit
theorem dL_circuit_0 : decode cL_circuit 0 = .ok (.aload_n 3, 1) := by decide +kernel
theorem dL_circuit_1 : decode cL_circuit 1 = .ok (.iconst 0, 1) := by decide +kernel
theorem dL_circuit_2 : decode cL_circuit 2 = .ok (.aload_n 0, 1) := by decide +kernel
theorem dL_circuit_3 : decode cL_circuit 3 = .ok (.iload_n 1, 1) := by decide +kernel
theorem dL_circuit_4 : decode cL_circuit 4 = .ok (.iload_n 2, 1) := by decide +kernel
theorem dL_circuit_5 : decode cL_circuit 5 = .ok (.invokevirtual 15, 3) := by decide +kernel
theorem dL_circuit_8 : decode cL_circuit 8 = .ok (.i2l, 1) := by decide +kernel
theorem dL_circuit_9 : decode cL_circuit 9 = .ok (.lastore, 1) := by decide +kernel
theorem dL_circuit_10 : decode cL_circuit 10 = .ok (.goto 7, 3) := by decide +kernel
theorem dL_circuit_13 : decode cL_circuit 13 = .ok (.astore 4, 2) := by decide +kernel
theorem dL_circuit_15 : decode cL_circuit 15 = .ok (.iconst 1, 1) := by decide +kernel
theorem dL_circuit_16 : decode cL_circuit 16 = .ok (.ireturn, 1) := by decide +kernel
theorem dL_circuit_17 : decode cL_circuit 17 = .ok (.iconst 0, 1) := by decide +kernel
theorem dL_circuit_18 : decode cL_circuit 18 = .ok (.ireturn, 1) := by decide +kernel
set_option maxRecDepth 20000 in
theorem ggL_law_X6_init : GoodIn wsL_law wsX6_init := goodIn_r _ [9, 10, 11, 12, 13, 14, 15, 16, 17, 18, 19, 20, 21, 22, 23, 24, 25, 26, 27, 28, 29, 30, 31, 32, 33, 34, 35, 36, 37, 38, 39, 40, 41, 42, 43, 44, 45, 46, 47, 48, 49, 50, 51, 52, 53, 54, 55, 56, 57, 58, 59, 60, 61, 62, 63, 64, 65, 66, 67, 68, 1232, 1233, 1234, 1235, 1236, 1237, 1238, 1239, 1240, 1262, 1263, 1264, 1265, 1266, 1267, 1268, 1269, 1270, 1271, 1272, 1273, 1274, 1275, 1276, 1277, 1278, 1279, 1280, 1281, 1282, 1283, 1284, 1285, 1286, 1287, 1288, 1289, 1290, 1291, 1292, 1293, 1294, 1295, 1296, 1297, 1298, 1299, 1300, 1301, 1302, 1303, 1304, 1305, 1306, 1307, 1308, 1309, 1310] (by decide +kernel) (by decide +kernel)
set_option maxRecDepth 20000 in
theorem gL_law_X6_init : GoodIn wsL_law (wsX6_init) := ggL_law_X6_init
set_option maxRecDepth 20000 in
theorem ggL_law_X7_init : GoodIn wsL_law wsX7_init := goodIn_r _ [71, 72, 11, 12, 13, 73, 74, 75, 76, 77, 78, 79, 80, 81, 82, 83, 84, 85, 1241, 1242, 1243, 1244, 1245, 1246, 1247, 1248, 1249, 1250, 1251, 1252, 1253, 1254, 1255, 1256, 1257, 1258, 1259, 1260, 1261] (by decide +kernel) (by decide +kernel)
set_option maxRecDepth 20000 in
theorem gL_law_X7_init : GoodIn wsL_law (wsX7_init) := ggL_law_X7_init
set_option maxRecDepth 20000 in
theorem ggL_law_X6_feed : GoodIn wsL_law wsX6_feed := goodIn_r _ [89, 90, 91, 92, 2, 93, 94, 95, 96, 97, 14, 1232, 1233, 1234, 1235, 1236, 1237, 1238, 1239, 1240] (by decide +kernel) (by decide +kernel)
set_option maxRecDepth 20000 in
theorem gL_law_X6_feed : GoodIn wsL_law (wsV RL 22 RX6 yX6_feed wsX6_feed) := goodIn_app (goodIn_of _ (by decide +kernel)) ggL_law_X6_feed
set_option maxRecDepth 20000 in
theorem ggL_law_X7_feed : GoodIn wsL_law wsX7_feed := goodIn_r _ [101, 102, 103, 73, 104, 105, 5, 106, 1241, 1242, 1243, 1244, 1245, 1246, 1247, 1248, 1249, 1250, 1251, 1252, 1253, 1254, 1255, 1256, 1257, 1258, 1259, 1260, 1261] (by decide +kernel) (by decide +kernel)
set_option maxRecDepth 20000 in
theorem gL_law_X7_feed : GoodIn wsL_law (wsV RL 26 RX7 yX7_feed wsX7_feed) := goodIn_app (goodIn_of _ (by decide +kernel)) ggL_law_X7_feed
set_option maxRecDepth 20000 in
theorem ggL_law_X6_end : GoodIn wsL_law wsX6_end := goodIn_r _ [110, 90, 111, 112, 2, 113, 1232, 1233, 1234, 1235, 1236, 1237, 1238, 1239, 1240] (by decide +kernel) (by decide +kernel)
set_option maxRecDepth 20000 in
theorem gL_law_X6_end : GoodIn wsL_law (wsV RL 27 RX6 yX6_end wsX6_end) := goodIn_app (goodIn_of _ (by decide +kernel)) ggL_law_X6_end
set_option maxRecDepth 20000 in
theorem ggL_law_X7_end : GoodIn wsL_law wsX7_end := goodIn_r _ [117, 102, 103, 118, 119, 5, 120, 1241, 1242, 1243, 1244, 1245, 1246, 1247, 1248, 1249, 1250, 1251, 1252, 1253, 1254, 1255, 1256, 1257, 1258, 1259, 1260, 1261] (by decide +kernel) (by decide +kernel)
set_option maxRecDepth 20000 in
theorem gL_law_X7_end : GoodIn wsL_law (wsV RL 31 RX7 yX7_end wsX7_end) := goodIn_app (goodIn_of _ (by decide +kernel)) ggL_law_X7_end
set_option maxRecDepth 20000 in
theorem ggL_law_X6_fault : GoodIn wsL_law wsX6_fault := goodIn_r _ [124, 19, 14, 90, 125, 126, 127, 18, 128, 33, 129, 130, 131, 132, 133, 134, 135, 136, 137, 138, 139, 140, 141, 34, 142, 143, 144, 145, 146, 147, 148, 149, 150, 151, 152, 153, 154, 155, 156, 157, 158, 159, 160, 161, 162, 163, 164, 165, 166, 167, 168, 169, 170, 171, 172, 173, 174, 175, 176, 177, 178, 179, 180, 181, 182, 183, 184, 185, 186, 187, 188, 189, 190, 191, 192, 193, 194, 195, 196, 197, 198, 199, 200, 201, 202, 203, 204, 205, 206, 207, 208, 209, 210, 211, 212, 213, 214, 215, 112, 2, 113, 1232, 1233, 1234, 1235, 1236, 1237, 1238, 1239, 1240, 1262, 1263, 1264, 1265, 1266, 1267, 1268] (by decide +kernel) (by decide +kernel)
set_option maxRecDepth 20000 in
theorem gL_law_X6_fault : GoodIn wsL_law (wsV RL 32 RX6 yX6_fault wsX6_fault) := goodIn_app (goodIn_of _ (by decide +kernel)) ggL_law_X6_fault
set_option maxRecDepth 20000 in
theorem ggL_law_X7_fault : GoodIn wsL_law wsX7_fault := goodIn_r _ [219, 102, 220, 221, 222, 5, 223, 224, 225, 226, 227, 74, 228, 229, 230, 231, 232, 233, 234, 235, 236, 237, 238, 75, 76, 239, 240, 241, 242, 243, 244, 245, 246, 103, 73, 247, 248, 249, 250, 251, 252, 253, 254, 255, 256, 257, 258, 259, 260, 261, 262, 263, 264, 265, 266, 267, 268, 269, 270, 271, 272, 273, 118, 119, 120, 1241, 1242, 1243, 1244, 1245, 1246, 1247, 1248, 1249, 1250, 1251, 1252, 1253, 1254, 1255, 1256, 1257, 1258, 1259, 1260, 1261] (by decide +kernel) (by decide +kernel)
set_option maxRecDepth 20000 in
theorem gL_law_X7_fault : GoodIn wsL_law (wsV RL 36 RX7 yX7_fault wsX7_fault) := goodIn_app (goodIn_of _ (by decide +kernel)) ggL_law_X7_fault
set_option maxRecDepth 20000 in
theorem ggL_law_X6_net : GoodIn wsL_law wsX6_net := goodIn_r _ [277, 19, 14, 90, 23, 26, 278, 279, 125, 126, 127, 18, 128, 33, 129, 130, 131, 132, 133, 134, 135, 136, 137, 138, 139, 140, 141, 34, 142, 143, 144, 145, 146, 147, 148, 149, 150, 151, 152, 153, 154, 155, 156, 157, 158, 159, 160, 161, 162, 163, 164, 165, 166, 167, 168, 169, 170, 171, 172, 173, 174, 175, 176, 177, 178, 179, 180, 181, 182, 183, 184, 185, 186, 187, 188, 189, 190, 191, 192, 193, 194, 195, 196, 197, 198, 199, 200, 201, 202, 203, 204, 205, 206, 207, 208, 209, 210, 211, 212, 213, 214, 215, 112, 2, 113, 280, 281, 282, 22, 283, 284, 285, 286, 287, 288, 289, 290, 291, 40, 42, 292, 293, 294, 295, 296, 297, 298, 299, 300, 301, 302, 303, 304, 305, 306, 307, 308, 309, 310, 311, 43, 312, 313, 314, 315, 316, 317, 318, 45, 319, 320, 321, 322, 323, 324, 325, 56, 326, 327, 328, 329, 52, 53, 54, 330, 331, 332, 58, 333, 334, 335, 336, 337, 338, 339, 340, 341, 342, 343, 344, 345, 346, 347, 47, 348, 349, 350, 351, 352, 353, 354, 355, 356, 357, 358, 359, 29, 360, 361, 362, 363, 364, 365, 1232, 1233, 1234, 1235, 1236, 1237, 1238, 1239, 1240, 1269, 1270, 1271, 1272, 1273, 1274, 1275, 1276, 1277, 1278, 1279, 1262, 1263, 1264, 1265, 1266, 1267, 1268, 1286, 1287, 1288, 1289, 1290, 1291, 1292, 1293, 1294, 1295, 1304, 1305, 1306, 1307, 1308, 1309, 1310, 1296, 1297, 1298, 1299, 1300, 1301, 1302, 1303, 1280, 1281, 1282, 1283, 1284, 1285] (by decide +kernel) (by decide +kernel)
set_option maxRecDepth 20000 in
theorem gL_law_X6_net : GoodIn wsL_law (wsV RL 37 RX6 yX6_net wsX6_net) := goodIn_app (goodIn_of _ (by decide +kernel)) ggL_law_X6_net
set_option maxRecDepth 20000 in
theorem ggL_law_X7_net : GoodIn wsL_law wsX7_net := goodIn_r _ [369, 102, 103, 226, 75, 227, 76, 370, 371, 77, 79, 74, 220, 221, 222, 5, 223, 224, 225, 228, 229, 230, 231, 232, 233, 234, 235, 236, 237, 238, 239, 240, 241, 242, 243, 244, 245, 246, 73, 247, 248, 249, 250, 251, 252, 253, 254, 255, 256, 257, 258, 259, 260, 261, 262, 263, 264, 265, 266, 267, 268, 269, 270, 271, 272, 273, 118, 119, 120, 372, 373, 374, 375, 80, 376, 290, 131, 291, 377, 378, 379, 380, 381, 382, 383, 384, 385, 386, 387, 388, 389, 390, 391, 392, 393, 1241, 1242, 1243, 1244, 1245, 1246, 1247, 1248, 1249, 1250, 1251, 1252, 1253, 1254, 1255, 1256, 1257, 1258, 1259, 1260, 1261] (by decide +kernel) (by decide +kernel)
set_option maxRecDepth 20000 in
theorem gL_law_X7_net : GoodIn wsL_law (wsV RL 40 RX7 yX7_net wsX7_net) := goodIn_app (goodIn_of _ (by decide +kernel)) ggL_law_X7_net
set_option maxRecDepth 20000 in
theorem ggL_law_X6_rule : GoodIn wsL_law wsX6_rule := goodIn_r _ [397, 278, 398, 23, 399, 279, 400, 401, 402, 403, 1232, 1233, 1234, 1235, 1236, 1237, 1238, 1239, 1240, 1269, 1270, 1271, 1272, 1273, 1274, 1275, 1276, 1277, 1278, 1279] (by decide +kernel) (by decide +kernel)
set_option maxRecDepth 20000 in
theorem gL_law_X6_rule : GoodIn wsL_law (wsV RL 41 RX6 yX6_rule wsX6_rule) := goodIn_app (goodIn_of _ (by decide +kernel)) ggL_law_X6_rule
set_option maxRecDepth 20000 in
theorem ggL_law_X7_rule : GoodIn wsL_law wsX7_rule := goodIn_r _ [407, 102, 408, 370, 371, 77, 79, 409, 410, 411, 5, 412, 118, 119, 120, 1241, 1242, 1243, 1244, 1245, 1246, 1247, 1248, 1249, 1250, 1251, 1252, 1253, 1254, 1255, 1256, 1257, 1258, 1259, 1260, 1261] (by decide +kernel) (by decide +kernel)
set_option maxRecDepth 20000 in
theorem gL_law_X7_rule : GoodIn wsL_law (wsV RL 45 RX7 yX7_rule wsX7_rule) := goodIn_app (goodIn_of _ (by decide +kernel)) ggL_law_X7_rule
set_option maxRecDepth 20000 in
theorem ggL_law_L_hop : GoodIn wsL_law wsL_hop := goodIn_ca (goodIn_r _ [416, 417, 418, 419, 420, 2, 421, 422, 423, 23, 424, 425, 426, 427, 428, 429, 430, 431, 432, 433, 278, 399, 111, 112, 113, 434, 435, 436, 45, 437, 52, 438, 439, 440, 441, 53, 442, 443, 444, 445, 54, 1232, 1233, 1234, 1235, 1236, 1237, 1238, 1239, 1240, 1269, 1270, 1271, 1272, 1273, 1274, 1275, 1276, 1277, 1278, 1279, 1286, 1287, 1288, 1289, 1290, 1291, 1292, 1293, 1294, 1295] (by decide +kernel) (by decide +kernel)) (goodIn_sub (fun _ h => List.mem_append_right _ h) (by decide +kernel))
set_option maxRecDepth 20000 in
theorem gL_law_L_hop : GoodIn wsL_law (va_wsS RL 46 yL_hop wsL_hop) := goodIn_app (goodIn_of _ (by decide +kernel)) ggL_law_L_hop
set_option maxRecDepth 20000 in
theorem ggL_law_X7_hop : GoodIn wsL_law wsX7_hop := goodIn_r _ [449, 102, 77, 80, 450, 451, 452, 5, 453, 370, 118, 119, 120, 454, 455, 456, 457, 385, 386, 387, 458, 459, 460, 461, 371, 1241, 1242, 1243, 1244, 1245, 1246, 1247, 1248, 1249, 1250, 1251, 1252, 1253, 1254, 1255, 1256, 1257, 1258, 1259, 1260, 1261] (by decide +kernel) (by decide +kernel)
set_option maxRecDepth 20000 in
theorem gL_law_X7_hop : GoodIn wsL_law (wsV RL 51 RX7 yX7_hop wsX7_hop) := goodIn_app (goodIn_of _ (by decide +kernel)) ggL_law_X7_hop
set_option maxRecDepth 20000 in
theorem ggL_law_X7_thrown : GoodIn wsL_law wsX7_thrown := goodIn_r _ [465, 102, 1241, 1242, 1243, 1244, 1245, 1246, 1247, 1248, 1249, 1250, 1251, 1252, 1253, 1254, 1255, 1256, 1257, 1258, 1259, 1260, 1261] (by decide +kernel) (by decide +kernel)
set_option maxRecDepth 20000 in
theorem gL_law_X7_thrown : GoodIn wsL_law (wsV RL 52 RX7 yX7_thrown wsX7_thrown) := goodIn_app (goodIn_of _ (by decide +kernel)) ggL_law_X7_thrown
set_option maxRecDepth 20000 in
theorem ggL_law_L_circuit : GoodIn wsL_law wsL_circuit := goodIn_ca (goodIn_r _ [468, 417, 469, 470, 471, 2, 472, 422, 423, 23, 473, 474, 475, 476, 477, 478, 479, 480, 481, 482, 483, 278, 279, 111, 112, 113, 484, 485, 486, 22, 487, 286, 40, 488, 489, 490, 491, 43, 492, 493, 494, 45, 495, 52, 1232, 1233, 1234, 1235, 1236, 1237, 1238, 1239, 1240, 1269, 1270, 1271, 1272, 1273, 1274, 1275, 1276, 1277, 1278, 1279, 1296, 1297, 1298, 1299, 1300, 1301, 1302, 1303, 1286, 1287, 1288, 1289, 1290, 1291, 1292, 1293, 1294, 1295] (by decide +kernel) (by decide +kernel)) (goodIn_sub (fun _ h => List.mem_append_right _ h) (by decide +kernel))
set_option maxRecDepth 20000 in
theorem gL_law_L_circuit : GoodIn wsL_law (va_wsS RL 55 yL_circuit wsL_circuit) := goodIn_app (goodIn_of _ (by decide +kernel)) ggL_law_L_circuit
set_option maxRecDepth 20000 in
theorem ggL_law_X7_circuit : GoodIn wsL_law wsX7_circuit := goodIn_r _ [499, 102, 77, 500, 501, 502, 5, 503, 371, 118, 119, 120, 504, 505, 506, 507, 391, 392, 393, 1241, 1242, 1243, 1244, 1245, 1246, 1247, 1248, 1249, 1250, 1251, 1252, 1253, 1254, 1255, 1256, 1257, 1258, 1259, 1260, 1261] (by decide +kernel) (by decide +kernel)
set_option maxRecDepth 20000 in
theorem gL_law_X7_circuit : GoodIn wsL_law (wsV RL 57 RX7 yX7_circuit wsX7_circuit) := goodIn_app (goodIn_of _ (by decide +kernel)) ggL_law_X7_circuit
set_option maxRecDepth 20000 in
theorem ggL_law_X6_lane : GoodIn wsL_law wsX6_lane := goodIn_r _ [511, 23, 512, 513, 514, 2, 515, 430, 431, 432, 433, 278, 399, 480, 481, 482, 483, 279, 111, 112, 113, 516, 517, 518, 424, 519, 520, 521, 522, 523, 524, 525, 526, 527, 528, 529, 58, 530, 334, 336, 531, 532, 533, 534, 337, 535, 290, 131, 291, 536, 537, 493, 494, 45, 495, 52, 1232, 1233, 1234, 1235, 1236, 1237, 1238, 1239, 1240, 1269, 1270, 1271, 1272, 1273, 1274, 1275, 1276, 1277, 1278, 1279, 1286, 1287, 1288, 1289, 1290, 1291, 1292, 1293, 1294, 1295, 1304, 1305, 1306, 1307, 1308, 1309, 1310] (by decide +kernel) (by decide +kernel)
set_option maxRecDepth 20000 in
theorem gL_law_X6_lane : GoodIn wsL_law (wsV RL 58 RX6 yX6_lane wsX6_lane) := goodIn_app (goodIn_of _ (by decide +kernel)) ggL_law_X6_lane
set_option maxRecDepth 20000 in
theorem ggL_law_X7_lane_ : GoodIn wsL_law wsX7_lane_ := goodIn_r _ [541, 102, 542, 543, 544, 5, 545, 450, 451, 452, 453, 370, 118, 119, 120, 500, 501, 502, 503, 371, 546, 547, 548, 549, 77, 550, 551, 552, 553, 388, 389, 390, 554, 555, 556, 557, 558, 559, 560, 376, 290, 131, 291, 454, 455, 456, 457, 385, 386, 387, 1241, 1242, 1243, 1244, 1245, 1246, 1247, 1248, 1249, 1250, 1251, 1252, 1253, 1254, 1255, 1256, 1257, 1258, 1259, 1260, 1261] (by decide +kernel) (by decide +kernel)
set_option maxRecDepth 20000 in
theorem gL_law_X7_lane_ : GoodIn wsL_law (wsV RL 62 RX7 yX7_lane_ wsX7_lane_) := goodIn_app (goodIn_of _ (by decide +kernel)) ggL_law_X7_lane_
set_option maxRecDepth 20000 in
theorem ggL_law_X6_buffer : GoodIn wsL_law wsX6_buffer := goodIn_r _ [564, 23, 565, 566, 567, 2, 568, 278, 399, 480, 481, 482, 483, 279, 569, 489, 490, 22, 491, 43, 1232, 1233, 1234, 1235, 1236, 1237, 1238, 1239, 1240, 1269, 1270, 1271, 1272, 1273, 1274, 1275, 1276, 1277, 1278, 1279] (by decide +kernel) (by decide +kernel)
set_option maxRecDepth 20000 in
theorem gL_law_X6_buffer : GoodIn wsL_law (wsV RL 63 RX6 yX6_buffer wsX6_buffer) := goodIn_app (goodIn_of _ (by decide +kernel)) ggL_law_X6_buffer
set_option maxRecDepth 20000 in
theorem ggL_law_X7_buffer : GoodIn wsL_law wsX7_buffer := goodIn_r _ [573, 102, 77, 574, 575, 576, 5, 577, 370, 409, 410, 411, 412, 118, 119, 120, 500, 501, 502, 503, 371, 578, 579, 580, 1241, 1242, 1243, 1244, 1245, 1246, 1247, 1248, 1249, 1250, 1251, 1252, 1253, 1254, 1255, 1256, 1257, 1258, 1259, 1260, 1261] (by decide +kernel) (by decide +kernel)
set_option maxRecDepth 20000 in
theorem gL_law_X7_buffer : GoodIn wsL_law (wsV RL 66 RX7 yX7_buffer wsX7_buffer) := goodIn_app (goodIn_of _ (by decide +kernel)) ggL_law_X7_buffer
set_option maxRecDepth 20000 in
theorem ggL_law_X6_way : GoodIn wsL_law wsX6_way := goodIn_r _ [584, 23, 424, 403, 585, 586, 430, 431, 432, 2, 433, 278, 399, 111, 112, 113, 587, 588, 589, 45, 590, 54, 480, 481, 482, 483, 279, 1232, 1233, 1234, 1235, 1236, 1237, 1238, 1239, 1240, 1269, 1270, 1271, 1272, 1273, 1274, 1275, 1276, 1277, 1278, 1279, 1286, 1287, 1288, 1289, 1290, 1291, 1292, 1293, 1294, 1295] (by decide +kernel) (by decide +kernel)
set_option maxRecDepth 20000 in
theorem gL_law_X6_way : GoodIn wsL_law (wsV RL 67 RX6 yX6_way wsX6_way) := goodIn_app (goodIn_of _ (by decide +kernel)) ggL_law_X6_way
set_option maxRecDepth 20000 in
theorem ggL_law_X7_way : GoodIn wsL_law wsX7_way := goodIn_r _ [594, 102, 77, 450, 451, 452, 5, 453, 370, 118, 119, 120, 385, 386, 387, 1241, 1242, 1243, 1244, 1245, 1246, 1247, 1248, 1249, 1250, 1251, 1252, 1253, 1254, 1255, 1256, 1257, 1258, 1259, 1260, 1261] (by decide +kernel) (by decide +kernel)
set_option maxRecDepth 20000 in
theorem gL_law_X7_way : GoodIn wsL_law (wsV RL 70 RX7 yX7_way wsX7_way) := goodIn_app (goodIn_of _ (by decide +kernel)) ggL_law_X7_way
set_option maxRecDepth 20000 in
theorem ggL_law_X6_go : GoodIn wsL_law wsX6_go := goodIn_r _ [598, 278, 23, 403, 599, 600, 601, 2, 602, 15, 111, 112, 113, 603, 604, 605, 606, 279, 473, 607, 26, 608, 609, 610, 611, 22, 612, 286, 288, 284, 309, 40, 613, 614, 615, 616, 617, 43, 618, 619, 620, 621, 622, 623, 58, 624, 336, 625, 626, 627, 628, 629, 630, 631, 310, 632, 633, 634, 327, 328, 45, 329, 52, 53, 54, 635, 636, 637, 638, 42, 639, 640, 641, 642, 643, 644, 47, 645, 349, 350, 646, 647, 648, 649, 650, 651, 652, 653, 654, 655, 351, 656, 657, 658, 659, 660, 661, 662, 663, 664, 665, 666, 667, 668, 669, 670, 671, 672, 673, 674, 675, 528, 529, 530, 334, 676, 677, 678, 679, 680, 285, 681, 682, 683, 684, 685, 686, 687, 688, 311, 689, 690, 691, 692, 693, 130, 131, 132, 289, 290, 291, 694, 695, 696, 697, 698, 287, 699, 700, 701, 702, 321, 56, 703, 704, 705, 706, 707, 708, 29, 709, 68, 361, 362, 710, 711, 712, 713, 363, 364, 714, 365, 715, 716, 717, 718, 1232, 1233, 1234, 1235, 1236, 1237, 1238, 1239, 1240, 1269, 1270, 1271, 1272, 1273, 1274, 1275, 1276, 1277, 1278, 1279, 1296, 1297, 1298, 1299, 1300, 1301, 1302, 1303, 1286, 1287, 1288, 1289, 1290, 1291, 1292, 1293, 1294, 1295, 1304, 1305, 1306, 1307, 1308, 1309, 1310, 1280, 1281, 1282, 1283, 1284, 1285] (by decide +kernel) (by decide +kernel)
set_option maxRecDepth 20000 in
theorem gL_law_X6_go : GoodIn wsL_law (wsV RL 71 RX6 yX6_go wsX6_go) := goodIn_app (goodIn_of _ (by decide +kernel)) ggL_law_X6_go
set_option maxRecDepth 20000 in
theorem ggL_law_X7_go : GoodIn wsL_law wsX7_go := goodIn_r _ [722, 102, 77, 409, 410, 411, 5, 412, 370, 723, 724, 725, 726, 78, 118, 119, 120, 727, 728, 729, 730, 371, 79, 731, 732, 733, 734, 385, 386, 387, 578, 579, 580, 388, 389, 390, 554, 555, 556, 381, 382, 383, 384, 254, 255, 256, 735, 736, 737, 738, 739, 740, 741, 742, 80, 743, 744, 745, 746, 391, 392, 393, 747, 748, 749, 750, 376, 290, 131, 291, 751, 752, 753, 754, 755, 756, 757, 758, 759, 760, 761, 762, 557, 558, 559, 560, 550, 551, 552, 553, 763, 764, 765, 766, 767, 768, 769, 770, 771, 772, 773, 774, 775, 776, 777, 778, 81, 779, 130, 132, 780, 781, 782, 783, 377, 378, 379, 380, 784, 785, 786, 787, 1241, 1242, 1243, 1244, 1245, 1246, 1247, 1248, 1249, 1250, 1251, 1252, 1253, 1254, 1255, 1256, 1257, 1258, 1259, 1260, 1261] (by decide +kernel) (by decide +kernel)
set_option maxRecDepth 20000 in
theorem gL_law_X7_go : GoodIn wsL_law (wsV RL 74 RX7 yX7_go wsX7_go) := goodIn_app (goodIn_of _ (by decide +kernel)) ggL_law_X7_go
set_option maxRecDepth 20000 in
theorem ggL_law_X6_jam : GoodIn wsL_law wsX6_jam := goodIn_r _ [791, 23, 424, 428, 430, 431, 432, 2, 433, 278, 399, 599, 600, 601, 602, 15, 111, 112, 113, 1232, 1233, 1234, 1235, 1236, 1237, 1238, 1239, 1240, 1269, 1270, 1271, 1272, 1273, 1274, 1275, 1276, 1277, 1278, 1279, 1286, 1287, 1288, 1289, 1290, 1291, 1292, 1293, 1294, 1295] (by decide +kernel) (by decide +kernel)
set_option maxRecDepth 20000 in
theorem gL_law_X6_jam : GoodIn wsL_law (wsV RL 75 RX6 yX6_jam wsX6_jam) := goodIn_app (goodIn_of _ (by decide +kernel)) ggL_law_X6_jam
set_option maxRecDepth 20000 in
theorem ggL_law_X7_jam : GoodIn wsL_law wsX7_jam := goodIn_r _ [795, 102, 77, 450, 451, 452, 5, 453, 370, 118, 119, 120, 723, 724, 725, 726, 78, 1241, 1242, 1243, 1244, 1245, 1246, 1247, 1248, 1249, 1250, 1251, 1252, 1253, 1254, 1255, 1256, 1257, 1258, 1259, 1260, 1261] (by decide +kernel) (by decide +kernel)
set_option maxRecDepth 20000 in
theorem gL_law_X7_jam : GoodIn wsL_law (wsV RL 78 RX7 yX7_jam wsX7_jam) := goodIn_app (goodIn_of _ (by decide +kernel)) ggL_law_X7_jam
set_option maxRecDepth 20000 in
theorem ggL_law_X6_source : GoodIn wsL_law wsX6_source := goodIn_r _ [799, 23, 473, 474, 475, 480, 481, 482, 2, 483, 278, 279, 599, 600, 601, 602, 15, 111, 112, 113, 1232, 1233, 1234, 1235, 1236, 1237, 1238, 1239, 1240, 1269, 1270, 1271, 1272, 1273, 1274, 1275, 1276, 1277, 1278, 1279, 1296, 1297, 1298, 1299, 1300, 1301, 1302, 1303] (by decide +kernel) (by decide +kernel)
set_option maxRecDepth 20000 in
theorem gL_law_X6_source : GoodIn wsL_law (wsV RL 79 RX6 yX6_source wsX6_source) := goodIn_app (goodIn_of _ (by decide +kernel)) ggL_law_X6_source
set_option maxRecDepth 20000 in
theorem ggL_law_X7_source : GoodIn wsL_law wsX7_source := goodIn_r _ [803, 102, 77, 500, 501, 502, 5, 503, 371, 118, 119, 120, 723, 724, 725, 726, 78, 391, 392, 393, 1241, 1242, 1243, 1244, 1245, 1246, 1247, 1248, 1249, 1250, 1251, 1252, 1253, 1254, 1255, 1256, 1257, 1258, 1259, 1260, 1261] (by decide +kernel) (by decide +kernel)
set_option maxRecDepth 20000 in
theorem gL_law_X7_source : GoodIn wsL_law (wsV RL 82 RX7 yX7_source wsX7_source) := goodIn_app (goodIn_of _ (by decide +kernel)) ggL_law_X7_source
set_option maxRecDepth 20000 in
theorem ggL_law_X6_takes : GoodIn wsL_law wsX6_takes := goodIn_r _ [807, 23, 473, 476, 480, 481, 482, 2, 483, 278, 279, 599, 600, 601, 602, 15, 111, 112, 113, 1232, 1233, 1234, 1235, 1236, 1237, 1238, 1239, 1240, 1269, 1270, 1271, 1272, 1273, 1274, 1275, 1276, 1277, 1278, 1279, 1296, 1297, 1298, 1299, 1300, 1301, 1302, 1303] (by decide +kernel) (by decide +kernel)
set_option maxRecDepth 20000 in
theorem gL_law_X6_takes : GoodIn wsL_law (wsV RL 83 RX6 yX6_takes wsX6_takes) := goodIn_app (goodIn_of _ (by decide +kernel)) ggL_law_X6_takes
set_option maxRecDepth 20000 in
theorem ggL_law_X7_takes : GoodIn wsL_law wsX7_takes := goodIn_r _ [811, 102, 77, 500, 501, 502, 5, 503, 371, 118, 119, 120, 723, 724, 725, 726, 78, 391, 392, 393, 1241, 1242, 1243, 1244, 1245, 1246, 1247, 1248, 1249, 1250, 1251, 1252, 1253, 1254, 1255, 1256, 1257, 1258, 1259, 1260, 1261] (by decide +kernel) (by decide +kernel)
set_option maxRecDepth 20000 in
theorem gL_law_X7_takes : GoodIn wsL_law (wsV RL 86 RX7 yX7_takes wsX7_takes) := goodIn_app (goodIn_of _ (by decide +kernel)) ggL_law_X7_takes
set_option maxRecDepth 20000 in
theorem ggL_law_X6_zone : GoodIn wsL_law wsX6_zone := goodIn_r _ [815, 23, 424, 519, 523, 816, 817, 818, 2, 819, 400, 426, 512, 513, 514, 515, 430, 431, 432, 433, 278, 399, 480, 481, 482, 483, 279, 111, 112, 113, 820, 821, 822, 823, 824, 290, 131, 291, 825, 700, 701, 45, 702, 321, 56, 703, 704, 705, 528, 529, 58, 530, 334, 336, 599, 600, 601, 602, 15, 1232, 1233, 1234, 1235, 1236, 1237, 1238, 1239, 1240, 1269, 1270, 1271, 1272, 1273, 1274, 1275, 1276, 1277, 1278, 1279, 1286, 1287, 1288, 1289, 1290, 1291, 1292, 1293, 1294, 1295, 1304, 1305, 1306, 1307, 1308, 1309, 1310] (by decide +kernel) (by decide +kernel)
set_option maxRecDepth 20000 in
theorem gL_law_X6_zone : GoodIn wsL_law (wsV RL 87 RX6 yX6_zone wsX6_zone) := goodIn_app (goodIn_of _ (by decide +kernel)) ggL_law_X6_zone
set_option maxRecDepth 20000 in
theorem ggL_law_X7_zone : GoodIn wsL_law wsX7_zone := goodIn_r _ [829, 102, 77, 830, 831, 832, 5, 833, 79, 542, 543, 544, 545, 450, 451, 452, 453, 370, 118, 119, 120, 500, 501, 502, 503, 371, 377, 378, 379, 380, 80, 388, 389, 390, 784, 785, 786, 787, 376, 290, 131, 291, 550, 551, 552, 553, 554, 555, 556, 723, 724, 725, 726, 78, 1241, 1242, 1243, 1244, 1245, 1246, 1247, 1248, 1249, 1250, 1251, 1252, 1253, 1254, 1255, 1256, 1257, 1258, 1259, 1260, 1261] (by decide +kernel) (by decide +kernel)
set_option maxRecDepth 20000 in
theorem gL_law_X7_zone : GoodIn wsL_law (wsV RL 90 RX7 yX7_zone wsX7_zone) := goodIn_app (goodIn_of _ (by decide +kernel)) ggL_law_X7_zone
set_option maxRecDepth 20000 in
theorem ggL_law_X6_probe : GoodIn wsL_law wsX6_probe := goodIn_r _ [837, 23, 424, 519, 512, 513, 514, 2, 515, 430, 431, 432, 433, 278, 399, 480, 481, 482, 483, 279, 599, 600, 601, 602, 15, 838, 686, 687, 22, 688, 620, 309, 632, 619, 680, 311, 527, 528, 529, 58, 530, 334, 336, 1232, 1233, 1234, 1235, 1236, 1237, 1238, 1239, 1240, 1269, 1270, 1271, 1272, 1273, 1274, 1275, 1276, 1277, 1278, 1279, 1286, 1287, 1288, 1289, 1290, 1291, 1292, 1293, 1294, 1295, 1304, 1305, 1306, 1307, 1308, 1309, 1310] (by decide +kernel) (by decide +kernel)
set_option maxRecDepth 20000 in
theorem gL_law_X6_probe : GoodIn wsL_law (wsV RL 91 RX6 yX6_probe wsX6_probe) := goodIn_app (goodIn_of _ (by decide +kernel)) ggL_law_X6_probe
set_option maxRecDepth 20000 in
theorem ggL_law_X7_probe : GoodIn wsL_law wsX7_probe := goodIn_r _ [842, 102, 542, 543, 544, 5, 545, 450, 451, 452, 453, 370, 118, 119, 120, 500, 501, 502, 503, 371, 723, 724, 725, 726, 78, 771, 772, 773, 774, 77, 739, 740, 741, 742, 80, 385, 386, 387, 388, 389, 390, 550, 551, 552, 553, 554, 555, 556, 1241, 1242, 1243, 1244, 1245, 1246, 1247, 1248, 1249, 1250, 1251, 1252, 1253, 1254, 1255, 1256, 1257, 1258, 1259, 1260, 1261] (by decide +kernel) (by decide +kernel)
set_option maxRecDepth 20000 in
theorem gL_law_X7_probe : GoodIn wsL_law (wsV RL 94 RX7 yX7_probe wsX7_probe) := goodIn_app (goodIn_of _ (by decide +kernel)) ggL_law_X7_probe
set_option maxRecDepth 20000 in
theorem ggL_law_X6_status : GoodIn wsL_law wsX6_status := goodIn_r _ [846, 15, 111, 112, 2, 113, 1232, 1233, 1234, 1235, 1236, 1237, 1238, 1239, 1240] (by decide +kernel) (by decide +kernel)
set_option maxRecDepth 20000 in
theorem gL_law_X6_status : GoodIn wsL_law (wsV RL 95 RX6 yX6_status wsX6_status) := goodIn_app (goodIn_of _ (by decide +kernel)) ggL_law_X6_status
set_option maxRecDepth 20000 in
theorem ggL_law_X7_status : GoodIn wsL_law wsX7_status := goodIn_r _ [850, 102, 78, 118, 119, 5, 120, 1241, 1242, 1243, 1244, 1245, 1246, 1247, 1248, 1249, 1250, 1251, 1252, 1253, 1254, 1255, 1256, 1257, 1258, 1259, 1260, 1261] (by decide +kernel) (by decide +kernel)
set_option maxRecDepth 20000 in
theorem gL_law_X7_status : GoodIn wsL_law (wsV RL 98 RX7 yX7_status wsX7_status) := goodIn_app (goodIn_of _ (by decide +kernel)) ggL_law_X7_status
set_option maxRecDepth 20000 in
theorem ggL_law_X6_laneAhead : GoodIn wsL_law wsX6_laneAhead := goodIn_r _ [854, 24, 512, 513, 514, 2, 515, 430, 431, 432, 433, 278, 23, 399, 480, 481, 482, 483, 279, 111, 112, 113, 855, 856, 857, 858, 859, 860, 861, 22, 862, 286, 288, 287, 284, 285, 309, 310, 311, 40, 42, 43, 863, 864, 865, 866, 867, 868, 869, 45, 870, 320, 321, 322, 323, 324, 325, 52, 871, 53, 54, 56, 872, 873, 874, 58, 875, 334, 335, 336, 337, 338, 339, 340, 876, 877, 878, 47, 879, 349, 350, 351, 352, 353, 354, 355, 356, 880, 881, 882, 883, 884, 610, 611, 612, 613, 614, 615, 616, 617, 618, 619, 620, 621, 622, 623, 624, 625, 626, 627, 628, 629, 630, 631, 632, 633, 634, 327, 328, 329, 635, 636, 637, 638, 639, 640, 641, 642, 643, 644, 645, 646, 647, 648, 649, 650, 651, 652, 653, 654, 655, 656, 657, 658, 659, 660, 661, 662, 663, 664, 665, 666, 667, 668, 669, 670, 671, 672, 673, 674, 675, 528, 529, 530, 676, 677, 678, 679, 680, 681, 682, 683, 684, 685, 686, 687, 688, 689, 690, 691, 692, 693, 130, 131, 132, 289, 290, 291, 694, 695, 696, 697, 698, 699, 700, 701, 702, 703, 704, 705, 516, 517, 518, 424, 519, 520, 521, 522, 523, 524, 525, 526, 527, 531, 532, 533, 534, 535, 536, 537, 493, 494, 495, 1232, 1233, 1234, 1235, 1236, 1237, 1238, 1239, 1240, 1269, 1270, 1271, 1272, 1273, 1274, 1275, 1276, 1277, 1278, 1279, 1286, 1287, 1288, 1289, 1290, 1291, 1292, 1293, 1294, 1295, 1304, 1305, 1306, 1307, 1308, 1309, 1310, 1296, 1297, 1298, 1299, 1300, 1301, 1302, 1303] (by decide +kernel) (by decide +kernel)
set_option maxRecDepth 20000 in
theorem gL_law_X6_laneAhead : GoodIn wsL_law (wsV RL 99 RX6 yX6_laneAhead wsX6_laneAhead) := goodIn_app (goodIn_of _ (by decide +kernel)) ggL_law_X6_laneAhead
set_option maxRecDepth 20000 in
theorem ggL_law_X7_laneAhead : GoodIn wsL_law wsX7_laneAhead := goodIn_r _ [888, 102, 542, 543, 544, 5, 545, 450, 451, 452, 453, 370, 118, 119, 120, 500, 501, 502, 503, 371, 889, 890, 891, 892, 893, 894, 895, 82, 77, 896, 897, 898, 899, 727, 728, 729, 730, 79, 731, 732, 733, 734, 385, 386, 387, 578, 579, 580, 388, 389, 390, 554, 555, 556, 381, 382, 383, 384, 254, 255, 256, 735, 736, 737, 738, 739, 740, 741, 742, 80, 743, 744, 745, 746, 391, 392, 393, 747, 748, 749, 750, 376, 290, 131, 291, 751, 752, 753, 754, 755, 756, 757, 758, 759, 760, 761, 762, 557, 558, 559, 560, 550, 551, 552, 553, 763, 764, 765, 766, 767, 768, 769, 770, 771, 772, 773, 774, 775, 776, 777, 778, 81, 779, 130, 132, 780, 781, 782, 783, 377, 378, 379, 380, 784, 785, 786, 787, 546, 547, 548, 549, 454, 455, 456, 457, 900, 901, 902, 903, 1241, 1242, 1243, 1244, 1245, 1246, 1247, 1248, 1249, 1250, 1251, 1252, 1253, 1254, 1255, 1256, 1257, 1258, 1259, 1260, 1261] (by decide +kernel) (by decide +kernel)
set_option maxRecDepth 20000 in
theorem gL_law_X7_laneAhead : GoodIn wsL_law (wsV RL 103 RX7 yX7_laneAhead wsX7_laneAhead) := goodIn_app (goodIn_of _ (by decide +kernel)) ggL_law_X7_laneAhead
set_option maxRecDepth 20000 in
theorem ggL_law_X6_bufferAhead : GoodIn wsL_law wsX6_bufferAhead := goodIn_r _ [907, 24, 565, 566, 567, 2, 568, 278, 23, 399, 480, 481, 482, 483, 279, 111, 112, 113, 855, 856, 857, 858, 859, 860, 861, 22, 862, 286, 288, 287, 284, 285, 309, 310, 311, 40, 42, 43, 863, 864, 865, 866, 867, 868, 869, 45, 870, 320, 321, 322, 323, 324, 325, 52, 871, 53, 54, 56, 872, 873, 874, 58, 875, 334, 335, 336, 337, 338, 339, 340, 876, 877, 878, 47, 879, 349, 350, 351, 352, 353, 354, 355, 356, 880, 881, 882, 883, 884, 610, 611, 612, 613, 614, 615, 616, 617, 618, 619, 620, 621, 622, 623, 624, 625, 626, 627, 628, 629, 630, 631, 632, 633, 634, 327, 328, 329, 635, 636, 637, 638, 639, 640, 641, 642, 643, 644, 645, 646, 647, 648, 649, 650, 651, 652, 653, 654, 655, 656, 657, 658, 659, 660, 661, 662, 663, 664, 665, 666, 667, 668, 669, 670, 671, 672, 673, 674, 675, 528, 529, 530, 676, 677, 678, 679, 680, 681, 682, 683, 684, 685, 686, 687, 688, 689, 690, 691, 692, 693, 130, 131, 132, 289, 290, 291, 694, 695, 696, 697, 698, 699, 700, 701, 702, 703, 704, 705, 569, 489, 490, 491, 1232, 1233, 1234, 1235, 1236, 1237, 1238, 1239, 1240, 1269, 1270, 1271, 1272, 1273, 1274, 1275, 1276, 1277, 1278, 1279, 1286, 1287, 1288, 1289, 1290, 1291, 1292, 1293, 1294, 1295, 1304, 1305, 1306, 1307, 1308, 1309, 1310, 1296, 1297, 1298, 1299, 1300, 1301, 1302, 1303] (by decide +kernel) (by decide +kernel)
set_option maxRecDepth 20000 in
theorem gL_law_X6_bufferAhead : GoodIn wsL_law (wsV RL 104 RX6 yX6_bufferAhead wsX6_bufferAhead) := goodIn_app (goodIn_of _ (by decide +kernel)) ggL_law_X6_bufferAhead
set_option maxRecDepth 20000 in
theorem ggL_law_X7_bufferAhead : GoodIn wsL_law wsX7_bufferAhead := goodIn_r _ [911, 102, 77, 574, 575, 576, 5, 577, 370, 409, 410, 411, 412, 118, 119, 120, 500, 501, 502, 503, 371, 889, 890, 891, 892, 893, 894, 895, 82, 896, 897, 898, 899, 727, 728, 729, 730, 79, 731, 732, 733, 734, 385, 386, 387, 578, 579, 580, 388, 389, 390, 554, 555, 556, 381, 382, 383, 384, 254, 255, 256, 735, 736, 737, 738, 739, 740, 741, 742, 80, 743, 744, 745, 746, 391, 392, 393, 747, 748, 749, 750, 376, 290, 131, 291, 751, 752, 753, 754, 755, 756, 757, 758, 759, 760, 761, 762, 557, 558, 559, 560, 550, 551, 552, 553, 763, 764, 765, 766, 767, 768, 769, 770, 771, 772, 773, 774, 775, 776, 777, 778, 81, 779, 130, 132, 780, 781, 782, 783, 377, 378, 379, 380, 784, 785, 786, 787, 900, 901, 902, 903, 1241, 1242, 1243, 1244, 1245, 1246, 1247, 1248, 1249, 1250, 1251, 1252, 1253, 1254, 1255, 1256, 1257, 1258, 1259, 1260, 1261] (by decide +kernel) (by decide +kernel)
set_option maxRecDepth 20000 in
theorem gL_law_X7_bufferAhead : GoodIn wsL_law (wsV RL 107 RX7 yX7_bufferAhead wsX7_bufferAhead) := goodIn_app (goodIn_of _ (by decide +kernel)) ggL_law_X7_bufferAhead
set_option maxRecDepth 20000 in
theorem ggL_law_X6_delivered : GoodIn wsL_law wsX6_delivered := goodIn_r _ [915, 278, 111, 112, 2, 113, 480, 481, 482, 483, 23, 279, 855, 856, 857, 858, 24, 859, 860, 861, 22, 862, 286, 288, 287, 284, 285, 309, 310, 311, 40, 42, 43, 863, 864, 865, 866, 867, 868, 869, 45, 870, 320, 321, 322, 323, 324, 325, 52, 871, 53, 54, 56, 872, 873, 874, 58, 875, 334, 335, 336, 337, 338, 339, 340, 876, 877, 878, 47, 879, 349, 350, 351, 352, 353, 354, 355, 356, 880, 881, 882, 883, 884, 610, 611, 612, 613, 614, 615, 616, 617, 618, 619, 620, 621, 622, 623, 624, 625, 626, 627, 628, 629, 630, 631, 632, 633, 634, 327, 328, 329, 635, 636, 637, 638, 639, 640, 641, 642, 643, 644, 645, 646, 647, 648, 649, 650, 651, 652, 653, 654, 655, 656, 657, 658, 659, 660, 661, 662, 663, 664, 665, 666, 667, 668, 669, 670, 671, 672, 673, 674, 675, 528, 529, 530, 676, 677, 678, 679, 680, 681, 682, 683, 684, 685, 686, 687, 688, 689, 690, 691, 692, 693, 130, 131, 132, 289, 290, 291, 694, 695, 696, 697, 698, 699, 700, 701, 702, 703, 704, 705, 916, 917, 918, 919, 920, 921, 922, 923, 924, 925, 926, 927, 473, 479, 1232, 1233, 1234, 1235, 1236, 1237, 1238, 1239, 1240, 1269, 1270, 1271, 1272, 1273, 1274, 1275, 1276, 1277, 1278, 1279, 1286, 1287, 1288, 1289, 1290, 1291, 1292, 1293, 1294, 1295, 1304, 1305, 1306, 1307, 1308, 1309, 1310, 1296, 1297, 1298, 1299, 1300, 1301, 1302, 1303] (by decide +kernel) (by decide +kernel)
set_option maxRecDepth 20000 in
theorem gL_law_X6_delivered : GoodIn wsL_law (wsV RL 108 RX6 yX6_delivered wsX6_delivered) := goodIn_app (goodIn_of _ (by decide +kernel)) ggL_law_X6_delivered
set_option maxRecDepth 20000 in
theorem ggL_law_X7_delivered : GoodIn wsL_law wsX7_delivered := goodIn_r _ [931, 102, 409, 410, 411, 5, 412, 370, 500, 501, 502, 503, 371, 118, 119, 120, 889, 890, 891, 892, 893, 894, 895, 82, 77, 932, 933, 934, 935, 936, 937, 938, 939, 391, 392, 393, 896, 897, 898, 899, 727, 728, 729, 730, 79, 731, 732, 733, 734, 385, 386, 387, 578, 579, 580, 388, 389, 390, 554, 555, 556, 381, 382, 383, 384, 254, 255, 256, 735, 736, 737, 738, 739, 740, 741, 742, 80, 743, 744, 745, 746, 747, 748, 749, 750, 376, 290, 131, 291, 751, 752, 753, 754, 755, 756, 757, 758, 759, 760, 761, 762, 557, 558, 559, 560, 550, 551, 552, 553, 763, 764, 765, 766, 767, 768, 769, 770, 771, 772, 773, 774, 775, 776, 777, 778, 81, 779, 130, 132, 780, 781, 782, 783, 377, 378, 379, 380, 784, 785, 786, 787, 900, 901, 902, 903, 1241, 1242, 1243, 1244, 1245, 1246, 1247, 1248, 1249, 1250, 1251, 1252, 1253, 1254, 1255, 1256, 1257, 1258, 1259, 1260, 1261] (by decide +kernel) (by decide +kernel)
set_option maxRecDepth 20000 in
theorem gL_law_X7_delivered : GoodIn wsL_law (wsV RL 111 RX7 yX7_delivered wsX7_delivered) := goodIn_app (goodIn_of _ (by decide +kernel)) ggL_law_X7_delivered
set_option maxRecDepth 20000 in
theorem ggL_law_X6_heldUp : GoodIn wsL_law wsX6_heldUp := goodIn_r _ [943, 24, 23, 424, 944, 512, 513, 514, 2, 515, 430, 431, 432, 433, 278, 399, 480, 481, 482, 483, 279, 859, 860, 861, 22, 862, 286, 288, 287, 284, 285, 309, 310, 311, 40, 42, 43, 863, 864, 865, 866, 867, 868, 869, 45, 870, 320, 321, 322, 323, 324, 325, 52, 871, 53, 54, 56, 872, 873, 874, 58, 875, 334, 335, 336, 337, 338, 339, 340, 876, 877, 878, 47, 879, 349, 350, 351, 352, 353, 354, 355, 356, 609, 610, 611, 612, 613, 614, 615, 616, 617, 618, 619, 620, 621, 622, 623, 624, 625, 626, 627, 628, 629, 630, 631, 632, 633, 634, 327, 328, 329, 635, 636, 637, 638, 639, 640, 641, 642, 643, 644, 645, 646, 647, 648, 649, 650, 651, 652, 653, 654, 655, 656, 657, 658, 659, 660, 661, 662, 663, 664, 665, 666, 667, 668, 669, 670, 671, 672, 673, 674, 675, 528, 529, 530, 676, 677, 678, 679, 680, 681, 682, 683, 684, 685, 686, 687, 688, 689, 690, 691, 692, 693, 130, 131, 132, 289, 290, 291, 694, 695, 696, 697, 698, 699, 700, 701, 702, 703, 704, 705, 1232, 1233, 1234, 1235, 1236, 1237, 1238, 1239, 1240, 1269, 1270, 1271, 1272, 1273, 1274, 1275, 1276, 1277, 1278, 1279, 1286, 1287, 1288, 1289, 1290, 1291, 1292, 1293, 1294, 1295, 1304, 1305, 1306, 1307, 1308, 1309, 1310, 1296, 1297, 1298, 1299, 1300, 1301, 1302, 1303] (by decide +kernel) (by decide +kernel)
set_option maxRecDepth 20000 in
theorem gL_law_X6_heldUp : GoodIn wsL_law (wsV RL 112 RX6 yX6_heldUp wsX6_heldUp) := goodIn_app (goodIn_of _ (by decide +kernel)) ggL_law_X6_heldUp
set_option maxRecDepth 20000 in
theorem ggL_law_X7_heldUp : GoodIn wsL_law wsX7_heldUp := goodIn_r _ [948, 102, 77, 542, 543, 544, 5, 545, 450, 451, 452, 453, 370, 118, 119, 120, 500, 501, 502, 503, 371, 892, 893, 894, 895, 82, 388, 389, 390, 727, 728, 729, 730, 79, 731, 732, 733, 734, 385, 386, 387, 578, 579, 580, 554, 555, 556, 381, 382, 383, 384, 254, 255, 256, 735, 736, 737, 738, 739, 740, 741, 742, 80, 743, 744, 745, 746, 391, 392, 393, 747, 748, 749, 750, 376, 290, 131, 291, 751, 752, 753, 754, 755, 756, 757, 758, 759, 760, 761, 762, 557, 558, 559, 560, 550, 551, 552, 553, 763, 764, 765, 766, 767, 768, 769, 770, 771, 772, 773, 774, 775, 776, 777, 778, 81, 779, 130, 132, 780, 781, 782, 783, 377, 378, 379, 380, 784, 785, 786, 787, 900, 901, 902, 903, 1241, 1242, 1243, 1244, 1245, 1246, 1247, 1248, 1249, 1250, 1251, 1252, 1253, 1254, 1255, 1256, 1257, 1258, 1259, 1260, 1261] (by decide +kernel) (by decide +kernel)
set_option maxRecDepth 20000 in
theorem gL_law_X7_heldUp : GoodIn wsL_law (wsV RL 115 RX7 yX7_heldUp wsX7_heldUp) := goodIn_app (goodIn_of _ (by decide +kernel)) ggL_law_X7_heldUp
set_option maxRecDepth 20000 in
theorem ggL_law_X6_idle : GoodIn wsL_law wsX6_idle := goodIn_r _ [952, 27, 430, 431, 432, 2, 433, 278, 23, 399, 111, 112, 113, 953, 954, 955, 956, 24, 424, 944, 957, 958, 959, 960, 859, 860, 861, 22, 862, 286, 288, 287, 284, 285, 309, 310, 311, 40, 42, 43, 863, 864, 865, 866, 867, 868, 869, 45, 870, 320, 321, 322, 323, 324, 325, 52, 871, 53, 54, 56, 872, 873, 874, 58, 875, 334, 335, 336, 337, 338, 339, 340, 876, 877, 878, 47, 879, 349, 350, 351, 352, 353, 354, 355, 356, 609, 610, 611, 612, 613, 614, 615, 616, 617, 618, 619, 620, 621, 622, 623, 624, 625, 626, 627, 628, 629, 630, 631, 632, 633, 634, 327, 328, 329, 635, 636, 637, 638, 639, 640, 641, 642, 643, 644, 645, 646, 647, 648, 649, 650, 651, 652, 653, 654, 655, 656, 657, 658, 659, 660, 661, 662, 663, 664, 665, 666, 667, 668, 669, 670, 671, 672, 673, 674, 675, 528, 529, 530, 676, 677, 678, 679, 680, 681, 682, 683, 684, 685, 686, 687, 688, 689, 690, 691, 692, 693, 130, 131, 132, 289, 290, 291, 694, 695, 696, 697, 698, 699, 700, 701, 702, 703, 704, 705, 1232, 1233, 1234, 1235, 1236, 1237, 1238, 1239, 1240, 1269, 1270, 1271, 1272, 1273, 1274, 1275, 1276, 1277, 1278, 1279, 1286, 1287, 1288, 1289, 1290, 1291, 1292, 1293, 1294, 1295, 1304, 1305, 1306, 1307, 1308, 1309, 1310, 1296, 1297, 1298, 1299, 1300, 1301, 1302, 1303] (by decide +kernel) (by decide +kernel)
set_option maxRecDepth 20000 in
theorem gL_law_X6_idle : GoodIn wsL_law (wsV RL 116 RX6 yX6_idle wsX6_idle) := goodIn_app (goodIn_of _ (by decide +kernel)) ggL_law_X6_idle
set_option maxRecDepth 20000 in
theorem ggL_law_X7_idle : GoodIn wsL_law wsX7_idle := goodIn_r _ [964, 102, 450, 451, 452, 5, 453, 370, 118, 119, 120, 889, 890, 891, 965, 966, 967, 968, 892, 893, 894, 895, 82, 77, 969, 970, 971, 972, 371, 388, 389, 390, 727, 728, 729, 730, 79, 731, 732, 733, 734, 385, 386, 387, 578, 579, 580, 554, 555, 556, 381, 382, 383, 384, 254, 255, 256, 735, 736, 737, 738, 739, 740, 741, 742, 80, 743, 744, 745, 746, 391, 392, 393, 747, 748, 749, 750, 376, 290, 131, 291, 751, 752, 753, 754, 755, 756, 757, 758, 759, 760, 761, 762, 557, 558, 559, 560, 550, 551, 552, 553, 763, 764, 765, 766, 767, 768, 769, 770, 771, 772, 773, 774, 775, 776, 777, 778, 81, 779, 130, 132, 780, 781, 782, 783, 377, 378, 379, 380, 784, 785, 786, 787, 900, 901, 902, 903, 1241, 1242, 1243, 1244, 1245, 1246, 1247, 1248, 1249, 1250, 1251, 1252, 1253, 1254, 1255, 1256, 1257, 1258, 1259, 1260, 1261] (by decide +kernel) (by decide +kernel)
set_option maxRecDepth 20000 in
theorem gL_law_X7_idle : GoodIn wsL_law (wsV RL 119 RX7 yX7_idle wsX7_idle) := goodIn_app (goodIn_of _ (by decide +kernel)) ggL_law_X7_idle
set_option maxRecDepth 20000 in
theorem ggL_law_X6_most : GoodIn wsL_law wsX6_most := goodIn_r _ [976, 24, 23, 824, 290, 131, 291, 565, 566, 567, 2, 568, 278, 399, 480, 481, 482, 483, 279, 111, 112, 113, 859, 860, 861, 22, 862, 286, 288, 287, 284, 285, 309, 310, 311, 40, 42, 43, 863, 864, 865, 866, 867, 868, 869, 45, 870, 320, 321, 322, 323, 324, 325, 52, 871, 53, 54, 56, 872, 873, 874, 58, 875, 334, 335, 336, 337, 338, 339, 340, 876, 877, 878, 47, 879, 349, 350, 351, 352, 353, 354, 355, 356, 977, 978, 979, 980, 488, 489, 490, 491, 492, 493, 494, 495, 609, 610, 611, 612, 613, 614, 615, 616, 617, 618, 619, 620, 621, 622, 623, 624, 625, 626, 627, 628, 629, 630, 631, 632, 633, 634, 327, 328, 329, 635, 636, 637, 638, 639, 640, 641, 642, 643, 644, 645, 646, 647, 648, 649, 650, 651, 652, 653, 654, 655, 656, 657, 658, 659, 660, 661, 662, 663, 664, 665, 666, 667, 668, 669, 670, 671, 672, 673, 674, 675, 528, 529, 530, 676, 677, 678, 679, 680, 681, 682, 683, 684, 685, 686, 687, 688, 689, 690, 691, 692, 693, 130, 132, 289, 694, 695, 696, 697, 698, 699, 700, 701, 702, 703, 704, 705, 1232, 1233, 1234, 1235, 1236, 1237, 1238, 1239, 1240, 1269, 1270, 1271, 1272, 1273, 1274, 1275, 1276, 1277, 1278, 1279, 1286, 1287, 1288, 1289, 1290, 1291, 1292, 1293, 1294, 1295, 1304, 1305, 1306, 1307, 1308, 1309, 1310, 1296, 1297, 1298, 1299, 1300, 1301, 1302, 1303] (by decide +kernel) (by decide +kernel)
set_option maxRecDepth 20000 in
theorem gL_law_X6_most : GoodIn wsL_law (wsV RL 120 RX6 yX6_most wsX6_most) := goodIn_app (goodIn_of _ (by decide +kernel)) ggL_law_X6_most
set_option maxRecDepth 20000 in
theorem ggL_law_X7_most : GoodIn wsL_law wsX7_most := goodIn_r _ [984, 102, 376, 290, 131, 291, 574, 575, 576, 5, 577, 370, 409, 410, 411, 412, 118, 119, 120, 500, 501, 502, 503, 371, 889, 890, 891, 892, 893, 894, 895, 82, 77, 985, 986, 987, 988, 454, 455, 456, 457, 385, 386, 387, 578, 579, 580, 727, 728, 729, 730, 79, 731, 732, 733, 734, 388, 389, 390, 554, 555, 556, 381, 382, 383, 384, 254, 255, 256, 735, 736, 737, 738, 739, 740, 741, 742, 80, 743, 744, 745, 746, 391, 392, 393, 747, 748, 749, 750, 751, 752, 753, 754, 755, 756, 757, 758, 759, 760, 761, 762, 557, 558, 559, 560, 550, 551, 552, 553, 763, 764, 765, 766, 767, 768, 769, 770, 771, 772, 773, 774, 775, 776, 777, 778, 81, 779, 130, 132, 780, 781, 782, 783, 377, 378, 379, 380, 784, 785, 786, 787, 900, 901, 902, 903, 1241, 1242, 1243, 1244, 1245, 1246, 1247, 1248, 1249, 1250, 1251, 1252, 1253, 1254, 1255, 1256, 1257, 1258, 1259, 1260, 1261] (by decide +kernel) (by decide +kernel)
set_option maxRecDepth 20000 in
theorem gL_law_X7_most : GoodIn wsL_law (wsV RL 123 RX7 yX7_most wsX7_most) := goodIn_app (goodIn_of _ (by decide +kernel)) ggL_law_X7_most
set_option maxRecDepth 20000 in
theorem ggL_law_X6_healed : GoodIn wsL_law wsX6_healed := goodIn_r _ [992, 278, 24, 23, 859, 860, 861, 22, 862, 286, 288, 287, 284, 285, 309, 310, 311, 40, 42, 43, 863, 864, 865, 866, 867, 868, 869, 45, 870, 320, 321, 322, 323, 324, 325, 52, 871, 53, 54, 56, 872, 873, 874, 58, 875, 334, 335, 336, 337, 338, 339, 340, 876, 877, 878, 47, 879, 349, 350, 351, 352, 353, 354, 355, 356, 993, 994, 995, 996, 619, 997, 633, 998, 999, 1000, 1001, 613, 614, 615, 616, 617, 618, 620, 621, 622, 623, 624, 625, 2, 626, 627, 628, 629, 630, 631, 632, 634, 327, 328, 329, 676, 677, 678, 679, 680, 681, 682, 683, 684, 674, 675, 528, 529, 530, 685, 686, 687, 688, 1232, 1233, 1234, 1235, 1236, 1237, 1238, 1239, 1240, 1269, 1270, 1271, 1272, 1273, 1274, 1275, 1276, 1277, 1278, 1279, 1286, 1287, 1288, 1289, 1290, 1291, 1292, 1293, 1294, 1295, 1304, 1305, 1306, 1307, 1308, 1309, 1310, 1296, 1297, 1298, 1299, 1300, 1301, 1302, 1303] (by decide +kernel) (by decide +kernel)
set_option maxRecDepth 20000 in
theorem gL_law_X6_healed : GoodIn wsL_law (wsV RL 124 RX6 yX6_healed wsX6_healed) := goodIn_app (goodIn_of _ (by decide +kernel)) ggL_law_X6_healed
set_option maxRecDepth 20000 in
theorem ggL_law_X7_healed : GoodIn wsL_law wsX7_healed := goodIn_r _ [1005, 102, 409, 410, 411, 5, 412, 370, 892, 893, 894, 895, 82, 77, 1006, 1007, 1008, 1009, 371, 388, 389, 390, 1010, 1011, 1012, 1013, 731, 732, 733, 734, 385, 386, 387, 578, 579, 580, 554, 555, 556, 381, 382, 383, 384, 254, 255, 256, 735, 736, 737, 738, 739, 740, 741, 742, 80, 763, 764, 765, 766, 79, 767, 768, 769, 770, 557, 558, 559, 560, 376, 290, 131, 291, 550, 551, 552, 553, 771, 772, 773, 774, 900, 901, 902, 903, 1241, 1242, 1243, 1244, 1245, 1246, 1247, 1248, 1249, 1250, 1251, 1252, 1253, 1254, 1255, 1256, 1257, 1258, 1259, 1260, 1261] (by decide +kernel) (by decide +kernel)
set_option maxRecDepth 20000 in
theorem gL_law_X7_healed : GoodIn wsL_law (wsV RL 127 RX7 yX7_healed wsX7_healed) := goodIn_app (goodIn_of _ (by decide +kernel)) ggL_law_X7_healed
set_option maxRecDepth 20000 in
theorem ggL_law_X6_loss : GoodIn wsL_law wsX6_loss := goodIn_r _ [1017, 278, 398, 111, 112, 2, 113, 855, 856, 857, 858, 24, 23, 859, 860, 861, 22, 862, 286, 288, 287, 284, 285, 309, 310, 311, 40, 42, 43, 863, 864, 865, 866, 867, 868, 869, 45, 870, 320, 321, 322, 323, 324, 325, 52, 871, 53, 54, 56, 872, 873, 874, 58, 875, 334, 335, 336, 337, 338, 339, 340, 876, 877, 878, 47, 879, 349, 350, 351, 352, 353, 354, 355, 356, 880, 881, 882, 883, 884, 610, 611, 612, 613, 614, 615, 616, 617, 618, 619, 620, 621, 622, 623, 624, 625, 626, 627, 628, 629, 630, 631, 632, 633, 634, 327, 328, 329, 635, 636, 637, 638, 639, 640, 641, 642, 643, 644, 645, 646, 647, 648, 649, 650, 651, 652, 653, 654, 655, 656, 657, 658, 659, 660, 661, 662, 663, 664, 665, 666, 667, 668, 669, 670, 671, 672, 673, 674, 675, 528, 529, 530, 676, 677, 678, 679, 680, 681, 682, 683, 684, 685, 686, 687, 688, 689, 690, 691, 692, 693, 130, 131, 132, 289, 290, 291, 694, 695, 696, 697, 698, 699, 700, 701, 702, 703, 704, 705, 916, 917, 918, 919, 920, 921, 922, 923, 1018, 1019, 1020, 1021, 399, 424, 428, 1232, 1233, 1234, 1235, 1236, 1237, 1238, 1239, 1240, 1269, 1270, 1271, 1272, 1273, 1274, 1275, 1276, 1277, 1278, 1279, 1286, 1287, 1288, 1289, 1290, 1291, 1292, 1293, 1294, 1295, 1304, 1305, 1306, 1307, 1308, 1309, 1310, 1296, 1297, 1298, 1299, 1300, 1301, 1302, 1303] (by decide +kernel) (by decide +kernel)
set_option maxRecDepth 20000 in
theorem gL_law_X6_loss : GoodIn wsL_law (wsV RL 128 RX6 yX6_loss wsX6_loss) := goodIn_app (goodIn_of _ (by decide +kernel)) ggL_law_X6_loss
set_option maxRecDepth 20000 in
theorem ggL_law_X7_loss : GoodIn wsL_law wsX7_loss := goodIn_r _ [1025, 102, 408, 409, 410, 411, 5, 412, 370, 118, 119, 120, 889, 890, 891, 1026, 1027, 1028, 1029, 892, 893, 894, 895, 82, 77, 932, 933, 934, 935, 936, 937, 938, 939, 371, 391, 392, 393, 896, 897, 898, 899, 727, 728, 729, 730, 79, 731, 732, 733, 734, 385, 386, 387, 578, 579, 580, 388, 389, 390, 554, 555, 556, 381, 382, 383, 384, 254, 255, 256, 735, 736, 737, 738, 739, 740, 741, 742, 80, 743, 744, 745, 746, 747, 748, 749, 750, 376, 290, 131, 291, 751, 752, 753, 754, 755, 756, 757, 758, 759, 760, 761, 762, 557, 558, 559, 560, 550, 551, 552, 553, 763, 764, 765, 766, 767, 768, 769, 770, 771, 772, 773, 774, 775, 776, 777, 778, 81, 779, 130, 132, 780, 781, 782, 783, 377, 378, 379, 380, 784, 785, 786, 787, 900, 901, 902, 903, 1030, 1031, 1032, 1033, 1241, 1242, 1243, 1244, 1245, 1246, 1247, 1248, 1249, 1250, 1251, 1252, 1253, 1254, 1255, 1256, 1257, 1258, 1259, 1260, 1261] (by decide +kernel) (by decide +kernel)
set_option maxRecDepth 20000 in
theorem gL_law_X7_loss : GoodIn wsL_law (wsV RL 131 RX7 yX7_loss wsX7_loss) := goodIn_app (goodIn_of _ (by decide +kernel)) ggL_law_X7_loss
set_option maxRecDepth 20000 in
theorem ggL_law_X6_fair : GoodIn wsL_law wsX6_fair := goodIn_r _ [1037, 278, 23, 279, 824, 290, 131, 291, 1038, 130, 132, 111, 112, 2, 113, 855, 856, 857, 858, 24, 859, 860, 861, 22, 862, 286, 288, 287, 284, 285, 309, 310, 311, 40, 42, 43, 863, 864, 865, 866, 867, 868, 869, 45, 870, 320, 321, 322, 323, 324, 325, 52, 871, 53, 54, 56, 872, 873, 874, 58, 875, 334, 335, 336, 337, 338, 339, 340, 876, 877, 878, 47, 879, 349, 350, 351, 352, 353, 354, 355, 356, 880, 881, 882, 883, 884, 610, 611, 612, 613, 614, 615, 616, 617, 618, 619, 620, 621, 622, 623, 624, 625, 626, 627, 628, 629, 630, 631, 632, 633, 634, 327, 328, 329, 635, 636, 637, 638, 639, 640, 641, 642, 643, 644, 645, 646, 647, 648, 649, 650, 651, 652, 653, 654, 655, 656, 657, 658, 659, 660, 661, 662, 663, 664, 665, 666, 667, 668, 669, 670, 671, 672, 673, 674, 675, 528, 529, 530, 676, 677, 678, 679, 680, 681, 682, 683, 684, 685, 686, 687, 688, 689, 690, 691, 692, 693, 289, 694, 695, 696, 697, 698, 699, 700, 701, 702, 703, 704, 705, 924, 925, 926, 927, 473, 479, 1232, 1233, 1234, 1235, 1236, 1237, 1238, 1239, 1240, 1269, 1270, 1271, 1272, 1273, 1274, 1275, 1276, 1277, 1278, 1279, 1286, 1287, 1288, 1289, 1290, 1291, 1292, 1293, 1294, 1295, 1304, 1305, 1306, 1307, 1308, 1309, 1310, 1296, 1297, 1298, 1299, 1300, 1301, 1302, 1303] (by decide +kernel) (by decide +kernel)
set_option maxRecDepth 20000 in
theorem gL_law_X6_fair : GoodIn wsL_law (wsV RL 132 RX6 yX6_fair wsX6_fair) := goodIn_app (goodIn_of _ (by decide +kernel)) ggL_law_X6_fair
set_option maxRecDepth 20000 in
theorem ggL_law_X7_fair : GoodIn wsL_law wsX7_fair := goodIn_r _ [1042, 102, 371, 376, 290, 131, 291, 779, 130, 132, 409, 410, 411, 5, 412, 370, 889, 890, 891, 118, 119, 120, 892, 893, 894, 895, 82, 77, 932, 933, 934, 935, 936, 937, 938, 939, 391, 392, 393, 896, 897, 898, 899, 727, 728, 729, 730, 79, 731, 732, 733, 734, 385, 386, 387, 578, 579, 580, 388, 389, 390, 554, 555, 556, 381, 382, 383, 384, 254, 255, 256, 735, 736, 737, 738, 739, 740, 741, 742, 80, 743, 744, 745, 746, 747, 748, 749, 750, 751, 752, 753, 754, 755, 756, 757, 758, 759, 760, 761, 762, 557, 558, 559, 560, 550, 551, 552, 553, 763, 764, 765, 766, 767, 768, 769, 770, 771, 772, 773, 774, 775, 776, 777, 778, 81, 780, 781, 782, 783, 377, 378, 379, 380, 784, 785, 786, 787, 900, 901, 902, 903, 1241, 1242, 1243, 1244, 1245, 1246, 1247, 1248, 1249, 1250, 1251, 1252, 1253, 1254, 1255, 1256, 1257, 1258, 1259, 1260, 1261] (by decide +kernel) (by decide +kernel)
set_option maxRecDepth 20000 in
theorem gL_law_X7_fair : GoodIn wsL_law (wsV RL 135 RX7 yX7_fair wsX7_fair) := goodIn_app (goodIn_of _ (by decide +kernel)) ggL_law_X7_fair
set_option maxRecDepth 20000 in
theorem ggL_law_X6_alone : GoodIn wsL_law wsX6_alone := goodIn_r _ [1046, 111, 112, 2, 113, 1047, 1048, 1049, 1050, 1051, 1052, 1053, 24, 424, 519, 526, 1054, 1055, 1056, 22, 1057, 40, 42, 43, 305, 306, 307, 308, 286, 288, 287, 284, 285, 309, 310, 311, 316, 317, 318, 45, 319, 320, 321, 322, 323, 324, 325, 56, 326, 327, 328, 329, 52, 53, 54, 330, 331, 332, 58, 333, 334, 335, 336, 337, 338, 339, 340, 345, 346, 347, 47, 348, 349, 350, 351, 352, 353, 354, 355, 356, 880, 881, 882, 883, 884, 610, 611, 612, 613, 614, 615, 616, 617, 618, 619, 620, 621, 622, 623, 624, 625, 626, 627, 628, 629, 630, 631, 632, 633, 634, 635, 636, 637, 638, 639, 640, 641, 642, 643, 644, 645, 646, 647, 648, 649, 650, 651, 652, 653, 654, 655, 656, 657, 658, 659, 660, 661, 662, 663, 664, 665, 666, 667, 668, 669, 670, 671, 672, 673, 674, 675, 528, 529, 530, 676, 677, 678, 679, 680, 681, 682, 683, 684, 685, 686, 687, 688, 689, 690, 691, 692, 693, 130, 131, 132, 289, 290, 291, 694, 695, 696, 697, 698, 699, 700, 701, 702, 703, 704, 705, 1232, 1233, 1234, 1235, 1236, 1237, 1238, 1239, 1240, 1269, 1270, 1271, 1272, 1273, 1274, 1275, 1276, 1277, 1278, 1279, 1286, 1287, 1288, 1289, 1290, 1291, 1292, 1293, 1294, 1295, 1304, 1305, 1306, 1307, 1308, 1309, 1310, 1296, 1297, 1298, 1299, 1300, 1301, 1302, 1303] (by decide +kernel) (by decide +kernel)
set_option maxRecDepth 20000 in
theorem gL_law_X6_alone : GoodIn wsL_law (wsV RL 136 RX6 yX6_alone wsX6_alone) := goodIn_app (goodIn_of _ (by decide +kernel)) ggL_law_X6_alone
set_option maxRecDepth 20000 in
theorem ggL_law_X7_alone : GoodIn wsL_law wsX7_alone := goodIn_r _ [1061, 102, 1062, 1063, 5, 1064, 118, 119, 120, 889, 890, 891, 1065, 1066, 1067, 1068, 84, 85, 1241, 1242, 1243, 1244, 1245, 1246, 1247, 1248, 1249, 1250, 1251, 1252, 1253, 1254, 1255, 1256, 1257, 1258, 1259, 1260, 1261] (by decide +kernel) (by decide +kernel)
set_option maxRecDepth 20000 in
theorem gL_law_X7_alone : GoodIn wsL_law (wsV RL 139 RX7 yX7_alone wsX7_alone) := goodIn_app (goodIn_of _ (by decide +kernel)) ggL_law_X7_alone
set_option maxRecDepth 20000 in
theorem ggL_law_X6_full : GoodIn wsL_law wsX6_full := goodIn_r _ [1072, 1047, 1048, 2, 1049, 111, 112, 113, 1050, 1051, 1052, 1053, 24, 424, 519, 526, 1054, 1055, 1056, 22, 1057, 40, 42, 43, 305, 306, 307, 308, 286, 288, 287, 284, 285, 309, 310, 311, 316, 317, 318, 45, 319, 320, 321, 322, 323, 324, 325, 56, 326, 327, 328, 329, 52, 53, 54, 330, 331, 332, 58, 333, 334, 335, 336, 337, 338, 339, 340, 345, 346, 347, 47, 348, 349, 350, 351, 352, 353, 354, 355, 356, 880, 881, 882, 883, 884, 610, 611, 612, 613, 614, 615, 616, 617, 618, 619, 620, 621, 622, 623, 624, 625, 626, 627, 628, 629, 630, 631, 632, 633, 634, 635, 636, 637, 638, 639, 640, 641, 642, 643, 644, 645, 646, 647, 648, 649, 650, 651, 652, 653, 654, 655, 656, 657, 658, 659, 660, 661, 662, 663, 664, 665, 666, 667, 668, 669, 670, 671, 672, 673, 674, 675, 528, 529, 530, 676, 677, 678, 679, 680, 681, 682, 683, 684, 685, 686, 687, 688, 689, 690, 691, 692, 693, 130, 131, 132, 289, 290, 291, 694, 695, 696, 697, 698, 699, 700, 701, 702, 703, 704, 705, 1232, 1233, 1234, 1235, 1236, 1237, 1238, 1239, 1240, 1269, 1270, 1271, 1272, 1273, 1274, 1275, 1276, 1277, 1278, 1279, 1286, 1287, 1288, 1289, 1290, 1291, 1292, 1293, 1294, 1295, 1304, 1305, 1306, 1307, 1308, 1309, 1310, 1296, 1297, 1298, 1299, 1300, 1301, 1302, 1303] (by decide +kernel) (by decide +kernel)
set_option maxRecDepth 20000 in
theorem gL_law_X6_full : GoodIn wsL_law (wsV RL 140 RX6 yX6_full wsX6_full) := goodIn_app (goodIn_of _ (by decide +kernel)) ggL_law_X6_full
set_option maxRecDepth 20000 in
theorem ggL_law_X7_full : GoodIn wsL_law wsX7_full := goodIn_r _ [1076, 102, 1062, 1063, 5, 1064, 118, 119, 120, 889, 890, 891, 1065, 1066, 1067, 1068, 84, 85, 1241, 1242, 1243, 1244, 1245, 1246, 1247, 1248, 1249, 1250, 1251, 1252, 1253, 1254, 1255, 1256, 1257, 1258, 1259, 1260, 1261] (by decide +kernel) (by decide +kernel)
set_option maxRecDepth 20000 in
theorem gL_law_X7_full : GoodIn wsL_law (wsV RL 143 RX7 yX7_full wsX7_full) := goodIn_app (goodIn_of _ (by decide +kernel)) ggL_law_X7_full
set_option maxRecDepth 20000 in
theorem ggL_law_X6_law : GoodIn wsL_law wsX6_law := goodIn_r _ [1080, 111, 112, 2, 113] (by decide +kernel) (by decide +kernel)
set_option maxRecDepth 20000 in
theorem gL_law_X6_law : GoodIn wsL_law (wsV RL 144 RX6 yX6_law wsX6_law) := goodIn_app (goodIn_of _ (by decide +kernel)) ggL_law_X6_law
set_option maxRecDepth 20000 in
theorem ggL_law_X7_law : GoodIn wsL_law wsX7_law := goodIn_r _ [1084, 102, 1062, 1063, 5, 1064, 118, 119, 120, 889, 890, 891, 1241, 1242, 1243, 1244, 1245, 1246, 1247, 1248, 1249, 1250, 1251, 1252, 1253, 1254, 1255, 1256, 1257, 1258, 1259, 1260, 1261] (by decide +kernel) (by decide +kernel)
set_option maxRecDepth 20000 in
theorem gL_law_X7_law : GoodIn wsL_law (wsV RL 147 RX7 yX7_law wsX7_law) := goodIn_app (goodIn_of _ (by decide +kernel)) ggL_law_X7_law
set_option maxRecDepth 20000 in
theorem ggL_law_X6_aim : GoodIn wsL_law wsX6_aim := goodIn_r _ [1088, 23, 424, 512, 513, 514, 2, 515, 430, 431, 432, 433, 278, 399, 480, 481, 482, 483, 279, 1089, 695, 696, 22, 697, 288, 619, 669, 698, 287, 1232, 1233, 1234, 1235, 1236, 1237, 1238, 1239, 1240, 1269, 1270, 1271, 1272, 1273, 1274, 1275, 1276, 1277, 1278, 1279, 1286, 1287, 1288, 1289, 1290, 1291, 1292, 1293, 1294, 1295, 1304, 1305, 1306, 1307, 1308, 1309, 1310] (by decide +kernel) (by decide +kernel)
set_option maxRecDepth 20000 in
theorem gL_law_X6_aim : GoodIn wsL_law (wsV RL 148 RX6 yX6_aim wsX6_aim) := goodIn_app (goodIn_of _ (by decide +kernel)) ggL_law_X6_aim
set_option maxRecDepth 20000 in
theorem ggL_law_X7_aim : GoodIn wsL_law wsX7_aim := goodIn_r _ [1093, 102, 542, 543, 544, 5, 545, 450, 451, 452, 453, 370, 118, 119, 120, 500, 501, 502, 503, 371, 780, 781, 782, 783, 77, 79, 388, 389, 390, 377, 378, 379, 380, 80, 1241, 1242, 1243, 1244, 1245, 1246, 1247, 1248, 1249, 1250, 1251, 1252, 1253, 1254, 1255, 1256, 1257, 1258, 1259, 1260, 1261] (by decide +kernel) (by decide +kernel)
set_option maxRecDepth 20000 in
theorem gL_law_X7_aim : GoodIn wsL_law (wsV RL 151 RX7 yX7_aim wsX7_aim) := goodIn_app (goodIn_of _ (by decide +kernel)) ggL_law_X7_aim
set_option maxRecDepth 20000 in
theorem ggL_law_X6_room : GoodIn wsL_law wsX6_room := goodIn_r _ [1097, 512, 513, 514, 2, 515, 430, 431, 432, 433, 278, 23, 399, 480, 481, 482, 483, 279, 820, 821, 822, 823, 424, 519, 523, 824, 290, 131, 291, 825, 700, 701, 45, 702, 321, 56, 703, 704, 705, 528, 529, 58, 530, 334, 336, 1232, 1233, 1234, 1235, 1236, 1237, 1238, 1239, 1240, 1269, 1270, 1271, 1272, 1273, 1274, 1275, 1276, 1277, 1278, 1279, 1286, 1287, 1288, 1289, 1290, 1291, 1292, 1293, 1294, 1295, 1304, 1305, 1306, 1307, 1308, 1309, 1310] (by decide +kernel) (by decide +kernel)
set_option maxRecDepth 20000 in
theorem gL_law_X6_room : GoodIn wsL_law (wsV RL 152 RX6 yX6_room wsX6_room) := goodIn_app (goodIn_of _ (by decide +kernel)) ggL_law_X6_room
set_option maxRecDepth 20000 in
theorem ggL_law_X7_room : GoodIn wsL_law wsX7_room := goodIn_r _ [1101, 102, 542, 543, 544, 5, 545, 450, 451, 452, 453, 370, 118, 119, 120, 500, 501, 502, 503, 371, 1102, 1103, 1104, 1105, 77, 779, 130, 131, 132, 376, 290, 291, 388, 389, 390, 377, 378, 379, 380, 80, 784, 785, 786, 787, 550, 551, 552, 553, 554, 555, 556, 1241, 1242, 1243, 1244, 1245, 1246, 1247, 1248, 1249, 1250, 1251, 1252, 1253, 1254, 1255, 1256, 1257, 1258, 1259, 1260, 1261] (by decide +kernel) (by decide +kernel)
set_option maxRecDepth 20000 in
theorem gL_law_X7_room : GoodIn wsL_law (wsV RL 155 RX7 yX7_room wsX7_room) := goodIn_app (goodIn_of _ (by decide +kernel)) ggL_law_X7_room
set_option maxRecDepth 20000 in
theorem ggL_law_X6_trip : GoodIn wsL_law wsX6_trip := goodIn_r _ [1109, 23, 473, 479, 26, 1110, 1111, 1112, 480, 481, 482, 2, 483, 278, 279, 1232, 1233, 1234, 1235, 1236, 1237, 1238, 1239, 1240, 1269, 1270, 1271, 1272, 1273, 1274, 1275, 1276, 1277, 1278, 1279, 1296, 1297, 1298, 1299, 1300, 1301, 1302, 1303, 1280, 1281, 1282, 1283, 1284, 1285] (by decide +kernel) (by decide +kernel)
set_option maxRecDepth 20000 in
theorem gL_law_X6_trip : GoodIn wsL_law (wsV RL 156 RX6 yX6_trip wsX6_trip) := goodIn_app (goodIn_of _ (by decide +kernel)) ggL_law_X6_trip
set_option maxRecDepth 20000 in
theorem ggL_law_X7_trip : GoodIn wsL_law wsX7_trip := goodIn_r _ [1116, 102, 77, 500, 501, 502, 5, 503, 371, 118, 119, 120, 391, 392, 393, 1241, 1242, 1243, 1244, 1245, 1246, 1247, 1248, 1249, 1250, 1251, 1252, 1253, 1254, 1255, 1256, 1257, 1258, 1259, 1260, 1261] (by decide +kernel) (by decide +kernel)
set_option maxRecDepth 20000 in
theorem gL_law_X7_trip : GoodIn wsL_law (wsV RL 159 RX7 yX7_trip wsX7_trip) := goodIn_app (goodIn_of _ (by decide +kernel)) ggL_law_X7_trip
set_option maxRecDepth 20000 in
theorem ggL_law_X6_oldest : GoodIn wsL_law wsX6_oldest := goodIn_r _ [1120, 26, 1121, 23, 403, 480, 481, 482, 2, 483, 278, 279, 1122, 716, 717, 29, 718, 68, 361, 1232, 1233, 1234, 1235, 1236, 1237, 1238, 1239, 1240, 1280, 1281, 1282, 1283, 1284, 1285, 1269, 1270, 1271, 1272, 1273, 1274, 1275, 1276, 1277, 1278, 1279] (by decide +kernel) (by decide +kernel)
set_option maxRecDepth 20000 in
theorem gL_law_X6_oldest : GoodIn wsL_law (wsV RL 160 RX6 yX6_oldest wsX6_oldest) := goodIn_app (goodIn_of _ (by decide +kernel)) ggL_law_X6_oldest
set_option maxRecDepth 20000 in
theorem ggL_law_X7_oldest : GoodIn wsL_law wsX7_oldest := goodIn_r _ [1126, 102, 77, 500, 501, 502, 5, 503, 371, 118, 119, 120, 504, 505, 506, 507, 391, 392, 393, 1241, 1242, 1243, 1244, 1245, 1246, 1247, 1248, 1249, 1250, 1251, 1252, 1253, 1254, 1255, 1256, 1257, 1258, 1259, 1260, 1261] (by decide +kernel) (by decide +kernel)
set_option maxRecDepth 20000 in
theorem gL_law_X7_oldest : GoodIn wsL_law (wsV RL 163 RX7 yX7_oldest wsX7_oldest) := goodIn_app (goodIn_of _ (by decide +kernel)) ggL_law_X7_oldest
set_option maxRecDepth 20000 in
theorem ggL_law_X6_learns : GoodIn wsL_law wsX6_learns := goodIn_r _ [1130, 23, 424, 519, 521, 24, 522, 512, 513, 514, 2, 515, 430, 431, 432, 433, 278, 399, 480, 481, 482, 483, 279, 859, 860, 861, 22, 862, 286, 288, 287, 284, 285, 309, 310, 311, 40, 42, 43, 863, 864, 865, 866, 867, 868, 869, 45, 870, 320, 321, 322, 323, 324, 325, 52, 871, 53, 54, 56, 872, 873, 874, 58, 875, 334, 335, 336, 337, 338, 339, 340, 876, 877, 878, 47, 879, 349, 350, 351, 352, 353, 354, 355, 356, 1131, 625, 626, 609, 610, 611, 612, 613, 614, 615, 616, 617, 618, 619, 620, 621, 622, 623, 624, 627, 628, 629, 630, 631, 632, 633, 634, 327, 328, 329, 635, 636, 637, 638, 639, 640, 641, 642, 643, 644, 645, 646, 647, 648, 649, 650, 651, 652, 653, 654, 655, 656, 657, 658, 659, 660, 661, 662, 663, 664, 665, 666, 667, 668, 669, 670, 671, 672, 673, 674, 675, 528, 529, 530, 676, 677, 678, 679, 680, 681, 682, 683, 684, 685, 686, 687, 688, 689, 690, 691, 692, 693, 130, 131, 132, 289, 290, 291, 694, 695, 696, 697, 698, 699, 700, 701, 702, 703, 704, 705, 1232, 1233, 1234, 1235, 1236, 1237, 1238, 1239, 1240, 1269, 1270, 1271, 1272, 1273, 1274, 1275, 1276, 1277, 1278, 1279, 1286, 1287, 1288, 1289, 1290, 1291, 1292, 1293, 1294, 1295, 1304, 1305, 1306, 1307, 1308, 1309, 1310, 1296, 1297, 1298, 1299, 1300, 1301, 1302, 1303] (by decide +kernel) (by decide +kernel)
set_option maxRecDepth 20000 in
theorem gL_law_X6_learns : GoodIn wsL_law (wsV RL 164 RX6 yX6_learns wsX6_learns) := goodIn_app (goodIn_of _ (by decide +kernel)) ggL_law_X6_learns
set_option maxRecDepth 20000 in
theorem ggL_law_X7_learns : GoodIn wsL_law wsX7_learns := goodIn_r _ [1135, 102, 77, 542, 543, 544, 5, 545, 450, 451, 452, 453, 370, 118, 119, 120, 500, 501, 502, 503, 371, 892, 893, 894, 895, 82, 388, 389, 390, 554, 555, 556, 727, 728, 729, 730, 79, 731, 732, 733, 734, 385, 386, 387, 578, 579, 580, 381, 382, 383, 384, 254, 255, 256, 735, 736, 737, 738, 739, 740, 741, 742, 80, 743, 744, 745, 746, 391, 392, 393, 747, 748, 749, 750, 376, 290, 131, 291, 751, 752, 753, 754, 755, 756, 757, 758, 759, 760, 761, 762, 557, 558, 559, 560, 550, 551, 552, 553, 763, 764, 765, 766, 767, 768, 769, 770, 771, 772, 773, 774, 775, 776, 777, 778, 81, 779, 130, 132, 780, 781, 782, 783, 377, 378, 379, 380, 784, 785, 786, 787, 900, 901, 902, 903, 1241, 1242, 1243, 1244, 1245, 1246, 1247, 1248, 1249, 1250, 1251, 1252, 1253, 1254, 1255, 1256, 1257, 1258, 1259, 1260, 1261] (by decide +kernel) (by decide +kernel)
set_option maxRecDepth 20000 in
theorem gL_law_X7_learns : GoodIn wsL_law (wsV RL 167 RX7 yX7_learns wsX7_learns) := goodIn_app (goodIn_of _ (by decide +kernel)) ggL_law_X7_learns
set_option maxRecDepth 20000 in
theorem ggL_law_X6_stuck : GoodIn wsL_law wsX6_stuck := goodIn_r _ [1139, 278, 23, 24, 1140, 1141, 1142, 22, 1143, 288, 1144, 485, 486, 487, 286, 40, 488, 489, 490, 491, 43, 492, 493, 494, 45, 495, 52, 859, 860, 861, 862, 287, 284, 285, 309, 310, 311, 42, 863, 864, 865, 866, 867, 868, 869, 870, 320, 321, 322, 323, 324, 325, 871, 53, 54, 56, 872, 873, 874, 58, 875, 334, 335, 336, 337, 338, 339, 340, 876, 877, 878, 47, 879, 349, 350, 351, 352, 353, 354, 355, 356, 609, 610, 611, 612, 613, 614, 615, 616, 617, 618, 619, 620, 621, 622, 623, 624, 625, 2, 626, 627, 628, 629, 630, 631, 632, 633, 634, 327, 328, 329, 635, 636, 637, 638, 639, 640, 641, 642, 643, 644, 645, 646, 647, 648, 649, 650, 651, 652, 653, 654, 655, 656, 657, 658, 659, 660, 661, 662, 663, 664, 665, 666, 667, 668, 669, 670, 671, 672, 673, 674, 675, 528, 529, 530, 676, 677, 678, 679, 680, 681, 682, 683, 684, 685, 686, 687, 688, 689, 690, 691, 692, 693, 130, 131, 132, 289, 290, 291, 694, 695, 696, 697, 698, 699, 700, 701, 702, 703, 704, 705, 1145, 1146, 1147, 1148, 1232, 1233, 1234, 1235, 1236, 1237, 1238, 1239, 1240, 1269, 1270, 1271, 1272, 1273, 1274, 1275, 1276, 1277, 1278, 1279, 1286, 1287, 1288, 1289, 1290, 1291, 1292, 1293, 1294, 1295, 1304, 1305, 1306, 1307, 1308, 1309, 1310, 1296, 1297, 1298, 1299, 1300, 1301, 1302, 1303] (by decide +kernel) (by decide +kernel)
set_option maxRecDepth 20000 in
theorem gL_law_X6_stuck : GoodIn wsL_law (wsV RL 168 RX6 yX6_stuck wsX6_stuck) := goodIn_app (goodIn_of _ (by decide +kernel)) ggL_law_X6_stuck
set_option maxRecDepth 20000 in
theorem ggL_law_X7_stuck : GoodIn wsL_law wsX7_stuck := goodIn_r _ [1152, 102, 83, 370, 409, 410, 411, 5, 412, 1153, 1154, 1155, 1156, 371, 504, 505, 506, 507, 77, 391, 392, 393, 892, 893, 894, 895, 82, 936, 937, 938, 939, 969, 970, 971, 972, 388, 389, 390, 727, 728, 729, 730, 79, 731, 732, 733, 734, 385, 386, 387, 578, 579, 580, 554, 555, 556, 381, 382, 383, 384, 254, 255, 256, 735, 736, 737, 738, 739, 740, 741, 742, 80, 743, 744, 745, 746, 747, 748, 749, 750, 376, 290, 131, 291, 751, 752, 753, 754, 755, 756, 757, 758, 759, 760, 761, 762, 557, 558, 559, 560, 550, 551, 552, 553, 763, 764, 765, 766, 767, 768, 769, 770, 771, 772, 773, 774, 775, 776, 777, 778, 81, 779, 130, 132, 780, 781, 782, 783, 377, 378, 379, 380, 784, 785, 786, 787, 900, 901, 902, 903, 1241, 1242, 1243, 1244, 1245, 1246, 1247, 1248, 1249, 1250, 1251, 1252, 1253, 1254, 1255, 1256, 1257, 1258, 1259, 1260, 1261] (by decide +kernel) (by decide +kernel)
set_option maxRecDepth 20000 in
theorem gL_law_X7_stuck : GoodIn wsL_law (wsV RL 172 RX7 yX7_stuck wsX7_stuck) := goodIn_app (goodIn_of _ (by decide +kernel)) ggL_law_X7_stuck
set_option maxRecDepth 20000 in
theorem ggL_law_X6_would : GoodIn wsL_law wsX6_would := goodIn_r _ [1160, 816, 817, 818, 2, 819, 23, 424, 400, 426, 519, 523, 512, 513, 514, 515, 430, 431, 432, 433, 278, 399, 480, 481, 482, 483, 279, 111, 112, 113, 820, 821, 822, 823, 824, 290, 131, 291, 825, 700, 701, 45, 702, 321, 56, 703, 704, 705, 528, 529, 58, 530, 334, 336, 1161, 1162, 1163, 1164, 24, 859, 860, 861, 22, 862, 286, 288, 287, 284, 285, 309, 310, 311, 40, 42, 43, 863, 864, 865, 866, 867, 868, 869, 870, 320, 322, 323, 324, 325, 52, 871, 53, 54, 872, 873, 874, 875, 335, 337, 338, 339, 340, 876, 877, 878, 47, 879, 349, 350, 351, 352, 353, 354, 355, 356, 880, 881, 882, 883, 884, 610, 611, 612, 613, 614, 615, 616, 617, 618, 619, 620, 621, 622, 623, 624, 625, 626, 627, 628, 629, 630, 631, 632, 633, 634, 327, 328, 329, 635, 636, 637, 638, 639, 640, 641, 642, 643, 644, 645, 646, 647, 648, 649, 650, 651, 652, 653, 654, 655, 656, 657, 658, 659, 660, 661, 662, 663, 664, 665, 666, 667, 668, 669, 670, 671, 672, 673, 674, 675, 676, 677, 678, 679, 680, 681, 682, 683, 684, 685, 686, 687, 688, 689, 690, 691, 692, 693, 130, 132, 289, 694, 695, 696, 697, 698, 699, 916, 917, 918, 919, 920, 921, 922, 923, 1232, 1233, 1234, 1235, 1236, 1237, 1238, 1239, 1240, 1269, 1270, 1271, 1272, 1273, 1274, 1275, 1276, 1277, 1278, 1279, 1286, 1287, 1288, 1289, 1290, 1291, 1292, 1293, 1294, 1295, 1304, 1305, 1306, 1307, 1308, 1309, 1310, 1296, 1297, 1298, 1299, 1300, 1301, 1302, 1303] (by decide +kernel) (by decide +kernel)
set_option maxRecDepth 20000 in
theorem gL_law_X6_would : GoodIn wsL_law (wsV RL 173 RX6 yX6_would wsX6_would) := goodIn_app (goodIn_of _ (by decide +kernel)) ggL_law_X6_would
set_option maxRecDepth 20000 in
theorem ggL_law_X7_would : GoodIn wsL_law wsX7_would := goodIn_r _ [1168, 102, 830, 831, 832, 5, 833, 79, 77, 542, 543, 544, 545, 450, 451, 452, 453, 370, 118, 119, 120, 500, 501, 502, 503, 371, 377, 378, 379, 380, 80, 388, 389, 390, 784, 785, 786, 787, 376, 290, 131, 291, 550, 551, 552, 553, 554, 555, 556, 889, 890, 891, 1169, 1170, 1171, 1172, 892, 893, 894, 895, 82, 932, 933, 934, 935, 936, 937, 938, 939, 391, 392, 393, 896, 897, 898, 899, 727, 728, 729, 730, 731, 732, 733, 734, 385, 386, 387, 578, 579, 580, 381, 382, 383, 384, 254, 255, 256, 735, 736, 737, 738, 739, 740, 741, 742, 743, 744, 745, 746, 747, 748, 749, 750, 751, 752, 753, 754, 755, 756, 757, 758, 759, 760, 761, 762, 557, 558, 559, 560, 763, 764, 765, 766, 767, 768, 769, 770, 771, 772, 773, 774, 775, 776, 777, 778, 81, 779, 130, 132, 780, 781, 782, 783, 900, 901, 902, 903, 1241, 1242, 1243, 1244, 1245, 1246, 1247, 1248, 1249, 1250, 1251, 1252, 1253, 1254, 1255, 1256, 1257, 1258, 1259, 1260, 1261] (by decide +kernel) (by decide +kernel)
set_option maxRecDepth 20000 in
theorem gL_law_X7_would : GoodIn wsL_law (wsV RL 176 RX7 yX7_would wsX7_would) := goodIn_app (goodIn_of _ (by decide +kernel)) ggL_law_X7_would
set_option maxRecDepth 20000 in
theorem ggL_law_X6_bestZone : GoodIn wsL_law wsX6_bestZone := goodIn_r _ [1176, 23, 400, 512, 513, 514, 2, 515, 430, 431, 432, 433, 278, 399, 480, 481, 482, 483, 279, 111, 112, 113, 820, 821, 822, 823, 424, 519, 523, 824, 290, 131, 291, 825, 700, 701, 45, 702, 321, 56, 703, 704, 705, 528, 529, 58, 530, 334, 336, 1161, 1162, 1163, 1164, 24, 859, 860, 861, 22, 862, 286, 288, 287, 284, 285, 309, 310, 311, 40, 42, 43, 863, 864, 865, 866, 867, 868, 869, 870, 320, 322, 323, 324, 325, 52, 871, 53, 54, 872, 873, 874, 875, 335, 337, 338, 339, 340, 876, 877, 878, 47, 879, 349, 350, 351, 352, 353, 354, 355, 356, 880, 881, 882, 883, 884, 610, 611, 612, 613, 614, 615, 616, 617, 618, 619, 620, 621, 622, 623, 624, 625, 626, 627, 628, 629, 630, 631, 632, 633, 634, 327, 328, 329, 635, 636, 637, 638, 639, 640, 641, 642, 643, 644, 645, 646, 647, 648, 649, 650, 651, 652, 653, 654, 655, 656, 657, 658, 659, 660, 661, 662, 663, 664, 665, 666, 667, 668, 669, 670, 671, 672, 673, 674, 675, 676, 677, 678, 679, 680, 681, 682, 683, 684, 685, 686, 687, 688, 689, 690, 691, 692, 693, 130, 132, 289, 694, 695, 696, 697, 698, 699, 916, 917, 918, 919, 920, 921, 922, 923, 1232, 1233, 1234, 1235, 1236, 1237, 1238, 1239, 1240, 1269, 1270, 1271, 1272, 1273, 1274, 1275, 1276, 1277, 1278, 1279, 1286, 1287, 1288, 1289, 1290, 1291, 1292, 1293, 1294, 1295, 1304, 1305, 1306, 1307, 1308, 1309, 1310, 1296, 1297, 1298, 1299, 1300, 1301, 1302, 1303] (by decide +kernel) (by decide +kernel)
set_option maxRecDepth 20000 in
theorem gL_law_X6_bestZone : GoodIn wsL_law (wsV RL 177 RX6 yX6_bestZone wsX6_bestZone) := goodIn_app (goodIn_of _ (by decide +kernel)) ggL_law_X6_bestZone
set_option maxRecDepth 20000 in
theorem ggL_law_X7_bestZone : GoodIn wsL_law wsX7_bestZone := goodIn_r _ [1180, 102, 77, 376, 290, 131, 291, 542, 543, 544, 5, 545, 450, 451, 452, 453, 370, 118, 119, 120, 500, 501, 502, 503, 371, 377, 378, 379, 380, 80, 830, 831, 832, 833, 79, 388, 389, 390, 784, 785, 786, 787, 550, 551, 552, 553, 554, 555, 556, 1169, 1170, 1171, 1172, 892, 893, 894, 895, 82, 932, 933, 934, 935, 936, 937, 938, 939, 391, 392, 393, 896, 897, 898, 899, 727, 728, 729, 730, 731, 732, 733, 734, 385, 386, 387, 578, 579, 580, 381, 382, 383, 384, 254, 255, 256, 735, 736, 737, 738, 739, 740, 741, 742, 743, 744, 745, 746, 747, 748, 749, 750, 751, 752, 753, 754, 755, 756, 757, 758, 759, 760, 761, 762, 557, 558, 559, 560, 763, 764, 765, 766, 767, 768, 769, 770, 771, 772, 773, 774, 775, 776, 777, 778, 81, 779, 130, 132, 780, 781, 782, 783, 900, 901, 902, 903, 1241, 1242, 1243, 1244, 1245, 1246, 1247, 1248, 1249, 1250, 1251, 1252, 1253, 1254, 1255, 1256, 1257, 1258, 1259, 1260, 1261] (by decide +kernel) (by decide +kernel)
set_option maxRecDepth 20000 in
theorem gL_law_X7_bestZone : GoodIn wsL_law (wsV RL 180 RX7 yX7_bestZone wsX7_bestZone) := goodIn_app (goodIn_of _ (by decide +kernel)) ggL_law_X7_bestZone
set_option maxRecDepth 20000 in
theorem ggL_law_X6_bears : GoodIn wsL_law wsX6_bears := goodIn_r _ [1184, 278, 111, 112, 2, 113, 855, 856, 857, 858, 24, 23, 859, 860, 861, 22, 862, 286, 288, 287, 284, 285, 309, 310, 311, 40, 42, 43, 863, 864, 865, 866, 867, 868, 869, 45, 870, 320, 321, 322, 323, 324, 325, 52, 871, 53, 54, 56, 872, 873, 874, 58, 875, 334, 335, 336, 337, 338, 339, 340, 876, 877, 878, 47, 879, 349, 350, 351, 352, 353, 354, 355, 356, 880, 881, 882, 883, 884, 610, 611, 612, 613, 614, 615, 616, 617, 618, 619, 620, 621, 622, 623, 624, 625, 626, 627, 628, 629, 630, 631, 632, 633, 634, 327, 328, 329, 635, 636, 637, 638, 639, 640, 641, 642, 643, 644, 645, 646, 647, 648, 649, 650, 651, 652, 653, 654, 655, 656, 657, 658, 659, 660, 661, 662, 663, 664, 665, 666, 667, 668, 669, 670, 671, 672, 673, 674, 675, 528, 529, 530, 676, 677, 678, 679, 680, 681, 682, 683, 684, 685, 686, 687, 688, 689, 690, 691, 692, 693, 130, 131, 132, 289, 290, 291, 694, 695, 696, 697, 698, 699, 700, 701, 702, 703, 704, 705, 916, 917, 918, 919, 920, 921, 922, 923, 1018, 1019, 1020, 1021, 399, 424, 428, 1232, 1233, 1234, 1235, 1236, 1237, 1238, 1239, 1240, 1269, 1270, 1271, 1272, 1273, 1274, 1275, 1276, 1277, 1278, 1279, 1286, 1287, 1288, 1289, 1290, 1291, 1292, 1293, 1294, 1295, 1304, 1305, 1306, 1307, 1308, 1309, 1310, 1296, 1297, 1298, 1299, 1300, 1301, 1302, 1303] (by decide +kernel) (by decide +kernel)
set_option maxRecDepth 20000 in
theorem gL_law_X6_bears : GoodIn wsL_law (wsV RL 181 RX6 yX6_bears wsX6_bears) := goodIn_app (goodIn_of _ (by decide +kernel)) ggL_law_X6_bears
set_option maxRecDepth 20000 in
theorem ggL_law_X7_bears : GoodIn wsL_law wsX7_bears := goodIn_r _ [1188, 102, 409, 410, 411, 5, 412, 370, 889, 890, 891, 118, 119, 120, 1026, 1027, 1028, 1029, 892, 893, 894, 895, 82, 77, 932, 933, 934, 935, 936, 937, 938, 939, 371, 391, 392, 393, 896, 897, 898, 899, 727, 728, 729, 730, 79, 731, 732, 733, 734, 385, 386, 387, 578, 579, 580, 388, 389, 390, 554, 555, 556, 381, 382, 383, 384, 254, 255, 256, 735, 736, 737, 738, 739, 740, 741, 742, 80, 743, 744, 745, 746, 747, 748, 749, 750, 376, 290, 131, 291, 751, 752, 753, 754, 755, 756, 757, 758, 759, 760, 761, 762, 557, 558, 559, 560, 550, 551, 552, 553, 763, 764, 765, 766, 767, 768, 769, 770, 771, 772, 773, 774, 775, 776, 777, 778, 81, 779, 130, 132, 780, 781, 782, 783, 377, 378, 379, 380, 784, 785, 786, 787, 900, 901, 902, 903, 1030, 1031, 1032, 1033, 1241, 1242, 1243, 1244, 1245, 1246, 1247, 1248, 1249, 1250, 1251, 1252, 1253, 1254, 1255, 1256, 1257, 1258, 1259, 1260, 1261] (by decide +kernel) (by decide +kernel)
set_option maxRecDepth 20000 in
theorem gL_law_X7_bears : GoodIn wsL_law (wsV RL 184 RX7 yX7_bears wsX7_bears) := goodIn_app (goodIn_of _ (by decide +kernel)) ggL_law_X7_bears
set_option maxRecDepth 20000 in
theorem ggL_law_X6_waits : GoodIn wsL_law wsX6_waits := goodIn_r _ [1192, 27, 512, 513, 514, 2, 515, 430, 431, 432, 433, 278, 23, 399, 480, 481, 482, 483, 279, 111, 112, 113, 1193, 1194, 1195, 1196, 24, 957, 958, 959, 960, 859, 860, 861, 22, 862, 286, 288, 287, 284, 285, 309, 310, 311, 40, 42, 43, 863, 864, 865, 866, 867, 868, 869, 45, 870, 320, 321, 322, 323, 324, 325, 52, 871, 53, 54, 56, 872, 873, 874, 58, 875, 334, 335, 336, 337, 338, 339, 340, 876, 877, 878, 47, 879, 349, 350, 351, 352, 353, 354, 355, 356, 609, 610, 611, 612, 613, 614, 615, 616, 617, 618, 619, 620, 621, 622, 623, 624, 625, 626, 627, 628, 629, 630, 631, 632, 633, 634, 327, 328, 329, 635, 636, 637, 638, 639, 640, 641, 642, 643, 644, 645, 646, 647, 648, 649, 650, 651, 652, 653, 654, 655, 656, 657, 658, 659, 660, 661, 662, 663, 664, 665, 666, 667, 668, 669, 670, 671, 672, 673, 674, 675, 528, 529, 530, 676, 677, 678, 679, 680, 681, 682, 683, 684, 685, 686, 687, 688, 689, 690, 691, 692, 693, 130, 131, 132, 289, 290, 291, 694, 695, 696, 697, 698, 699, 700, 701, 702, 703, 704, 705, 1197, 1232, 1233, 1234, 1235, 1236, 1237, 1238, 1239, 1240, 1269, 1270, 1271, 1272, 1273, 1274, 1275, 1276, 1277, 1278, 1279, 1286, 1287, 1288, 1289, 1290, 1291, 1292, 1293, 1294, 1295, 1304, 1305, 1306, 1307, 1308, 1309, 1310, 1296, 1297, 1298, 1299, 1300, 1301, 1302, 1303] (by decide +kernel) (by decide +kernel)
set_option maxRecDepth 20000 in
theorem gL_law_X6_waits : GoodIn wsL_law (wsV RL 185 RX6 yX6_waits wsX6_waits) := goodIn_app (goodIn_of _ (by decide +kernel)) ggL_law_X6_waits
set_option maxRecDepth 20000 in
theorem ggL_law_X7_waits_ : GoodIn wsL_law wsX7_waits_ := goodIn_r _ [1201, 102, 542, 543, 544, 5, 545, 450, 451, 452, 453, 370, 118, 119, 120, 500, 501, 502, 503, 371, 889, 890, 891, 1202, 1203, 1204, 1205, 892, 893, 894, 895, 82, 77, 727, 728, 729, 730, 79, 731, 732, 733, 734, 385, 386, 387, 578, 579, 580, 388, 389, 390, 554, 555, 556, 381, 382, 383, 384, 254, 255, 256, 735, 736, 737, 738, 739, 740, 741, 742, 80, 743, 744, 745, 746, 391, 392, 393, 747, 748, 749, 750, 376, 290, 131, 291, 751, 752, 753, 754, 755, 756, 757, 758, 759, 760, 761, 762, 557, 558, 559, 560, 550, 551, 552, 553, 763, 764, 765, 766, 767, 768, 769, 770, 771, 772, 773, 774, 775, 776, 777, 778, 81, 779, 130, 132, 780, 781, 782, 783, 377, 378, 379, 380, 784, 785, 786, 787, 900, 901, 902, 903, 1241, 1242, 1243, 1244, 1245, 1246, 1247, 1248, 1249, 1250, 1251, 1252, 1253, 1254, 1255, 1256, 1257, 1258, 1259, 1260, 1261] (by decide +kernel) (by decide +kernel)
set_option maxRecDepth 20000 in
theorem gL_law_X7_waits_ : GoodIn wsL_law (wsV RL 188 RX7 yX7_waits_ wsX7_waits_) := goodIn_app (goodIn_of _ (by decide +kernel)) ggL_law_X7_waits_
set_option maxRecDepth 20000 in
theorem ggL_law_X6_worst : GoodIn wsL_law wsX6_worst := goodIn_r _ [1209, 23, 399, 27, 480, 481, 482, 2, 483, 278, 279, 111, 112, 113, 1193, 1194, 1195, 1196, 24, 957, 958, 959, 960, 859, 860, 861, 22, 862, 286, 288, 287, 284, 285, 309, 310, 311, 40, 42, 43, 863, 864, 865, 866, 867, 868, 869, 45, 870, 320, 321, 322, 323, 324, 325, 52, 871, 53, 54, 56, 872, 873, 874, 58, 875, 334, 335, 336, 337, 338, 339, 340, 876, 877, 878, 47, 879, 349, 350, 351, 352, 353, 354, 355, 356, 609, 610, 611, 612, 613, 614, 615, 616, 617, 618, 619, 620, 621, 622, 623, 624, 625, 626, 627, 628, 629, 630, 631, 632, 633, 634, 327, 328, 329, 635, 636, 637, 638, 639, 640, 641, 642, 643, 644, 645, 646, 647, 648, 649, 650, 651, 652, 653, 654, 655, 656, 657, 658, 659, 660, 661, 662, 663, 664, 665, 666, 667, 668, 669, 670, 671, 672, 673, 674, 675, 528, 529, 530, 676, 677, 678, 679, 680, 681, 682, 683, 684, 685, 686, 687, 688, 689, 690, 691, 692, 693, 130, 131, 132, 289, 290, 291, 694, 695, 696, 697, 698, 699, 700, 701, 702, 703, 704, 705, 1197, 1232, 1233, 1234, 1235, 1236, 1237, 1238, 1239, 1240, 1269, 1270, 1271, 1272, 1273, 1274, 1275, 1276, 1277, 1278, 1279, 1286, 1287, 1288, 1289, 1290, 1291, 1292, 1293, 1294, 1295, 1304, 1305, 1306, 1307, 1308, 1309, 1310, 1296, 1297, 1298, 1299, 1300, 1301, 1302, 1303] (by decide +kernel) (by decide +kernel)
set_option maxRecDepth 20000 in
theorem gL_law_X6_worst : GoodIn wsL_law (wsV RL 189 RX6 yX6_worst wsX6_worst) := goodIn_app (goodIn_of _ (by decide +kernel)) ggL_law_X6_worst
set_option maxRecDepth 20000 in
theorem ggL_law_X7_worst : GoodIn wsL_law wsX7_worst := goodIn_r _ [1213, 102, 370, 376, 290, 131, 291, 500, 501, 502, 5, 503, 371, 118, 119, 120, 889, 890, 891, 1202, 1203, 1204, 1205, 892, 893, 894, 895, 82, 77, 727, 728, 729, 730, 79, 731, 732, 733, 734, 385, 386, 387, 578, 579, 580, 388, 389, 390, 554, 555, 556, 381, 382, 383, 384, 254, 255, 256, 735, 736, 737, 738, 739, 740, 741, 742, 80, 743, 744, 745, 746, 391, 392, 393, 747, 748, 749, 750, 751, 752, 753, 754, 755, 756, 757, 758, 759, 760, 761, 762, 557, 558, 559, 560, 550, 551, 552, 553, 763, 764, 765, 766, 767, 768, 769, 770, 771, 772, 773, 774, 775, 776, 777, 778, 81, 779, 130, 132, 780, 781, 782, 783, 377, 378, 379, 380, 784, 785, 786, 787, 900, 901, 902, 903, 1241, 1242, 1243, 1244, 1245, 1246, 1247, 1248, 1249, 1250, 1251, 1252, 1253, 1254, 1255, 1256, 1257, 1258, 1259, 1260, 1261] (by decide +kernel) (by decide +kernel)
set_option maxRecDepth 20000 in
theorem gL_law_X7_worst : GoodIn wsL_law (wsV RL 192 RX7 yX7_worst wsX7_worst) := goodIn_app (goodIn_of _ (by decide +kernel)) ggL_law_X7_worst
set_option maxRecDepth 20000 in
theorem ggL_law_X6_busiest : GoodIn wsL_law wsX6_busiest := goodIn_r _ [1217, 278, 23, 399, 27, 111, 112, 2, 113, 953, 954, 955, 956, 24, 424, 944, 957, 958, 959, 960, 859, 860, 861, 22, 862, 286, 288, 287, 284, 285, 309, 310, 311, 40, 42, 43, 863, 864, 865, 866, 867, 868, 869, 45, 870, 320, 321, 322, 323, 324, 325, 52, 871, 53, 54, 56, 872, 873, 874, 58, 875, 334, 335, 336, 337, 338, 339, 340, 876, 877, 878, 47, 879, 349, 350, 351, 352, 353, 354, 355, 356, 609, 610, 611, 612, 613, 614, 615, 616, 617, 618, 619, 620, 621, 622, 623, 624, 625, 626, 627, 628, 629, 630, 631, 632, 633, 634, 327, 328, 329, 635, 636, 637, 638, 639, 640, 641, 642, 643, 644, 645, 646, 647, 648, 649, 650, 651, 652, 653, 654, 655, 656, 657, 658, 659, 660, 661, 662, 663, 664, 665, 666, 667, 668, 669, 670, 671, 672, 673, 674, 675, 528, 529, 530, 676, 677, 678, 679, 680, 681, 682, 683, 684, 685, 686, 687, 688, 689, 690, 691, 692, 693, 130, 131, 132, 289, 290, 291, 694, 695, 696, 697, 698, 699, 700, 701, 702, 703, 704, 705, 1232, 1233, 1234, 1235, 1236, 1237, 1238, 1239, 1240, 1269, 1270, 1271, 1272, 1273, 1274, 1275, 1276, 1277, 1278, 1279, 1286, 1287, 1288, 1289, 1290, 1291, 1292, 1293, 1294, 1295, 1304, 1305, 1306, 1307, 1308, 1309, 1310, 1296, 1297, 1298, 1299, 1300, 1301, 1302, 1303] (by decide +kernel) (by decide +kernel)
set_option maxRecDepth 20000 in
theorem gL_law_X6_busiest : GoodIn wsL_law (wsV RL 193 RX6 yX6_busiest wsX6_busiest) := goodIn_app (goodIn_of _ (by decide +kernel)) ggL_law_X6_busiest
set_option maxRecDepth 20000 in
theorem ggL_law_X7_busiest : GoodIn wsL_law wsX7_busiest := goodIn_r _ [1221, 102, 370, 409, 410, 411, 5, 412, 889, 890, 891, 118, 119, 120, 965, 966, 967, 968, 892, 893, 894, 895, 82, 77, 969, 970, 971, 972, 371, 388, 389, 390, 727, 728, 729, 730, 79, 731, 732, 733, 734, 385, 386, 387, 578, 579, 580, 554, 555, 556, 381, 382, 383, 384, 254, 255, 256, 735, 736, 737, 738, 739, 740, 741, 742, 80, 743, 744, 745, 746, 391, 392, 393, 747, 748, 749, 750, 376, 290, 131, 291, 751, 752, 753, 754, 755, 756, 757, 758, 759, 760, 761, 762, 557, 558, 559, 560, 550, 551, 552, 553, 763, 764, 765, 766, 767, 768, 769, 770, 771, 772, 773, 774, 775, 776, 777, 778, 81, 779, 130, 132, 780, 781, 782, 783, 377, 378, 379, 380, 784, 785, 786, 787, 900, 901, 902, 903, 1241, 1242, 1243, 1244, 1245, 1246, 1247, 1248, 1249, 1250, 1251, 1252, 1253, 1254, 1255, 1256, 1257, 1258, 1259, 1260, 1261] (by decide +kernel) (by decide +kernel)
set_option maxRecDepth 20000 in
theorem gL_law_X7_busiest : GoodIn wsL_law (wsV RL 196 RX7 yX7_busiest wsX7_busiest) := goodIn_app (goodIn_of _ (by decide +kernel)) ggL_law_X7_busiest
set_option maxRecDepth 20000 in
theorem ggL_law_X6_count : GoodIn wsL_law wsX6_count := goodIn_r _ [1225, 90, 278, 398, 23, 1226, 1227, 1140, 1141, 1142, 22, 1143, 288, 1144, 485, 486, 487, 286, 40, 488, 489, 490, 491, 43, 492, 493, 494, 45, 495, 52, 920, 921, 922, 923, 42, 651, 993, 994, 995, 996, 619, 997, 633, 1232, 1233, 1234, 1235, 1236, 1237, 1238, 1239, 1240, 1269, 1270, 1271, 1272, 1273, 1274, 1275, 1276, 1277, 1278, 1279, 1286, 1287, 1288, 1289, 1290, 1291, 1292, 1293, 1294, 1295, 1296, 1297, 1298, 1299, 1300, 1301, 1302, 1303, 1304, 1305, 1306, 1307, 1308, 1309, 1310] (by decide +kernel) (by decide +kernel)
set_option maxRecDepth 20000 in
theorem gL_law_X6_count : GoodIn wsL_law (wsV RL 197 RX6 yX6_count wsX6_count) := goodIn_app (goodIn_of _ (by decide +kernel)) ggL_law_X6_count
set_option maxRecDepth 20000 in
theorem ggL_law_X7_count : GoodIn wsL_law wsX7_count := goodIn_r _ [1231, 102, 103, 408, 77, 409, 410, 411, 5, 412, 370, 1153, 1154, 1155, 1156, 371, 504, 505, 506, 507, 391, 392, 393, 936, 937, 938, 939, 1006, 1007, 1008, 1009, 388, 389, 390, 1241, 1242, 1243, 1244, 1245, 1246, 1247, 1248, 1249, 1250, 1251, 1252, 1253, 1254, 1255, 1256, 1257, 1258, 1259, 1260, 1261] (by decide +kernel) (by decide +kernel)
set_option maxRecDepth 20000 in
theorem gL_law_X7_count : GoodIn wsL_law (wsV RL 200 RX7 yX7_count wsX7_count) := goodIn_app (goodIn_of _ (by decide +kernel)) ggL_law_X7_count
theorem dL_law_0 : decode cL_law 0 = .ok (.new 8, 3) := by decide +kernel
theorem dL_law_3 : decode cL_law 3 = .ok (.dup, 1) := by decide +kernel
theorem dL_law_4 : decode cL_law 4 = .ok (.invokespecial 18, 3) := by decide +kernel
theorem dL_law_7 : decode cL_law 7 = .ok (.astore_n 1, 1) := by decide +kernel
theorem dL_law_8 : decode cL_law 8 = .ok (.new 19, 3) := by decide +kernel
theorem dL_law_11 : decode cL_law 11 = .ok (.dup, 1) := by decide +kernel
theorem dL_law_12 : decode cL_law 12 = .ok (.invokespecial 21, 3) := by decide +kernel
theorem dL_law_15 : decode cL_law 15 = .ok (.astore_n 2, 1) := by decide +kernel
theorem dL_law_16 : decode cL_law 16 = .ok (.iconst 1, 1) := by decide +kernel
theorem dL_law_17 : decode cL_law 17 = .ok (.newarray .long, 2) := by decide +kernel
theorem dL_law_19 : decode cL_law 19 = .ok (.astore_n 3, 1) := by decide +kernel
theorem dL_law_20 : decode cL_law 20 = .ok (.iconst 0, 1) := by decide +kernel
theorem dL_law_21 : decode cL_law 21 = .ok (.istore 4, 2) := by decide +kernel
theorem dL_law_23 : decode cL_law 23 = .ok (.iload 4, 2) := by decide +kernel
theorem dL_law_25 : decode cL_law 25 = .ok (.aload_n 0, 1) := by decide +kernel
theorem dL_law_26 : decode cL_law 26 = .ok (.arraylength, 1) := by decide +kernel
theorem dL_law_27 : decode cL_law 27 = .ok (.bipush 6, 2) := by decide +kernel
theorem dL_law_29 : decode cL_law 29 = .ok (.isub, 1) := by decide +kernel
theorem dL_law_30 : decode cL_law 30 = .ok (.if_icmp .gt 1876, 3) := by decide +kernel
theorem dL_law_33 : decode cL_law 33 = .ok (.aload_n 0, 1) := by decide +kernel
theorem dL_law_34 : decode cL_law 34 = .ok (.iload 4, 2) := by decide +kernel
theorem dL_law_36 : decode cL_law 36 = .ok (.iaload, 1) := by decide +kernel
theorem dL_law_37 : decode cL_law 37 = .ok (.bipush 63, 2) := by decide +kernel
theorem dL_law_39 : decode cL_law 39 = .ok (.iand, 1) := by decide +kernel
theorem dL_law_40 : decode cL_law 40 = .ok (.tableswitch 1860 0 41 #[184, 257, 282, 295, 308, 333, 401, 469, 518, 555, 604, 629, 666, 715, 752, 801, 838, 863, 924, 973, 1010, 1047, 1084, 1145, 1158, 1195, 1220, 1293, 1354, 1403, 1440, 1477, 1514, 1539, 1576, 1589, 1650, 1699, 1724, 1773, 1810, 1835], 184) := by decide +kernel
theorem dL_law_224 : decode cL_law 224 = .ok (.aload_n 1, 1) := by decide +kernel
theorem dL_law_225 : decode cL_law 225 = .ok (.aload_n 0, 1) := by decide +kernel
theorem dL_law_226 : decode cL_law 226 = .ok (.iload 4, 2) := by decide +kernel
theorem dL_law_228 : decode cL_law 228 = .ok (.iconst 1, 1) := by decide +kernel
theorem dL_law_229 : decode cL_law 229 = .ok (.iadd, 1) := by decide +kernel
theorem dL_law_230 : decode cL_law 230 = .ok (.iaload, 1) := by decide +kernel
theorem dL_law_231 : decode cL_law 231 = .ok (.aload_n 0, 1) := by decide +kernel
theorem dL_law_232 : decode cL_law 232 = .ok (.iload 4, 2) := by decide +kernel
theorem dL_law_234 : decode cL_law 234 = .ok (.iconst 2, 1) := by decide +kernel
theorem dL_law_235 : decode cL_law 235 = .ok (.iadd, 1) := by decide +kernel
theorem dL_law_236 : decode cL_law 236 = .ok (.iaload, 1) := by decide +kernel
theorem dL_law_237 : decode cL_law 237 = .ok (.aload_n 0, 1) := by decide +kernel
theorem dL_law_238 : decode cL_law 238 = .ok (.iload 4, 2) := by decide +kernel
theorem dL_law_240 : decode cL_law 240 = .ok (.iconst 3, 1) := by decide +kernel
theorem dL_law_241 : decode cL_law 241 = .ok (.iadd, 1) := by decide +kernel
theorem dL_law_242 : decode cL_law 242 = .ok (.iaload, 1) := by decide +kernel
theorem dL_law_243 : decode cL_law 243 = .ok (.aload_n 0, 1) := by decide +kernel
theorem dL_law_244 : decode cL_law 244 = .ok (.iload 4, 2) := by decide +kernel
theorem dL_law_246 : decode cL_law 246 = .ok (.iconst 4, 1) := by decide +kernel
theorem dL_law_247 : decode cL_law 247 = .ok (.iadd, 1) := by decide +kernel
theorem dL_law_248 : decode cL_law 248 = .ok (.iaload, 1) := by decide +kernel
theorem dL_law_249 : decode cL_law 249 = .ok (.aload_n 0, 1) := by decide +kernel
theorem dL_law_250 : decode cL_law 250 = .ok (.iload 4, 2) := by decide +kernel
theorem dL_law_252 : decode cL_law 252 = .ok (.iconst 5, 1) := by decide +kernel
theorem dL_law_253 : decode cL_law 253 = .ok (.iadd, 1) := by decide +kernel
theorem dL_law_254 : decode cL_law 254 = .ok (.iaload, 1) := by decide +kernel
theorem dL_law_255 : decode cL_law 255 = .ok (.invokevirtual 22, 3) := by decide +kernel
theorem dL_law_258 : decode cL_law 258 = .ok (.aload_n 2, 1) := by decide +kernel
theorem dL_law_259 : decode cL_law 259 = .ok (.aload_n 0, 1) := by decide +kernel
theorem dL_law_260 : decode cL_law 260 = .ok (.iload 4, 2) := by decide +kernel
theorem dL_law_262 : decode cL_law 262 = .ok (.iconst 1, 1) := by decide +kernel
theorem dL_law_263 : decode cL_law 263 = .ok (.iadd, 1) := by decide +kernel
theorem dL_law_264 : decode cL_law 264 = .ok (.iaload, 1) := by decide +kernel
theorem dL_law_265 : decode cL_law 265 = .ok (.aload_n 0, 1) := by decide +kernel
theorem dL_law_266 : decode cL_law 266 = .ok (.iload 4, 2) := by decide +kernel
theorem dL_law_268 : decode cL_law 268 = .ok (.iconst 2, 1) := by decide +kernel
theorem dL_law_269 : decode cL_law 269 = .ok (.iadd, 1) := by decide +kernel
theorem dL_law_270 : decode cL_law 270 = .ok (.iaload, 1) := by decide +kernel
theorem dL_law_271 : decode cL_law 271 = .ok (.aload_n 0, 1) := by decide +kernel
theorem dL_law_272 : decode cL_law 272 = .ok (.iload 4, 2) := by decide +kernel
theorem dL_law_274 : decode cL_law 274 = .ok (.iconst 3, 1) := by decide +kernel
theorem dL_law_275 : decode cL_law 275 = .ok (.iadd, 1) := by decide +kernel
theorem dL_law_276 : decode cL_law 276 = .ok (.iaload, 1) := by decide +kernel
theorem dL_law_277 : decode cL_law 277 = .ok (.aload_n 0, 1) := by decide +kernel
theorem dL_law_278 : decode cL_law 278 = .ok (.iload 4, 2) := by decide +kernel
theorem dL_law_280 : decode cL_law 280 = .ok (.iconst 4, 1) := by decide +kernel
theorem dL_law_281 : decode cL_law 281 = .ok (.iadd, 1) := by decide +kernel
theorem dL_law_282 : decode cL_law 282 = .ok (.iaload, 1) := by decide +kernel
theorem dL_law_283 : decode cL_law 283 = .ok (.aload_n 0, 1) := by decide +kernel
theorem dL_law_284 : decode cL_law 284 = .ok (.iload 4, 2) := by decide +kernel
theorem dL_law_286 : decode cL_law 286 = .ok (.iconst 5, 1) := by decide +kernel
theorem dL_law_287 : decode cL_law 287 = .ok (.iadd, 1) := by decide +kernel
theorem dL_law_288 : decode cL_law 288 = .ok (.iaload, 1) := by decide +kernel
theorem dL_law_289 : decode cL_law 289 = .ok (.invokevirtual 26, 3) := by decide +kernel
theorem dL_law_292 : decode cL_law 292 = .ok (.if_icmp .eq 1608, 3) := by decide +kernel
theorem dL_law_295 : decode cL_law 295 = .ok (.iconst 0, 1) := by decide +kernel
theorem dL_law_296 : decode cL_law 296 = .ok (.ireturn, 1) := by decide +kernel
theorem dL_law_297 : decode cL_law 297 = .ok (.aload_n 1, 1) := by decide +kernel
theorem dL_law_298 : decode cL_law 298 = .ok (.aload_n 0, 1) := by decide +kernel
theorem dL_law_299 : decode cL_law 299 = .ok (.iload 4, 2) := by decide +kernel
theorem dL_law_301 : decode cL_law 301 = .ok (.iconst 1, 1) := by decide +kernel
theorem dL_law_302 : decode cL_law 302 = .ok (.iadd, 1) := by decide +kernel
theorem dL_law_303 : decode cL_law 303 = .ok (.iaload, 1) := by decide +kernel
theorem dL_law_304 : decode cL_law 304 = .ok (.invokevirtual 27, 3) := by decide +kernel
theorem dL_law_307 : decode cL_law 307 = .ok (.aload_n 2, 1) := by decide +kernel
theorem dL_law_308 : decode cL_law 308 = .ok (.aload_n 0, 1) := by decide +kernel
theorem dL_law_309 : decode cL_law 309 = .ok (.iload 4, 2) := by decide +kernel
theorem dL_law_311 : decode cL_law 311 = .ok (.iconst 1, 1) := by decide +kernel
theorem dL_law_312 : decode cL_law 312 = .ok (.iadd, 1) := by decide +kernel
theorem dL_law_313 : decode cL_law 313 = .ok (.iaload, 1) := by decide +kernel
theorem dL_law_314 : decode cL_law 314 = .ok (.invokevirtual 31, 3) := by decide +kernel
theorem dL_law_317 : decode cL_law 317 = .ok (.if_icmp .eq 1583, 3) := by decide +kernel
theorem dL_law_320 : decode cL_law 320 = .ok (.iconst 0, 1) := by decide +kernel
theorem dL_law_321 : decode cL_law 321 = .ok (.ireturn, 1) := by decide +kernel
theorem dL_law_322 : decode cL_law 322 = .ok (.aload_n 1, 1) := by decide +kernel
theorem dL_law_323 : decode cL_law 323 = .ok (.invokevirtual 32, 3) := by decide +kernel
theorem dL_law_326 : decode cL_law 326 = .ok (.aload_n 2, 1) := by decide +kernel
theorem dL_law_327 : decode cL_law 327 = .ok (.invokevirtual 36, 3) := by decide +kernel
theorem dL_law_330 : decode cL_law 330 = .ok (.if_icmp .eq 1570, 3) := by decide +kernel
theorem dL_law_333 : decode cL_law 333 = .ok (.iconst 0, 1) := by decide +kernel
theorem dL_law_334 : decode cL_law 334 = .ok (.ireturn, 1) := by decide +kernel
theorem dL_law_335 : decode cL_law 335 = .ok (.aload_n 1, 1) := by decide +kernel
theorem dL_law_336 : decode cL_law 336 = .ok (.invokevirtual 37, 3) := by decide +kernel
theorem dL_law_339 : decode cL_law 339 = .ok (.aload_n 2, 1) := by decide +kernel
theorem dL_law_340 : decode cL_law 340 = .ok (.invokevirtual 40, 3) := by decide +kernel
theorem dL_law_343 : decode cL_law 343 = .ok (.if_icmp .eq 1557, 3) := by decide +kernel
theorem dL_law_346 : decode cL_law 346 = .ok (.iconst 0, 1) := by decide +kernel
theorem dL_law_347 : decode cL_law 347 = .ok (.ireturn, 1) := by decide +kernel
theorem dL_law_348 : decode cL_law 348 = .ok (.aload_n 1, 1) := by decide +kernel
theorem dL_law_349 : decode cL_law 349 = .ok (.aload_n 0, 1) := by decide +kernel
theorem dL_law_350 : decode cL_law 350 = .ok (.iload 4, 2) := by decide +kernel
theorem dL_law_352 : decode cL_law 352 = .ok (.iconst 1, 1) := by decide +kernel
theorem dL_law_353 : decode cL_law 353 = .ok (.iadd, 1) := by decide +kernel
theorem dL_law_354 : decode cL_law 354 = .ok (.iaload, 1) := by decide +kernel
theorem dL_law_355 : decode cL_law 355 = .ok (.invokevirtual 41, 3) := by decide +kernel
theorem dL_law_358 : decode cL_law 358 = .ok (.aload_n 2, 1) := by decide +kernel
theorem dL_law_359 : decode cL_law 359 = .ok (.aload_n 0, 1) := by decide +kernel
theorem dL_law_360 : decode cL_law 360 = .ok (.iload 4, 2) := by decide +kernel
theorem dL_law_362 : decode cL_law 362 = .ok (.iconst 1, 1) := by decide +kernel
theorem dL_law_363 : decode cL_law 363 = .ok (.iadd, 1) := by decide +kernel
theorem dL_law_364 : decode cL_law 364 = .ok (.iaload, 1) := by decide +kernel
theorem dL_law_365 : decode cL_law 365 = .ok (.invokevirtual 45, 3) := by decide +kernel
theorem dL_law_368 : decode cL_law 368 = .ok (.if_icmp .eq 1532, 3) := by decide +kernel
theorem dL_law_371 : decode cL_law 371 = .ok (.iconst 0, 1) := by decide +kernel
theorem dL_law_372 : decode cL_law 372 = .ok (.ireturn, 1) := by decide +kernel
theorem dL_law_373 : decode cL_law 373 = .ok (.aload_n 1, 1) := by decide +kernel
theorem dL_law_374 : decode cL_law 374 = .ok (.aload_n 0, 1) := by decide +kernel
theorem dL_law_375 : decode cL_law 375 = .ok (.iload 4, 2) := by decide +kernel
theorem dL_law_377 : decode cL_law 377 = .ok (.iconst 1, 1) := by decide +kernel
theorem dL_law_378 : decode cL_law 378 = .ok (.iadd, 1) := by decide +kernel
theorem dL_law_379 : decode cL_law 379 = .ok (.iaload, 1) := by decide +kernel
theorem dL_law_380 : decode cL_law 380 = .ok (.aload_n 0, 1) := by decide +kernel
theorem dL_law_381 : decode cL_law 381 = .ok (.iload 4, 2) := by decide +kernel
theorem dL_law_383 : decode cL_law 383 = .ok (.iconst 2, 1) := by decide +kernel
theorem dL_law_384 : decode cL_law 384 = .ok (.iadd, 1) := by decide +kernel
theorem dL_law_385 : decode cL_law 385 = .ok (.iaload, 1) := by decide +kernel
theorem dL_law_386 : decode cL_law 386 = .ok (.aload_n 3, 1) := by decide +kernel
theorem dL_law_387 : decode cL_law 387 = .ok (.invokestatic 46, 3) := by decide +kernel
theorem dL_law_390 : decode cL_law 390 = .ok (.istore 5, 2) := by decide +kernel
theorem dL_law_392 : decode cL_law 392 = .ok (.aload_n 2, 1) := by decide +kernel
theorem dL_law_393 : decode cL_law 393 = .ok (.aload_n 0, 1) := by decide +kernel
theorem dL_law_394 : decode cL_law 394 = .ok (.iload 4, 2) := by decide +kernel
theorem dL_law_396 : decode cL_law 396 = .ok (.iconst 1, 1) := by decide +kernel
theorem dL_law_397 : decode cL_law 397 = .ok (.iadd, 1) := by decide +kernel
theorem dL_law_398 : decode cL_law 398 = .ok (.iaload, 1) := by decide +kernel
theorem dL_law_399 : decode cL_law 399 = .ok (.aload_n 0, 1) := by decide +kernel
theorem dL_law_400 : decode cL_law 400 = .ok (.iload 4, 2) := by decide +kernel
theorem dL_law_402 : decode cL_law 402 = .ok (.iconst 2, 1) := by decide +kernel
theorem dL_law_403 : decode cL_law 403 = .ok (.iadd, 1) := by decide +kernel
theorem dL_law_404 : decode cL_law 404 = .ok (.iaload, 1) := by decide +kernel
theorem dL_law_405 : decode cL_law 405 = .ok (.invokevirtual 51, 3) := by decide +kernel
theorem dL_law_408 : decode cL_law 408 = .ok (.istore 6, 2) := by decide +kernel
theorem dL_law_410 : decode cL_law 410 = .ok (.aload_n 2, 1) := by decide +kernel
theorem dL_law_411 : decode cL_law 411 = .ok (.invokevirtual 52, 3) := by decide +kernel
theorem dL_law_414 : decode cL_law 414 = .ok (.iload 5, 2) := by decide +kernel
theorem dL_law_416 : decode cL_law 416 = .ok (.if_icmp .eq 5, 3) := by decide +kernel
theorem dL_law_419 : decode cL_law 419 = .ok (.iconst 0, 1) := by decide +kernel
theorem dL_law_420 : decode cL_law 420 = .ok (.ireturn, 1) := by decide +kernel
theorem dL_law_421 : decode cL_law 421 = .ok (.iload 5, 2) := by decide +kernel
theorem dL_law_423 : decode cL_law 423 = .ok (.ifCond .ne 15, 3) := by decide +kernel
theorem dL_law_426 : decode cL_law 426 = .ok (.aload_n 3, 1) := by decide +kernel
theorem dL_law_427 : decode cL_law 427 = .ok (.iconst 0, 1) := by decide +kernel
theorem dL_law_428 : decode cL_law 428 = .ok (.laload, 1) := by decide +kernel
theorem dL_law_429 : decode cL_law 429 = .ok (.iload 6, 2) := by decide +kernel
theorem dL_law_431 : decode cL_law 431 = .ok (.i2l, 1) := by decide +kernel
theorem dL_law_432 : decode cL_law 432 = .ok (.lcmp, 1) := by decide +kernel
theorem dL_law_433 : decode cL_law 433 = .ok (.ifCond .eq 5, 3) := by decide +kernel
theorem dL_law_436 : decode cL_law 436 = .ok (.iconst 0, 1) := by decide +kernel
theorem dL_law_437 : decode cL_law 437 = .ok (.ireturn, 1) := by decide +kernel
