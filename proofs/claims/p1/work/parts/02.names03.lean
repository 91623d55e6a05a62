set_option maxRecDepth 20000 in
theorem gX6_most_X6_isNode : GoodIn wsX6_most (wsV RX6 211 RX6 yX6_isNode wsX6_isNode) := goodIn_app (goodIn_of _ (by decide +kernel)) ggX6_most_X6_isNode
theorem dX6_most_0 : decode cX6_most 0 = .ok (.aload_n 0, 1) := by decide +kernel
theorem dX6_most_1 : decode cX6_most 1 = .ok (.iload_n 1, 1) := by decide +kernel
theorem dX6_most_2 : decode cX6_most 2 = .ok (.invokevirtual 211, 3) := by decide +kernel
theorem dX6_most_5 : decode cX6_most 5 = .ok (.ifCond .eq 32, 3) := by decide +kernel
theorem dX6_most_37 : decode cX6_most 37 = .ok (.iconst (-1), 1) := by decide +kernel
theorem dX6_most_38 : decode cX6_most 38 = .ok (.ireturn, 1) := by decide +kernel
theorem dX6_healed_0 : decode cX6_healed 0 = .ok (.aload_n 0, 1) := by decide +kernel
theorem dX6_healed_1 : decode cX6_healed 1 = .ok (.getfield 70, 3) := by decide +kernel
theorem dX6_healed_4 : decode cX6_healed 4 = .ok (.ifCond .ne 5, 3) := by decide +kernel
theorem dX6_healed_7 : decode cX6_healed 7 = .ok (.iconst (-1), 1) := by decide +kernel
theorem dX6_healed_8 : decode cX6_healed 8 = .ok (.ireturn, 1) := by decide +kernel
theorem dX6_loss_0 : decode cX6_loss 0 = .ok (.aload_n 0, 1) := by decide +kernel
theorem dX6_loss_1 : decode cX6_loss 1 = .ok (.getfield 70, 3) := by decide +kernel
theorem dX6_loss_4 : decode cX6_loss 4 = .ok (.ifCond .eq 24, 3) := by decide +kernel
theorem dX6_loss_28 : decode cX6_loss 28 = .ok (.ldc 77, 2) := by decide +kernel
theorem dX6_loss_30 : decode cX6_loss 30 = .ok (.ireturn, 1) := by decide +kernel
theorem dX6_fair_0 : decode cX6_fair 0 = .ok (.aload_n 0, 1) := by decide +kernel
theorem dX6_fair_1 : decode cX6_fair 1 = .ok (.getfield 70, 3) := by decide +kernel
theorem dX6_fair_4 : decode cX6_fair 4 = .ok (.ifCond .eq 14, 3) := by decide +kernel
theorem dX6_fair_18 : decode cX6_fair 18 = .ok (.iconst (-1), 1) := by decide +kernel
theorem dX6_fair_19 : decode cX6_fair 19 = .ok (.ireturn, 1) := by decide +kernel
set_option maxRecDepth 20000 in
theorem ggX6_learns_X6_isLane : GoodIn wsX6_learns wsX6_isLane := goodIn_r _ [11, 12, 13, 14, 10, 15, 16, 1, 17, 18, 19, 20, 21, 22, 194, 195, 196, 197, 198, 199, 200, 201, 202, 203, 204, 205, 206, 207, 208, 209, 210, 211, 212, 213] (by decide +kernel) (by decide +kernel)
set_option maxRecDepth 20000 in
theorem gX6_learns_X6_isLane : GoodIn wsX6_learns (wsV RX6 167 RX6 yX6_isLane wsX6_isLane) := goodIn_app (goodIn_of _ (by decide +kernel)) ggX6_learns_X6_isLane
theorem dX6_learns_0 : decode cX6_learns 0 = .ok (.aload_n 0, 1) := by decide +kernel
theorem dX6_learns_1 : decode cX6_learns 1 = .ok (.iload_n 1, 1) := by decide +kernel
theorem dX6_learns_2 : decode cX6_learns 2 = .ok (.iload_n 2, 1) := by decide +kernel
theorem dX6_learns_3 : decode cX6_learns 3 = .ok (.invokevirtual 167, 3) := by decide +kernel
theorem dX6_learns_6 : decode cX6_learns 6 = .ok (.ifCond .ne 5, 3) := by decide +kernel
theorem dX6_learns_9 : decode cX6_learns 9 = .ok (.iconst (-1), 1) := by decide +kernel
theorem dX6_learns_10 : decode cX6_learns 10 = .ok (.ireturn, 1) := by decide +kernel
theorem dX6_reaches_0 : decode cX6_reaches 0 = .ok (.iload_n 0, 1) := by decide +kernel
theorem dX6_reaches_1 : decode cX6_reaches 1 = .ok (.iload_n 1, 1) := by decide +kernel
theorem dX6_reaches_2 : decode cX6_reaches 2 = .ok (.isub, 1) := by decide +kernel
theorem dX6_reaches_3 : decode cX6_reaches 3 = .ok (.bipush 63, 2) := by decide +kernel
theorem dX6_reaches_5 : decode cX6_reaches 5 = .ok (.iand, 1) := by decide +kernel
theorem dX6_reaches_6 : decode cX6_reaches 6 = .ok (.bipush 32, 2) := by decide +kernel
theorem dX6_reaches_8 : decode cX6_reaches 8 = .ok (.if_icmp .ge 7, 3) := by decide +kernel
theorem dX6_reaches_11 : decode cX6_reaches 11 = .ok (.iconst 1, 1) := by decide +kernel
theorem dX6_reaches_12 : decode cX6_reaches 12 = .ok (.goto 4, 3) := by decide +kernel
theorem dX6_reaches_15 : decode cX6_reaches 15 = .ok (.iconst 0, 1) := by decide +kernel
theorem dX6_reaches_16 : decode cX6_reaches 16 = .ok (.ireturn, 1) := by decide +kernel
theorem dX6_stuck_0 : decode cX6_stuck 0 = .ok (.aload_n 0, 1) := by decide +kernel
theorem dX6_stuck_1 : decode cX6_stuck 1 = .ok (.getfield 70, 3) := by decide +kernel
theorem dX6_stuck_4 : decode cX6_stuck 4 = .ok (.ifCond .eq 13, 3) := by decide +kernel
theorem dX6_stuck_17 : decode cX6_stuck 17 = .ok (.iconst 0, 1) := by decide +kernel
theorem dX6_stuck_18 : decode cX6_stuck 18 = .ok (.ireturn, 1) := by decide +kernel
set_option maxRecDepth 20000 in
theorem ggX6_would_X6_zoneRefusal : GoodIn wsX6_would wsX6_zoneRefusal := goodIn_r _ [5, 6, 7, 8, 9, 10, 11, 12, 13, 14, 4, 15, 16, 17, 18, 19, 20, 21, 22, 23, 24, 25, 26, 27, 28, 29, 30, 31, 32, 33, 34, 35, 36, 37, 38, 39, 40, 41, 42, 43, 44, 45, 46, 47, 48, 49, 50, 51, 52, 53, 223, 224, 225, 226, 227, 228, 229, 230, 231, 232, 233, 234, 235, 236, 237, 238, 239, 240, 241, 242, 243, 244, 245, 246, 247, 248, 249, 250, 251, 252, 253, 254, 255, 256, 257, 258, 259] (by decide +kernel) (by decide +kernel)
set_option maxRecDepth 20000 in
theorem gX6_would_X6_zoneRefusal : GoodIn wsX6_would (wsV RX6 248 RX6 yX6_zoneRefusal wsX6_zoneRefusal) := goodIn_app (goodIn_of _ (by decide +kernel)) ggX6_would_X6_zoneRefusal
theorem dX6_would_0 : decode cX6_would 0 = .ok (.aload_n 0, 1) := by decide +kernel
theorem dX6_would_1 : decode cX6_would 1 = .ok (.iload_n 1, 1) := by decide +kernel
theorem dX6_would_2 : decode cX6_would 2 = .ok (.iload_n 2, 1) := by decide +kernel
theorem dX6_would_3 : decode cX6_would 3 = .ok (.iload_n 3, 1) := by decide +kernel
theorem dX6_would_4 : decode cX6_would 4 = .ok (.invokevirtual 248, 3) := by decide +kernel
theorem dX6_would_7 : decode cX6_would 7 = .ok (.iconst (-1), 1) := by decide +kernel
theorem dX6_would_8 : decode cX6_would 8 = .ok (.if_icmp .ne 15, 3) := by decide +kernel
theorem dX6_would_23 : decode cX6_would 23 = .ok (.iconst (-1), 1) := by decide +kernel
theorem dX6_would_24 : decode cX6_would 24 = .ok (.ireturn, 1) := by decide +kernel
set_option maxRecDepth 20000 in
theorem ggX6_bestZone_X6_isLane : GoodIn wsX6_bestZone wsX6_isLane := goodIn_r _ [7, 8, 9, 10, 6, 11, 12, 1, 13, 14, 15, 16, 17, 18, 218, 219, 220, 221, 222, 223, 224, 225, 226, 227, 228, 229, 230, 231, 232, 233, 234, 235, 236, 237] (by decide +kernel) (by decide +kernel)
set_option maxRecDepth 20000 in
theorem gX6_bestZone_X6_isLane : GoodIn wsX6_bestZone (wsV RX6 167 RX6 yX6_isLane wsX6_isLane) := goodIn_app (goodIn_of _ (by decide +kernel)) ggX6_bestZone_X6_isLane
theorem dX6_bestZone_0 : decode cX6_bestZone 0 = .ok (.aload_n 0, 1) := by decide +kernel
theorem dX6_bestZone_1 : decode cX6_bestZone 1 = .ok (.iload_n 1, 1) := by decide +kernel
theorem dX6_bestZone_2 : decode cX6_bestZone 2 = .ok (.iload_n 2, 1) := by decide +kernel
theorem dX6_bestZone_3 : decode cX6_bestZone 3 = .ok (.invokevirtual 167, 3) := by decide +kernel
theorem dX6_bestZone_6 : decode cX6_bestZone 6 = .ok (.ifCond .eq 13, 3) := by decide +kernel
theorem dX6_bestZone_19 : decode cX6_bestZone 19 = .ok (.iconst (-1), 1) := by decide +kernel
theorem dX6_bestZone_20 : decode cX6_bestZone 20 = .ok (.ireturn, 1) := by decide +kernel
theorem dX6_bears_0 : decode cX6_bears 0 = .ok (.aload_n 0, 1) := by decide +kernel
theorem dX6_bears_1 : decode cX6_bears 1 = .ok (.getfield 70, 3) := by decide +kernel
theorem dX6_bears_4 : decode cX6_bears 4 = .ok (.ifCond .eq 14, 3) := by decide +kernel
theorem dX6_bears_18 : decode cX6_bears 18 = .ok (.iconst (-1), 1) := by decide +kernel
theorem dX6_bears_19 : decode cX6_bears 19 = .ok (.ireturn, 1) := by decide +kernel
set_option maxRecDepth 20000 in
theorem ggX6_waits_X6_isLane : GoodIn wsX6_waits wsX6_isLane := goodIn_r _ [6, 7, 8, 9, 5, 10, 11, 12, 13, 14, 15, 16, 17, 18, 202, 203, 204, 205, 206, 207, 208, 209, 210, 211, 212, 213, 214, 215, 216, 217, 218, 219, 220, 221] (by decide +kernel) (by decide +kernel)
set_option maxRecDepth 20000 in
theorem gX6_waits_X6_isLane : GoodIn wsX6_waits (wsV RX6 167 RX6 yX6_isLane wsX6_isLane) := goodIn_app (goodIn_of _ (by decide +kernel)) ggX6_waits_X6_isLane
theorem dX6_waits_0 : decode cX6_waits 0 = .ok (.aload_n 0, 1) := by decide +kernel
theorem dX6_waits_1 : decode cX6_waits 1 = .ok (.iload_n 1, 1) := by decide +kernel
theorem dX6_waits_2 : decode cX6_waits 2 = .ok (.iload_n 2, 1) := by decide +kernel
theorem dX6_waits_3 : decode cX6_waits 3 = .ok (.invokevirtual 167, 3) := by decide +kernel
theorem dX6_waits_6 : decode cX6_waits 6 = .ok (.ifCond .eq 14, 3) := by decide +kernel
theorem dX6_waits_20 : decode cX6_waits 20 = .ok (.iconst (-1), 1) := by decide +kernel
theorem dX6_waits_21 : decode cX6_waits 21 = .ok (.ireturn, 1) := by decide +kernel
set_option maxRecDepth 20000 in
theorem ggX6_worst_X6_isCircuit : GoodIn wsX6_worst wsX6_isCircuit := goodIn_r _ [8, 9, 1, 10, 194, 195, 196, 197, 198, 199, 200, 201, 202, 203, 204, 205, 206, 207, 208, 209, 210, 211, 212, 213] (by decide +kernel) (by decide +kernel)
set_option maxRecDepth 20000 in
theorem gX6_worst_X6_isCircuit : GoodIn wsX6_worst (wsV RX6 135 RX6 yX6_isCircuit wsX6_isCircuit) := goodIn_app (goodIn_of _ (by decide +kernel)) ggX6_worst_X6_isCircuit
theorem dX6_worst_0 : decode cX6_worst 0 = .ok (.aload_n 0, 1) := by decide +kernel
theorem dX6_worst_1 : decode cX6_worst 1 = .ok (.iload_n 1, 1) := by decide +kernel
theorem dX6_worst_2 : decode cX6_worst 2 = .ok (.invokevirtual 135, 3) := by decide +kernel
theorem dX6_worst_5 : decode cX6_worst 5 = .ok (.ifCond .eq 14, 3) := by decide +kernel
theorem dX6_worst_19 : decode cX6_worst 19 = .ok (.iconst (-1), 1) := by decide +kernel
theorem dX6_worst_20 : decode cX6_worst 20 = .ok (.ireturn, 1) := by decide +kernel
theorem dX6_busiest_0 : decode cX6_busiest 0 = .ok (.aload_n 0, 1) := by decide +kernel
theorem dX6_busiest_1 : decode cX6_busiest 1 = .ok (.getfield 70, 3) := by decide +kernel
theorem dX6_busiest_4 : decode cX6_busiest 4 = .ok (.ifCond .eq 14, 3) := by decide +kernel
theorem dX6_busiest_18 : decode cX6_busiest 18 = .ok (.iconst (-1), 1) := by decide +kernel
theorem dX6_busiest_19 : decode cX6_busiest 19 = .ok (.ireturn, 1) := by decide +kernel
set_option maxRecDepth 20000 in
theorem ggX6_alone_X6_outside : GoodIn wsX6_alone wsX6_outside := goodIn_r _ [4] (by decide +kernel) (by decide +kernel)
set_option maxRecDepth 20000 in
theorem gX6_alone_X6_outside : GoodIn wsX6_alone (va_wsS RX6 55 yX6_outside wsX6_outside) := goodIn_app (goodIn_of _ (by decide +kernel)) ggX6_alone_X6_outside
set_option maxRecDepth 20000 in
theorem ggX6_alone_X6_isNoLink : GoodIn wsX6_alone wsX6_isNoLink := goodIn_r _ [7, 1, 2, 3, 4] (by decide +kernel) (by decide +kernel)
set_option maxRecDepth 20000 in
theorem gX6_alone_X6_isNoLink : GoodIn wsX6_alone (va_wsS RX6 331 yX6_isNoLink wsX6_isNoLink) := goodIn_app (goodIn_of _ (by decide +kernel)) ggX6_alone_X6_isNoLink
set_option maxRecDepth 20000 in
theorem ggX6_alone_X6_sentAlone : GoodIn wsX6_alone wsX6_sentAlone := goodIn_r _ [11, 12, 13, 14, 15, 16, 17, 18, 19, 20, 21, 22, 23, 24, 25, 26, 27, 28, 29, 30, 31, 32, 33, 34, 35, 36, 37, 38, 39, 40, 41, 42, 43, 44, 45, 46, 47, 48, 49, 50, 51, 52, 53, 54, 55, 56, 57, 58, 59, 60, 61, 62, 63, 64, 65, 66, 67, 68, 69, 70, 71, 72, 73, 74, 75, 76, 77, 78, 79, 80, 81, 82, 83, 84, 85, 86, 87, 88, 89, 90, 91, 92, 93, 94, 95, 96, 97, 98, 99, 100, 3, 101, 102, 103, 104, 105, 106, 107, 108, 109, 110, 111, 112, 113, 114, 115, 116, 117, 118, 119, 120, 121, 122, 123, 124, 125, 126, 127, 128, 129, 130, 131, 132, 133, 134, 135, 136, 137, 138, 139, 140, 141, 142, 143, 144, 145, 146, 147, 148, 149, 150, 151, 152, 153, 154, 155, 156, 157, 158, 159, 160, 161, 162, 163, 164, 165, 166, 167, 168, 169, 170, 171, 172, 173, 174, 175, 176, 177, 178, 179, 180, 181, 182, 183, 184, 185, 186, 187, 188, 189, 190, 191, 192, 193, 194, 195, 196, 197, 198, 199, 200, 201, 202, 203, 204, 205, 206, 207, 208, 209, 210, 211, 212, 213, 214, 215, 216, 217, 218, 219, 220, 221, 222, 223, 224, 225, 226, 227, 228, 229, 230, 231, 232, 233, 234] (by decide +kernel) (by decide +kernel)
set_option maxRecDepth 20000 in
theorem gX6_alone_X6_sentAlone : GoodIn wsX6_alone (wsV RX6 335 RX6 yX6_sentAlone wsX6_sentAlone) := goodIn_app (goodIn_of _ (by decide +kernel)) ggX6_alone_X6_sentAlone
theorem dX6_alone_0 : decode cX6_alone 0 = .ok (.iload_n 3, 1) := by decide +kernel
theorem dX6_alone_1 : decode cX6_alone 1 = .ok (.iconst 1, 1) := by decide +kernel
theorem dX6_alone_2 : decode cX6_alone 2 = .ok (.bipush 30, 2) := by decide +kernel
theorem dX6_alone_4 : decode cX6_alone 4 = .ok (.invokestatic 55, 3) := by decide +kernel
theorem dX6_alone_7 : decode cX6_alone 7 = .ok (.ifCond .ne 15, 3) := by decide +kernel
theorem dX6_alone_10 : decode cX6_alone 10 = .ok (.iload_n 1, 1) := by decide +kernel
theorem dX6_alone_11 : decode cX6_alone 11 = .ok (.iload_n 2, 1) := by decide +kernel
theorem dX6_alone_12 : decode cX6_alone 12 = .ok (.iload 4, 2) := by decide +kernel
theorem dX6_alone_14 : decode cX6_alone 14 = .ok (.iload 5, 2) := by decide +kernel
theorem dX6_alone_16 : decode cX6_alone 16 = .ok (.invokestatic 331, 3) := by decide +kernel
theorem dX6_alone_19 : decode cX6_alone 19 = .ok (.ifCond .eq 5, 3) := by decide +kernel
theorem dX6_alone_22 : decode cX6_alone 22 = .ok (.iconst (-1), 1) := by decide +kernel
theorem dX6_alone_23 : decode cX6_alone 23 = .ok (.ireturn, 1) := by decide +kernel
theorem dX6_alone_24 : decode cX6_alone 24 = .ok (.aload_n 0, 1) := by decide +kernel
theorem dX6_alone_25 : decode cX6_alone 25 = .ok (.iload_n 1, 1) := by decide +kernel
theorem dX6_alone_26 : decode cX6_alone 26 = .ok (.iload_n 2, 1) := by decide +kernel
theorem dX6_alone_27 : decode cX6_alone 27 = .ok (.iload_n 3, 1) := by decide +kernel
theorem dX6_alone_28 : decode cX6_alone 28 = .ok (.iload 4, 2) := by decide +kernel
theorem dX6_alone_30 : decode cX6_alone 30 = .ok (.iload 5, 2) := by decide +kernel
theorem dX6_alone_32 : decode cX6_alone 32 = .ok (.invokevirtual 335, 3) := by decide +kernel
theorem dX6_alone_35 : decode cX6_alone 35 = .ok (.ireturn, 1) := by decide +kernel
set_option maxRecDepth 20000 in
theorem ggX6_isNoLink_X6_outside : GoodIn wsX6_isNoLink wsX6_outside := goodIn_r _ [4] (by decide +kernel) (by decide +kernel)
set_option maxRecDepth 20000 in
theorem gX6_isNoLink_X6_outside : GoodIn wsX6_isNoLink (va_wsS RX6 55 yX6_outside wsX6_outside) := goodIn_app (goodIn_of _ (by decide +kernel)) ggX6_isNoLink_X6_outside
theorem dX6_isNoLink_0 : decode cX6_isNoLink 0 = .ok (.iload_n 0, 1) := by decide +kernel
theorem dX6_isNoLink_1 : decode cX6_isNoLink 1 = .ok (.iconst 1, 1) := by decide +kernel
theorem dX6_isNoLink_2 : decode cX6_isNoLink 2 = .ok (.iconst 4, 1) := by decide +kernel
theorem dX6_isNoLink_3 : decode cX6_isNoLink 3 = .ok (.invokestatic 55, 3) := by decide +kernel
theorem dX6_isNoLink_6 : decode cX6_isNoLink 6 = .ok (.ifCond .ne 33, 3) := by decide +kernel
theorem dX6_isNoLink_9 : decode cX6_isNoLink 9 = .ok (.iload_n 1, 1) := by decide +kernel
theorem dX6_isNoLink_10 : decode cX6_isNoLink 10 = .ok (.iconst 1, 1) := by decide +kernel
theorem dX6_isNoLink_11 : decode cX6_isNoLink 11 = .ok (.iconst 4, 1) := by decide +kernel
theorem dX6_isNoLink_12 : decode cX6_isNoLink 12 = .ok (.invokestatic 55, 3) := by decide +kernel
theorem dX6_isNoLink_15 : decode cX6_isNoLink 15 = .ok (.ifCond .ne 24, 3) := by decide +kernel
theorem dX6_isNoLink_18 : decode cX6_isNoLink 18 = .ok (.iload_n 2, 1) := by decide +kernel
theorem dX6_isNoLink_19 : decode cX6_isNoLink 19 = .ok (.iconst 1, 1) := by decide +kernel
theorem dX6_isNoLink_20 : decode cX6_isNoLink 20 = .ok (.bipush 9, 2) := by decide +kernel
theorem dX6_isNoLink_22 : decode cX6_isNoLink 22 = .ok (.invokestatic 55, 3) := by decide +kernel
theorem dX6_isNoLink_25 : decode cX6_isNoLink 25 = .ok (.ifCond .ne 14, 3) := by decide +kernel
theorem dX6_isNoLink_28 : decode cX6_isNoLink 28 = .ok (.iload_n 3, 1) := by decide +kernel
theorem dX6_isNoLink_29 : decode cX6_isNoLink 29 = .ok (.iconst 1, 1) := by decide +kernel
theorem dX6_isNoLink_30 : decode cX6_isNoLink 30 = .ok (.sipush 200, 3) := by decide +kernel
theorem dX6_isNoLink_33 : decode cX6_isNoLink 33 = .ok (.invokestatic 55, 3) := by decide +kernel
theorem dX6_isNoLink_36 : decode cX6_isNoLink 36 = .ok (.ifCond .eq 7, 3) := by decide +kernel
theorem dX6_isNoLink_39 : decode cX6_isNoLink 39 = .ok (.iconst 1, 1) := by decide +kernel
theorem dX6_isNoLink_40 : decode cX6_isNoLink 40 = .ok (.goto 4, 3) := by decide +kernel
theorem dX6_isNoLink_43 : decode cX6_isNoLink 43 = .ok (.iconst 0, 1) := by decide +kernel
theorem dX6_isNoLink_44 : decode cX6_isNoLink 44 = .ok (.ireturn, 1) := by decide +kernel
set_option maxRecDepth 20000 in
theorem ggX6_sentAlone_X3_layAlone : GoodIn wsX6_sentAlone wsX3_layAlone := goodIn_r _ [9, 10, 11, 12, 13, 14, 15, 8, 16, 17, 18, 19, 20, 21, 22, 23, 24, 25, 26, 27, 28, 29, 30, 31, 32, 33, 34, 35, 36, 37, 38, 39, 40, 41, 42, 43, 44, 45, 46, 47, 48, 49, 50, 51, 52, 53, 54, 55, 56, 57, 58, 59, 60, 61, 62, 63, 64, 65, 66, 67, 68, 189, 190, 191, 192, 193, 194, 195, 196, 197, 198, 199, 200, 201, 202, 203, 204, 205, 206, 207, 208, 209, 210, 211, 212, 213, 214, 215, 216, 217, 218, 219, 220, 221, 222, 223, 224] (by decide +kernel) (by decide +kernel)
set_option maxRecDepth 20000 in
theorem gX6_sentAlone_X3_layAlone : GoodIn wsX6_sentAlone (wsV RX6 339 RX3 yX3_layAlone wsX3_layAlone) := goodIn_app (goodIn_of _ (by decide +kernel)) ggX6_sentAlone_X3_layAlone
set_option maxRecDepth 20000 in
theorem ggX6_sentAlone_X3_steps : GoodIn wsX6_sentAlone wsX3_steps := goodIn_r _ [72, 73, 74, 75, 8, 76, 17, 18, 20, 22, 10, 77, 78, 79, 80, 81, 12, 82, 83, 84, 85, 86, 87, 47, 88, 51, 89, 90, 91, 92, 93, 94, 95, 96, 23, 97, 98, 99, 38, 39, 28, 40, 41, 42, 43, 100, 101, 102, 103, 11, 104, 105, 106, 107, 108, 109, 59, 110, 61, 62, 111, 112, 113, 114, 115, 116, 117, 118, 119, 120, 63, 121, 122, 123, 124, 125, 126, 127, 128, 129, 130, 131, 132, 133, 134, 135, 136, 137, 138, 139, 140, 141, 142, 143, 49, 144, 145, 146, 147, 148, 21, 149, 150, 151, 152, 153, 154, 155, 156, 24, 157, 158, 159, 160, 161, 162, 163, 164, 165, 166, 167, 168, 169, 170, 171, 172, 19, 173, 174, 175, 176, 31, 36, 177, 178, 179, 189, 190, 191, 192, 193, 194, 195, 196, 197, 198, 199, 200, 201, 202, 203, 204, 205, 206, 207, 208, 209, 210, 211, 212, 213, 214, 215, 216, 217, 218, 219, 220, 221, 222, 223, 224] (by decide +kernel) (by decide +kernel)
set_option maxRecDepth 20000 in
theorem gX6_sentAlone_X3_steps : GoodIn wsX6_sentAlone (wsV RX6 274 RX3 yX3_steps wsX3_steps) := goodIn_app (goodIn_of _ (by decide +kernel)) ggX6_sentAlone_X3_steps
theorem dX6_sentAlone_0 : decode cX6_sentAlone 0 = .ok (.aload_n 0, 1) := by decide +kernel
theorem dX6_sentAlone_1 : decode cX6_sentAlone 1 = .ok (.getfield 30, 3) := by decide +kernel
theorem dX6_sentAlone_4 : decode cX6_sentAlone 4 = .ok (.iload_n 1, 1) := by decide +kernel
theorem dX6_sentAlone_5 : decode cX6_sentAlone 5 = .ok (.iload_n 2, 1) := by decide +kernel
theorem dX6_sentAlone_6 : decode cX6_sentAlone 6 = .ok (.iload_n 3, 1) := by decide +kernel
theorem dX6_sentAlone_7 : decode cX6_sentAlone 7 = .ok (.iload 4, 2) := by decide +kernel
theorem dX6_sentAlone_9 : decode cX6_sentAlone 9 = .ok (.invokevirtual 339, 3) := by decide +kernel
theorem dX6_sentAlone_12 : decode cX6_sentAlone 12 = .ok (.aload_n 0, 1) := by decide +kernel
theorem dX6_sentAlone_13 : decode cX6_sentAlone 13 = .ok (.getfield 30, 3) := by decide +kernel
theorem dX6_sentAlone_16 : decode cX6_sentAlone 16 = .ok (.iload 5, 2) := by decide +kernel
theorem dX6_sentAlone_18 : decode cX6_sentAlone 18 = .ok (.invokevirtual 274, 3) := by decide +kernel
theorem dX6_sentAlone_21 : decode cX6_sentAlone 21 = .ok (.aload_n 0, 1) := by decide +kernel
theorem dX6_sentAlone_22 : decode cX6_sentAlone 22 = .ok (.getfield 30, 3) := by decide +kernel
theorem dX6_sentAlone_25 : decode cX6_sentAlone 25 = .ok (.getfield 104, 3) := by decide +kernel
theorem dX6_sentAlone_28 : decode cX6_sentAlone 28 = .ok (.iconst 0, 1) := by decide +kernel
theorem dX6_sentAlone_29 : decode cX6_sentAlone 29 = .ok (.aaload, 1) := by decide +kernel
theorem dX6_sentAlone_30 : decode cX6_sentAlone 30 = .ok (.getfield 175, 3) := by decide +kernel
theorem dX6_sentAlone_33 : decode cX6_sentAlone 33 = .ok (.iconst 0, 1) := by decide +kernel
theorem dX6_sentAlone_34 : decode cX6_sentAlone 34 = .ok (.aaload, 1) := by decide +kernel
theorem dX6_sentAlone_35 : decode cX6_sentAlone 35 = .ok (.getfield 205, 3) := by decide +kernel
theorem dX6_sentAlone_38 : decode cX6_sentAlone 38 = .ok (.ireturn, 1) := by decide +kernel
set_option maxRecDepth 20000 in
theorem ggX6_full_X6_isNoLink : GoodIn wsX6_full wsX6_isNoLink := goodIn_r _ [4, 5, 6, 3, 7] (by decide +kernel) (by decide +kernel)
set_option maxRecDepth 20000 in
theorem gX6_full_X6_isNoLink : GoodIn wsX6_full (va_wsS RX6 331 yX6_isNoLink wsX6_isNoLink) := goodIn_app (goodIn_of _ (by decide +kernel)) ggX6_full_X6_isNoLink
set_option maxRecDepth 20000 in
theorem ggX6_full_X6_sentAlone : GoodIn wsX6_full wsX6_sentAlone := goodIn_r _ [11, 12, 13, 14, 15, 16, 17, 18, 19, 20, 21, 22, 23, 24, 25, 26, 27, 28, 29, 30, 31, 32, 33, 34, 35, 36, 37, 38, 39, 40, 41, 42, 43, 44, 45, 46, 47, 48, 49, 50, 51, 52, 53, 54, 55, 56, 57, 58, 59, 60, 61, 62, 63, 64, 65, 66, 67, 68, 69, 70, 71, 72, 73, 74, 75, 76, 77, 78, 79, 80, 81, 82, 83, 84, 85, 86, 87, 88, 89, 90, 91, 92, 93, 94, 95, 96, 97, 98, 99, 100, 3, 101, 102, 103, 104, 105, 106, 107, 108, 109, 110, 111, 112, 113, 114, 115, 116, 117, 118, 119, 120, 121, 122, 123, 124, 125, 126, 127, 128, 129, 130, 131, 132, 133, 134, 135, 136, 137, 138, 139, 140, 141, 142, 143, 144, 145, 146, 147, 148, 149, 150, 151, 152, 153, 154, 155, 156, 157, 158, 159, 160, 161, 162, 163, 164, 165, 166, 167, 168, 169, 170, 171, 172, 173, 174, 175, 176, 177, 178, 179, 180, 181, 182, 183, 184, 185, 186, 187, 188, 189, 190, 191, 192, 193, 194, 195, 196, 197, 198, 199, 200, 201, 202, 203, 204, 205, 206, 207, 208, 209, 210, 211, 212, 213, 214, 215, 216, 217, 218, 219, 220, 221, 222, 223, 224, 225, 226, 227, 228, 229, 230, 231, 232, 233, 234] (by decide +kernel) (by decide +kernel)
set_option maxRecDepth 20000 in
theorem gX6_full_X6_sentAlone : GoodIn wsX6_full (wsV RX6 335 RX6 yX6_sentAlone wsX6_sentAlone) := goodIn_app (goodIn_of _ (by decide +kernel)) ggX6_full_X6_sentAlone
theorem dX6_full_0 : decode cX6_full 0 = .ok (.iload_n 1, 1) := by decide +kernel
theorem dX6_full_1 : decode cX6_full 1 = .ok (.iload_n 2, 1) := by decide +kernel
theorem dX6_full_2 : decode cX6_full 2 = .ok (.iload_n 3, 1) := by decide +kernel
theorem dX6_full_3 : decode cX6_full 3 = .ok (.iload 4, 2) := by decide +kernel
theorem dX6_full_5 : decode cX6_full 5 = .ok (.invokestatic 331, 3) := by decide +kernel
theorem dX6_full_8 : decode cX6_full 8 = .ok (.ifCond .eq 5, 3) := by decide +kernel
theorem dX6_full_11 : decode cX6_full 11 = .ok (.iconst (-1), 1) := by decide +kernel
theorem dX6_full_12 : decode cX6_full 12 = .ok (.ireturn, 1) := by decide +kernel
theorem dX6_full_13 : decode cX6_full 13 = .ok (.aload_n 0, 1) := by decide +kernel
theorem dX6_full_14 : decode cX6_full 14 = .ok (.iload_n 1, 1) := by decide +kernel
theorem dX6_full_15 : decode cX6_full 15 = .ok (.iload_n 2, 1) := by decide +kernel
theorem dX6_full_16 : decode cX6_full 16 = .ok (.bipush 30, 2) := by decide +kernel
theorem dX6_full_18 : decode cX6_full 18 = .ok (.iload_n 3, 1) := by decide +kernel
theorem dX6_full_19 : decode cX6_full 19 = .ok (.iload 4, 2) := by decide +kernel
theorem dX6_full_21 : decode cX6_full 21 = .ok (.invokevirtual 335, 3) := by decide +kernel
theorem dX6_full_24 : decode cX6_full 24 = .ok (.istore 5, 2) := by decide +kernel
theorem dX6_full_26 : decode cX6_full 26 = .ok (.iconst 1, 1) := by decide +kernel
theorem dX6_full_27 : decode cX6_full 27 = .ok (.istore 6, 2) := by decide +kernel
theorem dX6_full_29 : decode cX6_full 29 = .ok (.iload 6, 2) := by decide +kernel
theorem dX6_full_31 : decode cX6_full 31 = .ok (.bipush 30, 2) := by decide +kernel
theorem dX6_full_33 : decode cX6_full 33 = .ok (.if_icmp .ge 28, 3) := by decide +kernel
theorem dX6_full_36 : decode cX6_full 36 = .ok (.aload_n 0, 1) := by decide +kernel
theorem dX6_full_37 : decode cX6_full 37 = .ok (.iload_n 1, 1) := by decide +kernel
theorem dX6_full_38 : decode cX6_full 38 = .ok (.iload_n 2, 1) := by decide +kernel
theorem dX6_full_39 : decode cX6_full 39 = .ok (.iload 6, 2) := by decide +kernel
theorem dX6_full_41 : decode cX6_full 41 = .ok (.iload_n 3, 1) := by decide +kernel
theorem dX6_full_42 : decode cX6_full 42 = .ok (.iload 4, 2) := by decide +kernel
theorem dX6_full_44 : decode cX6_full 44 = .ok (.invokevirtual 335, 3) := by decide +kernel
theorem dX6_full_47 : decode cX6_full 47 = .ok (.iload 5, 2) := by decide +kernel
theorem dX6_full_49 : decode cX6_full 49 = .ok (.if_icmp .ne 6, 3) := by decide +kernel
theorem dX6_full_52 : decode cX6_full 52 = .ok (.iload 6, 2) := by decide +kernel
theorem dX6_full_54 : decode cX6_full 54 = .ok (.ireturn, 1) := by decide +kernel
theorem dX6_full_55 : decode cX6_full 55 = .ok (.iinc 6 1, 3) := by decide +kernel
theorem dX6_full_58 : decode cX6_full 58 = .ok (.goto (-29), 3) := by decide +kernel
theorem dX6_full_61 : decode cX6_full 61 = .ok (.bipush 30, 2) := by decide +kernel
theorem dX6_full_63 : decode cX6_full 63 = .ok (.ireturn, 1) := by decide +kernel
set_option maxRecDepth 20000 in
theorem ggX6_law_X6_outside : GoodIn wsX6_law wsX6_outside := goodIn_r _ [4] (by decide +kernel) (by decide +kernel)
set_option maxRecDepth 20000 in
theorem gX6_law_X6_outside : GoodIn wsX6_law (va_wsS RX6 55 yX6_outside wsX6_outside) := goodIn_app (goodIn_of _ (by decide +kernel)) ggX6_law_X6_outside
theorem dX6_law_0 : decode cX6_law 0 = .ok (.iload_n 1, 1) := by decide +kernel
theorem dX6_law_1 : decode cX6_law 1 = .ok (.iconst 1, 1) := by decide +kernel
theorem dX6_law_2 : decode cX6_law 2 = .ok (.iconst 4, 1) := by decide +kernel
theorem dX6_law_3 : decode cX6_law 3 = .ok (.invokestatic 55, 3) := by decide +kernel
theorem dX6_law_6 : decode cX6_law 6 = .ok (.ifCond .ne 22, 3) := by decide +kernel
theorem dX6_law_9 : decode cX6_law 9 = .ok (.iload_n 2, 1) := by decide +kernel
theorem dX6_law_10 : decode cX6_law 10 = .ok (.iconst 1, 1) := by decide +kernel
theorem dX6_law_11 : decode cX6_law 11 = .ok (.iconst 4, 1) := by decide +kernel
theorem dX6_law_12 : decode cX6_law 12 = .ok (.invokestatic 55, 3) := by decide +kernel
theorem dX6_law_15 : decode cX6_law 15 = .ok (.ifCond .ne 13, 3) := by decide +kernel
theorem dX6_law_18 : decode cX6_law 18 = .ok (.iload_n 3, 1) := by decide +kernel
theorem dX6_law_19 : decode cX6_law 19 = .ok (.iconst 1, 1) := by decide +kernel
theorem dX6_law_20 : decode cX6_law 20 = .ok (.bipush 9, 2) := by decide +kernel
theorem dX6_law_22 : decode cX6_law 22 = .ok (.invokestatic 55, 3) := by decide +kernel
theorem dX6_law_25 : decode cX6_law 25 = .ok (.ifCond .eq 5, 3) := by decide +kernel
theorem dX6_law_28 : decode cX6_law 28 = .ok (.iconst (-1), 1) := by decide +kernel
theorem dX6_law_29 : decode cX6_law 29 = .ok (.ireturn, 1) := by decide +kernel
theorem dX6_law_30 : decode cX6_law 30 = .ok (.iconst 2, 1) := by decide +kernel
theorem dX6_law_31 : decode cX6_law 31 = .ok (.iload_n 1, 1) := by decide +kernel
theorem dX6_law_32 : decode cX6_law 32 = .ok (.imul, 1) := by decide +kernel
theorem dX6_law_33 : decode cX6_law 33 = .ok (.iload_n 3, 1) := by decide +kernel
theorem dX6_law_34 : decode cX6_law 34 = .ok (.iadd, 1) := by decide +kernel
theorem dX6_law_35 : decode cX6_law 35 = .ok (.iconst 1, 1) := by decide +kernel
theorem dX6_law_36 : decode cX6_law 36 = .ok (.isub, 1) := by decide +kernel
theorem dX6_law_37 : decode cX6_law 37 = .ok (.iload_n 3, 1) := by decide +kernel
theorem dX6_law_38 : decode cX6_law 38 = .ok (.idiv, 1) := by decide +kernel
theorem dX6_law_39 : decode cX6_law 39 = .ok (.iload_n 2, 1) := by decide +kernel
theorem dX6_law_40 : decode cX6_law 40 = .ok (.iadd, 1) := by decide +kernel
theorem dX6_law_41 : decode cX6_law 41 = .ok (.iconst 1, 1) := by decide +kernel
theorem dX6_law_42 : decode cX6_law 42 = .ok (.isub, 1) := by decide +kernel
theorem dX6_law_43 : decode cX6_law 43 = .ok (.ireturn, 1) := by decide +kernel
set_option maxRecDepth 20000 in
theorem ggX6_aim_X6_isLane : GoodIn wsX6_aim wsX6_isLane := goodIn_r _ [7, 8, 9, 10, 6, 11, 12, 1, 13, 14, 15, 16, 17, 18, 29, 30, 31, 32, 33, 34, 35, 36, 37, 38, 39, 40, 41, 42, 43, 44, 45, 46, 47, 48] (by decide +kernel) (by decide +kernel)
set_option maxRecDepth 20000 in
theorem gX6_aim_X6_isLane : GoodIn wsX6_aim (wsV RX6 167 RX6 yX6_isLane wsX6_isLane) := goodIn_app (goodIn_of _ (by decide +kernel)) ggX6_aim_X6_isLane
theorem dX6_aim_0 : decode cX6_aim 0 = .ok (.aload_n 0, 1) := by decide +kernel
theorem dX6_aim_1 : decode cX6_aim 1 = .ok (.iload_n 1, 1) := by decide +kernel
theorem dX6_aim_2 : decode cX6_aim 2 = .ok (.iload_n 2, 1) := by decide +kernel
theorem dX6_aim_3 : decode cX6_aim 3 = .ok (.invokevirtual 167, 3) := by decide +kernel
theorem dX6_aim_6 : decode cX6_aim 6 = .ok (.ifCond .eq 23, 3) := by decide +kernel
theorem dX6_aim_29 : decode cX6_aim 29 = .ok (.iconst (-1), 1) := by decide +kernel
theorem dX6_aim_30 : decode cX6_aim 30 = .ok (.ireturn, 1) := by decide +kernel
set_option maxRecDepth 20000 in
theorem ggX6_room_X6_isLane : GoodIn wsX6_room wsX6_isLane := goodIn_r _ [5, 6, 7, 8, 4, 9, 10, 11, 12, 13, 14, 15, 16, 17, 45, 46, 47, 48, 49, 50, 51, 52, 53, 54, 55, 56, 57, 58, 59, 60, 61, 62, 63, 64] (by decide +kernel) (by decide +kernel)
set_option maxRecDepth 20000 in
theorem gX6_room_X6_isLane : GoodIn wsX6_room (wsV RX6 167 RX6 yX6_isLane wsX6_isLane) := goodIn_app (goodIn_of _ (by decide +kernel)) ggX6_room_X6_isLane
theorem dX6_room_0 : decode cX6_room 0 = .ok (.aload_n 0, 1) := by decide +kernel
theorem dX6_room_1 : decode cX6_room 1 = .ok (.iload_n 1, 1) := by decide +kernel
theorem dX6_room_2 : decode cX6_room 2 = .ok (.iload_n 2, 1) := by decide +kernel
theorem dX6_room_3 : decode cX6_room 3 = .ok (.invokevirtual 167, 3) := by decide +kernel
theorem dX6_room_6 : decode cX6_room 6 = .ok (.ifCond .eq 12, 3) := by decide +kernel
theorem dX6_room_18 : decode cX6_room 18 = .ok (.iconst (-1), 1) := by decide +kernel
theorem dX6_room_19 : decode cX6_room 19 = .ok (.ireturn, 1) := by decide +kernel
set_option maxRecDepth 20000 in
theorem ggX6_trip_X6_isCircuit : GoodIn wsX6_trip wsX6_isCircuit := goodIn_r _ [12, 13, 1, 14, 15, 16, 17, 18, 19, 20, 21, 22, 23, 24, 25, 26, 27, 28, 29, 30, 31, 32, 33, 34] (by decide +kernel) (by decide +kernel)
set_option maxRecDepth 20000 in
theorem gX6_trip_X6_isCircuit : GoodIn wsX6_trip (wsV RX6 135 RX6 yX6_isCircuit wsX6_isCircuit) := goodIn_app (goodIn_of _ (by decide +kernel)) ggX6_trip_X6_isCircuit
theorem dX6_trip_0 : decode cX6_trip 0 = .ok (.aload_n 0, 1) := by decide +kernel
theorem dX6_trip_1 : decode cX6_trip 1 = .ok (.iload_n 1, 1) := by decide +kernel
theorem dX6_trip_2 : decode cX6_trip 2 = .ok (.invokevirtual 135, 3) := by decide +kernel
theorem dX6_trip_5 : decode cX6_trip 5 = .ok (.ifCond .eq 18, 3) := by decide +kernel
theorem dX6_trip_23 : decode cX6_trip 23 = .ok (.iconst (-1), 1) := by decide +kernel
theorem dX6_trip_24 : decode cX6_trip 24 = .ok (.ireturn, 1) := by decide +kernel
set_option maxRecDepth 20000 in
theorem ggX6_oldest_X6_isCircuit : GoodIn wsX6_oldest wsX6_isCircuit := goodIn_r _ [9, 10, 3, 11, 19, 20, 21, 22, 23, 24, 25, 26, 27, 34, 35, 36, 37, 38, 39, 40, 41, 42, 43, 44] (by decide +kernel) (by decide +kernel)
set_option maxRecDepth 20000 in
theorem gX6_oldest_X6_isCircuit : GoodIn wsX6_oldest (wsV RX6 135 RX6 yX6_isCircuit wsX6_isCircuit) := goodIn_app (goodIn_of _ (by decide +kernel)) ggX6_oldest_X6_isCircuit
theorem dX6_oldest_0 : decode cX6_oldest 0 = .ok (.aload_n 0, 1) := by decide +kernel
theorem dX6_oldest_1 : decode cX6_oldest 1 = .ok (.iload_n 1, 1) := by decide +kernel
theorem dX6_oldest_2 : decode cX6_oldest 2 = .ok (.invokevirtual 135, 3) := by decide +kernel
theorem dX6_oldest_5 : decode cX6_oldest 5 = .ok (.ifCond .eq 15, 3) := by decide +kernel
theorem dX6_oldest_20 : decode cX6_oldest 20 = .ok (.iconst (-1), 1) := by decide +kernel
theorem dX6_oldest_21 : decode cX6_oldest 21 = .ok (.ireturn, 1) := by decide +kernel
theorem dX6_count_0 : decode cX6_count 0 = .ok (.iload_n 1, 1) := by decide +kernel
theorem dX6_count_1 : decode cX6_count 1 = .ok (.ifCond .ne 8, 3) := by decide +kernel
theorem dX6_count_4 : decode cX6_count 4 = .ok (.aload_n 0, 1) := by decide +kernel
theorem dX6_count_5 : decode cX6_count 5 = .ok (.getfield 47, 3) := by decide +kernel
theorem dX6_count_8 : decode cX6_count 8 = .ok (.ireturn, 1) := by decide +kernel
theorem dX6_count_9 : decode cX6_count 9 = .ok (.aload_n 0, 1) := by decide +kernel
theorem dX6_count_10 : decode cX6_count 10 = .ok (.getfield 70, 3) := by decide +kernel
theorem dX6_count_13 : decode cX6_count 13 = .ok (.ifCond .ne 6, 3) := by decide +kernel
theorem dX6_count_16 : decode cX6_count 16 = .ok (.ldc 77, 2) := by decide +kernel
theorem dX6_count_18 : decode cX6_count 18 = .ok (.ireturn, 1) := by decide +kernel
theorem dX6_outside_0 : decode cX6_outside 0 = .ok (.iload_n 0, 1) := by decide +kernel
theorem dX6_outside_1 : decode cX6_outside 1 = .ok (.iload_n 1, 1) := by decide +kernel
theorem dX6_outside_2 : decode cX6_outside 2 = .ok (.if_icmp .lt 8, 3) := by decide +kernel
theorem dX6_outside_5 : decode cX6_outside 5 = .ok (.iload_n 0, 1) := by decide +kernel
theorem dX6_outside_6 : decode cX6_outside 6 = .ok (.iload_n 2, 1) := by decide +kernel
theorem dX6_outside_7 : decode cX6_outside 7 = .ok (.if_icmp .le 7, 3) := by decide +kernel
theorem dX6_outside_10 : decode cX6_outside 10 = .ok (.iconst 1, 1) := by decide +kernel
theorem dX6_outside_11 : decode cX6_outside 11 = .ok (.goto 4, 3) := by decide +kernel
theorem dX6_outside_14 : decode cX6_outside 14 = .ok (.iconst 0, 1) := by decide +kernel
theorem dX6_outside_15 : decode cX6_outside 15 = .ok (.ireturn, 1) := by decide +kernel
theorem dX6_isHop_0 : decode cX6_isHop 0 = .ok (.aload_n 0, 1) := by decide +kernel
theorem dX6_isHop_1 : decode cX6_isHop 1 = .ok (.getfield 70, 3) := by decide +kernel
theorem dX6_isHop_4 : decode cX6_isHop 4 = .ok (.ifCond .eq 22, 3) := by decide +kernel
theorem dX6_isHop_26 : decode cX6_isHop 26 = .ok (.iconst 0, 1) := by decide +kernel
theorem dX6_isHop_27 : decode cX6_isHop 27 = .ok (.ireturn, 1) := by decide +kernel
theorem dX6_isCircuit_0 : decode cX6_isCircuit 0 = .ok (.aload_n 0, 1) := by decide +kernel
theorem dX6_isCircuit_1 : decode cX6_isCircuit 1 = .ok (.getfield 70, 3) := by decide +kernel
theorem dX6_isCircuit_4 : decode cX6_isCircuit 4 = .ok (.ifCond .eq 22, 3) := by decide +kernel
theorem dX6_isCircuit_26 : decode cX6_isCircuit 26 = .ok (.iconst 0, 1) := by decide +kernel
theorem dX6_isCircuit_27 : decode cX6_isCircuit 27 = .ok (.ireturn, 1) := by decide +kernel
set_option maxRecDepth 20000 in
theorem ggX6_isLane_X6_isHop : GoodIn wsX6_isLane wsX6_isHop := goodIn_r _ [5, 6, 7, 8, 14, 15, 16, 17, 18, 19, 20, 21, 22, 23, 24, 25, 26, 27, 28, 29, 30, 31, 32, 33] (by decide +kernel) (by decide +kernel)
set_option maxRecDepth 20000 in
theorem gX6_isLane_X6_isHop : GoodIn wsX6_isLane (wsV RX6 93 RX6 yX6_isHop wsX6_isHop) := goodIn_app (goodIn_of _ (by decide +kernel)) ggX6_isLane_X6_isHop
theorem dX6_isLane_0 : decode cX6_isLane 0 = .ok (.aload_n 0, 1) := by decide +kernel
theorem dX6_isLane_1 : decode cX6_isLane 1 = .ok (.iload_n 1, 1) := by decide +kernel
theorem dX6_isLane_2 : decode cX6_isLane 2 = .ok (.invokevirtual 93, 3) := by decide +kernel
theorem dX6_isLane_5 : decode cX6_isLane 5 = .ok (.ifCond .eq 15, 3) := by decide +kernel
theorem dX6_isLane_20 : decode cX6_isLane 20 = .ok (.iconst 0, 1) := by decide +kernel
theorem dX6_isLane_21 : decode cX6_isLane 21 = .ok (.ireturn, 1) := by decide +kernel
theorem dX6_isNode_0 : decode cX6_isNode 0 = .ok (.aload_n 0, 1) := by decide +kernel
theorem dX6_isNode_1 : decode cX6_isNode 1 = .ok (.getfield 70, 3) := by decide +kernel
theorem dX6_isNode_4 : decode cX6_isNode 4 = .ok (.ifCond .eq 22, 3) := by decide +kernel
theorem dX6_isNode_26 : decode cX6_isNode 26 = .ok (.iconst 0, 1) := by decide +kernel
theorem dX6_isNode_27 : decode cX6_isNode 27 = .ok (.ireturn, 1) := by decide +kernel
theorem dX7_in_0 : decode cX7_in 0 = .ok (.iload_n 0, 1) := by decide +kernel
theorem dX7_in_1 : decode cX7_in 1 = .ok (.iload_n 1, 1) := by decide +kernel
theorem dX7_in_2 : decode cX7_in 2 = .ok (.if_icmp .lt 12, 3) := by decide +kernel
theorem dX7_in_5 : decode cX7_in 5 = .ok (.iload_n 0, 1) := by decide +kernel
theorem dX7_in_6 : decode cX7_in 6 = .ok (.iload_n 2, 1) := by decide +kernel
theorem dX7_in_7 : decode cX7_in 7 = .ok (.if_icmp .gt 7, 3) := by decide +kernel
theorem dX7_in_10 : decode cX7_in 10 = .ok (.iconst 1, 1) := by decide +kernel
theorem dX7_in_11 : decode cX7_in 11 = .ok (.goto 4, 3) := by decide +kernel
theorem dX7_in_14 : decode cX7_in 14 = .ok (.iconst 0, 1) := by decide +kernel
theorem dX7_in_15 : decode cX7_in 15 = .ok (.ireturn, 1) := by decide +kernel
theorem dX7_init_0 : decode cX7_init 0 = .ok (.aload_n 0, 1) := by decide +kernel
theorem dX7_init_1 : decode cX7_init 1 = .ok (.invokespecial 3, 3) := by decide +kernel
theorem dX7_init_4 : decode cX7_init 4 = .ok (.aload_n 0, 1) := by decide +kernel
theorem dX7_init_5 : decode cX7_init 5 = .ok (.sipush 160, 3) := by decide +kernel
theorem dX7_init_8 : decode cX7_init 8 = .ok (.newarray .int, 2) := by decide +kernel
theorem dX7_init_10 : decode cX7_init 10 = .ok (.putfield 9, 3) := by decide +kernel
theorem dX7_init_13 : decode cX7_init 13 = .ok (.aload_n 0, 1) := by decide +kernel
theorem dX7_init_14 : decode cX7_init 14 = .ok (.iconst 3, 1) := by decide +kernel
theorem dX7_init_15 : decode cX7_init 15 = .ok (.newarray .int, 2) := by decide +kernel
theorem dX7_init_17 : decode cX7_init 17 = .ok (.putfield 13, 3) := by decide +kernel
theorem dX7_init_20 : decode cX7_init 20 = .ok (.aload_n 0, 1) := by decide +kernel
theorem dX7_init_21 : decode cX7_init 21 = .ok (.bipush 9, 2) := by decide +kernel
theorem dX7_init_23 : decode cX7_init 23 = .ok (.newarray .int, 2) := by decide +kernel
theorem dX7_init_25 : decode cX7_init 25 = .ok (.putfield 16, 3) := by decide +kernel
theorem dX7_init_28 : decode cX7_init 28 = .ok (.aload_n 0, 1) := by decide +kernel
theorem dX7_init_29 : decode cX7_init 29 = .ok (.bipush 9, 2) := by decide +kernel
theorem dX7_init_31 : decode cX7_init 31 = .ok (.newarray .int, 2) := by decide +kernel
theorem dX7_init_33 : decode cX7_init 33 = .ok (.putfield 19, 3) := by decide +kernel
theorem dX7_init_36 : decode cX7_init 36 = .ok (.aload_n 0, 1) := by decide +kernel
theorem dX7_init_37 : decode cX7_init 37 = .ok (.sipush 1767, 3) := by decide +kernel
theorem dX7_init_40 : decode cX7_init 40 = .ok (.newarray .int, 2) := by decide +kernel
theorem dX7_init_42 : decode cX7_init 42 = .ok (.putfield 22, 3) := by decide +kernel
theorem dX7_init_45 : decode cX7_init 45 = .ok (.aload_n 0, 1) := by decide +kernel
theorem dX7_init_46 : decode cX7_init 46 = .ok (.iconst 4, 1) := by decide +kernel
theorem dX7_init_47 : decode cX7_init 47 = .ok (.newarray .int, 2) := by decide +kernel
theorem dX7_init_49 : decode cX7_init 49 = .ok (.putfield 25, 3) := by decide +kernel
theorem dX7_init_52 : decode cX7_init 52 = .ok (.aload_n 0, 1) := by decide +kernel
theorem dX7_init_53 : decode cX7_init 53 = .ok (.iconst 3, 1) := by decide +kernel
theorem dX7_init_54 : decode cX7_init 54 = .ok (.newarray .int, 2) := by decide +kernel
theorem dX7_init_56 : decode cX7_init 56 = .ok (.putfield 28, 3) := by decide +kernel
theorem dX7_init_59 : decode cX7_init 59 = .ok (.aload_n 0, 1) := by decide +kernel
theorem dX7_init_60 : decode cX7_init 60 = .ok (.bipush 9, 2) := by decide +kernel
theorem dX7_init_62 : decode cX7_init 62 = .ok (.newarray .int, 2) := by decide +kernel
theorem dX7_init_64 : decode cX7_init 64 = .ok (.putfield 31, 3) := by decide +kernel
theorem dX7_init_67 : decode cX7_init 67 = .ok (.aload_n 0, 1) := by decide +kernel
theorem dX7_init_68 : decode cX7_init 68 = .ok (.iconst 3, 1) := by decide +kernel
theorem dX7_init_69 : decode cX7_init 69 = .ok (.newarray .int, 2) := by decide +kernel
theorem dX7_init_71 : decode cX7_init 71 = .ok (.putfield 34, 3) := by decide +kernel
theorem dX7_init_74 : decode cX7_init 74 = .ok (.aload_n 0, 1) := by decide +kernel
theorem dX7_init_75 : decode cX7_init 75 = .ok (.sipush 1767, 3) := by decide +kernel
theorem dX7_init_78 : decode cX7_init 78 = .ok (.newarray .int, 2) := by decide +kernel
theorem dX7_init_80 : decode cX7_init 80 = .ok (.putfield 37, 3) := by decide +kernel
theorem dX7_init_83 : decode cX7_init 83 = .ok (.aload_n 0, 1) := by decide +kernel
theorem dX7_init_84 : decode cX7_init 84 = .ok (.iconst 3, 1) := by decide +kernel
theorem dX7_init_85 : decode cX7_init 85 = .ok (.newarray .int, 2) := by decide +kernel
theorem dX7_init_87 : decode cX7_init 87 = .ok (.putfield 40, 3) := by decide +kernel
theorem dX7_init_90 : decode cX7_init 90 = .ok (.aload_n 0, 1) := by decide +kernel
theorem dX7_init_91 : decode cX7_init 91 = .ok (.bipush 8, 2) := by decide +kernel
theorem dX7_init_93 : decode cX7_init 93 = .ok (.newarray .int, 2) := by decide +kernel
theorem dX7_init_95 : decode cX7_init 95 = .ok (.putfield 43, 3) := by decide +kernel
theorem dX7_init_98 : decode cX7_init 98 = .ok (.aload_n 0, 1) := by decide +kernel
theorem dX7_init_99 : decode cX7_init 99 = .ok (.bipush 8, 2) := by decide +kernel
theorem dX7_init_101 : decode cX7_init 101 = .ok (.newarray .int, 2) := by decide +kernel
theorem dX7_init_103 : decode cX7_init 103 = .ok (.putfield 46, 3) := by decide +kernel
theorem dX7_init_106 : decode cX7_init 106 = .ok (.return_, 1) := by decide +kernel
theorem dX7_thrown_0 : decode cX7_thrown 0 = .ok (.aload_n 0, 1) := by decide +kernel
theorem dX7_thrown_1 : decode cX7_thrown 1 = .ok (.getfield 49, 3) := by decide +kernel
theorem dX7_thrown_4 : decode cX7_thrown 4 = .ok (.ireturn, 1) := by decide +kernel
theorem dX7_byteOf_0 : decode cX7_byteOf 0 = .ok (.iload 5, 2) := by decide +kernel
theorem dX7_byteOf_2 : decode cX7_byteOf 2 = .ok (.iconst 4, 1) := by decide +kernel
theorem dX7_byteOf_3 : decode cX7_byteOf 3 = .ok (.if_icmp .ge 7, 3) := by decide +kernel
theorem dX7_byteOf_6 : decode cX7_byteOf 6 = .ok (.iload_n 0, 1) := by decide +kernel
theorem dX7_byteOf_7 : decode cX7_byteOf 7 = .ok (.goto 38, 3) := by decide +kernel
theorem dX7_byteOf_10 : decode cX7_byteOf 10 = .ok (.iload 5, 2) := by decide +kernel
theorem dX7_byteOf_12 : decode cX7_byteOf 12 = .ok (.bipush 8, 2) := by decide +kernel
theorem dX7_byteOf_14 : decode cX7_byteOf 14 = .ok (.if_icmp .ge 7, 3) := by decide +kernel
theorem dX7_byteOf_17 : decode cX7_byteOf 17 = .ok (.iload_n 1, 1) := by decide +kernel
theorem dX7_byteOf_18 : decode cX7_byteOf 18 = .ok (.goto 27, 3) := by decide +kernel
theorem dX7_byteOf_21 : decode cX7_byteOf 21 = .ok (.iload 5, 2) := by decide +kernel
theorem dX7_byteOf_23 : decode cX7_byteOf 23 = .ok (.bipush 12, 2) := by decide +kernel
theorem dX7_byteOf_25 : decode cX7_byteOf 25 = .ok (.if_icmp .ge 7, 3) := by decide +kernel
theorem dX7_byteOf_28 : decode cX7_byteOf 28 = .ok (.iload_n 2, 1) := by decide +kernel
theorem dX7_byteOf_29 : decode cX7_byteOf 29 = .ok (.goto 16, 3) := by decide +kernel
theorem dX7_byteOf_32 : decode cX7_byteOf 32 = .ok (.iload 5, 2) := by decide +kernel
theorem dX7_byteOf_34 : decode cX7_byteOf 34 = .ok (.bipush 16, 2) := by decide +kernel
theorem dX7_byteOf_36 : decode cX7_byteOf 36 = .ok (.if_icmp .ge 7, 3) := by decide +kernel
theorem dX7_byteOf_39 : decode cX7_byteOf 39 = .ok (.iload_n 3, 1) := by decide +kernel
theorem dX7_byteOf_40 : decode cX7_byteOf 40 = .ok (.goto 5, 3) := by decide +kernel
theorem dX7_byteOf_43 : decode cX7_byteOf 43 = .ok (.iload 4, 2) := by decide +kernel
theorem dX7_byteOf_45 : decode cX7_byteOf 45 = .ok (.istore 6, 2) := by decide +kernel
theorem dX7_byteOf_47 : decode cX7_byteOf 47 = .ok (.iload 6, 2) := by decide +kernel
theorem dX7_byteOf_49 : decode cX7_byteOf 49 = .ok (.bipush 24, 2) := by decide +kernel
theorem dX7_byteOf_51 : decode cX7_byteOf 51 = .ok (.bipush 8, 2) := by decide +kernel
theorem dX7_byteOf_53 : decode cX7_byteOf 53 = .ok (.iload 5, 2) := by decide +kernel
theorem dX7_byteOf_55 : decode cX7_byteOf 55 = .ok (.iconst 4, 1) := by decide +kernel
theorem dX7_byteOf_56 : decode cX7_byteOf 56 = .ok (.irem, 1) := by decide +kernel
theorem dX7_byteOf_57 : decode cX7_byteOf 57 = .ok (.imul, 1) := by decide +kernel
theorem dX7_byteOf_58 : decode cX7_byteOf 58 = .ok (.isub, 1) := by decide +kernel
theorem dX7_byteOf_59 : decode cX7_byteOf 59 = .ok (.ishr, 1) := by decide +kernel
theorem dX7_byteOf_60 : decode cX7_byteOf 60 = .ok (.sipush 255, 3) := by decide +kernel
theorem dX7_byteOf_63 : decode cX7_byteOf 63 = .ok (.iand, 1) := by decide +kernel
theorem dX7_byteOf_64 : decode cX7_byteOf 64 = .ok (.ireturn, 1) := by decide +kernel
set_option maxRecDepth 20000 in
theorem ggX7_feed_X7_byteOf : GoodIn wsX7_feed wsX7_byteOf := goodIn_r _ [7] (by decide +kernel) (by decide +kernel)
set_option maxRecDepth 20000 in
theorem gX7_feed_X7_byteOf : GoodIn wsX7_feed (va_wsS RX7 53 yX7_byteOf wsX7_byteOf) := goodIn_app (goodIn_of _ (by decide +kernel)) ggX7_feed_X7_byteOf
theorem dX7_feed_0 : decode cX7_feed 0 = .ok (.aload_n 0, 1) := by decide +kernel
theorem dX7_feed_1 : decode cX7_feed 1 = .ok (.iconst 0, 1) := by decide +kernel
theorem dX7_feed_2 : decode cX7_feed 2 = .ok (.putfield 49, 3) := by decide +kernel
theorem dX7_feed_5 : decode cX7_feed 5 = .ok (.iconst 0, 1) := by decide +kernel
theorem dX7_feed_6 : decode cX7_feed 6 = .ok (.istore 6, 2) := by decide +kernel
theorem dX7_feed_8 : decode cX7_feed 8 = .ok (.iconst 0, 1) := by decide +kernel
theorem dX7_feed_9 : decode cX7_feed 9 = .ok (.istore 7, 2) := by decide +kernel
theorem dX7_feed_11 : decode cX7_feed 11 = .ok (.iload 7, 2) := by decide +kernel
theorem dX7_feed_13 : decode cX7_feed 13 = .ok (.bipush 20, 2) := by decide +kernel
theorem dX7_feed_15 : decode cX7_feed 15 = .ok (.if_icmp .ge 34, 3) := by decide +kernel
theorem dX7_feed_18 : decode cX7_feed 18 = .ok (.iload 6, 2) := by decide +kernel
theorem dX7_feed_20 : decode cX7_feed 20 = .ok (.iload_n 1, 1) := by decide +kernel
theorem dX7_feed_21 : decode cX7_feed 21 = .ok (.iload_n 2, 1) := by decide +kernel
theorem dX7_feed_22 : decode cX7_feed 22 = .ok (.iload_n 3, 1) := by decide +kernel
theorem dX7_feed_23 : decode cX7_feed 23 = .ok (.iload 4, 2) := by decide +kernel
theorem dX7_feed_25 : decode cX7_feed 25 = .ok (.iload 5, 2) := by decide +kernel
theorem dX7_feed_27 : decode cX7_feed 27 = .ok (.iload 7, 2) := by decide +kernel
theorem dX7_feed_29 : decode cX7_feed 29 = .ok (.invokestatic 53, 3) := by decide +kernel
theorem dX7_feed_32 : decode cX7_feed 32 = .ok (.ifCond .eq 7, 3) := by decide +kernel
theorem dX7_feed_35 : decode cX7_feed 35 = .ok (.iconst 1, 1) := by decide +kernel
theorem dX7_feed_36 : decode cX7_feed 36 = .ok (.goto 4, 3) := by decide +kernel
theorem dX7_feed_39 : decode cX7_feed 39 = .ok (.iconst 0, 1) := by decide +kernel
theorem dX7_feed_40 : decode cX7_feed 40 = .ok (.iadd, 1) := by decide +kernel
theorem dX7_feed_41 : decode cX7_feed 41 = .ok (.istore 6, 2) := by decide +kernel
theorem dX7_feed_43 : decode cX7_feed 43 = .ok (.iinc 7 1, 3) := by decide +kernel
theorem dX7_feed_46 : decode cX7_feed 46 = .ok (.goto (-35), 3) := by decide +kernel
theorem dX7_feed_49 : decode cX7_feed 49 = .ok (.aload_n 0, 1) := by decide +kernel
theorem dX7_feed_50 : decode cX7_feed 50 = .ok (.getfield 57, 3) := by decide +kernel
theorem dX7_feed_53 : decode cX7_feed 53 = .ok (.iload 6, 2) := by decide +kernel
theorem dX7_feed_55 : decode cX7_feed 55 = .ok (.iadd, 1) := by decide +kernel
theorem dX7_feed_56 : decode cX7_feed 56 = .ok (.sipush 160, 3) := by decide +kernel
theorem dX7_feed_59 : decode cX7_feed 59 = .ok (.if_icmp .le 5, 3) := by decide +kernel
theorem dX7_feed_64 : decode cX7_feed 64 = .ok (.iconst 0, 1) := by decide +kernel
theorem dX7_feed_65 : decode cX7_feed 65 = .ok (.istore 7, 2) := by decide +kernel
theorem dX7_feed_67 : decode cX7_feed 67 = .ok (.iload 7, 2) := by decide +kernel
theorem dX7_feed_69 : decode cX7_feed 69 = .ok (.bipush 20, 2) := by decide +kernel
theorem dX7_feed_71 : decode cX7_feed 71 = .ok (.if_icmp .ge 49, 3) := by decide +kernel
theorem dX7_feed_74 : decode cX7_feed 74 = .ok (.iload_n 1, 1) := by decide +kernel
theorem dX7_feed_75 : decode cX7_feed 75 = .ok (.iload_n 2, 1) := by decide +kernel
theorem dX7_feed_76 : decode cX7_feed 76 = .ok (.iload_n 3, 1) := by decide +kernel
theorem dX7_feed_77 : decode cX7_feed 77 = .ok (.iload 4, 2) := by decide +kernel
theorem dX7_feed_79 : decode cX7_feed 79 = .ok (.iload 5, 2) := by decide +kernel
theorem dX7_feed_81 : decode cX7_feed 81 = .ok (.iload 7, 2) := by decide +kernel
theorem dX7_feed_83 : decode cX7_feed 83 = .ok (.invokestatic 53, 3) := by decide +kernel
theorem dX7_feed_86 : decode cX7_feed 86 = .ok (.istore 8, 2) := by decide +kernel
theorem dX7_feed_88 : decode cX7_feed 88 = .ok (.iload 8, 2) := by decide +kernel
theorem dX7_feed_90 : decode cX7_feed 90 = .ok (.ifCond .eq 24, 3) := by decide +kernel
theorem dX7_feed_93 : decode cX7_feed 93 = .ok (.aload_n 0, 1) := by decide +kernel
theorem dX7_feed_94 : decode cX7_feed 94 = .ok (.getfield 9, 3) := by decide +kernel
theorem dX7_feed_97 : decode cX7_feed 97 = .ok (.aload_n 0, 1) := by decide +kernel
theorem dX7_feed_98 : decode cX7_feed 98 = .ok (.getfield 57, 3) := by decide +kernel
theorem dX7_feed_101 : decode cX7_feed 101 = .ok (.iload 8, 2) := by decide +kernel
theorem dX7_feed_103 : decode cX7_feed 103 = .ok (.iastore, 1) := by decide +kernel
theorem dX7_feed_104 : decode cX7_feed 104 = .ok (.aload_n 0, 1) := by decide +kernel
theorem dX7_feed_105 : decode cX7_feed 105 = .ok (.dup, 1) := by decide +kernel
theorem dX7_feed_106 : decode cX7_feed 106 = .ok (.getfield 57, 3) := by decide +kernel
theorem dX7_feed_109 : decode cX7_feed 109 = .ok (.iconst 1, 1) := by decide +kernel
theorem dX7_feed_110 : decode cX7_feed 110 = .ok (.iadd, 1) := by decide +kernel
theorem dX7_feed_111 : decode cX7_feed 111 = .ok (.putfield 57, 3) := by decide +kernel
theorem dX7_feed_114 : decode cX7_feed 114 = .ok (.iinc 7 1, 3) := by decide +kernel
theorem dX7_feed_117 : decode cX7_feed 117 = .ok (.goto (-50), 3) := by decide +kernel
theorem dX7_feed_120 : decode cX7_feed 120 = .ok (.aload_n 0, 1) := by decide +kernel
theorem dX7_feed_121 : decode cX7_feed 121 = .ok (.getfield 57, 3) := by decide +kernel
theorem dX7_feed_124 : decode cX7_feed 124 = .ok (.ireturn, 1) := by decide +kernel
set_option maxRecDepth 20000 in
theorem ggX7_end_X7_in : GoodIn wsX7_end wsX7_in := goodIn_r _ [6] (by decide +kernel) (by decide +kernel)
set_option maxRecDepth 20000 in
theorem gX7_end_X7_in : GoodIn wsX7_end (va_wsS RX7 60 yX7_in wsX7_in) := goodIn_app (goodIn_of _ (by decide +kernel)) ggX7_end_X7_in
theorem dX7_end_0 : decode cX7_end 0 = .ok (.aload_n 0, 1) := by decide +kernel
theorem dX7_end_1 : decode cX7_end 1 = .ok (.iconst 0, 1) := by decide +kernel
theorem dX7_end_2 : decode cX7_end 2 = .ok (.putfield 49, 3) := by decide +kernel
theorem dX7_end_5 : decode cX7_end 5 = .ok (.iload_n 1, 1) := by decide +kernel
theorem dX7_end_6 : decode cX7_end 6 = .ok (.iconst 0, 1) := by decide +kernel
theorem dX7_end_7 : decode cX7_end 7 = .ok (.aload_n 0, 1) := by decide +kernel
theorem dX7_end_8 : decode cX7_end 8 = .ok (.getfield 57, 3) := by decide +kernel
theorem dX7_end_11 : decode cX7_end 11 = .ok (.invokestatic 60, 3) := by decide +kernel
theorem dX7_end_14 : decode cX7_end 14 = .ok (.ifCond .ne 5, 3) := by decide +kernel
theorem dX7_end_17 : decode cX7_end 17 = .ok (.iconst 0, 1) := by decide +kernel
theorem dX7_end_18 : decode cX7_end 18 = .ok (.ireturn, 1) := by decide +kernel
theorem dX7_end_19 : decode cX7_end 19 = .ok (.aload_n 0, 1) := by decide +kernel
theorem dX7_end_20 : decode cX7_end 20 = .ok (.iload_n 1, 1) := by decide +kernel
theorem dX7_end_21 : decode cX7_end 21 = .ok (.putfield 57, 3) := by decide +kernel
theorem dX7_end_24 : decode cX7_end 24 = .ok (.iconst 1, 1) := by decide +kernel
theorem dX7_end_25 : decode cX7_end 25 = .ok (.ireturn, 1) := by decide +kernel
theorem dX7_here_0 : decode cX7_here 0 = .ok (.aload_n 0, 1) := by decide +kernel
theorem dX7_here_1 : decode cX7_here 1 = .ok (.getfield 64, 3) := by decide +kernel
theorem dX7_here_4 : decode cX7_here 4 = .ok (.aload_n 0, 1) := by decide +kernel
theorem dX7_here_5 : decode cX7_here 5 = .ok (.getfield 57, 3) := by decide +kernel
theorem dX7_here_8 : decode cX7_here 8 = .ok (.if_icmp .ge 15, 3) := by decide +kernel
theorem dX7_here_23 : decode cX7_here 23 = .ok (.iconst (-1), 1) := by decide +kernel
theorem dX7_here_24 : decode cX7_here 24 = .ok (.ireturn, 1) := by decide +kernel
set_option maxRecDepth 20000 in
theorem ggX7_ahead_X7_here : GoodIn wsX7_ahead wsX7_here := goodIn_r _ [6, 1, 7, 8, 9, 10, 11, 12, 13, 14, 15, 16, 17, 18, 19, 20, 21, 22, 23, 24, 25, 26, 27, 28, 29] (by decide +kernel) (by decide +kernel)
set_option maxRecDepth 20000 in
theorem gX7_ahead_X7_here : GoodIn wsX7_ahead (wsV RX7 67 RX7 yX7_here wsX7_here) := goodIn_app (goodIn_of _ (by decide +kernel)) ggX7_ahead_X7_here
theorem dX7_ahead_0 : decode cX7_ahead 0 = .ok (.aload_n 0, 1) := by decide +kernel
theorem dX7_ahead_1 : decode cX7_ahead 1 = .ok (.invokevirtual 67, 3) := by decide +kernel
theorem dX7_ahead_4 : decode cX7_ahead 4 = .ok (.bipush 32, 2) := by decide +kernel
theorem dX7_ahead_6 : decode cX7_ahead 6 = .ok (.if_icmp .ne 16, 3) := by decide +kernel
theorem dX7_ahead_22 : decode cX7_ahead 22 = .ok (.aload_n 0, 1) := by decide +kernel
theorem dX7_ahead_23 : decode cX7_ahead 23 = .ok (.invokevirtual 67, 3) := by decide +kernel
theorem dX7_ahead_26 : decode cX7_ahead 26 = .ok (.ireturn, 1) := by decide +kernel
theorem dX7_bad_0 : decode cX7_bad 0 = .ok (.aload_n 0, 1) := by decide +kernel
theorem dX7_bad_1 : decode cX7_bad 1 = .ok (.aload_n 0, 1) := by decide +kernel
theorem dX7_bad_2 : decode cX7_bad 2 = .ok (.getfield 71, 3) := by decide +kernel
theorem dX7_bad_5 : decode cX7_bad 5 = .ok (.iconst (-1), 1) := by decide +kernel
theorem dX7_bad_6 : decode cX7_bad 6 = .ok (.if_icmp .ne 10, 3) := by decide +kernel
theorem dX7_bad_9 : decode cX7_bad 9 = .ok (.aload_n 0, 1) := by decide +kernel
theorem dX7_bad_10 : decode cX7_bad 10 = .ok (.getfield 64, 3) := by decide +kernel
theorem dX7_bad_13 : decode cX7_bad 13 = .ok (.goto 7, 3) := by decide +kernel
theorem dX7_bad_20 : decode cX7_bad 20 = .ok (.putfield 71, 3) := by decide +kernel
theorem dX7_bad_23 : decode cX7_bad 23 = .ok (.return_, 1) := by decide +kernel
theorem dX7_usual_0 : decode cX7_usual 0 = .ok (.iload_n 0, 1) := by decide +kernel
theorem dX7_usual_1 : decode cX7_usual 1 = .ok (.ifCond .ne 13, 3) := by decide +kernel
theorem dX7_usual_4 : decode cX7_usual 4 = .ok (.iload_n 1, 1) := by decide +kernel
theorem dX7_usual_5 : decode cX7_usual 5 = .ok (.ifCond .ne 7, 3) := by decide +kernel
theorem dX7_usual_8 : decode cX7_usual 8 = .ok (.iconst 1, 1) := by decide +kernel
theorem dX7_usual_9 : decode cX7_usual 9 = .ok (.goto 4, 3) := by decide +kernel
theorem dX7_usual_12 : decode cX7_usual 12 = .ok (.iconst 0, 1) := by decide +kernel
theorem dX7_usual_13 : decode cX7_usual 13 = .ok (.ireturn, 1) := by decide +kernel
theorem dX7_usual_14 : decode cX7_usual 14 = .ok (.iload_n 0, 1) := by decide +kernel
theorem dX7_usual_15 : decode cX7_usual 15 = .ok (.iconst 1, 1) := by decide +kernel
theorem dX7_usual_16 : decode cX7_usual 16 = .ok (.if_icmp .ne 15, 3) := by decide +kernel
theorem dX7_usual_19 : decode cX7_usual 19 = .ok (.iload_n 1, 1) := by decide +kernel
theorem dX7_usual_20 : decode cX7_usual 20 = .ok (.iconst 1, 1) := by decide +kernel
theorem dX7_usual_21 : decode cX7_usual 21 = .ok (.if_icmp .ne 8, 3) := by decide +kernel
theorem dX7_usual_24 : decode cX7_usual 24 = .ok (.bipush 12, 2) := by decide +kernel
theorem dX7_usual_26 : decode cX7_usual 26 = .ok (.goto 4, 3) := by decide +kernel
theorem dX7_usual_29 : decode cX7_usual 29 = .ok (.iconst 1, 1) := by decide +kernel
theorem dX7_usual_30 : decode cX7_usual 30 = .ok (.ireturn, 1) := by decide +kernel
theorem dX7_usual_31 : decode cX7_usual 31 = .ok (.iload_n 1, 1) := by decide +kernel
theorem dX7_usual_32 : decode cX7_usual 32 = .ok (.iconst 1, 1) := by decide +kernel
theorem dX7_usual_33 : decode cX7_usual 33 = .ok (.if_icmp .ne 7, 3) := by decide +kernel
theorem dX7_usual_36 : decode cX7_usual 36 = .ok (.iconst 0, 1) := by decide +kernel
theorem dX7_usual_37 : decode cX7_usual 37 = .ok (.goto 4, 3) := by decide +kernel
theorem dX7_usual_40 : decode cX7_usual 40 = .ok (.iconst 1, 1) := by decide +kernel
theorem dX7_usual_41 : decode cX7_usual 41 = .ok (.ireturn, 1) := by decide +kernel
set_option maxRecDepth 20000 in
theorem ggX7_laysUsual_X7_usual : GoodIn wsX7_laysUsual wsX7_usual := goodIn_r _ [4] (by decide +kernel) (by decide +kernel)
set_option maxRecDepth 20000 in
theorem gX7_laysUsual_X7_usual : GoodIn wsX7_laysUsual (va_wsS RX7 84 yX7_usual wsX7_usual) := goodIn_app (goodIn_of _ (by decide +kernel)) ggX7_laysUsual_X7_usual
theorem dX7_laysUsual_0 : decode cX7_laysUsual 0 = .ok (.iconst 0, 1) := by decide +kernel
theorem dX7_laysUsual_1 : decode cX7_laysUsual 1 = .ok (.istore 4, 2) := by decide +kernel
theorem dX7_laysUsual_3 : decode cX7_laysUsual 3 = .ok (.iload 4, 2) := by decide +kernel
theorem dX7_laysUsual_5 : decode cX7_laysUsual 5 = .ok (.iconst 3, 1) := by decide +kernel
theorem dX7_laysUsual_6 : decode cX7_laysUsual 6 = .ok (.if_icmp .ge 21, 3) := by decide +kernel
theorem dX7_laysUsual_9 : decode cX7_laysUsual 9 = .ok (.aload_n 2, 1) := by decide +kernel
theorem dX7_laysUsual_10 : decode cX7_laysUsual 10 = .ok (.iload_n 3, 1) := by decide +kernel
theorem dX7_laysUsual_11 : decode cX7_laysUsual 11 = .ok (.iload 4, 2) := by decide +kernel
theorem dX7_laysUsual_13 : decode cX7_laysUsual 13 = .ok (.iadd, 1) := by decide +kernel
theorem dX7_laysUsual_14 : decode cX7_laysUsual 14 = .ok (.iload_n 1, 1) := by decide +kernel
theorem dX7_laysUsual_15 : decode cX7_laysUsual 15 = .ok (.iload 4, 2) := by decide +kernel
theorem dX7_laysUsual_17 : decode cX7_laysUsual 17 = .ok (.invokestatic 84, 3) := by decide +kernel
theorem dX7_laysUsual_20 : decode cX7_laysUsual 20 = .ok (.iastore, 1) := by decide +kernel
theorem dX7_laysUsual_21 : decode cX7_laysUsual 21 = .ok (.iinc 4 1, 3) := by decide +kernel
theorem dX7_laysUsual_24 : decode cX7_laysUsual 24 = .ok (.goto (-21), 3) := by decide +kernel
theorem dX7_laysUsual_27 : decode cX7_laysUsual 27 = .ok (.return_, 1) := by decide +kernel
set_option maxRecDepth 20000 in
theorem ggX7_clause_X7_ahead : GoodIn wsX7_clause wsX7_ahead := goodIn_r _ [11, 1, 12, 13, 14, 10, 15, 16, 17, 56, 57, 58, 59, 60, 61, 62, 63, 64, 65, 66, 67, 68, 69, 70, 71, 72, 73, 74, 75, 76] (by decide +kernel) (by decide +kernel)
set_option maxRecDepth 20000 in
theorem gX7_clause_X7_ahead : GoodIn wsX7_clause (wsV RX7 74 RX7 yX7_ahead wsX7_ahead) := goodIn_app (goodIn_of _ (by decide +kernel)) ggX7_clause_X7_ahead
set_option maxRecDepth 20000 in
theorem ggX7_clause_X7_bad : GoodIn wsX7_clause wsX7_bad := goodIn_r _ [52, 22, 1, 56, 57, 58, 59, 60, 61, 62, 63, 64, 65, 66, 67, 68, 69, 70, 71, 72, 73, 74, 75, 76] (by decide +kernel) (by decide +kernel)
set_option maxRecDepth 20000 in
theorem gX7_clause_X7_bad : GoodIn wsX7_clause (wsV RX7 81 RX7 yX7_bad wsX7_bad) := goodIn_app (goodIn_of _ (by decide +kernel)) ggX7_clause_X7_bad
theorem dX7_clause_0 : decode cX7_clause 0 = .ok (.aload_n 0, 1) := by decide +kernel
theorem dX7_clause_1 : decode cX7_clause 1 = .ok (.invokevirtual 74, 3) := by decide +kernel
theorem dX7_clause_4 : decode cX7_clause 4 = .ok (.istore_n 2, 1) := by decide +kernel
theorem dX7_clause_5 : decode cX7_clause 5 = .ok (.iload_n 2, 1) := by decide +kernel
theorem dX7_clause_6 : decode cX7_clause 6 = .ok (.bipush 110, 2) := by decide +kernel
theorem dX7_clause_8 : decode cX7_clause 8 = .ok (.if_icmp .ne 30, 3) := by decide +kernel
theorem dX7_clause_38 : decode cX7_clause 38 = .ok (.iload_n 2, 1) := by decide +kernel
theorem dX7_clause_39 : decode cX7_clause 39 = .ok (.bipush 104, 2) := by decide +kernel
theorem dX7_clause_41 : decode cX7_clause 41 = .ok (.if_icmp .ne 49, 3) := by decide +kernel
theorem dX7_clause_90 : decode cX7_clause 90 = .ok (.iload_n 2, 1) := by decide +kernel
theorem dX7_clause_91 : decode cX7_clause 91 = .ok (.bipush 99, 2) := by decide +kernel
theorem dX7_clause_93 : decode cX7_clause 93 = .ok (.if_icmp .ne 49, 3) := by decide +kernel
theorem dX7_clause_142 : decode cX7_clause 142 = .ok (.aload_n 0, 1) := by decide +kernel
theorem dX7_clause_143 : decode cX7_clause 143 = .ok (.invokevirtual 81, 3) := by decide +kernel
theorem dX7_clause_146 : decode cX7_clause 146 = .ok (.return_, 1) := by decide +kernel
set_option maxRecDepth 20000 in
theorem ggX7_readNet_X7_laysUsual : GoodIn wsX7_readNet wsX7_laysUsual := goodIn_r _ [10, 11, 12, 9, 13] (by decide +kernel) (by decide +kernel)
set_option maxRecDepth 20000 in
theorem gX7_readNet_X7_laysUsual : GoodIn wsX7_readNet (wsV RX7 88 RX7 yX7_laysUsual wsX7_laysUsual) := goodIn_app (goodIn_of _ (by decide +kernel)) ggX7_readNet_X7_laysUsual
set_option maxRecDepth 20000 in
theorem ggX7_readNet_X7_clause : GoodIn wsX7_readNet wsX7_clause := goodIn_r _ [17, 1, 5, 3, 18, 4, 19, 20, 21, 22, 9, 23, 24, 25, 26, 27, 28, 29, 30, 31, 32, 33, 2, 6, 7, 8, 10, 11, 12, 13, 34, 35, 36, 37, 38, 39, 40, 41, 42, 43, 44, 45, 46, 47, 48, 49, 50, 51, 52, 53, 54, 55, 56, 57, 58, 59, 60, 61, 62, 63, 64, 65, 66, 67, 68, 69, 70, 71, 72, 73, 74, 75, 76, 77, 78, 79, 80] (by decide +kernel) (by decide +kernel)
set_option maxRecDepth 20000 in
theorem gX7_readNet_X7_clause : GoodIn wsX7_readNet (wsV RX7 117 RX7 yX7_clause wsX7_clause) := goodIn_app (goodIn_of _ (by decide +kernel)) ggX7_readNet_X7_clause
theorem dX7_readNet_0 : decode cX7_readNet 0 = .ok (.aload_n 0, 1) := by decide +kernel
theorem dX7_readNet_1 : decode cX7_readNet 1 = .ok (.iconst 0, 1) := by decide +kernel
theorem dX7_readNet_2 : decode cX7_readNet 2 = .ok (.putfield 64, 3) := by decide +kernel
theorem dX7_readNet_5 : decode cX7_readNet 5 = .ok (.aload_n 0, 1) := by decide +kernel
theorem dX7_readNet_6 : decode cX7_readNet 6 = .ok (.iconst (-1), 1) := by decide +kernel
theorem dX7_readNet_7 : decode cX7_readNet 7 = .ok (.putfield 71, 3) := by decide +kernel
theorem dX7_readNet_10 : decode cX7_readNet 10 = .ok (.aload_n 0, 1) := by decide +kernel
theorem dX7_readNet_11 : decode cX7_readNet 11 = .ok (.iconst 0, 1) := by decide +kernel
theorem dX7_readNet_12 : decode cX7_readNet 12 = .ok (.putfield 111, 3) := by decide +kernel
theorem dX7_readNet_15 : decode cX7_readNet 15 = .ok (.aload_n 0, 1) := by decide +kernel
theorem dX7_readNet_16 : decode cX7_readNet 16 = .ok (.iconst 0, 1) := by decide +kernel
theorem dX7_readNet_17 : decode cX7_readNet 17 = .ok (.putfield 114, 3) := by decide +kernel
theorem dX7_readNet_20 : decode cX7_readNet 20 = .ok (.aload_n 0, 1) := by decide +kernel
theorem dX7_readNet_21 : decode cX7_readNet 21 = .ok (.iconst 0, 1) := by decide +kernel
theorem dX7_readNet_22 : decode cX7_readNet 22 = .ok (.aload_n 0, 1) := by decide +kernel
theorem dX7_readNet_23 : decode cX7_readNet 23 = .ok (.getfield 13, 3) := by decide +kernel
theorem dX7_readNet_26 : decode cX7_readNet 26 = .ok (.iconst 0, 1) := by decide +kernel
theorem dX7_readNet_27 : decode cX7_readNet 27 = .ok (.invokevirtual 88, 3) := by decide +kernel
theorem dX7_readNet_30 : decode cX7_readNet 30 = .ok (.iconst 1, 1) := by decide +kernel
theorem dX7_readNet_31 : decode cX7_readNet 31 = .ok (.istore_n 1, 1) := by decide +kernel
theorem dX7_readNet_32 : decode cX7_readNet 32 = .ok (.iconst 1, 1) := by decide +kernel
theorem dX7_readNet_33 : decode cX7_readNet 33 = .ok (.istore_n 2, 1) := by decide +kernel
theorem dX7_readNet_34 : decode cX7_readNet 34 = .ok (.iload_n 2, 1) := by decide +kernel
theorem dX7_readNet_35 : decode cX7_readNet 35 = .ok (.ifCond .eq 54, 3) := by decide +kernel
theorem dX7_readNet_38 : decode cX7_readNet 38 = .ok (.aload_n 0, 1) := by decide +kernel
theorem dX7_readNet_39 : decode cX7_readNet 39 = .ok (.iload_n 1, 1) := by decide +kernel
theorem dX7_readNet_40 : decode cX7_readNet 40 = .ok (.invokevirtual 117, 3) := by decide +kernel
theorem dX7_readNet_43 : decode cX7_readNet 43 = .ok (.iconst 0, 1) := by decide +kernel
theorem dX7_readNet_44 : decode cX7_readNet 44 = .ok (.istore_n 1, 1) := by decide +kernel
theorem dX7_readNet_45 : decode cX7_readNet 45 = .ok (.aload_n 0, 1) := by decide +kernel
theorem dX7_readNet_46 : decode cX7_readNet 46 = .ok (.getfield 71, 3) := by decide +kernel
theorem dX7_readNet_49 : decode cX7_readNet 49 = .ok (.iconst (-1), 1) := by decide +kernel
theorem dX7_readNet_50 : decode cX7_readNet 50 = .ok (.if_icmp .ne 16, 3) := by decide +kernel
theorem dX7_readNet_66 : decode cX7_readNet 66 = .ok (.iconst 0, 1) := by decide +kernel
theorem dX7_readNet_67 : decode cX7_readNet 67 = .ok (.istore_n 2, 1) := by decide +kernel
theorem dX7_readNet_68 : decode cX7_readNet 68 = .ok (.aload_n 0, 1) := by decide +kernel
theorem dX7_readNet_69 : decode cX7_readNet 69 = .ok (.dup, 1) := by decide +kernel
theorem dX7_readNet_70 : decode cX7_readNet 70 = .ok (.getfield 64, 3) := by decide +kernel
theorem dX7_readNet_73 : decode cX7_readNet 73 = .ok (.iload_n 2, 1) := by decide +kernel
theorem dX7_readNet_74 : decode cX7_readNet 74 = .ok (.ifCond .eq 7, 3) := by decide +kernel
theorem dX7_readNet_81 : decode cX7_readNet 81 = .ok (.iconst 0, 1) := by decide +kernel
theorem dX7_readNet_82 : decode cX7_readNet 82 = .ok (.iadd, 1) := by decide +kernel
theorem dX7_readNet_83 : decode cX7_readNet 83 = .ok (.putfield 64, 3) := by decide +kernel
theorem dX7_readNet_86 : decode cX7_readNet 86 = .ok (.goto (-52), 3) := by decide +kernel
theorem dX7_readNet_89 : decode cX7_readNet 89 = .ok (.aload_n 0, 1) := by decide +kernel
theorem dX7_readNet_90 : decode cX7_readNet 90 = .ok (.getfield 71, 3) := by decide +kernel
theorem dX7_readNet_93 : decode cX7_readNet 93 = .ok (.iconst (-1), 1) := by decide +kernel
theorem dX7_readNet_94 : decode cX7_readNet 94 = .ok (.if_icmp .ne 15, 3) := by decide +kernel
theorem dX7_readNet_109 : decode cX7_readNet 109 = .ok (.aload_n 0, 1) := by decide +kernel
theorem dX7_readNet_110 : decode cX7_readNet 110 = .ok (.getfield 71, 3) := by decide +kernel
theorem dX7_readNet_113 : decode cX7_readNet 113 = .ok (.ireturn, 1) := by decide +kernel
set_option maxRecDepth 20000 in
theorem ggX7_fault_X7_readNet : GoodIn wsX7_fault wsX7_readNet := goodIn_r _ [6, 7, 8, 9, 10, 11, 12, 13, 14, 5, 15, 16, 17, 18, 19, 20, 21, 22, 23, 24, 25, 26, 27, 28, 29, 30, 31, 32, 33, 34, 35, 36, 37, 38, 39, 40, 41, 42, 43, 44, 45, 46, 47, 48, 49, 50, 51, 52, 53, 54, 55, 56, 57, 58, 59, 60, 61, 62, 63, 64, 65, 66, 67, 68, 69, 70, 71, 72, 73, 74, 75, 76, 77, 78, 79, 80, 81, 82, 83, 84, 85] (by decide +kernel) (by decide +kernel)
set_option maxRecDepth 20000 in
theorem gX7_fault_X7_readNet : GoodIn wsX7_fault (wsV RX7 121 RX7 yX7_readNet wsX7_readNet) := goodIn_app (goodIn_of _ (by decide +kernel)) ggX7_fault_X7_readNet
theorem dX7_fault_0 : decode cX7_fault 0 = .ok (.aload_n 0, 1) := by decide +kernel
theorem dX7_fault_1 : decode cX7_fault 1 = .ok (.iconst 0, 1) := by decide +kernel
theorem dX7_fault_2 : decode cX7_fault 2 = .ok (.putfield 49, 3) := by decide +kernel
theorem dX7_fault_5 : decode cX7_fault 5 = .ok (.aload_n 0, 1) := by decide +kernel
theorem dX7_fault_6 : decode cX7_fault 6 = .ok (.invokevirtual 121, 3) := by decide +kernel
theorem dX7_fault_9 : decode cX7_fault 9 = .ok (.ireturn, 1) := by decide +kernel
theorem dX7_isNet_0 : decode cX7_isNet 0 = .ok (.aload_n 0, 1) := by decide +kernel
theorem dX7_isNet_1 : decode cX7_isNet 1 = .ok (.getfield 124, 3) := by decide +kernel
theorem dX7_isNet_4 : decode cX7_isNet 4 = .ok (.ifCond .le 7, 3) := by decide +kernel
theorem dX7_isNet_11 : decode cX7_isNet 11 = .ok (.iconst 0, 1) := by decide +kernel
theorem dX7_isNet_12 : decode cX7_isNet 12 = .ok (.ireturn, 1) := by decide +kernel
set_option maxRecDepth 20000 in
theorem ggX7_isHop_X7_in : GoodIn wsX7_isHop wsX7_in := goodIn_r _ [5] (by decide +kernel) (by decide +kernel)
set_option maxRecDepth 20000 in
theorem gX7_isHop_X7_in : GoodIn wsX7_isHop (va_wsS RX7 60 yX7_in wsX7_in) := goodIn_app (goodIn_of _ (by decide +kernel)) ggX7_isHop_X7_in
theorem dX7_isHop_0 : decode cX7_isHop 0 = .ok (.iload_n 1, 1) := by decide +kernel
theorem dX7_isHop_1 : decode cX7_isHop 1 = .ok (.iconst 0, 1) := by decide +kernel
theorem dX7_isHop_2 : decode cX7_isHop 2 = .ok (.aload_n 0, 1) := by decide +kernel
theorem dX7_isHop_3 : decode cX7_isHop 3 = .ok (.getfield 124, 3) := by decide +kernel
theorem dX7_isHop_6 : decode cX7_isHop 6 = .ok (.iconst 1, 1) := by decide +kernel
theorem dX7_isHop_7 : decode cX7_isHop 7 = .ok (.isub, 1) := by decide +kernel
theorem dX7_isHop_8 : decode cX7_isHop 8 = .ok (.invokestatic 60, 3) := by decide +kernel
theorem dX7_isHop_11 : decode cX7_isHop 11 = .ok (.ireturn, 1) := by decide +kernel
set_option maxRecDepth 20000 in
theorem ggX7_isCircuit_X7_in : GoodIn wsX7_isCircuit wsX7_in := goodIn_r _ [5] (by decide +kernel) (by decide +kernel)
set_option maxRecDepth 20000 in
theorem gX7_isCircuit_X7_in : GoodIn wsX7_isCircuit (va_wsS RX7 60 yX7_in wsX7_in) := goodIn_app (goodIn_of _ (by decide +kernel)) ggX7_isCircuit_X7_in
theorem dX7_isCircuit_0 : decode cX7_isCircuit 0 = .ok (.iload_n 1, 1) := by decide +kernel
theorem dX7_isCircuit_1 : decode cX7_isCircuit 1 = .ok (.iconst 0, 1) := by decide +kernel
theorem dX7_isCircuit_2 : decode cX7_isCircuit 2 = .ok (.aload_n 0, 1) := by decide +kernel
theorem dX7_isCircuit_3 : decode cX7_isCircuit 3 = .ok (.getfield 127, 3) := by decide +kernel
theorem dX7_isCircuit_6 : decode cX7_isCircuit 6 = .ok (.iconst 1, 1) := by decide +kernel
theorem dX7_isCircuit_7 : decode cX7_isCircuit 7 = .ok (.isub, 1) := by decide +kernel
theorem dX7_isCircuit_8 : decode cX7_isCircuit 8 = .ok (.invokestatic 60, 3) := by decide +kernel
theorem dX7_isCircuit_11 : decode cX7_isCircuit 11 = .ok (.ireturn, 1) := by decide +kernel
set_option maxRecDepth 20000 in
theorem ggX7_isLane_X7_isHop : GoodIn wsX7_isLane wsX7_isHop := goodIn_r _ [5, 6, 7, 8, 4, 9, 15, 16, 17, 18, 19, 20, 21, 22, 23, 24, 25, 26, 27, 28, 29, 30, 31, 32, 33, 34, 35] (by decide +kernel) (by decide +kernel)
set_option maxRecDepth 20000 in
theorem gX7_isLane_X7_isHop : GoodIn wsX7_isLane (wsV RX7 130 RX7 yX7_isHop wsX7_isHop) := goodIn_app (goodIn_of _ (by decide +kernel)) ggX7_isLane_X7_isHop
theorem dX7_isLane_0 : decode cX7_isLane 0 = .ok (.aload_n 0, 1) := by decide +kernel
theorem dX7_isLane_1 : decode cX7_isLane 1 = .ok (.iload_n 1, 1) := by decide +kernel
theorem dX7_isLane_2 : decode cX7_isLane 2 = .ok (.invokevirtual 130, 3) := by decide +kernel
theorem dX7_isLane_5 : decode cX7_isLane 5 = .ok (.ifCond .eq 15, 3) := by decide +kernel
theorem dX7_isLane_20 : decode cX7_isLane 20 = .ok (.iconst 0, 1) := by decide +kernel
theorem dX7_isLane_21 : decode cX7_isLane 21 = .ok (.ireturn, 1) := by decide +kernel
set_option maxRecDepth 20000 in
theorem ggX7_isNode_X7_isNet : GoodIn wsX7_isNode wsX7_isNet := goodIn_r _ [6, 1, 10, 11, 12, 13, 14, 15, 16, 17, 18, 19, 20, 21, 22, 23, 24, 25, 26, 27, 28, 29, 30] (by decide +kernel) (by decide +kernel)
set_option maxRecDepth 20000 in
theorem gX7_isNode_X7_isNet : GoodIn wsX7_isNode (wsV RX7 136 RX7 yX7_isNet wsX7_isNet) := goodIn_app (goodIn_of _ (by decide +kernel)) ggX7_isNode_X7_isNet
theorem dX7_isNode_0 : decode cX7_isNode 0 = .ok (.aload_n 0, 1) := by decide +kernel
theorem dX7_isNode_1 : decode cX7_isNode 1 = .ok (.invokevirtual 136, 3) := by decide +kernel
theorem dX7_isNode_4 : decode cX7_isNode 4 = .ok (.ifCond .eq 19, 3) := by decide +kernel
theorem dX7_isNode_23 : decode cX7_isNode 23 = .ok (.iconst 0, 1) := by decide +kernel
theorem dX7_isNode_24 : decode cX7_isNode 24 = .ok (.ireturn, 1) := by decide +kernel
set_option maxRecDepth 20000 in
theorem ggX7_net_X7_readNet : GoodIn wsX7_net wsX7_readNet := goodIn_r _ [16, 17, 18, 3, 5, 11, 19, 20, 21, 15, 22, 23, 24, 25, 26, 27, 28, 29, 4, 6, 30, 31, 32, 33, 34, 35, 36, 37, 2, 38, 39, 40, 41, 42, 43, 44, 45, 46, 47, 48, 49, 50, 51, 52, 53, 54, 55, 56, 57, 58, 59, 60, 61, 62, 63, 64, 65, 66, 67, 68, 95, 96, 97, 98, 99, 100, 101, 102, 103, 104, 105, 106, 107, 108, 109, 110, 111, 112, 113, 114, 115] (by decide +kernel) (by decide +kernel)
set_option maxRecDepth 20000 in
theorem gX7_net_X7_readNet : GoodIn wsX7_net (wsV RX7 121 RX7 yX7_readNet wsX7_readNet) := goodIn_app (goodIn_of _ (by decide +kernel)) ggX7_net_X7_readNet
theorem dX7_net_0 : decode cX7_net 0 = .ok (.aload_n 0, 1) := by decide +kernel
theorem dX7_net_1 : decode cX7_net 1 = .ok (.iconst 0, 1) := by decide +kernel
theorem dX7_net_2 : decode cX7_net 2 = .ok (.putfield 49, 3) := by decide +kernel
theorem dX7_net_5 : decode cX7_net 5 = .ok (.aload_n 0, 1) := by decide +kernel
theorem dX7_net_6 : decode cX7_net 6 = .ok (.invokevirtual 121, 3) := by decide +kernel
theorem dX7_net_9 : decode cX7_net 9 = .ok (.iconst (-1), 1) := by decide +kernel
theorem dX7_net_10 : decode cX7_net 10 = .ok (.if_icmp .eq 5, 3) := by decide +kernel
theorem dX7_net_13 : decode cX7_net 13 = .ok (.iconst (-1), 1) := by decide +kernel
theorem dX7_net_14 : decode cX7_net 14 = .ok (.ireturn, 1) := by decide +kernel
theorem dX7_refuses_0 : decode cX7_refuses 0 = .ok (.aload_n 0, 1) := by decide +kernel
theorem dX7_refuses_1 : decode cX7_refuses 1 = .ok (.getfield 25, 3) := by decide +kernel
theorem dX7_refuses_4 : decode cX7_refuses 4 = .ok (.iload_n 1, 1) := by decide +kernel
theorem dX7_refuses_5 : decode cX7_refuses 5 = .ok (.dup2, 1) := by decide +kernel
theorem dX7_refuses_6 : decode cX7_refuses 6 = .ok (.iaload, 1) := by decide +kernel
theorem dX7_refuses_7 : decode cX7_refuses 7 = .ok (.iconst 1, 1) := by decide +kernel
theorem dX7_refuses_8 : decode cX7_refuses 8 = .ok (.iadd, 1) := by decide +kernel
theorem dX7_refuses_9 : decode cX7_refuses 9 = .ok (.iastore, 1) := by decide +kernel
theorem dX7_refuses_10 : decode cX7_refuses 10 = .ok (.iconst (-1), 1) := by decide +kernel
theorem dX7_refuses_11 : decode cX7_refuses 11 = .ok (.ireturn, 1) := by decide +kernel
set_option maxRecDepth 20000 in
theorem ggX7_go_X7_isNet : GoodIn wsX7_go wsX7_isNet := goodIn_r _ [7, 8, 122, 123, 124, 125, 126, 127, 128, 129, 130, 131, 132, 133, 134, 135, 136, 137, 138, 139, 140, 141, 142] (by decide +kernel) (by decide +kernel)
set_option maxRecDepth 20000 in
theorem gX7_go_X7_isNet : GoodIn wsX7_go (wsV RX7 136 RX7 yX7_isNet wsX7_isNet) := goodIn_app (goodIn_of _ (by decide +kernel)) ggX7_go_X7_isNet
set_option maxRecDepth 20000 in
theorem ggX7_go_X7_refuses : GoodIn wsX7_go wsX7_refuses := goodIn_r _ [12, 13, 122, 123, 124, 125, 126, 127, 128, 129, 130, 131, 132, 133, 134, 135, 136, 137, 138, 139, 140, 141, 142] (by decide +kernel) (by decide +kernel)
set_option maxRecDepth 20000 in
theorem gX7_go_X7_refuses : GoodIn wsX7_go (wsV RX7 223 RX7 yX7_refuses wsX7_refuses) := goodIn_app (goodIn_of _ (by decide +kernel)) ggX7_go_X7_refuses
theorem dX7_go_0 : decode cX7_go 0 = .ok (.aload_n 0, 1) := by decide +kernel
theorem dX7_go_1 : decode cX7_go 1 = .ok (.iconst 0, 1) := by decide +kernel
theorem dX7_go_2 : decode cX7_go 2 = .ok (.putfield 49, 3) := by decide +kernel
theorem dX7_go_5 : decode cX7_go 5 = .ok (.aload_n 0, 1) := by decide +kernel
theorem dX7_go_6 : decode cX7_go 6 = .ok (.invokevirtual 136, 3) := by decide +kernel
theorem dX7_go_9 : decode cX7_go 9 = .ok (.ifCond .ne 9, 3) := by decide +kernel
theorem dX7_go_12 : decode cX7_go 12 = .ok (.aload_n 0, 1) := by decide +kernel
theorem dX7_go_13 : decode cX7_go 13 = .ok (.iconst 0, 1) := by decide +kernel
theorem dX7_go_14 : decode cX7_go 14 = .ok (.invokevirtual 223, 3) := by decide +kernel
theorem dX7_go_17 : decode cX7_go 17 = .ok (.ireturn, 1) := by decide +kernel
set_option maxRecDepth 20000 in
theorem ggX7_jam_X7_isHop : GoodIn wsX7_jam wsX7_isHop := goodIn_r _ [7, 8, 9, 10, 6, 11, 17, 18, 19, 20, 21, 22, 23, 24, 25, 26, 27, 28, 29, 30, 31, 32, 33, 34, 35, 36, 37] (by decide +kernel) (by decide +kernel)
set_option maxRecDepth 20000 in
theorem gX7_jam_X7_isHop : GoodIn wsX7_jam (wsV RX7 130 RX7 yX7_isHop wsX7_isHop) := goodIn_app (goodIn_of _ (by decide +kernel)) ggX7_jam_X7_isHop
set_option maxRecDepth 20000 in
theorem ggX7_jam_X7_refuses : GoodIn wsX7_jam wsX7_refuses := goodIn_r _ [15, 16, 17, 18, 19, 20, 21, 22, 23, 24, 25, 26, 27, 28, 29, 30, 31, 32, 33, 34, 35, 36, 37] (by decide +kernel) (by decide +kernel)
set_option maxRecDepth 20000 in
theorem gX7_jam_X7_refuses : GoodIn wsX7_jam (wsV RX7 223 RX7 yX7_refuses wsX7_refuses) := goodIn_app (goodIn_of _ (by decide +kernel)) ggX7_jam_X7_refuses
theorem dX7_jam_0 : decode cX7_jam 0 = .ok (.aload_n 0, 1) := by decide +kernel
theorem dX7_jam_1 : decode cX7_jam 1 = .ok (.iconst 0, 1) := by decide +kernel
theorem dX7_jam_2 : decode cX7_jam 2 = .ok (.putfield 49, 3) := by decide +kernel
theorem dX7_jam_5 : decode cX7_jam 5 = .ok (.aload_n 0, 1) := by decide +kernel
theorem dX7_jam_6 : decode cX7_jam 6 = .ok (.iload_n 1, 1) := by decide +kernel
theorem dX7_jam_7 : decode cX7_jam 7 = .ok (.invokevirtual 130, 3) := by decide +kernel
theorem dX7_jam_10 : decode cX7_jam 10 = .ok (.ifCond .ne 9, 3) := by decide +kernel
theorem dX7_jam_13 : decode cX7_jam 13 = .ok (.aload_n 0, 1) := by decide +kernel
theorem dX7_jam_14 : decode cX7_jam 14 = .ok (.iconst 0, 1) := by decide +kernel
theorem dX7_jam_15 : decode cX7_jam 15 = .ok (.invokevirtual 223, 3) := by decide +kernel
theorem dX7_jam_18 : decode cX7_jam 18 = .ok (.ireturn, 1) := by decide +kernel
set_option maxRecDepth 20000 in
theorem ggX7_source_X7_isCircuit : GoodIn wsX7_source wsX7_isCircuit := goodIn_r _ [7, 8, 9, 10, 6, 11, 20, 21, 22, 23, 24, 25, 26, 27, 28, 29, 30, 31, 32, 33, 34, 35, 36, 37, 38, 39, 40] (by decide +kernel) (by decide +kernel)
