theorem dX6_zoneRefusal_57 : decode cX6_zoneRefusal 57 = .ok (.iconst 2, 1) := by decide +kernel
theorem dX6_zoneRefusal_58 : decode cX6_zoneRefusal 58 = .ok (.ireturn, 1) := by decide +kernel
theorem dX6_zoneRefusal_59 : decode cX6_zoneRefusal 59 = .ok (.iload_n 3, 1) := by decide +kernel
theorem dX6_zoneRefusal_60 : decode cX6_zoneRefusal 60 = .ok (.aload_n 0, 1) := by decide +kernel
theorem dX6_zoneRefusal_61 : decode cX6_zoneRefusal 61 = .ok (.iload_n 1, 1) := by decide +kernel
theorem dX6_zoneRefusal_62 : decode cX6_zoneRefusal 62 = .ok (.iload_n 2, 1) := by decide +kernel
theorem dX6_zoneRefusal_63 : decode cX6_zoneRefusal 63 = .ok (.invokevirtual 252, 3) := by decide +kernel
theorem dX6_zoneRefusal_66 : decode cX6_zoneRefusal 66 = .ok (.if_icmp .le 7, 3) := by decide +kernel
theorem dX6_zoneRefusal_69 : decode cX6_zoneRefusal 69 = .ok (.iconst 3, 1) := by decide +kernel
theorem dX6_zoneRefusal_70 : decode cX6_zoneRefusal 70 = .ok (.goto 4, 3) := by decide +kernel
theorem dX6_zoneRefusal_73 : decode cX6_zoneRefusal 73 = .ok (.iconst (-1), 1) := by decide +kernel
theorem dX6_zoneRefusal_74 : decode cX6_zoneRefusal 74 = .ok (.ireturn, 1) := by decide +kernel
set_option maxRecDepth 20000 in
theorem ggX6_largestZone_X2_roomFor : GoodIn wsX6_largestZone wsX2_roomFor := goodIn_r _ [14, 15, 16, 17, 18, 7, 8, 9, 19, 20, 21, 22, 23, 24, 25, 46, 47, 48, 49, 50, 51, 52, 53, 54, 55, 56, 57, 58, 59, 60, 61, 62] (by decide +kernel) (by decide +kernel)
set_option maxRecDepth 20000 in
theorem gX6_largestZone_X2_roomFor : GoodIn wsX6_largestZone (wsV RX6 255 RX2 yX2_roomFor wsX2_roomFor) := goodIn_app (goodIn_of _ (by decide +kernel)) ggX6_largestZone_X2_roomFor
theorem dX6_largestZone_0 : decode cX6_largestZone 0 = .ok (.aload_n 0, 1) := by decide +kernel
theorem dX6_largestZone_1 : decode cX6_largestZone 1 = .ok (.getfield 26, 3) := by decide +kernel
theorem dX6_largestZone_4 : decode cX6_largestZone 4 = .ok (.getfield 104, 3) := by decide +kernel
theorem dX6_largestZone_7 : decode cX6_largestZone 7 = .ok (.iload_n 1, 1) := by decide +kernel
theorem dX6_largestZone_8 : decode cX6_largestZone 8 = .ok (.aaload, 1) := by decide +kernel
theorem dX6_largestZone_9 : decode cX6_largestZone 9 = .ok (.astore_n 3, 1) := by decide +kernel
theorem dX6_largestZone_10 : decode cX6_largestZone 10 = .ok (.aload_n 3, 1) := by decide +kernel
theorem dX6_largestZone_11 : decode cX6_largestZone 11 = .ok (.getfield 175, 3) := by decide +kernel
theorem dX6_largestZone_14 : decode cX6_largestZone 14 = .ok (.iload_n 2, 1) := by decide +kernel
theorem dX6_largestZone_15 : decode cX6_largestZone 15 = .ok (.aaload, 1) := by decide +kernel
theorem dX6_largestZone_16 : decode cX6_largestZone 16 = .ok (.getfield 190, 3) := by decide +kernel
theorem dX6_largestZone_19 : decode cX6_largestZone 19 = .ok (.aload_n 3, 1) := by decide +kernel
theorem dX6_largestZone_20 : decode cX6_largestZone 20 = .ok (.iload_n 2, 1) := by decide +kernel
theorem dX6_largestZone_21 : decode cX6_largestZone 21 = .ok (.aload_n 0, 1) := by decide +kernel
theorem dX6_largestZone_22 : decode cX6_largestZone 22 = .ok (.getfield 26, 3) := by decide +kernel
theorem dX6_largestZone_25 : decode cX6_largestZone 25 = .ok (.getfield 74, 3) := by decide +kernel
theorem dX6_largestZone_28 : decode cX6_largestZone 28 = .ok (.invokevirtual 255, 3) := by decide +kernel
theorem dX6_largestZone_31 : decode cX6_largestZone 31 = .ok (.invokestatic 258, 3) := by decide +kernel
theorem dX6_largestZone_34 : decode cX6_largestZone 34 = .ok (.ireturn, 1) := by decide +kernel
set_option maxRecDepth 20000 in
theorem ggX6_probe_X6_isLane : GoodIn wsX6_probe wsX6_isLane := goodIn_r _ [8, 9, 10, 11, 7, 12, 13, 1, 14, 15, 16, 17, 18, 19, 43, 44, 45, 46, 47, 48, 49, 50, 51, 52, 53, 54, 55, 56, 57, 58, 59, 60, 61, 62] (by decide +kernel) (by decide +kernel)
set_option maxRecDepth 20000 in
theorem gX6_probe_X6_isLane : GoodIn wsX6_probe (wsV RX6 167 RX6 yX6_isLane wsX6_isLane) := goodIn_app (goodIn_of _ (by decide +kernel)) ggX6_probe_X6_isLane
set_option maxRecDepth 20000 in
theorem ggX6_probe_X6_refuse : GoodIn wsX6_probe wsX6_refuse := goodIn_r _ [23, 24, 43, 44, 45, 46, 47, 48, 49, 50, 51] (by decide +kernel) (by decide +kernel)
set_option maxRecDepth 20000 in
theorem gX6_probe_X6_refuse : GoodIn wsX6_probe (wsV RX6 227 RX6 yX6_refuse wsX6_refuse) := goodIn_app (goodIn_of _ (by decide +kernel)) ggX6_probe_X6_refuse
set_option maxRecDepth 20000 in
theorem ggX6_probe_X3_sendProbe : GoodIn wsX6_probe wsX3_sendProbe := goodIn_r _ [29, 30, 31, 32, 33, 34, 35, 63, 64, 65, 66, 67, 68, 69, 70, 71, 72, 52, 53, 54, 55, 56, 57, 58, 59, 60, 61, 62, 73, 74, 75, 76, 77, 78, 79] (by decide +kernel) (by decide +kernel)
set_option maxRecDepth 20000 in
theorem gX6_probe_X3_sendProbe : GoodIn wsX6_probe (wsV RX6 263 RX3 yX3_sendProbe wsX3_sendProbe) := goodIn_app (goodIn_of _ (by decide +kernel)) ggX6_probe_X3_sendProbe
set_option maxRecDepth 20000 in
theorem ggX6_probe_X1_out : GoodIn wsX6_probe wsX1_out := goodIn_r _ [40, 41, 42, 73, 74, 75, 76, 77, 78, 79] (by decide +kernel) (by decide +kernel)
set_option maxRecDepth 20000 in
theorem gX6_probe_X1_out : GoodIn wsX6_probe (wsV RX6 193 RX1 yX1_out wsX1_out) := goodIn_app (goodIn_of _ (by decide +kernel)) ggX6_probe_X1_out
theorem dX6_probe_0 : decode cX6_probe 0 = .ok (.aload_n 0, 1) := by decide +kernel
theorem dX6_probe_1 : decode cX6_probe 1 = .ok (.iload_n 1, 1) := by decide +kernel
theorem dX6_probe_2 : decode cX6_probe 2 = .ok (.iload_n 2, 1) := by decide +kernel
theorem dX6_probe_3 : decode cX6_probe 3 = .ok (.invokevirtual 167, 3) := by decide +kernel
theorem dX6_probe_6 : decode cX6_probe 6 = .ok (.ifCond .ne 9, 3) := by decide +kernel
theorem dX6_probe_9 : decode cX6_probe 9 = .ok (.aload_n 0, 1) := by decide +kernel
theorem dX6_probe_10 : decode cX6_probe 10 = .ok (.iconst 0, 1) := by decide +kernel
theorem dX6_probe_11 : decode cX6_probe 11 = .ok (.invokevirtual 227, 3) := by decide +kernel
theorem dX6_probe_14 : decode cX6_probe 14 = .ok (.ireturn, 1) := by decide +kernel
theorem dX6_probe_15 : decode cX6_probe 15 = .ok (.aload_n 0, 1) := by decide +kernel
theorem dX6_probe_16 : decode cX6_probe 16 = .ok (.getfield 26, 3) := by decide +kernel
theorem dX6_probe_19 : decode cX6_probe 19 = .ok (.aload_n 0, 1) := by decide +kernel
theorem dX6_probe_20 : decode cX6_probe 20 = .ok (.getfield 26, 3) := by decide +kernel
theorem dX6_probe_23 : decode cX6_probe 23 = .ok (.getfield 104, 3) := by decide +kernel
theorem dX6_probe_26 : decode cX6_probe 26 = .ok (.iload_n 1, 1) := by decide +kernel
theorem dX6_probe_27 : decode cX6_probe 27 = .ok (.aaload, 1) := by decide +kernel
theorem dX6_probe_28 : decode cX6_probe 28 = .ok (.iload_n 2, 1) := by decide +kernel
theorem dX6_probe_29 : decode cX6_probe 29 = .ok (.invokevirtual 263, 3) := by decide +kernel
theorem dX6_probe_32 : decode cX6_probe 32 = .ok (.aload_n 0, 1) := by decide +kernel
theorem dX6_probe_33 : decode cX6_probe 33 = .ok (.getfield 26, 3) := by decide +kernel
theorem dX6_probe_36 : decode cX6_probe 36 = .ok (.getfield 104, 3) := by decide +kernel
theorem dX6_probe_39 : decode cX6_probe 39 = .ok (.iload_n 1, 1) := by decide +kernel
theorem dX6_probe_40 : decode cX6_probe 40 = .ok (.aaload, 1) := by decide +kernel
theorem dX6_probe_41 : decode cX6_probe 41 = .ok (.getfield 175, 3) := by decide +kernel
theorem dX6_probe_44 : decode cX6_probe 44 = .ok (.iload_n 2, 1) := by decide +kernel
theorem dX6_probe_45 : decode cX6_probe 45 = .ok (.aaload, 1) := by decide +kernel
theorem dX6_probe_46 : decode cX6_probe 46 = .ok (.invokevirtual 193, 3) := by decide +kernel
theorem dX6_probe_49 : decode cX6_probe 49 = .ok (.ireturn, 1) := by decide +kernel
set_option maxRecDepth 20000 in
theorem ggX6_status_X6_outside : GoodIn wsX6_status wsX6_outside := goodIn_r _ [5] (by decide +kernel) (by decide +kernel)
set_option maxRecDepth 20000 in
theorem gX6_status_X6_outside : GoodIn wsX6_status (va_wsS RX6 55 yX6_outside wsX6_outside) := goodIn_app (goodIn_of _ (by decide +kernel)) ggX6_status_X6_outside
theorem dX6_status_0 : decode cX6_status 0 = .ok (.iload_n 1, 1) := by decide +kernel
theorem dX6_status_1 : decode cX6_status 1 = .ok (.iconst 0, 1) := by decide +kernel
theorem dX6_status_2 : decode cX6_status 2 = .ok (.iconst 3, 1) := by decide +kernel
theorem dX6_status_3 : decode cX6_status 3 = .ok (.invokestatic 55, 3) := by decide +kernel
theorem dX6_status_6 : decode cX6_status 6 = .ok (.ifCond .eq 7, 3) := by decide +kernel
theorem dX6_status_9 : decode cX6_status 9 = .ok (.iconst (-1), 1) := by decide +kernel
theorem dX6_status_10 : decode cX6_status 10 = .ok (.goto 9, 3) := by decide +kernel
theorem dX6_status_13 : decode cX6_status 13 = .ok (.aload_n 0, 1) := by decide +kernel
theorem dX6_status_14 : decode cX6_status 14 = .ok (.getfield 13, 3) := by decide +kernel
theorem dX6_status_17 : decode cX6_status 17 = .ok (.iload_n 1, 1) := by decide +kernel
theorem dX6_status_18 : decode cX6_status 18 = .ok (.iaload, 1) := by decide +kernel
theorem dX6_status_19 : decode cX6_status 19 = .ok (.ireturn, 1) := by decide +kernel
theorem dX6_refuse_0 : decode cX6_refuse 0 = .ok (.aload_n 0, 1) := by decide +kernel
theorem dX6_refuse_1 : decode cX6_refuse 1 = .ok (.getfield 13, 3) := by decide +kernel
theorem dX6_refuse_4 : decode cX6_refuse 4 = .ok (.iload_n 1, 1) := by decide +kernel
theorem dX6_refuse_5 : decode cX6_refuse 5 = .ok (.dup2, 1) := by decide +kernel
theorem dX6_refuse_6 : decode cX6_refuse 6 = .ok (.iaload, 1) := by decide +kernel
theorem dX6_refuse_7 : decode cX6_refuse 7 = .ok (.iconst 1, 1) := by decide +kernel
theorem dX6_refuse_8 : decode cX6_refuse 8 = .ok (.iadd, 1) := by decide +kernel
theorem dX6_refuse_9 : decode cX6_refuse 9 = .ok (.iastore, 1) := by decide +kernel
theorem dX6_refuse_10 : decode cX6_refuse 10 = .ok (.iconst (-1), 1) := by decide +kernel
theorem dX6_refuse_11 : decode cX6_refuse 11 = .ok (.ireturn, 1) := by decide +kernel
set_option maxRecDepth 20000 in
theorem ggX6_laneAhead_X6_isLane : GoodIn wsX6_laneAhead wsX6_isLane := goodIn_r _ [6, 7, 8, 9, 5, 10, 11, 12, 13, 14, 15, 16, 17, 18, 223, 224, 225, 226, 227, 228, 229, 230, 231, 232, 233, 234, 235, 236, 237, 238, 239, 240, 241, 242] (by decide +kernel) (by decide +kernel)
set_option maxRecDepth 20000 in
theorem gX6_laneAhead_X6_isLane : GoodIn wsX6_laneAhead (wsV RX6 167 RX6 yX6_isLane wsX6_isLane) := goodIn_app (goodIn_of _ (by decide +kernel)) ggX6_laneAhead_X6_isLane
set_option maxRecDepth 20000 in
theorem ggX6_laneAhead_X6_outside : GoodIn wsX6_laneAhead wsX6_outside := goodIn_r _ [21] (by decide +kernel) (by decide +kernel)
set_option maxRecDepth 20000 in
theorem gX6_laneAhead_X6_outside : GoodIn wsX6_laneAhead (va_wsS RX6 55 yX6_outside wsX6_outside) := goodIn_app (goodIn_of _ (by decide +kernel)) ggX6_laneAhead_X6_outside
set_option maxRecDepth 20000 in
theorem ggX6_laneAhead_X6_goApart : GoodIn wsX6_laneAhead wsX6_goApart := goodIn_r _ [25, 1, 12, 26, 27, 28, 29, 30, 31, 32, 33, 34, 35, 36, 37, 38, 39, 40, 41, 42, 43, 44, 45, 46, 47, 48, 49, 50, 51, 52, 53, 54, 55, 56, 57, 58, 59, 60, 61, 62, 63, 64, 65, 66, 67, 68, 69, 70, 71, 72, 73, 74, 75, 76, 77, 78, 79, 80, 81, 82, 83, 84, 85, 86, 87, 88, 89, 90, 91, 92, 93, 94, 95, 96, 97, 98, 99, 100, 101, 102, 103, 104, 105, 106, 107, 5, 108, 109, 110, 111, 112, 113, 114, 115, 116, 117, 118, 119, 120, 121, 122, 123, 124, 125, 126, 127, 128, 129, 130, 131, 132, 133, 134, 135, 136, 137, 138, 139, 140, 141, 142, 143, 144, 145, 146, 147, 148, 149, 150, 151, 152, 153, 154, 155, 156, 157, 158, 159, 160, 161, 162, 163, 164, 165, 166, 167, 168, 169, 170, 171, 172, 173, 174, 175, 176, 177, 178, 179, 180, 181, 182, 183, 184, 185, 186, 187, 188, 189, 190, 191, 192, 193, 194, 195, 196, 197, 198, 199, 223, 224, 225, 226, 227, 228, 229, 230, 231, 232, 233, 234, 235, 236, 237, 238, 239, 240, 241, 242, 243, 244, 245, 246, 247, 248, 249, 250, 251, 252, 253, 254, 255, 256, 257, 258, 259, 260, 261, 262, 263, 264, 265, 266, 267] (by decide +kernel) (by decide +kernel)
set_option maxRecDepth 20000 in
theorem gX6_laneAhead_X6_goApart : GoodIn wsX6_laneAhead (wsV RX6 267 RX6 yX6_goApart wsX6_goApart) := goodIn_app (goodIn_of _ (by decide +kernel)) ggX6_laneAhead_X6_goApart
set_option maxRecDepth 20000 in
theorem ggX6_laneAhead_X6_toldOfLane : GoodIn wsX6_laneAhead wsX6_toldOfLane := goodIn_r _ [202, 203, 204, 205, 206, 207, 208, 209, 210, 211, 212, 161, 162, 65, 163, 67, 69, 213, 214, 215, 216, 70, 217, 186, 183, 187, 218, 219, 220, 221, 49, 222, 57, 232, 233, 234, 235, 236, 237, 238, 239, 240, 241, 242, 243, 244, 245, 246, 247, 248, 249, 250, 251, 252, 253, 254, 255, 256, 257, 258, 259] (by decide +kernel) (by decide +kernel)
set_option maxRecDepth 20000 in
theorem gX6_laneAhead_X6_toldOfLane : GoodIn wsX6_laneAhead (va_wsS RX6 171 yX6_toldOfLane wsX6_toldOfLane) := goodIn_app (goodIn_of _ (by decide +kernel)) ggX6_laneAhead_X6_toldOfLane
theorem dX6_laneAhead_0 : decode cX6_laneAhead 0 = .ok (.aload_n 0, 1) := by decide +kernel
theorem dX6_laneAhead_1 : decode cX6_laneAhead 1 = .ok (.iload_n 1, 1) := by decide +kernel
theorem dX6_laneAhead_2 : decode cX6_laneAhead 2 = .ok (.iload_n 2, 1) := by decide +kernel
theorem dX6_laneAhead_3 : decode cX6_laneAhead 3 = .ok (.invokevirtual 167, 3) := by decide +kernel
theorem dX6_laneAhead_6 : decode cX6_laneAhead 6 = .ok (.ifCond .eq 25, 3) := by decide +kernel
theorem dX6_laneAhead_9 : decode cX6_laneAhead 9 = .ok (.iload_n 3, 1) := by decide +kernel
theorem dX6_laneAhead_10 : decode cX6_laneAhead 10 = .ok (.iconst 0, 1) := by decide +kernel
theorem dX6_laneAhead_11 : decode cX6_laneAhead 11 = .ok (.bipush 9, 2) := by decide +kernel
theorem dX6_laneAhead_13 : decode cX6_laneAhead 13 = .ok (.invokestatic 55, 3) := by decide +kernel
theorem dX6_laneAhead_16 : decode cX6_laneAhead 16 = .ok (.ifCond .ne 15, 3) := by decide +kernel
theorem dX6_laneAhead_19 : decode cX6_laneAhead 19 = .ok (.iload 4, 2) := by decide +kernel
theorem dX6_laneAhead_21 : decode cX6_laneAhead 21 = .ok (.iconst 0, 1) := by decide +kernel
theorem dX6_laneAhead_22 : decode cX6_laneAhead 22 = .ok (.sipush 200, 3) := by decide +kernel
theorem dX6_laneAhead_25 : decode cX6_laneAhead 25 = .ok (.invokestatic 55, 3) := by decide +kernel
theorem dX6_laneAhead_28 : decode cX6_laneAhead 28 = .ok (.ifCond .eq 5, 3) := by decide +kernel
theorem dX6_laneAhead_31 : decode cX6_laneAhead 31 = .ok (.iconst (-1), 1) := by decide +kernel
theorem dX6_laneAhead_32 : decode cX6_laneAhead 32 = .ok (.ireturn, 1) := by decide +kernel
theorem dX6_laneAhead_33 : decode cX6_laneAhead 33 = .ok (.aload_n 0, 1) := by decide +kernel
theorem dX6_laneAhead_34 : decode cX6_laneAhead 34 = .ok (.iload 4, 2) := by decide +kernel
theorem dX6_laneAhead_36 : decode cX6_laneAhead 36 = .ok (.invokevirtual 267, 3) := by decide +kernel
theorem dX6_laneAhead_39 : decode cX6_laneAhead 39 = .ok (.aload_n 0, 1) := by decide +kernel
theorem dX6_laneAhead_40 : decode cX6_laneAhead 40 = .ok (.getfield 30, 3) := by decide +kernel
theorem dX6_laneAhead_43 : decode cX6_laneAhead 43 = .ok (.iload_n 1, 1) := by decide +kernel
theorem dX6_laneAhead_44 : decode cX6_laneAhead 44 = .ok (.iload_n 2, 1) := by decide +kernel
theorem dX6_laneAhead_45 : decode cX6_laneAhead 45 = .ok (.iload_n 3, 1) := by decide +kernel
theorem dX6_laneAhead_46 : decode cX6_laneAhead 46 = .ok (.invokestatic 171, 3) := by decide +kernel
theorem dX6_laneAhead_49 : decode cX6_laneAhead 49 = .ok (.ireturn, 1) := by decide +kernel
set_option maxRecDepth 20000 in
theorem ggX6_bufferAhead_X6_isNode : GoodIn wsX6_bufferAhead wsX6_isNode := goodIn_r _ [6, 7, 8, 9, 200, 201, 202, 203, 204, 205, 206, 207, 208, 209, 210, 211, 212, 213, 214, 215, 216, 217, 218, 219] (by decide +kernel) (by decide +kernel)
set_option maxRecDepth 20000 in
theorem gX6_bufferAhead_X6_isNode : GoodIn wsX6_bufferAhead (wsV RX6 211 RX6 yX6_isNode wsX6_isNode) := goodIn_app (goodIn_of _ (by decide +kernel)) ggX6_bufferAhead_X6_isNode
set_option maxRecDepth 20000 in
theorem ggX6_bufferAhead_X6_isCircuit : GoodIn wsX6_bufferAhead wsX6_isCircuit := goodIn_r _ [13, 7, 8, 14, 200, 201, 202, 203, 204, 205, 206, 207, 208, 209, 210, 211, 212, 213, 214, 215, 216, 217, 218, 219] (by decide +kernel) (by decide +kernel)
set_option maxRecDepth 20000 in
theorem gX6_bufferAhead_X6_isCircuit : GoodIn wsX6_bufferAhead (wsV RX6 135 RX6 yX6_isCircuit wsX6_isCircuit) := goodIn_app (goodIn_of _ (by decide +kernel)) ggX6_bufferAhead_X6_isCircuit
set_option maxRecDepth 20000 in
theorem ggX6_bufferAhead_X6_outside : GoodIn wsX6_bufferAhead wsX6_outside := goodIn_r _ [17] (by decide +kernel) (by decide +kernel)
set_option maxRecDepth 20000 in
theorem gX6_bufferAhead_X6_outside : GoodIn wsX6_bufferAhead (va_wsS RX6 55 yX6_outside wsX6_outside) := goodIn_app (goodIn_of _ (by decide +kernel)) ggX6_bufferAhead_X6_outside
set_option maxRecDepth 20000 in
theorem ggX6_bufferAhead_X6_goApart : GoodIn wsX6_bufferAhead wsX6_goApart := goodIn_r _ [21, 1, 8, 22, 23, 24, 25, 26, 27, 28, 29, 30, 31, 32, 33, 34, 35, 36, 37, 38, 39, 40, 41, 42, 43, 44, 45, 46, 47, 48, 49, 50, 51, 52, 53, 54, 55, 56, 57, 58, 59, 60, 61, 62, 63, 64, 65, 66, 67, 68, 69, 70, 71, 72, 73, 74, 75, 76, 77, 78, 79, 80, 81, 82, 83, 84, 85, 86, 87, 88, 89, 90, 91, 92, 93, 94, 95, 96, 97, 98, 99, 100, 101, 102, 103, 5, 104, 105, 106, 107, 108, 109, 110, 111, 112, 113, 114, 115, 116, 117, 118, 119, 120, 121, 122, 123, 124, 125, 126, 127, 128, 129, 130, 131, 132, 133, 134, 135, 136, 137, 138, 139, 140, 141, 142, 143, 144, 145, 146, 147, 148, 149, 150, 151, 152, 153, 154, 155, 156, 157, 158, 159, 160, 161, 162, 163, 164, 165, 166, 167, 168, 169, 170, 171, 172, 173, 174, 175, 176, 177, 178, 179, 180, 181, 182, 183, 184, 185, 186, 187, 188, 189, 190, 191, 192, 193, 194, 195, 200, 201, 202, 203, 204, 205, 206, 207, 208, 209, 210, 211, 212, 213, 214, 215, 216, 217, 218, 219, 220, 221, 222, 223, 224, 225, 226, 227, 228, 229, 230, 231, 232, 233, 234, 235, 236, 237, 238, 239, 240, 241, 242, 243, 244] (by decide +kernel) (by decide +kernel)
set_option maxRecDepth 20000 in
theorem gX6_bufferAhead_X6_goApart : GoodIn wsX6_bufferAhead (wsV RX6 267 RX6 yX6_goApart wsX6_goApart) := goodIn_app (goodIn_of _ (by decide +kernel)) ggX6_bufferAhead_X6_goApart
set_option maxRecDepth 20000 in
theorem ggX6_bufferAhead_X3_waitingAt : GoodIn wsX6_bufferAhead wsX3_waitingAt := goodIn_r _ [199, 37, 209, 210, 211, 212, 213, 214, 215, 216, 217, 218, 219] (by decide +kernel) (by decide +kernel)
set_option maxRecDepth 20000 in
theorem gX6_bufferAhead_X3_waitingAt : GoodIn wsX6_bufferAhead (wsV RX6 214 RX3 yX3_waitingAt wsX3_waitingAt) := goodIn_app (goodIn_of _ (by decide +kernel)) ggX6_bufferAhead_X3_waitingAt
theorem dX6_bufferAhead_0 : decode cX6_bufferAhead 0 = .ok (.aload_n 0, 1) := by decide +kernel
theorem dX6_bufferAhead_1 : decode cX6_bufferAhead 1 = .ok (.iload_n 1, 1) := by decide +kernel
theorem dX6_bufferAhead_2 : decode cX6_bufferAhead 2 = .ok (.invokevirtual 211, 3) := by decide +kernel
theorem dX6_bufferAhead_5 : decode cX6_bufferAhead 5 = .ok (.ifCond .eq 22, 3) := by decide +kernel
theorem dX6_bufferAhead_8 : decode cX6_bufferAhead 8 = .ok (.aload_n 0, 1) := by decide +kernel
theorem dX6_bufferAhead_9 : decode cX6_bufferAhead 9 = .ok (.iload_n 2, 1) := by decide +kernel
theorem dX6_bufferAhead_10 : decode cX6_bufferAhead 10 = .ok (.invokevirtual 135, 3) := by decide +kernel
theorem dX6_bufferAhead_13 : decode cX6_bufferAhead 13 = .ok (.ifCond .eq 14, 3) := by decide +kernel
theorem dX6_bufferAhead_16 : decode cX6_bufferAhead 16 = .ok (.iload_n 3, 1) := by decide +kernel
theorem dX6_bufferAhead_17 : decode cX6_bufferAhead 17 = .ok (.iconst 0, 1) := by decide +kernel
theorem dX6_bufferAhead_18 : decode cX6_bufferAhead 18 = .ok (.sipush 200, 3) := by decide +kernel
theorem dX6_bufferAhead_21 : decode cX6_bufferAhead 21 = .ok (.invokestatic 55, 3) := by decide +kernel
theorem dX6_bufferAhead_24 : decode cX6_bufferAhead 24 = .ok (.ifCond .eq 5, 3) := by decide +kernel
theorem dX6_bufferAhead_27 : decode cX6_bufferAhead 27 = .ok (.iconst (-1), 1) := by decide +kernel
theorem dX6_bufferAhead_28 : decode cX6_bufferAhead 28 = .ok (.ireturn, 1) := by decide +kernel
theorem dX6_bufferAhead_29 : decode cX6_bufferAhead 29 = .ok (.aload_n 0, 1) := by decide +kernel
theorem dX6_bufferAhead_30 : decode cX6_bufferAhead 30 = .ok (.iload_n 3, 1) := by decide +kernel
theorem dX6_bufferAhead_31 : decode cX6_bufferAhead 31 = .ok (.invokevirtual 267, 3) := by decide +kernel
theorem dX6_bufferAhead_34 : decode cX6_bufferAhead 34 = .ok (.aload_n 0, 1) := by decide +kernel
theorem dX6_bufferAhead_35 : decode cX6_bufferAhead 35 = .ok (.getfield 30, 3) := by decide +kernel
theorem dX6_bufferAhead_38 : decode cX6_bufferAhead 38 = .ok (.iload_n 1, 1) := by decide +kernel
theorem dX6_bufferAhead_39 : decode cX6_bufferAhead 39 = .ok (.iload_n 2, 1) := by decide +kernel
theorem dX6_bufferAhead_40 : decode cX6_bufferAhead 40 = .ok (.invokevirtual 214, 3) := by decide +kernel
theorem dX6_bufferAhead_43 : decode cX6_bufferAhead 43 = .ok (.ireturn, 1) := by decide +kernel
set_option maxRecDepth 20000 in
theorem ggX6_goApart_X3_copy : GoodIn wsX6_goApart wsX3_copy := goodIn_r _ [7, 8, 9, 10, 11, 12, 13, 14, 15, 16, 17, 18, 19, 20, 21, 22, 23, 24, 25, 26, 27, 28, 29, 30, 31, 32, 33, 34, 35, 36, 37, 38, 39, 40, 41, 42, 43, 44, 45, 46, 47, 48, 49, 50, 51, 52, 53, 54, 55, 56, 57, 58, 59, 60, 61, 62, 63, 187, 188, 189, 190, 191, 192, 193, 194, 195, 196, 197, 198, 199, 200, 201, 202, 203, 204, 205, 206, 207, 208, 209, 210, 211, 212, 213, 214, 215, 216, 217, 218, 219, 220, 221, 222] (by decide +kernel) (by decide +kernel)
set_option maxRecDepth 20000 in
theorem gX6_goApart_X3_copy : GoodIn wsX6_goApart (wsV RX6 270 RX3 yX3_copy wsX3_copy) := goodIn_app (goodIn_of _ (by decide +kernel)) ggX6_goApart_X3_copy
set_option maxRecDepth 20000 in
theorem ggX6_goApart_X3_steps : GoodIn wsX6_goApart wsX3_steps := goodIn_r _ [67, 68, 69, 70, 6, 71, 8, 9, 11, 13, 16, 72, 73, 74, 75, 76, 18, 77, 78, 79, 80, 81, 82, 42, 83, 46, 84, 85, 86, 87, 88, 89, 90, 91, 14, 92, 93, 94, 95, 96, 26, 97, 34, 36, 37, 98, 99, 100, 101, 17, 102, 103, 104, 105, 106, 107, 54, 108, 56, 57, 109, 110, 111, 112, 113, 114, 115, 116, 117, 118, 58, 119, 120, 121, 122, 123, 124, 125, 126, 127, 128, 129, 130, 131, 132, 133, 134, 135, 136, 137, 138, 139, 140, 141, 44, 142, 143, 144, 145, 146, 12, 147, 148, 149, 150, 151, 152, 153, 154, 15, 155, 156, 157, 158, 159, 160, 161, 162, 163, 164, 165, 166, 167, 168, 169, 170, 10, 171, 172, 173, 174, 29, 38, 175, 176, 177, 187, 188, 189, 190, 191, 192, 193, 194, 195, 196, 197, 198, 199, 200, 201, 202, 203, 204, 205, 206, 207, 208, 209, 210, 211, 212, 213, 214, 215, 216, 217, 218, 219, 220, 221, 222] (by decide +kernel) (by decide +kernel)
set_option maxRecDepth 20000 in
theorem gX6_goApart_X3_steps : GoodIn wsX6_goApart (wsV RX6 274 RX3 yX3_steps wsX3_steps) := goodIn_app (goodIn_of _ (by decide +kernel)) ggX6_goApart_X3_steps
theorem dX6_goApart_0 : decode cX6_goApart 0 = .ok (.aload_n 0, 1) := by decide +kernel
theorem dX6_goApart_1 : decode cX6_goApart 1 = .ok (.getfield 30, 3) := by decide +kernel
theorem dX6_goApart_4 : decode cX6_goApart 4 = .ok (.aload_n 0, 1) := by decide +kernel
theorem dX6_goApart_5 : decode cX6_goApart 5 = .ok (.getfield 26, 3) := by decide +kernel
theorem dX6_goApart_8 : decode cX6_goApart 8 = .ok (.invokevirtual 270, 3) := by decide +kernel
theorem dX6_goApart_11 : decode cX6_goApart 11 = .ok (.aload_n 0, 1) := by decide +kernel
theorem dX6_goApart_12 : decode cX6_goApart 12 = .ok (.getfield 30, 3) := by decide +kernel
theorem dX6_goApart_15 : decode cX6_goApart 15 = .ok (.iload_n 1, 1) := by decide +kernel
theorem dX6_goApart_16 : decode cX6_goApart 16 = .ok (.invokevirtual 274, 3) := by decide +kernel
theorem dX6_goApart_19 : decode cX6_goApart 19 = .ok (.return_, 1) := by decide +kernel
set_option maxRecDepth 20000 in
theorem ggX6_delivered_X6_outside : GoodIn wsX6_delivered wsX6_outside := goodIn_r _ [5] (by decide +kernel) (by decide +kernel)
set_option maxRecDepth 20000 in
theorem gX6_delivered_X6_outside : GoodIn wsX6_delivered (va_wsS RX6 55 yX6_outside wsX6_outside) := goodIn_app (goodIn_of _ (by decide +kernel)) ggX6_delivered_X6_outside
set_option maxRecDepth 20000 in
theorem ggX6_delivered_X6_isCircuit : GoodIn wsX6_delivered wsX6_isCircuit := goodIn_r _ [9, 1, 10, 11, 205, 206, 207, 208, 209, 210, 211, 212, 213, 214, 215, 216, 217, 218, 219, 220, 221, 222, 223, 224] (by decide +kernel) (by decide +kernel)
set_option maxRecDepth 20000 in
theorem gX6_delivered_X6_isCircuit : GoodIn wsX6_delivered (wsV RX6 135 RX6 yX6_isCircuit wsX6_isCircuit) := goodIn_app (goodIn_of _ (by decide +kernel)) ggX6_delivered_X6_isCircuit
set_option maxRecDepth 20000 in
theorem ggX6_delivered_X6_goApart : GoodIn wsX6_delivered wsX6_goApart := goodIn_r _ [15, 16, 10, 17, 18, 19, 20, 21, 22, 23, 24, 25, 26, 27, 28, 29, 30, 31, 32, 33, 34, 35, 36, 37, 38, 39, 40, 41, 42, 43, 44, 45, 46, 47, 48, 49, 50, 51, 52, 53, 54, 55, 56, 57, 58, 59, 60, 61, 62, 63, 64, 65, 66, 67, 68, 69, 70, 71, 72, 73, 74, 75, 76, 77, 78, 79, 80, 81, 82, 83, 84, 85, 86, 87, 88, 89, 90, 91, 92, 93, 94, 95, 96, 97, 98, 4, 99, 100, 101, 102, 103, 104, 105, 106, 107, 108, 109, 110, 111, 112, 113, 114, 115, 116, 117, 118, 119, 120, 121, 122, 123, 124, 125, 126, 127, 128, 129, 130, 131, 132, 133, 134, 135, 136, 137, 138, 139, 140, 141, 142, 143, 144, 145, 146, 147, 148, 149, 150, 151, 152, 153, 154, 155, 156, 157, 158, 159, 160, 161, 162, 163, 164, 165, 166, 167, 168, 169, 170, 171, 172, 173, 174, 175, 176, 177, 178, 179, 180, 181, 182, 183, 184, 185, 186, 187, 188, 189, 190, 205, 206, 207, 208, 209, 210, 211, 212, 213, 214, 215, 216, 217, 218, 219, 220, 221, 222, 223, 224, 225, 226, 227, 228, 229, 230, 231, 232, 233, 234, 235, 236, 237, 238, 239, 240, 241, 242, 243, 244, 245, 246, 247, 248, 249] (by decide +kernel) (by decide +kernel)
set_option maxRecDepth 20000 in
theorem gX6_delivered_X6_goApart : GoodIn wsX6_delivered (wsV RX6 267 RX6 yX6_goApart wsX6_goApart) := goodIn_app (goodIn_of _ (by decide +kernel)) ggX6_delivered_X6_goApart
set_option maxRecDepth 20000 in
theorem ggX6_delivered_X6_deliveredApart : GoodIn wsX6_delivered wsX6_deliveredApart := goodIn_r _ [194, 16, 10, 195, 196, 197, 20, 198, 23, 31, 127, 205, 206, 207, 208, 209, 210, 211, 212, 213, 214, 215, 216, 217, 218, 219, 220, 221, 222, 223, 224, 242, 243, 244, 245, 246, 247, 248, 249] (by decide +kernel) (by decide +kernel)
set_option maxRecDepth 20000 in
theorem gX6_delivered_X6_deliveredApart : GoodIn wsX6_delivered (wsV RX6 277 RX6 yX6_deliveredApart wsX6_deliveredApart) := goodIn_app (goodIn_of _ (by decide +kernel)) ggX6_delivered_X6_deliveredApart
set_option maxRecDepth 20000 in
theorem ggX6_delivered_X6_deliveredApartOf : GoodIn wsX6_delivered wsX6_deliveredApartOf := goodIn_r _ [202, 16, 203, 204, 10, 205, 206, 207, 208, 209, 210, 211, 212, 213, 214, 215, 216, 217, 218, 219, 220, 221, 222, 223, 224, 242, 243, 244, 245, 246, 247, 248, 249] (by decide +kernel) (by decide +kernel)
set_option maxRecDepth 20000 in
theorem gX6_delivered_X6_deliveredApartOf : GoodIn wsX6_delivered (wsV RX6 280 RX6 yX6_deliveredApartOf wsX6_deliveredApartOf) := goodIn_app (goodIn_of _ (by decide +kernel)) ggX6_delivered_X6_deliveredApartOf
theorem dX6_delivered_0 : decode cX6_delivered 0 = .ok (.aload_n 0, 1) := by decide +kernel
theorem dX6_delivered_1 : decode cX6_delivered 1 = .ok (.getfield 70, 3) := by decide +kernel
theorem dX6_delivered_4 : decode cX6_delivered 4 = .ok (.ifCond .eq 27, 3) := by decide +kernel
theorem dX6_delivered_7 : decode cX6_delivered 7 = .ok (.iload_n 2, 1) := by decide +kernel
theorem dX6_delivered_8 : decode cX6_delivered 8 = .ok (.iconst 0, 1) := by decide +kernel
theorem dX6_delivered_9 : decode cX6_delivered 9 = .ok (.sipush 200, 3) := by decide +kernel
theorem dX6_delivered_12 : decode cX6_delivered 12 = .ok (.invokestatic 55, 3) := by decide +kernel
theorem dX6_delivered_15 : decode cX6_delivered 15 = .ok (.ifCond .ne 16, 3) := by decide +kernel
theorem dX6_delivered_18 : decode cX6_delivered 18 = .ok (.iload_n 1, 1) := by decide +kernel
theorem dX6_delivered_19 : decode cX6_delivered 19 = .ok (.iconst (-1), 1) := by decide +kernel
theorem dX6_delivered_20 : decode cX6_delivered 20 = .ok (.if_icmp .eq 13, 3) := by decide +kernel
theorem dX6_delivered_23 : decode cX6_delivered 23 = .ok (.aload_n 0, 1) := by decide +kernel
theorem dX6_delivered_24 : decode cX6_delivered 24 = .ok (.iload_n 1, 1) := by decide +kernel
theorem dX6_delivered_25 : decode cX6_delivered 25 = .ok (.invokevirtual 135, 3) := by decide +kernel
theorem dX6_delivered_28 : decode cX6_delivered 28 = .ok (.ifCond .ne 5, 3) := by decide +kernel
theorem dX6_delivered_31 : decode cX6_delivered 31 = .ok (.iconst (-1), 1) := by decide +kernel
theorem dX6_delivered_32 : decode cX6_delivered 32 = .ok (.ireturn, 1) := by decide +kernel
theorem dX6_delivered_33 : decode cX6_delivered 33 = .ok (.aload_n 0, 1) := by decide +kernel
theorem dX6_delivered_34 : decode cX6_delivered 34 = .ok (.iload_n 2, 1) := by decide +kernel
theorem dX6_delivered_35 : decode cX6_delivered 35 = .ok (.invokevirtual 267, 3) := by decide +kernel
theorem dX6_delivered_38 : decode cX6_delivered 38 = .ok (.iload_n 1, 1) := by decide +kernel
theorem dX6_delivered_39 : decode cX6_delivered 39 = .ok (.iconst (-1), 1) := by decide +kernel
theorem dX6_delivered_40 : decode cX6_delivered 40 = .ok (.if_icmp .ne 10, 3) := by decide +kernel
theorem dX6_delivered_43 : decode cX6_delivered 43 = .ok (.aload_n 0, 1) := by decide +kernel
theorem dX6_delivered_44 : decode cX6_delivered 44 = .ok (.invokevirtual 277, 3) := by decide +kernel
theorem dX6_delivered_47 : decode cX6_delivered 47 = .ok (.goto 8, 3) := by decide +kernel
theorem dX6_delivered_50 : decode cX6_delivered 50 = .ok (.aload_n 0, 1) := by decide +kernel
theorem dX6_delivered_51 : decode cX6_delivered 51 = .ok (.iload_n 1, 1) := by decide +kernel
theorem dX6_delivered_52 : decode cX6_delivered 52 = .ok (.invokevirtual 280, 3) := by decide +kernel
theorem dX6_delivered_55 : decode cX6_delivered 55 = .ok (.ireturn, 1) := by decide +kernel
set_option maxRecDepth 20000 in
theorem ggX6_deliveredApart_X3_deliveredOfAll : GoodIn wsX6_deliveredApart wsX3_deliveredOfAll := goodIn_r _ [7, 8, 9, 10, 20, 21, 22, 23, 24, 25, 26, 27, 28, 29, 30, 31, 32, 33, 34, 35, 36, 37, 38] (by decide +kernel) (by decide +kernel)
set_option maxRecDepth 20000 in
theorem gX6_deliveredApart_X3_deliveredOfAll : GoodIn wsX6_deliveredApart (wsV RX6 283 RX3 yX3_deliveredOfAll wsX3_deliveredOfAll) := goodIn_app (goodIn_of _ (by decide +kernel)) ggX6_deliveredApart_X3_deliveredOfAll
theorem dX6_deliveredApart_0 : decode cX6_deliveredApart 0 = .ok (.aload_n 0, 1) := by decide +kernel
theorem dX6_deliveredApart_1 : decode cX6_deliveredApart 1 = .ok (.getfield 30, 3) := by decide +kernel
theorem dX6_deliveredApart_4 : decode cX6_deliveredApart 4 = .ok (.invokevirtual 283, 3) := by decide +kernel
theorem dX6_deliveredApart_7 : decode cX6_deliveredApart 7 = .ok (.aload_n 0, 1) := by decide +kernel
theorem dX6_deliveredApart_8 : decode cX6_deliveredApart 8 = .ok (.getfield 26, 3) := by decide +kernel
theorem dX6_deliveredApart_11 : decode cX6_deliveredApart 11 = .ok (.invokevirtual 283, 3) := by decide +kernel
theorem dX6_deliveredApart_14 : decode cX6_deliveredApart 14 = .ok (.isub, 1) := by decide +kernel
theorem dX6_deliveredApart_15 : decode cX6_deliveredApart 15 = .ok (.ireturn, 1) := by decide +kernel
theorem dX6_deliveredApartOf_0 : decode cX6_deliveredApartOf 0 = .ok (.aload_n 0, 1) := by decide +kernel
theorem dX6_deliveredApartOf_1 : decode cX6_deliveredApartOf 1 = .ok (.getfield 30, 3) := by decide +kernel
theorem dX6_deliveredApartOf_4 : decode cX6_deliveredApartOf 4 = .ok (.getfield 140, 3) := by decide +kernel
theorem dX6_deliveredApartOf_7 : decode cX6_deliveredApartOf 7 = .ok (.iload_n 1, 1) := by decide +kernel
theorem dX6_deliveredApartOf_8 : decode cX6_deliveredApartOf 8 = .ok (.aaload, 1) := by decide +kernel
theorem dX6_deliveredApartOf_9 : decode cX6_deliveredApartOf 9 = .ok (.getfield 161, 3) := by decide +kernel
theorem dX6_deliveredApartOf_12 : decode cX6_deliveredApartOf 12 = .ok (.aload_n 0, 1) := by decide +kernel
theorem dX6_deliveredApartOf_13 : decode cX6_deliveredApartOf 13 = .ok (.getfield 26, 3) := by decide +kernel
theorem dX6_deliveredApartOf_16 : decode cX6_deliveredApartOf 16 = .ok (.getfield 140, 3) := by decide +kernel
theorem dX6_deliveredApartOf_19 : decode cX6_deliveredApartOf 19 = .ok (.iload_n 1, 1) := by decide +kernel
theorem dX6_deliveredApartOf_20 : decode cX6_deliveredApartOf 20 = .ok (.aaload, 1) := by decide +kernel
theorem dX6_deliveredApartOf_21 : decode cX6_deliveredApartOf 21 = .ok (.getfield 161, 3) := by decide +kernel
theorem dX6_deliveredApartOf_24 : decode cX6_deliveredApartOf 24 = .ok (.isub, 1) := by decide +kernel
theorem dX6_deliveredApartOf_25 : decode cX6_deliveredApartOf 25 = .ok (.ireturn, 1) := by decide +kernel
set_option maxRecDepth 20000 in
theorem ggX6_heldUp_X6_isLane : GoodIn wsX6_heldUp wsX6_isLane := goodIn_r _ [9, 10, 11, 12, 8, 13, 14, 2, 15, 16, 17, 18, 19, 20, 191, 192, 193, 194, 195, 196, 197, 198, 199, 200, 201, 202, 203, 204, 205, 206, 207, 208, 209, 210] (by decide +kernel) (by decide +kernel)
set_option maxRecDepth 20000 in
theorem gX6_heldUp_X6_isLane : GoodIn wsX6_heldUp (wsV RX6 167 RX6 yX6_isLane wsX6_isLane) := goodIn_app (goodIn_of _ (by decide +kernel)) ggX6_heldUp_X6_isLane
set_option maxRecDepth 20000 in
theorem ggX6_heldUp_X3_copy : GoodIn wsX6_heldUp wsX3_copy := goodIn_r _ [25, 26, 27, 28, 29, 30, 31, 32, 33, 34, 35, 36, 37, 38, 39, 40, 41, 42, 43, 44, 45, 46, 47, 48, 49, 50, 51, 52, 53, 54, 55, 56, 57, 58, 59, 60, 61, 62, 63, 64, 65, 66, 67, 68, 69, 70, 71, 72, 73, 74, 75, 76, 77, 78, 79, 80, 81, 200, 201, 202, 203, 204, 205, 206, 207, 208, 209, 210, 211, 212, 213, 214, 215, 216, 217, 218, 219, 220, 221, 222, 223, 224, 225, 226, 227, 228, 229, 230, 231, 232, 233, 234, 235] (by decide +kernel) (by decide +kernel)
set_option maxRecDepth 20000 in
theorem gX6_heldUp_X3_copy : GoodIn wsX6_heldUp (wsV RX6 270 RX3 yX3_copy wsX3_copy) := goodIn_app (goodIn_of _ (by decide +kernel)) ggX6_heldUp_X3_copy
set_option maxRecDepth 20000 in
theorem ggX6_heldUp_X3_step : GoodIn wsX6_heldUp wsX3_step := goodIn_r _ [85, 26, 27, 29, 31, 34, 86, 87, 88, 24, 89, 90, 36, 91, 92, 93, 94, 95, 96, 60, 97, 64, 98, 8, 99, 100, 101, 102, 103, 104, 32, 105, 106, 107, 108, 109, 44, 110, 52, 54, 55, 111, 112, 113, 114, 35, 115, 116, 117, 118, 119, 120, 72, 121, 74, 75, 122, 123, 124, 125, 126, 127, 128, 129, 130, 131, 76, 132, 133, 134, 135, 136, 137, 138, 139, 140, 141, 142, 143, 144, 145, 146, 147, 148, 149, 150, 151, 152, 153, 154, 62, 155, 156, 157, 158, 159, 30, 160, 161, 162, 163, 164, 165, 166, 167, 33, 168, 169, 170, 171, 172, 173, 174, 175, 176, 177, 178, 179, 180, 181, 182, 183, 28, 184, 185, 186, 187, 47, 56, 188, 189, 190, 200, 201, 202, 203, 204, 205, 206, 207, 208, 209, 210, 211, 212, 213, 214, 215, 216, 217, 218, 219, 220, 221, 222, 223, 224, 225, 226, 227, 228, 229, 230, 231, 232, 233, 234, 235] (by decide +kernel) (by decide +kernel)
set_option maxRecDepth 20000 in
theorem gX6_heldUp_X3_step : GoodIn wsX6_heldUp (wsV RX6 233 RX3 yX3_step wsX3_step) := goodIn_app (goodIn_of _ (by decide +kernel)) ggX6_heldUp_X3_step
theorem dX6_heldUp_0 : decode cX6_heldUp 0 = .ok (.aload_n 0, 1) := by decide +kernel
theorem dX6_heldUp_1 : decode cX6_heldUp 1 = .ok (.iload_n 1, 1) := by decide +kernel
theorem dX6_heldUp_2 : decode cX6_heldUp 2 = .ok (.iload_n 2, 1) := by decide +kernel
theorem dX6_heldUp_3 : decode cX6_heldUp 3 = .ok (.invokevirtual 167, 3) := by decide +kernel
theorem dX6_heldUp_6 : decode cX6_heldUp 6 = .ok (.ifCond .ne 5, 3) := by decide +kernel
theorem dX6_heldUp_9 : decode cX6_heldUp 9 = .ok (.iconst (-1), 1) := by decide +kernel
theorem dX6_heldUp_10 : decode cX6_heldUp 10 = .ok (.ireturn, 1) := by decide +kernel
theorem dX6_heldUp_11 : decode cX6_heldUp 11 = .ok (.aload_n 0, 1) := by decide +kernel
theorem dX6_heldUp_12 : decode cX6_heldUp 12 = .ok (.getfield 30, 3) := by decide +kernel
theorem dX6_heldUp_15 : decode cX6_heldUp 15 = .ok (.aload_n 0, 1) := by decide +kernel
theorem dX6_heldUp_16 : decode cX6_heldUp 16 = .ok (.getfield 26, 3) := by decide +kernel
theorem dX6_heldUp_19 : decode cX6_heldUp 19 = .ok (.invokevirtual 270, 3) := by decide +kernel
theorem dX6_heldUp_22 : decode cX6_heldUp 22 = .ok (.iconst 1, 1) := by decide +kernel
theorem dX6_heldUp_23 : decode cX6_heldUp 23 = .ok (.istore_n 3, 1) := by decide +kernel
theorem dX6_heldUp_24 : decode cX6_heldUp 24 = .ok (.iload_n 3, 1) := by decide +kernel
theorem dX6_heldUp_25 : decode cX6_heldUp 25 = .ok (.sipush 200, 3) := by decide +kernel
theorem dX6_heldUp_28 : decode cX6_heldUp 28 = .ok (.if_icmp .gt 34, 3) := by decide +kernel
theorem dX6_heldUp_31 : decode cX6_heldUp 31 = .ok (.aload_n 0, 1) := by decide +kernel
theorem dX6_heldUp_32 : decode cX6_heldUp 32 = .ok (.getfield 30, 3) := by decide +kernel
theorem dX6_heldUp_35 : decode cX6_heldUp 35 = .ok (.invokevirtual 233, 3) := by decide +kernel
theorem dX6_heldUp_38 : decode cX6_heldUp 38 = .ok (.aload_n 0, 1) := by decide +kernel
theorem dX6_heldUp_39 : decode cX6_heldUp 39 = .ok (.getfield 30, 3) := by decide +kernel
theorem dX6_heldUp_42 : decode cX6_heldUp 42 = .ok (.getfield 104, 3) := by decide +kernel
theorem dX6_heldUp_45 : decode cX6_heldUp 45 = .ok (.iload_n 1, 1) := by decide +kernel
theorem dX6_heldUp_46 : decode cX6_heldUp 46 = .ok (.aaload, 1) := by decide +kernel
theorem dX6_heldUp_47 : decode cX6_heldUp 47 = .ok (.getfield 286, 3) := by decide +kernel
theorem dX6_heldUp_50 : decode cX6_heldUp 50 = .ok (.iload_n 2, 1) := by decide +kernel
theorem dX6_heldUp_51 : decode cX6_heldUp 51 = .ok (.if_icmp .ne 5, 3) := by decide +kernel
theorem dX6_heldUp_54 : decode cX6_heldUp 54 = .ok (.iload_n 3, 1) := by decide +kernel
theorem dX6_heldUp_55 : decode cX6_heldUp 55 = .ok (.ireturn, 1) := by decide +kernel
theorem dX6_heldUp_56 : decode cX6_heldUp 56 = .ok (.iinc 3 1, 3) := by decide +kernel
theorem dX6_heldUp_59 : decode cX6_heldUp 59 = .ok (.goto (-35), 3) := by decide +kernel
theorem dX6_heldUp_62 : decode cX6_heldUp 62 = .ok (.iconst (-1), 1) := by decide +kernel
theorem dX6_heldUp_63 : decode cX6_heldUp 63 = .ok (.ireturn, 1) := by decide +kernel
set_option maxRecDepth 20000 in
theorem ggX6_idle_X6_isHop : GoodIn wsX6_idle wsX6_isHop := goodIn_r _ [6, 7, 8, 9, 194, 195, 196, 197, 198, 199, 200, 201, 202, 203, 204, 205, 206, 207, 208, 209, 210, 211, 212, 213] (by decide +kernel) (by decide +kernel)
set_option maxRecDepth 20000 in
theorem gX6_idle_X6_isHop : GoodIn wsX6_idle (wsV RX6 93 RX6 yX6_isHop wsX6_isHop) := goodIn_app (goodIn_of _ (by decide +kernel)) ggX6_idle_X6_isHop
set_option maxRecDepth 20000 in
theorem ggX6_idle_X6_outside : GoodIn wsX6_idle wsX6_outside := goodIn_r _ [12] (by decide +kernel) (by decide +kernel)
set_option maxRecDepth 20000 in
theorem gX6_idle_X6_outside : GoodIn wsX6_idle (va_wsS RX6 55 yX6_outside wsX6_outside) := goodIn_app (goodIn_of _ (by decide +kernel)) ggX6_idle_X6_outside
set_option maxRecDepth 20000 in
theorem ggX6_idle_X6_tallyIdle : GoodIn wsX6_idle wsX6_tallyIdle := goodIn_r _ [16, 17, 8, 9, 18, 19, 1, 20, 21, 22, 5, 23, 24, 25, 26, 27, 28, 29, 30, 31, 32, 33, 34, 35, 36, 37, 38, 39, 40, 41, 42, 43, 44, 45, 46, 47, 48, 49, 50, 51, 52, 53, 54, 55, 56, 57, 58, 59, 60, 61, 62, 63, 64, 65, 66, 67, 68, 69, 70, 71, 72, 73, 74, 75, 76, 77, 78, 79, 80, 81, 82, 83, 84, 85, 86, 87, 88, 89, 90, 91, 92, 93, 94, 95, 96, 97, 98, 99, 100, 101, 102, 103, 104, 105, 106, 107, 108, 109, 110, 111, 112, 113, 114, 115, 116, 117, 118, 119, 120, 121, 122, 123, 124, 125, 126, 127, 128, 129, 130, 131, 132, 133, 134, 135, 136, 137, 138, 139, 140, 141, 142, 143, 144, 145, 146, 147, 148, 149, 150, 151, 152, 153, 154, 155, 156, 157, 158, 159, 160, 161, 162, 163, 164, 165, 166, 167, 168, 169, 170, 171, 172, 173, 174, 175, 176, 177, 178, 179, 180, 181, 182, 183, 184, 185, 186, 187, 188, 189, 190, 191, 192, 193, 194, 195, 196, 197, 198, 199, 200, 201, 202, 203, 204, 205, 206, 207, 208, 209, 210, 211, 212, 213, 214, 215, 216, 217, 218, 219, 220, 221, 222, 223, 224, 225, 226, 227, 228, 229, 230, 231, 232, 233, 234, 235, 236, 237, 238] (by decide +kernel) (by decide +kernel)
set_option maxRecDepth 20000 in
theorem gX6_idle_X6_tallyIdle : GoodIn wsX6_idle (wsV RX6 289 RX6 yX6_tallyIdle wsX6_tallyIdle) := goodIn_app (goodIn_of _ (by decide +kernel)) ggX6_idle_X6_tallyIdle
theorem dX6_idle_0 : decode cX6_idle 0 = .ok (.aload_n 0, 1) := by decide +kernel
theorem dX6_idle_1 : decode cX6_idle 1 = .ok (.iload_n 1, 1) := by decide +kernel
theorem dX6_idle_2 : decode cX6_idle 2 = .ok (.invokevirtual 93, 3) := by decide +kernel
theorem dX6_idle_5 : decode cX6_idle 5 = .ok (.ifCond .eq 14, 3) := by decide +kernel
theorem dX6_idle_8 : decode cX6_idle 8 = .ok (.iload_n 2, 1) := by decide +kernel
theorem dX6_idle_9 : decode cX6_idle 9 = .ok (.iconst 1, 1) := by decide +kernel
theorem dX6_idle_10 : decode cX6_idle 10 = .ok (.sipush 200, 3) := by decide +kernel
theorem dX6_idle_13 : decode cX6_idle 13 = .ok (.invokestatic 55, 3) := by decide +kernel
theorem dX6_idle_16 : decode cX6_idle 16 = .ok (.ifCond .eq 5, 3) := by decide +kernel
theorem dX6_idle_19 : decode cX6_idle 19 = .ok (.iconst (-1), 1) := by decide +kernel
theorem dX6_idle_20 : decode cX6_idle 20 = .ok (.ireturn, 1) := by decide +kernel
theorem dX6_idle_21 : decode cX6_idle 21 = .ok (.aload_n 0, 1) := by decide +kernel
theorem dX6_idle_22 : decode cX6_idle 22 = .ok (.iload_n 2, 1) := by decide +kernel
theorem dX6_idle_23 : decode cX6_idle 23 = .ok (.invokevirtual 289, 3) := by decide +kernel
theorem dX6_idle_26 : decode cX6_idle 26 = .ok (.aload_n 0, 1) := by decide +kernel
theorem dX6_idle_27 : decode cX6_idle 27 = .ok (.getfield 39, 3) := by decide +kernel
theorem dX6_idle_30 : decode cX6_idle 30 = .ok (.iload_n 1, 1) := by decide +kernel
theorem dX6_idle_31 : decode cX6_idle 31 = .ok (.iaload, 1) := by decide +kernel
theorem dX6_idle_32 : decode cX6_idle 32 = .ok (.ireturn, 1) := by decide +kernel
set_option maxRecDepth 20000 in
theorem ggX6_tallyIdle_X6_clearTally : GoodIn wsX6_tallyIdle wsX6_clearTally := goodIn_r _ [11, 6, 182, 183, 184, 185, 186, 187, 188, 189, 190] (by decide +kernel) (by decide +kernel)
set_option maxRecDepth 20000 in
theorem gX6_tallyIdle_X6_clearTally : GoodIn wsX6_tallyIdle (wsV RX6 292 RX6 yX6_clearTally wsX6_clearTally) := goodIn_app (goodIn_of _ (by decide +kernel)) ggX6_tallyIdle_X6_clearTally
set_option maxRecDepth 20000 in
theorem ggX6_tallyIdle_X3_copy : GoodIn wsX6_tallyIdle wsX3_copy := goodIn_r _ [16, 17, 18, 19, 20, 21, 22, 23, 24, 25, 26, 27, 28, 29, 30, 31, 32, 33, 34, 35, 36, 37, 38, 39, 40, 41, 42, 43, 44, 45, 46, 47, 48, 49, 50, 51, 52, 53, 54, 55, 56, 57, 58, 59, 60, 61, 62, 63, 64, 65, 66, 67, 68, 69, 70, 71, 72, 191, 192, 193, 194, 195, 196, 197, 198, 199, 200, 201, 202, 203, 204, 205, 206, 207, 208, 209, 210, 211, 212, 213, 214, 215, 216, 217, 218, 219, 220, 221, 222, 223, 224, 225, 226] (by decide +kernel) (by decide +kernel)
set_option maxRecDepth 20000 in
theorem gX6_tallyIdle_X3_copy : GoodIn wsX6_tallyIdle (wsV RX6 270 RX3 yX3_copy wsX3_copy) := goodIn_app (goodIn_of _ (by decide +kernel)) ggX6_tallyIdle_X3_copy
set_option maxRecDepth 20000 in
theorem ggX6_tallyIdle_X3_step : GoodIn wsX6_tallyIdle wsX3_step := goodIn_r _ [76, 17, 18, 20, 22, 25, 77, 78, 79, 15, 80, 81, 27, 82, 83, 84, 85, 86, 87, 51, 88, 55, 89, 10, 90, 91, 92, 93, 94, 95, 23, 96, 97, 98, 99, 100, 35, 101, 43, 45, 46, 102, 103, 104, 105, 26, 106, 107, 108, 109, 110, 111, 63, 112, 65, 66, 113, 114, 115, 116, 117, 118, 119, 120, 121, 122, 67, 123, 124, 125, 126, 127, 128, 129, 130, 131, 132, 133, 134, 135, 136, 137, 138, 139, 140, 141, 142, 143, 144, 145, 53, 146, 147, 148, 149, 150, 21, 151, 152, 153, 154, 155, 156, 157, 158, 24, 159, 160, 161, 162, 163, 164, 165, 166, 167, 168, 169, 170, 171, 172, 173, 174, 19, 175, 176, 177, 178, 38, 47, 179, 180, 181, 191, 192, 193, 194, 195, 196, 197, 198, 199, 200, 201, 202, 203, 204, 205, 206, 207, 208, 209, 210, 211, 212, 213, 214, 215, 216, 217, 218, 219, 220, 221, 222, 223, 224, 225, 226] (by decide +kernel) (by decide +kernel)
set_option maxRecDepth 20000 in
theorem gX6_tallyIdle_X3_step : GoodIn wsX6_tallyIdle (wsV RX6 233 RX3 yX3_step wsX3_step) := goodIn_app (goodIn_of _ (by decide +kernel)) ggX6_tallyIdle_X3_step
theorem dX6_tallyIdle_0 : decode cX6_tallyIdle 0 = .ok (.aload_n 0, 1) := by decide +kernel
theorem dX6_tallyIdle_1 : decode cX6_tallyIdle 1 = .ok (.invokevirtual 292, 3) := by decide +kernel
theorem dX6_tallyIdle_4 : decode cX6_tallyIdle 4 = .ok (.aload_n 0, 1) := by decide +kernel
theorem dX6_tallyIdle_5 : decode cX6_tallyIdle 5 = .ok (.getfield 30, 3) := by decide +kernel
theorem dX6_tallyIdle_8 : decode cX6_tallyIdle 8 = .ok (.aload_n 0, 1) := by decide +kernel
theorem dX6_tallyIdle_9 : decode cX6_tallyIdle 9 = .ok (.getfield 26, 3) := by decide +kernel
theorem dX6_tallyIdle_12 : decode cX6_tallyIdle 12 = .ok (.invokevirtual 270, 3) := by decide +kernel
theorem dX6_tallyIdle_15 : decode cX6_tallyIdle 15 = .ok (.iconst 0, 1) := by decide +kernel
theorem dX6_tallyIdle_16 : decode cX6_tallyIdle 16 = .ok (.istore_n 2, 1) := by decide +kernel
theorem dX6_tallyIdle_17 : decode cX6_tallyIdle 17 = .ok (.iload_n 2, 1) := by decide +kernel
theorem dX6_tallyIdle_18 : decode cX6_tallyIdle 18 = .ok (.iload_n 1, 1) := by decide +kernel
theorem dX6_tallyIdle_19 : decode cX6_tallyIdle 19 = .ok (.if_icmp .ge 61, 3) := by decide +kernel
theorem dX6_tallyIdle_22 : decode cX6_tallyIdle 22 = .ok (.aload_n 0, 1) := by decide +kernel
theorem dX6_tallyIdle_23 : decode cX6_tallyIdle 23 = .ok (.getfield 30, 3) := by decide +kernel
theorem dX6_tallyIdle_26 : decode cX6_tallyIdle 26 = .ok (.invokevirtual 233, 3) := by decide +kernel
theorem dX6_tallyIdle_29 : decode cX6_tallyIdle 29 = .ok (.iconst 0, 1) := by decide +kernel
theorem dX6_tallyIdle_30 : decode cX6_tallyIdle 30 = .ok (.istore_n 3, 1) := by decide +kernel
theorem dX6_tallyIdle_31 : decode cX6_tallyIdle 31 = .ok (.iload_n 3, 1) := by decide +kernel
theorem dX6_tallyIdle_32 : decode cX6_tallyIdle 32 = .ok (.aload_n 0, 1) := by decide +kernel
theorem dX6_tallyIdle_33 : decode cX6_tallyIdle 33 = .ok (.getfield 30, 3) := by decide +kernel
theorem dX6_tallyIdle_36 : decode cX6_tallyIdle 36 = .ok (.getfield 78, 3) := by decide +kernel
theorem dX6_tallyIdle_39 : decode cX6_tallyIdle 39 = .ok (.if_icmp .ge 35, 3) := by decide +kernel
theorem dX6_tallyIdle_42 : decode cX6_tallyIdle 42 = .ok (.aload_n 0, 1) := by decide +kernel
theorem dX6_tallyIdle_43 : decode cX6_tallyIdle 43 = .ok (.getfield 30, 3) := by decide +kernel
theorem dX6_tallyIdle_46 : decode cX6_tallyIdle 46 = .ok (.getfield 104, 3) := by decide +kernel
theorem dX6_tallyIdle_49 : decode cX6_tallyIdle 49 = .ok (.iload_n 3, 1) := by decide +kernel
theorem dX6_tallyIdle_50 : decode cX6_tallyIdle 50 = .ok (.aaload, 1) := by decide +kernel
theorem dX6_tallyIdle_51 : decode cX6_tallyIdle 51 = .ok (.getfield 286, 3) := by decide +kernel
theorem dX6_tallyIdle_54 : decode cX6_tallyIdle 54 = .ok (.iconst (-1), 1) := by decide +kernel
theorem dX6_tallyIdle_55 : decode cX6_tallyIdle 55 = .ok (.if_icmp .ne 13, 3) := by decide +kernel
theorem dX6_tallyIdle_58 : decode cX6_tallyIdle 58 = .ok (.aload_n 0, 1) := by decide +kernel
theorem dX6_tallyIdle_59 : decode cX6_tallyIdle 59 = .ok (.getfield 39, 3) := by decide +kernel
theorem dX6_tallyIdle_62 : decode cX6_tallyIdle 62 = .ok (.iload_n 3, 1) := by decide +kernel
theorem dX6_tallyIdle_63 : decode cX6_tallyIdle 63 = .ok (.dup2, 1) := by decide +kernel
theorem dX6_tallyIdle_64 : decode cX6_tallyIdle 64 = .ok (.iaload, 1) := by decide +kernel
theorem dX6_tallyIdle_65 : decode cX6_tallyIdle 65 = .ok (.iconst 1, 1) := by decide +kernel
theorem dX6_tallyIdle_66 : decode cX6_tallyIdle 66 = .ok (.iadd, 1) := by decide +kernel
theorem dX6_tallyIdle_67 : decode cX6_tallyIdle 67 = .ok (.iastore, 1) := by decide +kernel
theorem dX6_tallyIdle_68 : decode cX6_tallyIdle 68 = .ok (.iinc 3 1, 3) := by decide +kernel
theorem dX6_tallyIdle_71 : decode cX6_tallyIdle 71 = .ok (.goto (-40), 3) := by decide +kernel
theorem dX6_tallyIdle_74 : decode cX6_tallyIdle 74 = .ok (.iinc 2 1, 3) := by decide +kernel
theorem dX6_tallyIdle_77 : decode cX6_tallyIdle 77 = .ok (.goto (-60), 3) := by decide +kernel
theorem dX6_tallyIdle_80 : decode cX6_tallyIdle 80 = .ok (.return_, 1) := by decide +kernel
theorem dX6_clearTally_0 : decode cX6_clearTally 0 = .ok (.iconst 0, 1) := by decide +kernel
theorem dX6_clearTally_1 : decode cX6_clearTally 1 = .ok (.istore_n 1, 1) := by decide +kernel
theorem dX6_clearTally_2 : decode cX6_clearTally 2 = .ok (.iload_n 1, 1) := by decide +kernel
theorem dX6_clearTally_3 : decode cX6_clearTally 3 = .ok (.iconst 3, 1) := by decide +kernel
theorem dX6_clearTally_4 : decode cX6_clearTally 4 = .ok (.if_icmp .ge 16, 3) := by decide +kernel
theorem dX6_clearTally_7 : decode cX6_clearTally 7 = .ok (.aload_n 0, 1) := by decide +kernel
theorem dX6_clearTally_8 : decode cX6_clearTally 8 = .ok (.getfield 39, 3) := by decide +kernel
theorem dX6_clearTally_11 : decode cX6_clearTally 11 = .ok (.iload_n 1, 1) := by decide +kernel
theorem dX6_clearTally_12 : decode cX6_clearTally 12 = .ok (.iconst 0, 1) := by decide +kernel
theorem dX6_clearTally_13 : decode cX6_clearTally 13 = .ok (.iastore, 1) := by decide +kernel
theorem dX6_clearTally_14 : decode cX6_clearTally 14 = .ok (.iinc 1 1, 3) := by decide +kernel
theorem dX6_clearTally_17 : decode cX6_clearTally 17 = .ok (.goto (-15), 3) := by decide +kernel
theorem dX6_clearTally_20 : decode cX6_clearTally 20 = .ok (.return_, 1) := by decide +kernel
set_option maxRecDepth 20000 in
theorem ggX6_most_X6_isNode : GoodIn wsX6_most wsX6_isNode := goodIn_r _ [11, 12, 2, 13, 201, 202, 203, 204, 205, 206, 207, 208, 209, 210, 211, 212, 213, 214, 215, 216, 217, 218, 219, 220] (by decide +kernel) (by decide +kernel)
set_option maxRecDepth 20000 in
theorem gX6_most_X6_isNode : GoodIn wsX6_most (wsV RX6 211 RX6 yX6_isNode wsX6_isNode) := goodIn_app (goodIn_of _ (by decide +kernel)) ggX6_most_X6_isNode
set_option maxRecDepth 20000 in
theorem ggX6_most_X6_isCircuit : GoodIn wsX6_most wsX6_isCircuit := goodIn_r _ [17, 12, 2, 18, 201, 202, 203, 204, 205, 206, 207, 208, 209, 210, 211, 212, 213, 214, 215, 216, 217, 218, 219, 220] (by decide +kernel) (by decide +kernel)
set_option maxRecDepth 20000 in
theorem gX6_most_X6_isCircuit : GoodIn wsX6_most (wsV RX6 135 RX6 yX6_isCircuit wsX6_isCircuit) := goodIn_app (goodIn_of _ (by decide +kernel)) ggX6_most_X6_isCircuit
set_option maxRecDepth 20000 in
theorem ggX6_most_X6_outside : GoodIn wsX6_most wsX6_outside := goodIn_r _ [21] (by decide +kernel) (by decide +kernel)
set_option maxRecDepth 20000 in
theorem gX6_most_X6_outside : GoodIn wsX6_most (va_wsS RX6 55 yX6_outside wsX6_outside) := goodIn_app (goodIn_of _ (by decide +kernel)) ggX6_most_X6_outside
set_option maxRecDepth 20000 in
theorem ggX6_most_X3_copy : GoodIn wsX6_most wsX3_copy := goodIn_r _ [26, 27, 28, 29, 30, 31, 32, 33, 34, 35, 36, 37, 38, 39, 40, 41, 42, 43, 44, 45, 46, 47, 48, 49, 50, 51, 52, 53, 54, 55, 56, 57, 58, 59, 60, 61, 62, 63, 64, 65, 66, 67, 68, 69, 70, 71, 72, 73, 74, 75, 76, 77, 78, 79, 80, 81, 82, 210, 211, 212, 213, 214, 215, 216, 217, 218, 219, 220, 221, 222, 223, 224, 225, 226, 227, 228, 229, 230, 231, 232, 233, 234, 235, 236, 237, 238, 239, 240, 241, 242, 243, 244, 245] (by decide +kernel) (by decide +kernel)
set_option maxRecDepth 20000 in
theorem gX6_most_X3_copy : GoodIn wsX6_most (wsV RX6 270 RX3 yX3_copy wsX3_copy) := goodIn_app (goodIn_of _ (by decide +kernel)) ggX6_most_X3_copy
set_option maxRecDepth 20000 in
theorem ggX6_most_X3_crowd : GoodIn wsX6_most wsX3_crowd := goodIn_r _ [86, 28, 35, 87, 88, 89, 25, 90, 37, 91, 92, 93, 45, 94, 53, 210, 211, 212, 213, 214, 215, 216, 217, 218, 219, 220, 221, 222, 223, 224, 225, 226, 227, 228, 229, 230] (by decide +kernel) (by decide +kernel)
set_option maxRecDepth 20000 in
theorem gX6_most_X3_crowd : GoodIn wsX6_most (wsV RX6 295 RX3 yX3_crowd wsX3_crowd) := goodIn_app (goodIn_of _ (by decide +kernel)) ggX6_most_X3_crowd
set_option maxRecDepth 20000 in
theorem ggX6_most_X3_step : GoodIn wsX6_most wsX3_step := goodIn_r _ [98, 27, 28, 30, 32, 35, 99, 100, 101, 25, 102, 103, 37, 104, 105, 106, 107, 108, 109, 61, 110, 65, 111, 10, 112, 113, 114, 115, 116, 117, 33, 118, 119, 120, 121, 122, 45, 123, 53, 55, 56, 124, 125, 126, 127, 36, 128, 129, 130, 131, 132, 133, 73, 134, 75, 76, 135, 136, 137, 138, 139, 140, 141, 142, 143, 144, 77, 145, 146, 147, 148, 149, 150, 151, 152, 153, 154, 155, 156, 157, 158, 159, 160, 161, 162, 163, 164, 165, 166, 167, 63, 168, 169, 170, 171, 172, 31, 173, 174, 175, 176, 177, 178, 179, 180, 34, 181, 182, 183, 184, 185, 186, 5, 187, 188, 4, 6, 189, 190, 191, 192, 193, 29, 194, 195, 196, 197, 48, 57, 198, 199, 200, 210, 211, 212, 213, 214, 215, 216, 217, 218, 219, 220, 221, 222, 223, 224, 225, 226, 227, 228, 229, 230, 231, 232, 233, 234, 235, 236, 237, 238, 239, 240, 241, 242, 243, 244, 245] (by decide +kernel) (by decide +kernel)
set_option maxRecDepth 20000 in
theorem gX6_most_X3_step : GoodIn wsX6_most (wsV RX6 233 RX3 yX3_step wsX3_step) := goodIn_app (goodIn_of _ (by decide +kernel)) ggX6_most_X3_step
theorem dX6_most_0 : decode cX6_most 0 = .ok (.aload_n 0, 1) := by decide +kernel
theorem dX6_most_1 : decode cX6_most 1 = .ok (.iload_n 1, 1) := by decide +kernel
theorem dX6_most_2 : decode cX6_most 2 = .ok (.invokevirtual 211, 3) := by decide +kernel
theorem dX6_most_5 : decode cX6_most 5 = .ok (.ifCond .eq 32, 3) := by decide +kernel
theorem dX6_most_8 : decode cX6_most 8 = .ok (.aload_n 0, 1) := by decide +kernel
theorem dX6_most_9 : decode cX6_most 9 = .ok (.iload_n 2, 1) := by decide +kernel
theorem dX6_most_10 : decode cX6_most 10 = .ok (.invokevirtual 135, 3) := by decide +kernel
theorem dX6_most_13 : decode cX6_most 13 = .ok (.ifCond .eq 24, 3) := by decide +kernel
theorem dX6_most_16 : decode cX6_most 16 = .ok (.iload_n 3, 1) := by decide +kernel
theorem dX6_most_17 : decode cX6_most 17 = .ok (.iconst 0, 1) := by decide +kernel
theorem dX6_most_18 : decode cX6_most 18 = .ok (.iconst 3, 1) := by decide +kernel
theorem dX6_most_19 : decode cX6_most 19 = .ok (.invokestatic 55, 3) := by decide +kernel
theorem dX6_most_22 : decode cX6_most 22 = .ok (.ifCond .ne 15, 3) := by decide +kernel
theorem dX6_most_25 : decode cX6_most 25 = .ok (.iload 4, 2) := by decide +kernel
theorem dX6_most_27 : decode cX6_most 27 = .ok (.iconst 0, 1) := by decide +kernel
theorem dX6_most_28 : decode cX6_most 28 = .ok (.sipush 200, 3) := by decide +kernel
theorem dX6_most_31 : decode cX6_most 31 = .ok (.invokestatic 55, 3) := by decide +kernel
theorem dX6_most_34 : decode cX6_most 34 = .ok (.ifCond .eq 5, 3) := by decide +kernel
theorem dX6_most_37 : decode cX6_most 37 = .ok (.iconst (-1), 1) := by decide +kernel
theorem dX6_most_38 : decode cX6_most 38 = .ok (.ireturn, 1) := by decide +kernel
theorem dX6_most_39 : decode cX6_most 39 = .ok (.iload_n 3, 1) := by decide +kernel
theorem dX6_most_40 : decode cX6_most 40 = .ok (.iconst 2, 1) := by decide +kernel
theorem dX6_most_41 : decode cX6_most 41 = .ok (.if_icmp .lt 9, 3) := by decide +kernel
theorem dX6_most_44 : decode cX6_most 44 = .ok (.iload_n 1, 1) := by decide +kernel
theorem dX6_most_45 : decode cX6_most 45 = .ok (.ifCond .ne 5, 3) := by decide +kernel
theorem dX6_most_48 : decode cX6_most 48 = .ok (.iconst (-1), 1) := by decide +kernel
theorem dX6_most_49 : decode cX6_most 49 = .ok (.ireturn, 1) := by decide +kernel
theorem dX6_most_50 : decode cX6_most 50 = .ok (.aload_n 0, 1) := by decide +kernel
theorem dX6_most_51 : decode cX6_most 51 = .ok (.getfield 30, 3) := by decide +kernel
theorem dX6_most_54 : decode cX6_most 54 = .ok (.aload_n 0, 1) := by decide +kernel
theorem dX6_most_55 : decode cX6_most 55 = .ok (.getfield 26, 3) := by decide +kernel
theorem dX6_most_58 : decode cX6_most 58 = .ok (.invokevirtual 270, 3) := by decide +kernel
theorem dX6_most_61 : decode cX6_most 61 = .ok (.aload_n 0, 1) := by decide +kernel
theorem dX6_most_62 : decode cX6_most 62 = .ok (.getfield 30, 3) := by decide +kernel
theorem dX6_most_65 : decode cX6_most 65 = .ok (.iload_n 1, 1) := by decide +kernel
theorem dX6_most_66 : decode cX6_most 66 = .ok (.iload_n 2, 1) := by decide +kernel
theorem dX6_most_67 : decode cX6_most 67 = .ok (.iload_n 3, 1) := by decide +kernel
theorem dX6_most_68 : decode cX6_most 68 = .ok (.invokevirtual 295, 3) := by decide +kernel
theorem dX6_most_71 : decode cX6_most 71 = .ok (.istore 5, 2) := by decide +kernel
theorem dX6_most_73 : decode cX6_most 73 = .ok (.iconst 0, 1) := by decide +kernel
theorem dX6_most_74 : decode cX6_most 74 = .ok (.istore 6, 2) := by decide +kernel
theorem dX6_most_76 : decode cX6_most 76 = .ok (.iload 6, 2) := by decide +kernel
theorem dX6_most_78 : decode cX6_most 78 = .ok (.iload 4, 2) := by decide +kernel
theorem dX6_most_80 : decode cX6_most 80 = .ok (.if_icmp .ge 33, 3) := by decide +kernel
theorem dX6_most_83 : decode cX6_most 83 = .ok (.aload_n 0, 1) := by decide +kernel
theorem dX6_most_84 : decode cX6_most 84 = .ok (.getfield 30, 3) := by decide +kernel
theorem dX6_most_87 : decode cX6_most 87 = .ok (.invokevirtual 233, 3) := by decide +kernel
theorem dX6_most_90 : decode cX6_most 90 = .ok (.iload 5, 2) := by decide +kernel
theorem dX6_most_92 : decode cX6_most 92 = .ok (.aload_n 0, 1) := by decide +kernel
theorem dX6_most_93 : decode cX6_most 93 = .ok (.getfield 30, 3) := by decide +kernel
theorem dX6_most_96 : decode cX6_most 96 = .ok (.iload_n 1, 1) := by decide +kernel
theorem dX6_most_97 : decode cX6_most 97 = .ok (.iload_n 2, 1) := by decide +kernel
theorem dX6_most_98 : decode cX6_most 98 = .ok (.iload_n 3, 1) := by decide +kernel
theorem dX6_most_99 : decode cX6_most 99 = .ok (.invokevirtual 295, 3) := by decide +kernel
theorem dX6_most_102 : decode cX6_most 102 = .ok (.invokestatic 258, 3) := by decide +kernel
theorem dX6_most_105 : decode cX6_most 105 = .ok (.istore 5, 2) := by decide +kernel
theorem dX6_most_107 : decode cX6_most 107 = .ok (.iinc 6 1, 3) := by decide +kernel
theorem dX6_most_110 : decode cX6_most 110 = .ok (.goto (-34), 3) := by decide +kernel
theorem dX6_most_113 : decode cX6_most 113 = .ok (.iload 5, 2) := by decide +kernel
theorem dX6_most_115 : decode cX6_most 115 = .ok (.ireturn, 1) := by decide +kernel
set_option maxRecDepth 20000 in
theorem ggX6_healed_X3_copy : GoodIn wsX6_healed wsX3_copy := goodIn_r _ [8, 9, 10, 11, 12, 13, 14, 15, 16, 17, 18, 19, 20, 21, 22, 23, 24, 25, 26, 27, 28, 29, 30, 31, 32, 33, 34, 35, 36, 37, 38, 39, 40, 41, 42, 43, 44, 45, 46, 47, 48, 49, 50, 51, 52, 53, 54, 55, 56, 57, 58, 59, 60, 61, 62, 63, 64, 127, 128, 129, 130, 131, 132, 133, 134, 135, 136, 137, 138, 139, 140, 141, 142, 143, 144, 145, 146, 147, 148, 149, 150, 151, 152, 153, 154, 155, 156, 157, 158, 159, 160, 161, 162] (by decide +kernel) (by decide +kernel)
set_option maxRecDepth 20000 in
theorem gX6_healed_X3_copy : GoodIn wsX6_healed (wsV RX6 270 RX3 yX3_copy wsX3_copy) := goodIn_app (goodIn_of _ (by decide +kernel)) ggX6_healed_X3_copy
set_option maxRecDepth 20000 in
theorem ggX6_healed_X3_unknown : GoodIn wsX6_healed wsX3_unknown := goodIn_r _ [68, 9, 10, 17, 69, 70, 71, 127, 128, 129, 130, 131, 132, 133, 134, 135, 136, 137, 138, 139, 140, 141, 142, 143, 144, 145, 146, 147, 148, 149, 150, 151, 152, 153, 154] (by decide +kernel) (by decide +kernel)
set_option maxRecDepth 20000 in
theorem gX6_healed_X3_unknown : GoodIn wsX6_healed (wsV RX6 298 RX3 yX3_unknown wsX3_unknown) := goodIn_app (goodIn_of _ (by decide +kernel)) ggX6_healed_X3_unknown
set_option maxRecDepth 20000 in
theorem ggX6_healed_X3_restingStep : GoodIn wsX6_healed wsX3_restingStep := goodIn_r _ [75, 9, 14, 76, 77, 78, 7, 79, 17, 80, 19, 10, 81, 69, 82, 83, 84, 85, 43, 86, 47, 87, 88, 89, 90, 91, 92, 93, 94, 15, 95, 71, 96, 97, 98, 27, 99, 35, 37, 38, 100, 101, 102, 103, 104, 13, 105, 106, 107, 108, 109, 110, 111, 112, 113, 45, 114, 115, 116, 117, 16, 127, 128, 129, 130, 131, 132, 133, 134, 135, 136, 137, 138, 139, 140, 141, 142, 143, 144, 145, 146, 147, 148, 149, 150, 151, 152, 153, 154] (by decide +kernel) (by decide +kernel)
set_option maxRecDepth 20000 in
theorem gX6_healed_X3_restingStep : GoodIn wsX6_healed (wsV RX6 301 RX3 yX3_restingStep wsX3_restingStep) := goodIn_app (goodIn_of _ (by decide +kernel)) ggX6_healed_X3_restingStep
theorem dX6_healed_0 : decode cX6_healed 0 = .ok (.aload_n 0, 1) := by decide +kernel
theorem dX6_healed_1 : decode cX6_healed 1 = .ok (.getfield 70, 3) := by decide +kernel
theorem dX6_healed_4 : decode cX6_healed 4 = .ok (.ifCond .ne 5, 3) := by decide +kernel
theorem dX6_healed_7 : decode cX6_healed 7 = .ok (.iconst (-1), 1) := by decide +kernel
theorem dX6_healed_8 : decode cX6_healed 8 = .ok (.ireturn, 1) := by decide +kernel
theorem dX6_healed_9 : decode cX6_healed 9 = .ok (.aload_n 0, 1) := by decide +kernel
theorem dX6_healed_10 : decode cX6_healed 10 = .ok (.getfield 30, 3) := by decide +kernel
theorem dX6_healed_13 : decode cX6_healed 13 = .ok (.aload_n 0, 1) := by decide +kernel
theorem dX6_healed_14 : decode cX6_healed 14 = .ok (.getfield 26, 3) := by decide +kernel
theorem dX6_healed_17 : decode cX6_healed 17 = .ok (.invokevirtual 270, 3) := by decide +kernel
theorem dX6_healed_20 : decode cX6_healed 20 = .ok (.iconst 0, 1) := by decide +kernel
theorem dX6_healed_21 : decode cX6_healed 21 = .ok (.istore_n 1, 1) := by decide +kernel
theorem dX6_healed_22 : decode cX6_healed 22 = .ok (.iload_n 1, 1) := by decide +kernel
theorem dX6_healed_23 : decode cX6_healed 23 = .ok (.sipush 200, 3) := by decide +kernel
theorem dX6_healed_26 : decode cX6_healed 26 = .ok (.if_icmp .ge 28, 3) := by decide +kernel
theorem dX6_healed_29 : decode cX6_healed 29 = .ok (.aload_n 0, 1) := by decide +kernel
theorem dX6_healed_30 : decode cX6_healed 30 = .ok (.getfield 30, 3) := by decide +kernel
theorem dX6_healed_33 : decode cX6_healed 33 = .ok (.invokevirtual 298, 3) := by decide +kernel
theorem dX6_healed_36 : decode cX6_healed 36 = .ok (.ifCond .ne 5, 3) := by decide +kernel
theorem dX6_healed_39 : decode cX6_healed 39 = .ok (.iload_n 1, 1) := by decide +kernel
theorem dX6_healed_40 : decode cX6_healed 40 = .ok (.ireturn, 1) := by decide +kernel
theorem dX6_healed_41 : decode cX6_healed 41 = .ok (.aload_n 0, 1) := by decide +kernel
theorem dX6_healed_42 : decode cX6_healed 42 = .ok (.getfield 30, 3) := by decide +kernel
theorem dX6_healed_45 : decode cX6_healed 45 = .ok (.invokevirtual 301, 3) := by decide +kernel
theorem dX6_healed_48 : decode cX6_healed 48 = .ok (.iinc 1 1, 3) := by decide +kernel
theorem dX6_healed_51 : decode cX6_healed 51 = .ok (.goto (-29), 3) := by decide +kernel
theorem dX6_healed_54 : decode cX6_healed 54 = .ok (.aload_n 0, 1) := by decide +kernel
theorem dX6_healed_55 : decode cX6_healed 55 = .ok (.getfield 30, 3) := by decide +kernel
theorem dX6_healed_58 : decode cX6_healed 58 = .ok (.invokevirtual 298, 3) := by decide +kernel
theorem dX6_healed_61 : decode cX6_healed 61 = .ok (.ifCond .ne 9, 3) := by decide +kernel
theorem dX6_healed_64 : decode cX6_healed 64 = .ok (.sipush 200, 3) := by decide +kernel
theorem dX6_healed_67 : decode cX6_healed 67 = .ok (.goto 4, 3) := by decide +kernel
theorem dX6_healed_70 : decode cX6_healed 70 = .ok (.iconst (-1), 1) := by decide +kernel
theorem dX6_healed_71 : decode cX6_healed 71 = .ok (.ireturn, 1) := by decide +kernel
set_option maxRecDepth 20000 in
theorem ggX6_loss_X6_outside : GoodIn wsX6_loss wsX6_outside := goodIn_r _ [6] (by decide +kernel) (by decide +kernel)
set_option maxRecDepth 20000 in
theorem gX6_loss_X6_outside : GoodIn wsX6_loss (va_wsS RX6 55 yX6_outside wsX6_outside) := goodIn_app (goodIn_of _ (by decide +kernel)) ggX6_loss_X6_outside
set_option maxRecDepth 20000 in
theorem ggX6_loss_X6_goApart : GoodIn wsX6_loss wsX6_goApart := goodIn_r _ [10, 11, 12, 13, 14, 15, 16, 17, 18, 19, 20, 21, 22, 23, 24, 25, 26, 27, 28, 29, 30, 31, 32, 33, 34, 35, 36, 37, 38, 39, 40, 41, 42, 43, 44, 45, 46, 47, 48, 49, 50, 51, 52, 53, 54, 55, 56, 57, 58, 59, 60, 61, 62, 63, 64, 65, 66, 67, 68, 69, 70, 71, 72, 73, 74, 75, 76, 77, 78, 79, 80, 81, 82, 83, 84, 85, 86, 87, 88, 89, 90, 91, 92, 93, 94, 5, 95, 96, 97, 98, 99, 100, 101, 102, 103, 104, 105, 106, 107, 108, 109, 110, 111, 112, 113, 114, 115, 116, 117, 118, 119, 120, 121, 122, 123, 124, 125, 126, 127, 128, 129, 130, 131, 132, 133, 134, 135, 136, 137, 138, 139, 140, 141, 142, 143, 144, 145, 146, 147, 148, 149, 150, 151, 152, 153, 154, 155, 156, 157, 158, 159, 160, 161, 162, 163, 164, 165, 166, 167, 168, 169, 170, 171, 172, 173, 174, 175, 176, 177, 178, 179, 180, 181, 182, 183, 184, 185, 186, 202, 203, 204, 205, 206, 207, 208, 209, 210, 211, 212, 213, 214, 215, 216, 217, 218, 219, 220, 221, 222, 223, 224, 225, 226, 227, 228, 229, 230, 231, 232, 233, 234, 235, 236, 237, 238, 239, 240, 241, 242, 243, 244, 245, 246] (by decide +kernel) (by decide +kernel)
set_option maxRecDepth 20000 in
theorem gX6_loss_X6_goApart : GoodIn wsX6_loss (wsV RX6 267 RX6 yX6_goApart wsX6_goApart) := goodIn_app (goodIn_of _ (by decide +kernel)) ggX6_loss_X6_goApart
set_option maxRecDepth 20000 in
theorem ggX6_loss_X6_deliveredApart : GoodIn wsX6_loss wsX6_deliveredApart := goodIn_r _ [190, 11, 12, 191, 192, 193, 16, 194, 19, 27, 123, 202, 203, 204, 205, 206, 207, 208, 209, 210, 211, 212, 213, 214, 215, 216, 217, 218, 219, 220, 221, 239, 240, 241, 242, 243, 244, 245, 246] (by decide +kernel) (by decide +kernel)
set_option maxRecDepth 20000 in
theorem gX6_loss_X6_deliveredApart : GoodIn wsX6_loss (wsV RX6 277 RX6 yX6_deliveredApart wsX6_deliveredApart) := goodIn_app (goodIn_of _ (by decide +kernel)) ggX6_loss_X6_deliveredApart
set_option maxRecDepth 20000 in
theorem ggX6_loss_X6_deliveredJammed : GoodIn wsX6_loss wsX6_deliveredJammed := goodIn_r _ [198, 11, 12, 199, 200, 201, 13, 14, 15, 16, 17, 18, 19, 20, 21, 22, 23, 24, 25, 26, 27, 28, 29, 30, 31, 32, 33, 34, 35, 36, 37, 38, 39, 40, 41, 42, 43, 44, 45, 46, 47, 48, 49, 50, 51, 52, 53, 54, 55, 56, 57, 58, 59, 60, 61, 62, 63, 64, 65, 66, 67, 68, 69, 70, 71, 72, 73, 74, 75, 76, 77, 78, 79, 80, 81, 82, 83, 84, 85, 86, 87, 88, 89, 90, 91, 92, 93, 94, 5, 95, 96, 97, 98, 99, 100, 101, 102, 103, 104, 105, 106, 107, 108, 109, 110, 111, 112, 113, 114, 115, 116, 117, 118, 119, 120, 121, 122, 123, 124, 125, 126, 127, 128, 129, 130, 131, 132, 133, 134, 135, 136, 137, 138, 139, 140, 141, 142, 143, 144, 145, 146, 147, 148, 149, 150, 151, 152, 153, 154, 155, 156, 157, 158, 159, 160, 161, 162, 163, 164, 165, 166, 167, 168, 169, 170, 171, 172, 173, 174, 175, 176, 177, 178, 179, 180, 181, 182, 183, 184, 185, 186, 187, 188, 189, 190, 191, 192, 193, 194, 202, 203, 204, 205, 206, 207, 208, 209, 210, 211, 212, 213, 214, 215, 216, 217, 218, 219, 220, 221, 222, 223, 224, 225, 226, 227, 228, 229, 230, 231, 232, 233, 234, 235, 236, 237, 238, 239, 240, 241, 242, 243, 244, 245, 246] (by decide +kernel) (by decide +kernel)
set_option maxRecDepth 20000 in
theorem gX6_loss_X6_deliveredJammed : GoodIn wsX6_loss (wsV RX6 304 RX6 yX6_deliveredJammed wsX6_deliveredJammed) := goodIn_app (goodIn_of _ (by decide +kernel)) ggX6_loss_X6_deliveredJammed
theorem dX6_loss_0 : decode cX6_loss 0 = .ok (.aload_n 0, 1) := by decide +kernel
theorem dX6_loss_1 : decode cX6_loss 1 = .ok (.getfield 70, 3) := by decide +kernel
theorem dX6_loss_4 : decode cX6_loss 4 = .ok (.ifCond .eq 24, 3) := by decide +kernel
theorem dX6_loss_7 : decode cX6_loss 7 = .ok (.iload_n 1, 1) := by decide +kernel
theorem dX6_loss_8 : decode cX6_loss 8 = .ok (.iconst 1, 1) := by decide +kernel
theorem dX6_loss_9 : decode cX6_loss 9 = .ok (.bipush 9, 2) := by decide +kernel
theorem dX6_loss_11 : decode cX6_loss 11 = .ok (.invokestatic 55, 3) := by decide +kernel
theorem dX6_loss_14 : decode cX6_loss 14 = .ok (.ifCond .ne 14, 3) := by decide +kernel
theorem dX6_loss_17 : decode cX6_loss 17 = .ok (.iload_n 2, 1) := by decide +kernel
theorem dX6_loss_18 : decode cX6_loss 18 = .ok (.iconst 1, 1) := by decide +kernel
theorem dX6_loss_19 : decode cX6_loss 19 = .ok (.sipush 200, 3) := by decide +kernel
theorem dX6_loss_22 : decode cX6_loss 22 = .ok (.invokestatic 55, 3) := by decide +kernel
theorem dX6_loss_25 : decode cX6_loss 25 = .ok (.ifCond .eq 6, 3) := by decide +kernel
theorem dX6_loss_28 : decode cX6_loss 28 = .ok (.ldc 77, 2) := by decide +kernel
theorem dX6_loss_30 : decode cX6_loss 30 = .ok (.ireturn, 1) := by decide +kernel
theorem dX6_loss_31 : decode cX6_loss 31 = .ok (.aload_n 0, 1) := by decide +kernel
theorem dX6_loss_32 : decode cX6_loss 32 = .ok (.iload_n 2, 1) := by decide +kernel
theorem dX6_loss_33 : decode cX6_loss 33 = .ok (.invokevirtual 267, 3) := by decide +kernel
theorem dX6_loss_36 : decode cX6_loss 36 = .ok (.aload_n 0, 1) := by decide +kernel
theorem dX6_loss_37 : decode cX6_loss 37 = .ok (.invokevirtual 277, 3) := by decide +kernel
theorem dX6_loss_40 : decode cX6_loss 40 = .ok (.aload_n 0, 1) := by decide +kernel
theorem dX6_loss_41 : decode cX6_loss 41 = .ok (.iload_n 1, 1) := by decide +kernel
theorem dX6_loss_42 : decode cX6_loss 42 = .ok (.iload_n 2, 1) := by decide +kernel
theorem dX6_loss_43 : decode cX6_loss 43 = .ok (.invokevirtual 304, 3) := by decide +kernel
theorem dX6_loss_46 : decode cX6_loss 46 = .ok (.isub, 1) := by decide +kernel
theorem dX6_loss_47 : decode cX6_loss 47 = .ok (.ireturn, 1) := by decide +kernel
set_option maxRecDepth 20000 in
theorem ggX6_deliveredJammed_X3_copy : GoodIn wsX6_deliveredJammed wsX3_copy := goodIn_r _ [10, 11, 12, 13, 14, 15, 16, 17, 18, 19, 20, 21, 22, 23, 24, 25, 26, 27, 28, 29, 30, 31, 32, 33, 34, 35, 36, 37, 38, 39, 40, 41, 42, 43, 44, 45, 46, 47, 48, 49, 50, 51, 52, 53, 54, 55, 56, 57, 58, 59, 60, 61, 62, 63, 64, 65, 66, 198, 199, 200, 201, 202, 203, 204, 205, 206, 207, 208, 209, 210, 211, 212, 213, 214, 215, 216, 217, 218, 219, 220, 221, 222, 223, 224, 225, 226, 227, 228, 229, 230, 231, 232, 233] (by decide +kernel) (by decide +kernel)
set_option maxRecDepth 20000 in
theorem gX6_deliveredJammed_X3_copy : GoodIn wsX6_deliveredJammed (wsV RX6 270 RX3 yX3_copy wsX3_copy) := goodIn_app (goodIn_of _ (by decide +kernel)) ggX6_deliveredJammed_X3_copy
set_option maxRecDepth 20000 in
theorem ggX6_deliveredJammed_X3_steps : GoodIn wsX6_deliveredJammed wsX3_steps := goodIn_r _ [70, 71, 72, 73, 9, 74, 11, 12, 14, 16, 19, 75, 76, 77, 78, 79, 21, 80, 81, 82, 83, 84, 85, 45, 86, 49, 87, 88, 89, 90, 91, 92, 93, 94, 17, 95, 96, 97, 98, 99, 29, 100, 37, 39, 40, 101, 102, 103, 104, 20, 105, 106, 107, 108, 109, 110, 57, 111, 59, 60, 112, 113, 114, 115, 116, 117, 118, 119, 120, 121, 61, 122, 123, 124, 125, 126, 127, 128, 129, 130, 131, 132, 133, 134, 135, 136, 137, 138, 139, 140, 141, 142, 143, 144, 47, 145, 146, 147, 148, 149, 15, 150, 151, 152, 153, 154, 155, 156, 157, 18, 158, 159, 160, 161, 162, 163, 164, 165, 166, 167, 168, 169, 170, 171, 172, 173, 13, 174, 175, 176, 177, 32, 41, 178, 179, 180, 198, 199, 200, 201, 202, 203, 204, 205, 206, 207, 208, 209, 210, 211, 212, 213, 214, 215, 216, 217, 218, 219, 220, 221, 222, 223, 224, 225, 226, 227, 228, 229, 230, 231, 232, 233] (by decide +kernel) (by decide +kernel)
set_option maxRecDepth 20000 in
theorem gX6_deliveredJammed_X3_steps : GoodIn wsX6_deliveredJammed (wsV RX6 274 RX3 yX3_steps wsX3_steps) := goodIn_app (goodIn_of _ (by decide +kernel)) ggX6_deliveredJammed_X3_steps
set_option maxRecDepth 20000 in
theorem ggX6_deliveredJammed_X6_deliveredApart : GoodIn wsX6_deliveredJammed wsX6_deliveredApart := goodIn_r _ [184, 1, 2, 185, 186, 187, 9, 188, 12, 20, 117, 189, 190, 191, 192, 193, 194, 195, 196, 197, 198, 199, 200, 201, 202, 203, 204, 205, 206, 207, 208, 226, 227, 228, 229, 230, 231, 232, 233] (by decide +kernel) (by decide +kernel)
set_option maxRecDepth 20000 in
theorem gX6_deliveredJammed_X6_deliveredApart : GoodIn wsX6_deliveredJammed (wsV RX6 277 RX6 yX6_deliveredApart wsX6_deliveredApart) := goodIn_app (goodIn_of _ (by decide +kernel)) ggX6_deliveredJammed_X6_deliveredApart
theorem dX6_deliveredJammed_0 : decode cX6_deliveredJammed 0 = .ok (.aload_n 0, 1) := by decide +kernel
theorem dX6_deliveredJammed_1 : decode cX6_deliveredJammed 1 = .ok (.getfield 30, 3) := by decide +kernel
theorem dX6_deliveredJammed_4 : decode cX6_deliveredJammed 4 = .ok (.aload_n 0, 1) := by decide +kernel
theorem dX6_deliveredJammed_5 : decode cX6_deliveredJammed 5 = .ok (.getfield 26, 3) := by decide +kernel
theorem dX6_deliveredJammed_8 : decode cX6_deliveredJammed 8 = .ok (.invokevirtual 270, 3) := by decide +kernel
theorem dX6_deliveredJammed_11 : decode cX6_deliveredJammed 11 = .ok (.iconst 0, 1) := by decide +kernel
theorem dX6_deliveredJammed_12 : decode cX6_deliveredJammed 12 = .ok (.istore_n 3, 1) := by decide +kernel
theorem dX6_deliveredJammed_13 : decode cX6_deliveredJammed 13 = .ok (.iload_n 3, 1) := by decide +kernel
theorem dX6_deliveredJammed_14 : decode cX6_deliveredJammed 14 = .ok (.aload_n 0, 1) := by decide +kernel
theorem dX6_deliveredJammed_15 : decode cX6_deliveredJammed 15 = .ok (.getfield 30, 3) := by decide +kernel
theorem dX6_deliveredJammed_18 : decode cX6_deliveredJammed 18 = .ok (.getfield 78, 3) := by decide +kernel
theorem dX6_deliveredJammed_21 : decode cX6_deliveredJammed 21 = .ok (.if_icmp .ge 22, 3) := by decide +kernel
theorem dX6_deliveredJammed_24 : decode cX6_deliveredJammed 24 = .ok (.aload_n 0, 1) := by decide +kernel
theorem dX6_deliveredJammed_25 : decode cX6_deliveredJammed 25 = .ok (.getfield 30, 3) := by decide +kernel
theorem dX6_deliveredJammed_28 : decode cX6_deliveredJammed 28 = .ok (.getfield 104, 3) := by decide +kernel
theorem dX6_deliveredJammed_31 : decode cX6_deliveredJammed 31 = .ok (.iload_n 3, 1) := by decide +kernel
theorem dX6_deliveredJammed_32 : decode cX6_deliveredJammed 32 = .ok (.aaload, 1) := by decide +kernel
theorem dX6_deliveredJammed_33 : decode cX6_deliveredJammed 33 = .ok (.iload_n 1, 1) := by decide +kernel
theorem dX6_deliveredJammed_34 : decode cX6_deliveredJammed 34 = .ok (.putfield 119, 3) := by decide +kernel
theorem dX6_deliveredJammed_37 : decode cX6_deliveredJammed 37 = .ok (.iinc 3 1, 3) := by decide +kernel
theorem dX6_deliveredJammed_40 : decode cX6_deliveredJammed 40 = .ok (.goto (-27), 3) := by decide +kernel
theorem dX6_deliveredJammed_43 : decode cX6_deliveredJammed 43 = .ok (.aload_n 0, 1) := by decide +kernel
theorem dX6_deliveredJammed_44 : decode cX6_deliveredJammed 44 = .ok (.getfield 30, 3) := by decide +kernel
theorem dX6_deliveredJammed_47 : decode cX6_deliveredJammed 47 = .ok (.iload_n 2, 1) := by decide +kernel
theorem dX6_deliveredJammed_48 : decode cX6_deliveredJammed 48 = .ok (.invokevirtual 274, 3) := by decide +kernel
theorem dX6_deliveredJammed_51 : decode cX6_deliveredJammed 51 = .ok (.aload_n 0, 1) := by decide +kernel
theorem dX6_deliveredJammed_52 : decode cX6_deliveredJammed 52 = .ok (.invokevirtual 277, 3) := by decide +kernel
theorem dX6_deliveredJammed_55 : decode cX6_deliveredJammed 55 = .ok (.ireturn, 1) := by decide +kernel
set_option maxRecDepth 20000 in
theorem ggX6_fair_X6_outside : GoodIn wsX6_fair wsX6_outside := goodIn_r _ [14] (by decide +kernel) (by decide +kernel)
set_option maxRecDepth 20000 in
theorem gX6_fair_X6_outside : GoodIn wsX6_fair (va_wsS RX6 55 yX6_outside wsX6_outside) := goodIn_app (goodIn_of _ (by decide +kernel)) ggX6_fair_X6_outside
set_option maxRecDepth 20000 in
theorem ggX6_fair_X6_goApart : GoodIn wsX6_fair wsX6_goApart := goodIn_r _ [18, 19, 2, 20, 21, 22, 23, 24, 25, 26, 27, 28, 29, 30, 31, 32, 33, 34, 35, 36, 37, 38, 39, 40, 41, 42, 43, 44, 45, 46, 47, 48, 49, 50, 51, 52, 53, 54, 55, 56, 57, 58, 59, 60, 61, 62, 63, 64, 65, 66, 67, 68, 69, 70, 71, 72, 73, 74, 75, 76, 77, 78, 79, 80, 81, 82, 83, 84, 85, 86, 87, 88, 89, 90, 91, 92, 93, 94, 95, 96, 97, 98, 99, 100, 101, 13, 102, 103, 104, 105, 106, 107, 108, 109, 110, 111, 112, 113, 114, 115, 116, 117, 118, 119, 120, 121, 122, 123, 124, 125, 126, 127, 128, 129, 130, 131, 132, 133, 134, 135, 136, 137, 138, 139, 140, 141, 142, 143, 144, 145, 146, 147, 148, 149, 150, 151, 152, 153, 154, 155, 156, 157, 158, 159, 160, 161, 162, 163, 164, 165, 166, 167, 168, 169, 170, 171, 172, 173, 174, 175, 9, 6, 10, 176, 5, 7, 177, 178, 179, 180, 181, 182, 183, 184, 185, 186, 187, 188, 195, 196, 197, 198, 199, 200, 201, 202, 203, 204, 205, 206, 207, 208, 209, 210, 211, 212, 213, 214, 215, 216, 217, 218, 219, 220, 221, 222, 223, 224, 225, 226, 227, 228, 229, 230, 231, 232, 233, 234, 235, 236, 237, 238, 239] (by decide +kernel) (by decide +kernel)
set_option maxRecDepth 20000 in
theorem gX6_fair_X6_goApart : GoodIn wsX6_fair (wsV RX6 267 RX6 yX6_goApart wsX6_goApart) := goodIn_app (goodIn_of _ (by decide +kernel)) ggX6_fair_X6_goApart
set_option maxRecDepth 20000 in
theorem ggX6_fair_X6_deliveredApartOf : GoodIn wsX6_fair wsX6_deliveredApartOf := goodIn_r _ [192, 19, 193, 194, 2, 195, 196, 197, 198, 199, 200, 201, 202, 203, 204, 205, 206, 207, 208, 209, 210, 211, 212, 213, 214, 232, 233, 234, 235, 236, 237, 238, 239] (by decide +kernel) (by decide +kernel)
set_option maxRecDepth 20000 in
theorem gX6_fair_X6_deliveredApartOf : GoodIn wsX6_fair (wsV RX6 280 RX6 yX6_deliveredApartOf wsX6_deliveredApartOf) := goodIn_app (goodIn_of _ (by decide +kernel)) ggX6_fair_X6_deliveredApartOf
theorem dX6_fair_0 : decode cX6_fair 0 = .ok (.aload_n 0, 1) := by decide +kernel
theorem dX6_fair_1 : decode cX6_fair 1 = .ok (.getfield 70, 3) := by decide +kernel
theorem dX6_fair_4 : decode cX6_fair 4 = .ok (.ifCond .eq 14, 3) := by decide +kernel
theorem dX6_fair_7 : decode cX6_fair 7 = .ok (.iload_n 1, 1) := by decide +kernel
theorem dX6_fair_8 : decode cX6_fair 8 = .ok (.iconst 1, 1) := by decide +kernel
theorem dX6_fair_9 : decode cX6_fair 9 = .ok (.sipush 200, 3) := by decide +kernel
theorem dX6_fair_12 : decode cX6_fair 12 = .ok (.invokestatic 55, 3) := by decide +kernel
theorem dX6_fair_15 : decode cX6_fair 15 = .ok (.ifCond .eq 5, 3) := by decide +kernel
theorem dX6_fair_18 : decode cX6_fair 18 = .ok (.iconst (-1), 1) := by decide +kernel
theorem dX6_fair_19 : decode cX6_fair 19 = .ok (.ireturn, 1) := by decide +kernel
theorem dX6_fair_20 : decode cX6_fair 20 = .ok (.aload_n 0, 1) := by decide +kernel
theorem dX6_fair_21 : decode cX6_fair 21 = .ok (.iload_n 1, 1) := by decide +kernel
theorem dX6_fair_22 : decode cX6_fair 22 = .ok (.invokevirtual 267, 3) := by decide +kernel
theorem dX6_fair_25 : decode cX6_fair 25 = .ok (.aload_n 0, 1) := by decide +kernel
theorem dX6_fair_26 : decode cX6_fair 26 = .ok (.iconst 0, 1) := by decide +kernel
theorem dX6_fair_27 : decode cX6_fair 27 = .ok (.invokevirtual 280, 3) := by decide +kernel
theorem dX6_fair_30 : decode cX6_fair 30 = .ok (.istore_n 2, 1) := by decide +kernel
theorem dX6_fair_31 : decode cX6_fair 31 = .ok (.iload_n 2, 1) := by decide +kernel
theorem dX6_fair_32 : decode cX6_fair 32 = .ok (.istore_n 3, 1) := by decide +kernel
theorem dX6_fair_33 : decode cX6_fair 33 = .ok (.iconst 1, 1) := by decide +kernel
theorem dX6_fair_34 : decode cX6_fair 34 = .ok (.istore 4, 2) := by decide +kernel
theorem dX6_fair_36 : decode cX6_fair 36 = .ok (.iload 4, 2) := by decide +kernel
theorem dX6_fair_38 : decode cX6_fair 38 = .ok (.aload_n 0, 1) := by decide +kernel
theorem dX6_fair_39 : decode cX6_fair 39 = .ok (.getfield 26, 3) := by decide +kernel
theorem dX6_fair_42 : decode cX6_fair 42 = .ok (.getfield 74, 3) := by decide +kernel
theorem dX6_fair_45 : decode cX6_fair 45 = .ok (.if_icmp .ge 31, 3) := by decide +kernel
theorem dX6_fair_48 : decode cX6_fair 48 = .ok (.aload_n 0, 1) := by decide +kernel
theorem dX6_fair_49 : decode cX6_fair 49 = .ok (.iload 4, 2) := by decide +kernel
theorem dX6_fair_51 : decode cX6_fair 51 = .ok (.invokevirtual 280, 3) := by decide +kernel
theorem dX6_fair_54 : decode cX6_fair 54 = .ok (.istore 5, 2) := by decide +kernel
theorem dX6_fair_56 : decode cX6_fair 56 = .ok (.iload_n 2, 1) := by decide +kernel
theorem dX6_fair_57 : decode cX6_fair 57 = .ok (.iload 5, 2) := by decide +kernel
theorem dX6_fair_59 : decode cX6_fair 59 = .ok (.invokestatic 258, 3) := by decide +kernel
theorem dX6_fair_62 : decode cX6_fair 62 = .ok (.istore_n 2, 1) := by decide +kernel
theorem dX6_fair_63 : decode cX6_fair 63 = .ok (.iload_n 3, 1) := by decide +kernel
theorem dX6_fair_64 : decode cX6_fair 64 = .ok (.iload 5, 2) := by decide +kernel
theorem dX6_fair_66 : decode cX6_fair 66 = .ok (.invokestatic 307, 3) := by decide +kernel
theorem dX6_fair_69 : decode cX6_fair 69 = .ok (.istore_n 3, 1) := by decide +kernel
theorem dX6_fair_70 : decode cX6_fair 70 = .ok (.iinc 4 1, 3) := by decide +kernel
theorem dX6_fair_73 : decode cX6_fair 73 = .ok (.goto (-37), 3) := by decide +kernel
theorem dX6_fair_76 : decode cX6_fair 76 = .ok (.iload_n 2, 1) := by decide +kernel
theorem dX6_fair_77 : decode cX6_fair 77 = .ok (.iload_n 3, 1) := by decide +kernel
theorem dX6_fair_78 : decode cX6_fair 78 = .ok (.isub, 1) := by decide +kernel
theorem dX6_fair_79 : decode cX6_fair 79 = .ok (.ireturn, 1) := by decide +kernel
set_option maxRecDepth 20000 in
theorem ggX6_learns_X6_isLane : GoodIn wsX6_learns wsX6_isLane := goodIn_r _ [11, 12, 13, 14, 10, 15, 16, 1, 17, 18, 19, 20, 21, 22, 194, 195, 196, 197, 198, 199, 200, 201, 202, 203, 204, 205, 206, 207, 208, 209, 210, 211, 212, 213] (by decide +kernel) (by decide +kernel)
set_option maxRecDepth 20000 in
theorem gX6_learns_X6_isLane : GoodIn wsX6_learns (wsV RX6 167 RX6 yX6_isLane wsX6_isLane) := goodIn_app (goodIn_of _ (by decide +kernel)) ggX6_learns_X6_isLane
set_option maxRecDepth 20000 in
theorem ggX6_learns_X3_copy : GoodIn wsX6_learns wsX3_copy := goodIn_r _ [27, 28, 29, 30, 31, 32, 33, 34, 35, 36, 37, 38, 39, 40, 41, 42, 43, 44, 45, 46, 47, 48, 49, 50, 51, 52, 53, 54, 55, 56, 57, 58, 59, 60, 61, 62, 63, 64, 65, 66, 67, 68, 69, 70, 71, 72, 73, 74, 75, 76, 77, 78, 79, 80, 81, 82, 83, 203, 204, 205, 206, 207, 208, 209, 210, 211, 212, 213, 214, 215, 216, 217, 218, 219, 220, 221, 222, 223, 224, 225, 226, 227, 228, 229, 230, 231, 232, 233, 234, 235, 236, 237, 238] (by decide +kernel) (by decide +kernel)
set_option maxRecDepth 20000 in
theorem gX6_learns_X3_copy : GoodIn wsX6_learns (wsV RX6 270 RX3 yX3_copy wsX3_copy) := goodIn_app (goodIn_of _ (by decide +kernel)) ggX6_learns_X3_copy
set_option maxRecDepth 20000 in
theorem ggX6_learns_X6_reaches : GoodIn wsX6_learns wsX6_reaches := goodIn_r _ [86] (by decide +kernel) (by decide +kernel)
set_option maxRecDepth 20000 in
theorem gX6_learns_X6_reaches : GoodIn wsX6_learns (va_wsS RX6 310 yX6_reaches wsX6_reaches) := goodIn_app (goodIn_of _ (by decide +kernel)) ggX6_learns_X6_reaches
set_option maxRecDepth 20000 in
theorem ggX6_learns_X3_step : GoodIn wsX6_learns wsX3_step := goodIn_r _ [90, 28, 29, 31, 33, 36, 91, 92, 93, 26, 94, 95, 38, 96, 97, 98, 99, 100, 101, 62, 102, 66, 85, 10, 86, 103, 104, 105, 106, 107, 34, 108, 109, 110, 111, 112, 46, 113, 54, 56, 57, 114, 115, 116, 117, 37, 118, 119, 120, 121, 122, 123, 74, 124, 76, 77, 125, 126, 127, 128, 129, 130, 131, 132, 133, 134, 78, 135, 136, 137, 138, 139, 140, 141, 142, 143, 144, 145, 146, 147, 148, 149, 150, 151, 152, 153, 154, 155, 156, 157, 64, 158, 159, 160, 161, 162, 32, 163, 164, 165, 166, 167, 168, 169, 170, 35, 171, 172, 173, 174, 175, 176, 177, 178, 179, 180, 181, 182, 183, 184, 185, 186, 30, 187, 188, 189, 190, 49, 58, 191, 192, 193, 203, 204, 205, 206, 207, 208, 209, 210, 211, 212, 213, 214, 215, 216, 217, 218, 219, 220, 221, 222, 223, 224, 225, 226, 227, 228, 229, 230, 231, 232, 233, 234, 235, 236, 237, 238] (by decide +kernel) (by decide +kernel)
set_option maxRecDepth 20000 in
theorem gX6_learns_X3_step : GoodIn wsX6_learns (wsV RX6 233 RX3 yX3_step wsX3_step) := goodIn_app (goodIn_of _ (by decide +kernel)) ggX6_learns_X3_step
theorem dX6_learns_0 : decode cX6_learns 0 = .ok (.aload_n 0, 1) := by decide +kernel
theorem dX6_learns_1 : decode cX6_learns 1 = .ok (.iload_n 1, 1) := by decide +kernel
theorem dX6_learns_2 : decode cX6_learns 2 = .ok (.iload_n 2, 1) := by decide +kernel
theorem dX6_learns_3 : decode cX6_learns 3 = .ok (.invokevirtual 167, 3) := by decide +kernel
theorem dX6_learns_6 : decode cX6_learns 6 = .ok (.ifCond .ne 5, 3) := by decide +kernel
theorem dX6_learns_9 : decode cX6_learns 9 = .ok (.iconst (-1), 1) := by decide +kernel
theorem dX6_learns_10 : decode cX6_learns 10 = .ok (.ireturn, 1) := by decide +kernel
theorem dX6_learns_11 : decode cX6_learns 11 = .ok (.aload_n 0, 1) := by decide +kernel
theorem dX6_learns_12 : decode cX6_learns 12 = .ok (.getfield 26, 3) := by decide +kernel
theorem dX6_learns_15 : decode cX6_learns 15 = .ok (.getfield 104, 3) := by decide +kernel
theorem dX6_learns_18 : decode cX6_learns 18 = .ok (.iload_n 1, 1) := by decide +kernel
theorem dX6_learns_19 : decode cX6_learns 19 = .ok (.aaload, 1) := by decide +kernel
theorem dX6_learns_20 : decode cX6_learns 20 = .ok (.getfield 175, 3) := by decide +kernel
theorem dX6_learns_23 : decode cX6_learns 23 = .ok (.iload_n 2, 1) := by decide +kernel
theorem dX6_learns_24 : decode cX6_learns 24 = .ok (.aaload, 1) := by decide +kernel
theorem dX6_learns_25 : decode cX6_learns 25 = .ok (.getfield 184, 3) := by decide +kernel
theorem dX6_learns_28 : decode cX6_learns 28 = .ok (.istore_n 3, 1) := by decide +kernel
theorem dX6_learns_29 : decode cX6_learns 29 = .ok (.aload_n 0, 1) := by decide +kernel
theorem dX6_learns_30 : decode cX6_learns 30 = .ok (.getfield 30, 3) := by decide +kernel
theorem dX6_learns_33 : decode cX6_learns 33 = .ok (.aload_n 0, 1) := by decide +kernel
theorem dX6_learns_34 : decode cX6_learns 34 = .ok (.getfield 26, 3) := by decide +kernel
theorem dX6_learns_37 : decode cX6_learns 37 = .ok (.invokevirtual 270, 3) := by decide +kernel
theorem dX6_learns_40 : decode cX6_learns 40 = .ok (.aload_n 0, 1) := by decide +kernel
theorem dX6_learns_41 : decode cX6_learns 41 = .ok (.getfield 30, 3) := by decide +kernel
theorem dX6_learns_44 : decode cX6_learns 44 = .ok (.getfield 104, 3) := by decide +kernel
theorem dX6_learns_47 : decode cX6_learns 47 = .ok (.iload_n 1, 1) := by decide +kernel
theorem dX6_learns_48 : decode cX6_learns 48 = .ok (.aaload, 1) := by decide +kernel
theorem dX6_learns_49 : decode cX6_learns 49 = .ok (.getfield 175, 3) := by decide +kernel
theorem dX6_learns_52 : decode cX6_learns 52 = .ok (.iload_n 2, 1) := by decide +kernel
theorem dX6_learns_53 : decode cX6_learns 53 = .ok (.aaload, 1) := by decide +kernel
theorem dX6_learns_54 : decode cX6_learns 54 = .ok (.astore 4, 2) := by decide +kernel
theorem dX6_learns_56 : decode cX6_learns 56 = .ok (.iconst 0, 1) := by decide +kernel
theorem dX6_learns_57 : decode cX6_learns 57 = .ok (.istore 5, 2) := by decide +kernel
theorem dX6_learns_59 : decode cX6_learns 59 = .ok (.iload 5, 2) := by decide +kernel
theorem dX6_learns_61 : decode cX6_learns 61 = .ok (.sipush 200, 3) := by decide +kernel
theorem dX6_learns_64 : decode cX6_learns 64 = .ok (.if_icmp .ge 31, 3) := by decide +kernel
theorem dX6_learns_67 : decode cX6_learns 67 = .ok (.aload 4, 2) := by decide +kernel
theorem dX6_learns_69 : decode cX6_learns 69 = .ok (.getfield 187, 3) := by decide +kernel
theorem dX6_learns_72 : decode cX6_learns 72 = .ok (.iload_n 3, 1) := by decide +kernel
theorem dX6_learns_73 : decode cX6_learns 73 = .ok (.invokestatic 310, 3) := by decide +kernel
theorem dX6_learns_76 : decode cX6_learns 76 = .ok (.ifCond .eq 6, 3) := by decide +kernel
theorem dX6_learns_79 : decode cX6_learns 79 = .ok (.iload 5, 2) := by decide +kernel
theorem dX6_learns_81 : decode cX6_learns 81 = .ok (.ireturn, 1) := by decide +kernel
theorem dX6_learns_82 : decode cX6_learns 82 = .ok (.aload_n 0, 1) := by decide +kernel
theorem dX6_learns_83 : decode cX6_learns 83 = .ok (.getfield 30, 3) := by decide +kernel
theorem dX6_learns_86 : decode cX6_learns 86 = .ok (.invokevirtual 233, 3) := by decide +kernel
theorem dX6_learns_89 : decode cX6_learns 89 = .ok (.iinc 5 1, 3) := by decide +kernel
theorem dX6_learns_92 : decode cX6_learns 92 = .ok (.goto (-33), 3) := by decide +kernel
theorem dX6_learns_95 : decode cX6_learns 95 = .ok (.aload 4, 2) := by decide +kernel
theorem dX6_learns_97 : decode cX6_learns 97 = .ok (.getfield 187, 3) := by decide +kernel
theorem dX6_learns_100 : decode cX6_learns 100 = .ok (.iload_n 3, 1) := by decide +kernel
theorem dX6_learns_101 : decode cX6_learns 101 = .ok (.invokestatic 310, 3) := by decide +kernel
theorem dX6_learns_104 : decode cX6_learns 104 = .ok (.ifCond .eq 9, 3) := by decide +kernel
theorem dX6_learns_107 : decode cX6_learns 107 = .ok (.sipush 200, 3) := by decide +kernel
theorem dX6_learns_110 : decode cX6_learns 110 = .ok (.goto 4, 3) := by decide +kernel
theorem dX6_learns_113 : decode cX6_learns 113 = .ok (.iconst (-1), 1) := by decide +kernel
theorem dX6_learns_114 : decode cX6_learns 114 = .ok (.ireturn, 1) := by decide +kernel
set_option maxRecDepth 20000 in
theorem ggX6_stuck_X3_cellsOfAll : GoodIn wsX6_stuck wsX3_cellsOfAll := goodIn_r _ [8, 9, 10, 11, 12, 7, 13, 14, 15, 16, 17, 18, 19, 20, 21, 22, 23, 24, 25, 26, 204, 205, 206, 207, 208, 209, 210, 211, 212, 213, 214, 215, 216, 217, 218, 219, 220, 221, 222, 223, 224] (by decide +kernel) (by decide +kernel)
set_option maxRecDepth 20000 in
theorem gX6_stuck_X3_cellsOfAll : GoodIn wsX6_stuck (wsV RX6 313 RX3 yX3_cellsOfAll wsX3_cellsOfAll) := goodIn_app (goodIn_of _ (by decide +kernel)) ggX6_stuck_X3_cellsOfAll
set_option maxRecDepth 20000 in
theorem ggX6_stuck_X3_copy : GoodIn wsX6_stuck wsX3_copy := goodIn_r _ [30, 14, 9, 31, 32, 33, 34, 35, 36, 15, 37, 20, 38, 39, 40, 41, 42, 43, 44, 24, 45, 46, 47, 48, 49, 50, 51, 26, 52, 53, 54, 55, 56, 57, 58, 59, 60, 61, 62, 63, 64, 65, 66, 67, 68, 69, 70, 71, 72, 73, 74, 75, 76, 77, 78, 79, 80, 204, 205, 206, 207, 208, 209, 210, 211, 212, 213, 214, 215, 216, 217, 218, 219, 220, 221, 222, 223, 224, 225, 226, 227, 228, 229, 230, 231, 232, 233, 234, 235, 236, 237, 238, 239] (by decide +kernel) (by decide +kernel)
set_option maxRecDepth 20000 in
theorem gX6_stuck_X3_copy : GoodIn wsX6_stuck (wsV RX6 270 RX3 yX3_copy wsX3_copy) := goodIn_app (goodIn_of _ (by decide +kernel)) ggX6_stuck_X3_copy
set_option maxRecDepth 20000 in
theorem ggX6_stuck_X3_step : GoodIn wsX6_stuck wsX3_step := goodIn_r _ [84, 14, 9, 32, 34, 15, 85, 86, 87, 7, 88, 89, 20, 90, 91, 92, 93, 94, 95, 59, 96, 63, 97, 98, 99, 100, 101, 102, 103, 104, 35, 105, 106, 107, 108, 109, 24, 110, 26, 53, 54, 111, 112, 113, 114, 37, 115, 116, 117, 118, 119, 120, 71, 121, 73, 74, 122, 123, 124, 125, 126, 127, 128, 129, 130, 131, 75, 132, 133, 134, 135, 136, 137, 138, 139, 140, 141, 142, 143, 144, 145, 146, 147, 148, 149, 150, 151, 152, 153, 154, 61, 155, 156, 157, 158, 159, 33, 160, 161, 162, 163, 164, 165, 166, 167, 36, 168, 169, 170, 171, 172, 173, 174, 175, 176, 177, 178, 179, 180, 181, 182, 183, 31, 184, 185, 186, 187, 47, 55, 188, 189, 190, 204, 205, 206, 207, 208, 209, 210, 211, 212, 213, 214, 215, 216, 217, 218, 219, 220, 221, 222, 223, 224, 225, 226, 227, 228, 229, 230, 231, 232, 233, 234, 235, 236, 237, 238, 239] (by decide +kernel) (by decide +kernel)
set_option maxRecDepth 20000 in
theorem gX6_stuck_X3_step : GoodIn wsX6_stuck (wsV RX6 233 RX3 yX3_step wsX3_step) := goodIn_app (goodIn_of _ (by decide +kernel)) ggX6_stuck_X3_step
set_option maxRecDepth 20000 in
theorem ggX6_stuck_X3_movedNow : GoodIn wsX6_stuck wsX3_movedNow := goodIn_r _ [194, 14, 15, 142, 9, 37, 126, 204, 205, 206, 207, 208, 209, 210, 211, 212, 213, 214, 215, 216, 217, 218, 219, 220, 221, 222, 223, 224, 232, 233, 234, 235, 236, 237, 238, 239] (by decide +kernel) (by decide +kernel)
set_option maxRecDepth 20000 in
theorem gX6_stuck_X3_movedNow : GoodIn wsX6_stuck (wsV RX6 316 RX3 yX3_movedNow wsX3_movedNow) := goodIn_app (goodIn_of _ (by decide +kernel)) ggX6_stuck_X3_movedNow
theorem dX6_stuck_0 : decode cX6_stuck 0 = .ok (.aload_n 0, 1) := by decide +kernel
theorem dX6_stuck_1 : decode cX6_stuck 1 = .ok (.getfield 70, 3) := by decide +kernel
theorem dX6_stuck_4 : decode cX6_stuck 4 = .ok (.ifCond .eq 13, 3) := by decide +kernel
theorem dX6_stuck_7 : decode cX6_stuck 7 = .ok (.aload_n 0, 1) := by decide +kernel
theorem dX6_stuck_8 : decode cX6_stuck 8 = .ok (.getfield 26, 3) := by decide +kernel
theorem dX6_stuck_11 : decode cX6_stuck 11 = .ok (.invokevirtual 313, 3) := by decide +kernel
theorem dX6_stuck_14 : decode cX6_stuck 14 = .ok (.ifCond .ne 5, 3) := by decide +kernel
theorem dX6_stuck_17 : decode cX6_stuck 17 = .ok (.iconst 0, 1) := by decide +kernel
theorem dX6_stuck_18 : decode cX6_stuck 18 = .ok (.ireturn, 1) := by decide +kernel
theorem dX6_stuck_19 : decode cX6_stuck 19 = .ok (.aload_n 0, 1) := by decide +kernel
theorem dX6_stuck_20 : decode cX6_stuck 20 = .ok (.getfield 30, 3) := by decide +kernel
theorem dX6_stuck_23 : decode cX6_stuck 23 = .ok (.aload_n 0, 1) := by decide +kernel
theorem dX6_stuck_24 : decode cX6_stuck 24 = .ok (.getfield 26, 3) := by decide +kernel
theorem dX6_stuck_27 : decode cX6_stuck 27 = .ok (.invokevirtual 270, 3) := by decide +kernel
theorem dX6_stuck_30 : decode cX6_stuck 30 = .ok (.iconst 0, 1) := by decide +kernel
theorem dX6_stuck_31 : decode cX6_stuck 31 = .ok (.istore_n 1, 1) := by decide +kernel
theorem dX6_stuck_32 : decode cX6_stuck 32 = .ok (.iload_n 1, 1) := by decide +kernel
theorem dX6_stuck_33 : decode cX6_stuck 33 = .ok (.sipush 200, 3) := by decide +kernel
theorem dX6_stuck_36 : decode cX6_stuck 36 = .ok (.if_icmp .ge 28, 3) := by decide +kernel
theorem dX6_stuck_39 : decode cX6_stuck 39 = .ok (.aload_n 0, 1) := by decide +kernel
theorem dX6_stuck_40 : decode cX6_stuck 40 = .ok (.getfield 30, 3) := by decide +kernel
theorem dX6_stuck_43 : decode cX6_stuck 43 = .ok (.invokevirtual 233, 3) := by decide +kernel
theorem dX6_stuck_46 : decode cX6_stuck 46 = .ok (.aload_n 0, 1) := by decide +kernel
theorem dX6_stuck_47 : decode cX6_stuck 47 = .ok (.getfield 30, 3) := by decide +kernel
theorem dX6_stuck_50 : decode cX6_stuck 50 = .ok (.invokevirtual 316, 3) := by decide +kernel
theorem dX6_stuck_53 : decode cX6_stuck 53 = .ok (.ifCond .eq 5, 3) := by decide +kernel
theorem dX6_stuck_56 : decode cX6_stuck 56 = .ok (.iconst 0, 1) := by decide +kernel
theorem dX6_stuck_57 : decode cX6_stuck 57 = .ok (.ireturn, 1) := by decide +kernel
theorem dX6_stuck_58 : decode cX6_stuck 58 = .ok (.iinc 1 1, 3) := by decide +kernel
theorem dX6_stuck_61 : decode cX6_stuck 61 = .ok (.goto (-29), 3) := by decide +kernel
theorem dX6_stuck_64 : decode cX6_stuck 64 = .ok (.iconst 1, 1) := by decide +kernel
theorem dX6_stuck_65 : decode cX6_stuck 65 = .ok (.ireturn, 1) := by decide +kernel
set_option maxRecDepth 20000 in
theorem ggX6_would_X6_zoneRefusal : GoodIn wsX6_would wsX6_zoneRefusal := goodIn_r _ [5, 6, 7, 8, 9, 10, 11, 12, 13, 14, 4, 15, 16, 17, 18, 19, 20, 21, 22, 23, 24, 25, 26, 27, 28, 29, 30, 31, 32, 33, 34, 35, 36, 37, 38, 39, 40, 41, 42, 43, 44, 45, 46, 47, 48, 49, 50, 51, 52, 53, 223, 224, 225, 226, 227, 228, 229, 230, 231, 232, 233, 234, 235, 236, 237, 238, 239, 240, 241, 242, 243, 244, 245, 246, 247, 248, 249, 250, 251, 252, 253, 254, 255, 256, 257, 258, 259] (by decide +kernel) (by decide +kernel)
set_option maxRecDepth 20000 in
theorem gX6_would_X6_zoneRefusal : GoodIn wsX6_would (wsV RX6 248 RX6 yX6_zoneRefusal wsX6_zoneRefusal) := goodIn_app (goodIn_of _ (by decide +kernel)) ggX6_would_X6_zoneRefusal
set_option maxRecDepth 20000 in
theorem ggX6_would_X6_outside : GoodIn wsX6_would wsX6_outside := goodIn_r _ [29] (by decide +kernel) (by decide +kernel)
set_option maxRecDepth 20000 in
theorem gX6_would_X6_outside : GoodIn wsX6_would (va_wsS RX6 55 yX6_outside wsX6_outside) := goodIn_app (goodIn_of _ (by decide +kernel)) ggX6_would_X6_outside
set_option maxRecDepth 20000 in
theorem ggX6_would_X6_deliveredByZone : GoodIn wsX6_would wsX6_deliveredByZone := goodIn_r _ [57, 58, 6, 7, 10, 11, 59, 60, 61, 62, 63, 64, 65, 66, 67, 68, 69, 70, 71, 72, 73, 74, 75, 76, 77, 78, 79, 80, 81, 41, 82, 83, 43, 84, 85, 86, 87, 88, 89, 90, 91, 44, 92, 93, 94, 50, 95, 52, 96, 53, 97, 98, 99, 100, 101, 102, 103, 104, 105, 106, 107, 108, 109, 110, 111, 112, 113, 114, 115, 116, 117, 118, 119, 120, 121, 122, 123, 124, 125, 126, 127, 128, 129, 130, 131, 132, 133, 134, 4, 135, 136, 137, 138, 139, 140, 141, 142, 143, 144, 145, 146, 147, 148, 149, 150, 151, 152, 153, 154, 155, 156, 157, 158, 159, 160, 161, 162, 163, 164, 165, 166, 167, 168, 169, 170, 171, 172, 173, 174, 175, 176, 177, 178, 179, 180, 181, 182, 183, 184, 185, 186, 187, 48, 49, 51, 188, 189, 190, 191, 192, 193, 194, 195, 196, 197, 198, 199, 200, 201, 202, 203, 204, 205, 206, 36, 207, 208, 35, 37, 209, 210, 211, 212, 213, 214, 39, 40, 42, 45, 46, 47, 215, 216, 217, 218, 219, 220, 221, 222, 223, 224, 225, 226, 227, 228, 229, 230, 231, 232, 233, 234, 235, 236, 237, 238, 239, 240, 241, 242, 243, 244, 245, 246, 247, 248, 249, 250, 251, 252, 253, 254, 255, 256, 257, 258, 259, 260, 261, 262, 263, 264, 265, 266, 267] (by decide +kernel) (by decide +kernel)
set_option maxRecDepth 20000 in
theorem gX6_would_X6_deliveredByZone : GoodIn wsX6_would (wsV RX6 320 RX6 yX6_deliveredByZone wsX6_deliveredByZone) := goodIn_app (goodIn_of _ (by decide +kernel)) ggX6_would_X6_deliveredByZone
theorem dX6_would_0 : decode cX6_would 0 = .ok (.aload_n 0, 1) := by decide +kernel
theorem dX6_would_1 : decode cX6_would 1 = .ok (.iload_n 1, 1) := by decide +kernel
theorem dX6_would_2 : decode cX6_would 2 = .ok (.iload_n 2, 1) := by decide +kernel
theorem dX6_would_3 : decode cX6_would 3 = .ok (.iload_n 3, 1) := by decide +kernel
theorem dX6_would_4 : decode cX6_would 4 = .ok (.invokevirtual 248, 3) := by decide +kernel
theorem dX6_would_7 : decode cX6_would 7 = .ok (.iconst (-1), 1) := by decide +kernel
theorem dX6_would_8 : decode cX6_would 8 = .ok (.if_icmp .ne 15, 3) := by decide +kernel
theorem dX6_would_11 : decode cX6_would 11 = .ok (.iload 4, 2) := by decide +kernel
theorem dX6_would_13 : decode cX6_would 13 = .ok (.iconst 0, 1) := by decide +kernel
theorem dX6_would_14 : decode cX6_would 14 = .ok (.sipush 200, 3) := by decide +kernel
theorem dX6_would_17 : decode cX6_would 17 = .ok (.invokestatic 55, 3) := by decide +kernel
theorem dX6_would_20 : decode cX6_would 20 = .ok (.ifCond .eq 5, 3) := by decide +kernel
theorem dX6_would_23 : decode cX6_would 23 = .ok (.iconst (-1), 1) := by decide +kernel
theorem dX6_would_24 : decode cX6_would 24 = .ok (.ireturn, 1) := by decide +kernel
theorem dX6_would_25 : decode cX6_would 25 = .ok (.aload_n 0, 1) := by decide +kernel
theorem dX6_would_26 : decode cX6_would 26 = .ok (.iload_n 1, 1) := by decide +kernel
theorem dX6_would_27 : decode cX6_would 27 = .ok (.iload_n 2, 1) := by decide +kernel
theorem dX6_would_28 : decode cX6_would 28 = .ok (.iload_n 3, 1) := by decide +kernel
theorem dX6_would_29 : decode cX6_would 29 = .ok (.iload 4, 2) := by decide +kernel
theorem dX6_would_31 : decode cX6_would 31 = .ok (.invokevirtual 320, 3) := by decide +kernel
theorem dX6_would_34 : decode cX6_would 34 = .ok (.ireturn, 1) := by decide +kernel
set_option maxRecDepth 20000 in
theorem ggX6_deliveredByZone_X3_copy : GoodIn wsX6_deliveredByZone wsX3_copy := goodIn_r _ [10, 11, 12, 13, 14, 15, 16, 17, 18, 19, 20, 21, 22, 23, 24, 25, 26, 27, 28, 29, 30, 31, 32, 33, 34, 35, 36, 37, 38, 39, 40, 41, 42, 43, 44, 45, 46, 47, 48, 49, 50, 51, 52, 53, 54, 55, 56, 57, 58, 59, 60, 61, 62, 63, 64, 65, 66, 198, 199, 200, 201, 202, 203, 204, 205, 206, 207, 208, 209, 210, 211, 212, 213, 214, 215, 216, 217, 218, 219, 220, 221, 222, 223, 224, 225, 226, 227, 228, 229, 230, 231, 232, 233] (by decide +kernel) (by decide +kernel)
set_option maxRecDepth 20000 in
theorem gX6_deliveredByZone_X3_copy : GoodIn wsX6_deliveredByZone (wsV RX6 270 RX3 yX3_copy wsX3_copy) := goodIn_app (goodIn_of _ (by decide +kernel)) ggX6_deliveredByZone_X3_copy
set_option maxRecDepth 20000 in
theorem ggX6_deliveredByZone_X3_steps : GoodIn wsX6_deliveredByZone wsX3_steps := goodIn_r _ [70, 71, 72, 73, 9, 74, 11, 12, 14, 16, 19, 75, 76, 77, 78, 79, 21, 80, 81, 82, 83, 84, 85, 45, 86, 49, 87, 88, 89, 90, 91, 92, 93, 94, 17, 95, 96, 97, 98, 99, 29, 100, 37, 39, 40, 101, 102, 103, 104, 20, 105, 106, 107, 108, 109, 110, 57, 111, 59, 60, 112, 113, 114, 115, 116, 117, 118, 119, 120, 121, 61, 122, 123, 124, 125, 126, 127, 128, 129, 130, 131, 132, 133, 134, 135, 136, 137, 138, 139, 140, 141, 142, 143, 144, 47, 145, 146, 147, 148, 149, 15, 150, 151, 152, 153, 154, 155, 156, 157, 18, 158, 159, 160, 161, 162, 163, 164, 165, 166, 167, 168, 169, 170, 171, 172, 173, 13, 174, 175, 176, 177, 32, 41, 178, 179, 180, 198, 199, 200, 201, 202, 203, 204, 205, 206, 207, 208, 209, 210, 211, 212, 213, 214, 215, 216, 217, 218, 219, 220, 221, 222, 223, 224, 225, 226, 227, 228, 229, 230, 231, 232, 233] (by decide +kernel) (by decide +kernel)
set_option maxRecDepth 20000 in
theorem gX6_deliveredByZone_X3_steps : GoodIn wsX6_deliveredByZone (wsV RX6 274 RX3 yX3_steps wsX3_steps) := goodIn_app (goodIn_of _ (by decide +kernel)) ggX6_deliveredByZone_X3_steps
set_option maxRecDepth 20000 in
theorem ggX6_deliveredByZone_X6_deliveredApart : GoodIn wsX6_deliveredByZone wsX6_deliveredApart := goodIn_r _ [184, 1, 2, 185, 186, 187, 9, 188, 12, 20, 117, 189, 190, 191, 192, 193, 194, 195, 196, 197, 198, 199, 200, 201, 202, 203, 204, 205, 206, 207, 208, 226, 227, 228, 229, 230, 231, 232, 233] (by decide +kernel) (by decide +kernel)
set_option maxRecDepth 20000 in
theorem gX6_deliveredByZone_X6_deliveredApart : GoodIn wsX6_deliveredByZone (wsV RX6 277 RX6 yX6_deliveredApart wsX6_deliveredApart) := goodIn_app (goodIn_of _ (by decide +kernel)) ggX6_deliveredByZone_X6_deliveredApart
theorem dX6_deliveredByZone_0 : decode cX6_deliveredByZone 0 = .ok (.aload_n 0, 1) := by decide +kernel
theorem dX6_deliveredByZone_1 : decode cX6_deliveredByZone 1 = .ok (.getfield 30, 3) := by decide +kernel
theorem dX6_deliveredByZone_4 : decode cX6_deliveredByZone 4 = .ok (.aload_n 0, 1) := by decide +kernel
theorem dX6_deliveredByZone_5 : decode cX6_deliveredByZone 5 = .ok (.getfield 26, 3) := by decide +kernel
theorem dX6_deliveredByZone_8 : decode cX6_deliveredByZone 8 = .ok (.invokevirtual 270, 3) := by decide +kernel
theorem dX6_deliveredByZone_11 : decode cX6_deliveredByZone 11 = .ok (.aload_n 0, 1) := by decide +kernel
theorem dX6_deliveredByZone_12 : decode cX6_deliveredByZone 12 = .ok (.getfield 30, 3) := by decide +kernel
theorem dX6_deliveredByZone_15 : decode cX6_deliveredByZone 15 = .ok (.getfield 104, 3) := by decide +kernel
theorem dX6_deliveredByZone_18 : decode cX6_deliveredByZone 18 = .ok (.iload_n 1, 1) := by decide +kernel
theorem dX6_deliveredByZone_19 : decode cX6_deliveredByZone 19 = .ok (.aaload, 1) := by decide +kernel
theorem dX6_deliveredByZone_20 : decode cX6_deliveredByZone 20 = .ok (.getfield 175, 3) := by decide +kernel
theorem dX6_deliveredByZone_23 : decode cX6_deliveredByZone 23 = .ok (.iload_n 2, 1) := by decide +kernel
theorem dX6_deliveredByZone_24 : decode cX6_deliveredByZone 24 = .ok (.aaload, 1) := by decide +kernel
theorem dX6_deliveredByZone_25 : decode cX6_deliveredByZone 25 = .ok (.iload_n 3, 1) := by decide +kernel
theorem dX6_deliveredByZone_26 : decode cX6_deliveredByZone 26 = .ok (.putfield 190, 3) := by decide +kernel
theorem dX6_deliveredByZone_29 : decode cX6_deliveredByZone 29 = .ok (.aload_n 0, 1) := by decide +kernel
theorem dX6_deliveredByZone_30 : decode cX6_deliveredByZone 30 = .ok (.getfield 30, 3) := by decide +kernel
theorem dX6_deliveredByZone_33 : decode cX6_deliveredByZone 33 = .ok (.iload 4, 2) := by decide +kernel
theorem dX6_deliveredByZone_35 : decode cX6_deliveredByZone 35 = .ok (.invokevirtual 274, 3) := by decide +kernel
theorem dX6_deliveredByZone_38 : decode cX6_deliveredByZone 38 = .ok (.aload_n 0, 1) := by decide +kernel
theorem dX6_deliveredByZone_39 : decode cX6_deliveredByZone 39 = .ok (.invokevirtual 277, 3) := by decide +kernel
theorem dX6_deliveredByZone_42 : decode cX6_deliveredByZone 42 = .ok (.ireturn, 1) := by decide +kernel
set_option maxRecDepth 20000 in
theorem ggX6_bestZone_X6_isLane : GoodIn wsX6_bestZone wsX6_isLane := goodIn_r _ [7, 8, 9, 10, 6, 11, 12, 1, 13, 14, 15, 16, 17, 18, 218, 219, 220, 221, 222, 223, 224, 225, 226, 227, 228, 229, 230, 231, 232, 233, 234, 235, 236, 237] (by decide +kernel) (by decide +kernel)
set_option maxRecDepth 20000 in
theorem gX6_bestZone_X6_isLane : GoodIn wsX6_bestZone (wsV RX6 167 RX6 yX6_isLane wsX6_isLane) := goodIn_app (goodIn_of _ (by decide +kernel)) ggX6_bestZone_X6_isLane
set_option maxRecDepth 20000 in
theorem ggX6_bestZone_X6_outside : GoodIn wsX6_bestZone wsX6_outside := goodIn_r _ [21] (by decide +kernel) (by decide +kernel)
set_option maxRecDepth 20000 in
theorem gX6_bestZone_X6_outside : GoodIn wsX6_bestZone (va_wsS RX6 55 yX6_outside wsX6_outside) := goodIn_app (goodIn_of _ (by decide +kernel)) ggX6_bestZone_X6_outside
set_option maxRecDepth 20000 in
theorem ggX6_bestZone_X6_largestZone : GoodIn wsX6_bestZone wsX6_largestZone := goodIn_r _ [25, 1, 26, 27, 28, 18, 29, 30, 31, 32, 33, 34, 35, 36, 37, 38, 39, 40, 41, 42, 43, 44, 45, 46, 47, 48, 218, 219, 220, 221, 222, 223, 224, 225, 226, 227, 228, 229, 230, 231, 232, 233, 234, 235, 236, 237, 238, 239, 240, 241, 242, 243, 244, 245, 246, 247, 248, 249, 250, 251, 252, 253, 254] (by decide +kernel) (by decide +kernel)
set_option maxRecDepth 20000 in
theorem gX6_bestZone_X6_largestZone : GoodIn wsX6_bestZone (wsV RX6 252 RX6 yX6_largestZone wsX6_largestZone) := goodIn_app (goodIn_of _ (by decide +kernel)) ggX6_bestZone_X6_largestZone
set_option maxRecDepth 20000 in
theorem ggX6_bestZone_X6_deliveredByZone : GoodIn wsX6_bestZone wsX6_deliveredByZone := goodIn_r _ [52, 53, 1, 26, 27, 28, 54, 55, 56, 57, 58, 59, 60, 61, 62, 63, 64, 65, 66, 67, 68, 69, 70, 71, 72, 73, 74, 75, 76, 36, 77, 78, 38, 79, 80, 81, 82, 83, 84, 85, 86, 39, 87, 88, 89, 45, 90, 47, 91, 48, 92, 93, 94, 95, 96, 97, 98, 99, 100, 101, 102, 103, 104, 105, 106, 107, 108, 109, 110, 111, 112, 113, 114, 115, 116, 117, 118, 119, 120, 121, 122, 123, 124, 125, 126, 127, 128, 129, 6, 130, 131, 132, 133, 134, 135, 136, 137, 138, 139, 140, 141, 142, 143, 144, 145, 146, 147, 148, 149, 150, 151, 152, 153, 154, 155, 156, 157, 158, 159, 160, 161, 162, 163, 164, 165, 166, 167, 168, 169, 170, 171, 172, 173, 174, 175, 176, 177, 178, 179, 180, 181, 182, 43, 44, 46, 183, 184, 185, 186, 187, 188, 189, 190, 191, 192, 193, 194, 195, 196, 197, 198, 199, 200, 201, 31, 202, 203, 30, 32, 204, 205, 206, 207, 208, 209, 34, 35, 37, 40, 41, 42, 210, 211, 212, 213, 214, 215, 216, 217, 218, 219, 220, 221, 222, 223, 224, 225, 226, 227, 228, 229, 230, 231, 232, 233, 234, 235, 236, 237, 238, 239, 240, 241, 242, 243, 244, 245, 246, 247, 248, 249, 250, 251, 252, 253, 254, 255, 256, 257, 258, 259, 260, 261, 262] (by decide +kernel) (by decide +kernel)
set_option maxRecDepth 20000 in
theorem gX6_bestZone_X6_deliveredByZone : GoodIn wsX6_bestZone (wsV RX6 320 RX6 yX6_deliveredByZone wsX6_deliveredByZone) := goodIn_app (goodIn_of _ (by decide +kernel)) ggX6_bestZone_X6_deliveredByZone
theorem dX6_bestZone_0 : decode cX6_bestZone 0 = .ok (.aload_n 0, 1) := by decide +kernel
theorem dX6_bestZone_1 : decode cX6_bestZone 1 = .ok (.iload_n 1, 1) := by decide +kernel
theorem dX6_bestZone_2 : decode cX6_bestZone 2 = .ok (.iload_n 2, 1) := by decide +kernel
theorem dX6_bestZone_3 : decode cX6_bestZone 3 = .ok (.invokevirtual 167, 3) := by decide +kernel
theorem dX6_bestZone_6 : decode cX6_bestZone 6 = .ok (.ifCond .eq 13, 3) := by decide +kernel
theorem dX6_bestZone_9 : decode cX6_bestZone 9 = .ok (.iload_n 3, 1) := by decide +kernel
theorem dX6_bestZone_10 : decode cX6_bestZone 10 = .ok (.iconst 1, 1) := by decide +kernel
theorem dX6_bestZone_11 : decode cX6_bestZone 11 = .ok (.bipush 60, 2) := by decide +kernel
theorem dX6_bestZone_13 : decode cX6_bestZone 13 = .ok (.invokestatic 55, 3) := by decide +kernel
theorem dX6_bestZone_16 : decode cX6_bestZone 16 = .ok (.ifCond .eq 5, 3) := by decide +kernel
theorem dX6_bestZone_19 : decode cX6_bestZone 19 = .ok (.iconst (-1), 1) := by decide +kernel
theorem dX6_bestZone_20 : decode cX6_bestZone 20 = .ok (.ireturn, 1) := by decide +kernel
theorem dX6_bestZone_21 : decode cX6_bestZone 21 = .ok (.aload_n 0, 1) := by decide +kernel
theorem dX6_bestZone_22 : decode cX6_bestZone 22 = .ok (.iload_n 1, 1) := by decide +kernel
theorem dX6_bestZone_23 : decode cX6_bestZone 23 = .ok (.iload_n 2, 1) := by decide +kernel
theorem dX6_bestZone_24 : decode cX6_bestZone 24 = .ok (.invokevirtual 252, 3) := by decide +kernel
theorem dX6_bestZone_27 : decode cX6_bestZone 27 = .ok (.istore 4, 2) := by decide +kernel
theorem dX6_bestZone_29 : decode cX6_bestZone 29 = .ok (.iconst (-1), 1) := by decide +kernel
theorem dX6_bestZone_30 : decode cX6_bestZone 30 = .ok (.istore 5, 2) := by decide +kernel
theorem dX6_bestZone_32 : decode cX6_bestZone 32 = .ok (.iconst (-1), 1) := by decide +kernel
theorem dX6_bestZone_33 : decode cX6_bestZone 33 = .ok (.istore 6, 2) := by decide +kernel
theorem dX6_bestZone_35 : decode cX6_bestZone 35 = .ok (.aload_n 0, 1) := by decide +kernel
theorem dX6_bestZone_36 : decode cX6_bestZone 36 = .ok (.getfield 26, 3) := by decide +kernel
theorem dX6_bestZone_39 : decode cX6_bestZone 39 = .ok (.getfield 81, 3) := by decide +kernel
theorem dX6_bestZone_42 : decode cX6_bestZone 42 = .ok (.istore 7, 2) := by decide +kernel
theorem dX6_bestZone_44 : decode cX6_bestZone 44 = .ok (.iload 7, 2) := by decide +kernel
theorem dX6_bestZone_46 : decode cX6_bestZone 46 = .ok (.iload 4, 2) := by decide +kernel
theorem dX6_bestZone_48 : decode cX6_bestZone 48 = .ok (.if_icmp .gt 35, 3) := by decide +kernel
theorem dX6_bestZone_51 : decode cX6_bestZone 51 = .ok (.aload_n 0, 1) := by decide +kernel
theorem dX6_bestZone_52 : decode cX6_bestZone 52 = .ok (.iload_n 1, 1) := by decide +kernel
theorem dX6_bestZone_53 : decode cX6_bestZone 53 = .ok (.iload_n 2, 1) := by decide +kernel
theorem dX6_bestZone_54 : decode cX6_bestZone 54 = .ok (.iload 7, 2) := by decide +kernel
theorem dX6_bestZone_56 : decode cX6_bestZone 56 = .ok (.iload_n 3, 1) := by decide +kernel
theorem dX6_bestZone_57 : decode cX6_bestZone 57 = .ok (.invokevirtual 320, 3) := by decide +kernel
theorem dX6_bestZone_60 : decode cX6_bestZone 60 = .ok (.istore 8, 2) := by decide +kernel
theorem dX6_bestZone_62 : decode cX6_bestZone 62 = .ok (.iload 8, 2) := by decide +kernel
theorem dX6_bestZone_64 : decode cX6_bestZone 64 = .ok (.iload 6, 2) := by decide +kernel
theorem dX6_bestZone_66 : decode cX6_bestZone 66 = .ok (.if_icmp .le 11, 3) := by decide +kernel
theorem dX6_bestZone_69 : decode cX6_bestZone 69 = .ok (.iload 8, 2) := by decide +kernel
theorem dX6_bestZone_71 : decode cX6_bestZone 71 = .ok (.istore 6, 2) := by decide +kernel
theorem dX6_bestZone_73 : decode cX6_bestZone 73 = .ok (.iload 7, 2) := by decide +kernel
theorem dX6_bestZone_75 : decode cX6_bestZone 75 = .ok (.istore 5, 2) := by decide +kernel
theorem dX6_bestZone_77 : decode cX6_bestZone 77 = .ok (.iinc 7 1, 3) := by decide +kernel
theorem dX6_bestZone_80 : decode cX6_bestZone 80 = .ok (.goto (-36), 3) := by decide +kernel
theorem dX6_bestZone_83 : decode cX6_bestZone 83 = .ok (.iload 5, 2) := by decide +kernel
theorem dX6_bestZone_85 : decode cX6_bestZone 85 = .ok (.ireturn, 1) := by decide +kernel
set_option maxRecDepth 20000 in
theorem ggX6_bears_X6_outside : GoodIn wsX6_bears wsX6_outside := goodIn_r _ [5] (by decide +kernel) (by decide +kernel)
set_option maxRecDepth 20000 in
theorem gX6_bears_X6_outside : GoodIn wsX6_bears (va_wsS RX6 55 yX6_outside wsX6_outside) := goodIn_app (goodIn_of _ (by decide +kernel)) ggX6_bears_X6_outside
set_option maxRecDepth 20000 in
theorem ggX6_bears_X6_goApart : GoodIn wsX6_bears wsX6_goApart := goodIn_r _ [9, 10, 11, 12, 13, 14, 15, 16, 17, 18, 19, 20, 21, 22, 23, 24, 25, 26, 27, 28, 29, 30, 31, 32, 33, 34, 35, 36, 37, 38, 39, 40, 41, 42, 43, 44, 45, 46, 47, 48, 49, 50, 51, 52, 53, 54, 55, 56, 57, 58, 59, 60, 61, 62, 63, 64, 65, 66, 67, 68, 69, 70, 71, 72, 73, 74, 75, 76, 77, 78, 79, 80, 81, 82, 83, 84, 85, 86, 87, 88, 89, 90, 91, 92, 93, 4, 94, 95, 96, 97, 98, 99, 100, 101, 102, 103, 104, 105, 106, 107, 108, 109, 110, 111, 112, 113, 114, 115, 116, 117, 118, 119, 120, 121, 122, 123, 124, 125, 126, 127, 128, 129, 130, 131, 132, 133, 134, 135, 136, 137, 138, 139, 140, 141, 142, 143, 144, 145, 146, 147, 148, 149, 150, 151, 152, 153, 154, 155, 156, 157, 158, 159, 160, 161, 162, 163, 164, 165, 166, 167, 168, 169, 170, 171, 172, 173, 174, 175, 176, 177, 178, 179, 180, 181, 182, 183, 184, 185, 201, 202, 203, 204, 205, 206, 207, 208, 209, 210, 211, 212, 213, 214, 215, 216, 217, 218, 219, 220, 221, 222, 223, 224, 225, 226, 227, 228, 229, 230, 231, 232, 233, 234, 235, 236, 237, 238, 239, 240, 241, 242, 243, 244, 245] (by decide +kernel) (by decide +kernel)
set_option maxRecDepth 20000 in
theorem gX6_bears_X6_goApart : GoodIn wsX6_bears (wsV RX6 267 RX6 yX6_goApart wsX6_goApart) := goodIn_app (goodIn_of _ (by decide +kernel)) ggX6_bears_X6_goApart
set_option maxRecDepth 20000 in
theorem ggX6_bears_X6_deliveredApart : GoodIn wsX6_bears wsX6_deliveredApart := goodIn_r _ [189, 10, 11, 190, 191, 192, 15, 193, 18, 26, 122, 201, 202, 203, 204, 205, 206, 207, 208, 209, 210, 211, 212, 213, 214, 215, 216, 217, 218, 219, 220, 238, 239, 240, 241, 242, 243, 244, 245] (by decide +kernel) (by decide +kernel)
set_option maxRecDepth 20000 in
theorem gX6_bears_X6_deliveredApart : GoodIn wsX6_bears (wsV RX6 277 RX6 yX6_deliveredApart wsX6_deliveredApart) := goodIn_app (goodIn_of _ (by decide +kernel)) ggX6_bears_X6_deliveredApart
set_option maxRecDepth 20000 in
theorem ggX6_bears_X6_deliveredJammed : GoodIn wsX6_bears wsX6_deliveredJammed := goodIn_r _ [197, 10, 11, 198, 199, 200, 12, 13, 14, 15, 16, 17, 18, 19, 20, 21, 22, 23, 24, 25, 26, 27, 28, 29, 30, 31, 32, 33, 34, 35, 36, 37, 38, 39, 40, 41, 42, 43, 44, 45, 46, 47, 48, 49, 50, 51, 52, 53, 54, 55, 56, 57, 58, 59, 60, 61, 62, 63, 64, 65, 66, 67, 68, 69, 70, 71, 72, 73, 74, 75, 76, 77, 78, 79, 80, 81, 82, 83, 84, 85, 86, 87, 88, 89, 90, 91, 92, 93, 4, 94, 95, 96, 97, 98, 99, 100, 101, 102, 103, 104, 105, 106, 107, 108, 109, 110, 111, 112, 113, 114, 115, 116, 117, 118, 119, 120, 121, 122, 123, 124, 125, 126, 127, 128, 129, 130, 131, 132, 133, 134, 135, 136, 137, 138, 139, 140, 141, 142, 143, 144, 145, 146, 147, 148, 149, 150, 151, 152, 153, 154, 155, 156, 157, 158, 159, 160, 161, 162, 163, 164, 165, 166, 167, 168, 169, 170, 171, 172, 173, 174, 175, 176, 177, 178, 179, 180, 181, 182, 183, 184, 185, 186, 187, 188, 189, 190, 191, 192, 193, 201, 202, 203, 204, 205, 206, 207, 208, 209, 210, 211, 212, 213, 214, 215, 216, 217, 218, 219, 220, 221, 222, 223, 224, 225, 226, 227, 228, 229, 230, 231, 232, 233, 234, 235, 236, 237, 238, 239, 240, 241, 242, 243, 244, 245] (by decide +kernel) (by decide +kernel)
set_option maxRecDepth 20000 in
theorem gX6_bears_X6_deliveredJammed : GoodIn wsX6_bears (wsV RX6 304 RX6 yX6_deliveredJammed wsX6_deliveredJammed) := goodIn_app (goodIn_of _ (by decide +kernel)) ggX6_bears_X6_deliveredJammed
theorem dX6_bears_0 : decode cX6_bears 0 = .ok (.aload_n 0, 1) := by decide +kernel
theorem dX6_bears_1 : decode cX6_bears 1 = .ok (.getfield 70, 3) := by decide +kernel
theorem dX6_bears_4 : decode cX6_bears 4 = .ok (.ifCond .eq 14, 3) := by decide +kernel
theorem dX6_bears_7 : decode cX6_bears 7 = .ok (.iload_n 1, 1) := by decide +kernel
theorem dX6_bears_8 : decode cX6_bears 8 = .ok (.iconst 1, 1) := by decide +kernel
theorem dX6_bears_9 : decode cX6_bears 9 = .ok (.sipush 200, 3) := by decide +kernel
theorem dX6_bears_12 : decode cX6_bears 12 = .ok (.invokestatic 55, 3) := by decide +kernel
theorem dX6_bears_15 : decode cX6_bears 15 = .ok (.ifCond .eq 5, 3) := by decide +kernel
theorem dX6_bears_18 : decode cX6_bears 18 = .ok (.iconst (-1), 1) := by decide +kernel
theorem dX6_bears_19 : decode cX6_bears 19 = .ok (.ireturn, 1) := by decide +kernel
theorem dX6_bears_20 : decode cX6_bears 20 = .ok (.aload_n 0, 1) := by decide +kernel
theorem dX6_bears_21 : decode cX6_bears 21 = .ok (.iload_n 1, 1) := by decide +kernel
theorem dX6_bears_22 : decode cX6_bears 22 = .ok (.invokevirtual 267, 3) := by decide +kernel
theorem dX6_bears_25 : decode cX6_bears 25 = .ok (.aload_n 0, 1) := by decide +kernel
theorem dX6_bears_26 : decode cX6_bears 26 = .ok (.invokevirtual 277, 3) := by decide +kernel
theorem dX6_bears_29 : decode cX6_bears 29 = .ok (.istore_n 2, 1) := by decide +kernel
theorem dX6_bears_30 : decode cX6_bears 30 = .ok (.bipush 9, 2) := by decide +kernel
theorem dX6_bears_32 : decode cX6_bears 32 = .ok (.istore_n 3, 1) := by decide +kernel
theorem dX6_bears_33 : decode cX6_bears 33 = .ok (.iload_n 3, 1) := by decide +kernel
theorem dX6_bears_34 : decode cX6_bears 34 = .ok (.iconst 1, 1) := by decide +kernel
theorem dX6_bears_35 : decode cX6_bears 35 = .ok (.if_icmp .lt 21, 3) := by decide +kernel
theorem dX6_bears_38 : decode cX6_bears 38 = .ok (.aload_n 0, 1) := by decide +kernel
theorem dX6_bears_39 : decode cX6_bears 39 = .ok (.iload_n 3, 1) := by decide +kernel
theorem dX6_bears_40 : decode cX6_bears 40 = .ok (.iload_n 1, 1) := by decide +kernel
theorem dX6_bears_41 : decode cX6_bears 41 = .ok (.invokevirtual 304, 3) := by decide +kernel
theorem dX6_bears_44 : decode cX6_bears 44 = .ok (.iload_n 2, 1) := by decide +kernel
theorem dX6_bears_45 : decode cX6_bears 45 = .ok (.if_icmp .lt 5, 3) := by decide +kernel
theorem dX6_bears_48 : decode cX6_bears 48 = .ok (.iload_n 3, 1) := by decide +kernel
theorem dX6_bears_49 : decode cX6_bears 49 = .ok (.ireturn, 1) := by decide +kernel
theorem dX6_bears_50 : decode cX6_bears 50 = .ok (.iinc 3 (-1), 3) := by decide +kernel
theorem dX6_bears_53 : decode cX6_bears 53 = .ok (.goto (-20), 3) := by decide +kernel
theorem dX6_bears_56 : decode cX6_bears 56 = .ok (.iconst 0, 1) := by decide +kernel
theorem dX6_bears_57 : decode cX6_bears 57 = .ok (.ireturn, 1) := by decide +kernel
set_option maxRecDepth 20000 in
theorem ggX6_waits_X6_isLane : GoodIn wsX6_waits wsX6_isLane := goodIn_r _ [6, 7, 8, 9, 5, 10, 11, 12, 13, 14, 15, 16, 17, 18, 202, 203, 204, 205, 206, 207, 208, 209, 210, 211, 212, 213, 214, 215, 216, 217, 218, 219, 220, 221] (by decide +kernel) (by decide +kernel)
set_option maxRecDepth 20000 in
theorem gX6_waits_X6_isLane : GoodIn wsX6_waits (wsV RX6 167 RX6 yX6_isLane wsX6_isLane) := goodIn_app (goodIn_of _ (by decide +kernel)) ggX6_waits_X6_isLane
set_option maxRecDepth 20000 in
theorem ggX6_waits_X6_outside : GoodIn wsX6_waits wsX6_outside := goodIn_r _ [21] (by decide +kernel) (by decide +kernel)
set_option maxRecDepth 20000 in
theorem gX6_waits_X6_outside : GoodIn wsX6_waits (va_wsS RX6 55 yX6_outside wsX6_outside) := goodIn_app (goodIn_of _ (by decide +kernel)) ggX6_waits_X6_outside
set_option maxRecDepth 20000 in
theorem ggX6_waits_X6_tallyWaits : GoodIn wsX6_waits wsX6_tallyWaits := goodIn_r _ [25, 26, 12, 13, 1, 27, 28, 29, 5, 30, 31, 32, 33, 34, 35, 36, 37, 38, 39, 40, 41, 42, 43, 44, 45, 46, 47, 48, 49, 50, 51, 52, 53, 54, 55, 56, 57, 58, 59, 60, 61, 62, 63, 64, 65, 66, 67, 68, 69, 70, 71, 72, 73, 74, 75, 76, 77, 78, 79, 80, 81, 82, 83, 84, 85, 86, 87, 88, 89, 90, 91, 92, 93, 94, 95, 96, 97, 98, 99, 100, 101, 102, 103, 104, 105, 106, 107, 108, 109, 110, 111, 112, 113, 114, 115, 116, 117, 118, 119, 120, 121, 122, 123, 124, 125, 126, 127, 128, 129, 130, 131, 132, 133, 134, 135, 136, 137, 138, 139, 140, 141, 142, 143, 144, 145, 146, 147, 148, 149, 150, 151, 152, 153, 154, 155, 156, 157, 158, 159, 160, 161, 162, 163, 164, 165, 166, 167, 168, 169, 170, 171, 172, 173, 174, 175, 176, 177, 178, 179, 180, 181, 182, 183, 184, 185, 186, 187, 188, 189, 190, 191, 192, 193, 194, 195, 196, 197, 198, 199, 200, 201, 202, 203, 204, 205, 206, 207, 208, 209, 210, 211, 212, 213, 214, 215, 216, 217, 218, 219, 220, 221, 222, 223, 224, 225, 226, 227, 228, 229, 230, 231, 232, 233, 234, 235, 236, 237, 238, 239, 240, 241, 242, 243, 244, 245, 246] (by decide +kernel) (by decide +kernel)
set_option maxRecDepth 20000 in
theorem gX6_waits_X6_tallyWaits : GoodIn wsX6_waits (wsV RX6 324 RX6 yX6_tallyWaits wsX6_tallyWaits) := goodIn_app (goodIn_of _ (by decide +kernel)) ggX6_waits_X6_tallyWaits
theorem dX6_waits_0 : decode cX6_waits 0 = .ok (.aload_n 0, 1) := by decide +kernel
theorem dX6_waits_1 : decode cX6_waits 1 = .ok (.iload_n 1, 1) := by decide +kernel
theorem dX6_waits_2 : decode cX6_waits 2 = .ok (.iload_n 2, 1) := by decide +kernel
theorem dX6_waits_3 : decode cX6_waits 3 = .ok (.invokevirtual 167, 3) := by decide +kernel
theorem dX6_waits_6 : decode cX6_waits 6 = .ok (.ifCond .eq 14, 3) := by decide +kernel
theorem dX6_waits_9 : decode cX6_waits 9 = .ok (.iload_n 3, 1) := by decide +kernel
theorem dX6_waits_10 : decode cX6_waits 10 = .ok (.iconst 1, 1) := by decide +kernel
theorem dX6_waits_11 : decode cX6_waits 11 = .ok (.sipush 200, 3) := by decide +kernel
theorem dX6_waits_14 : decode cX6_waits 14 = .ok (.invokestatic 55, 3) := by decide +kernel
theorem dX6_waits_17 : decode cX6_waits 17 = .ok (.ifCond .eq 5, 3) := by decide +kernel
theorem dX6_waits_20 : decode cX6_waits 20 = .ok (.iconst (-1), 1) := by decide +kernel
theorem dX6_waits_21 : decode cX6_waits 21 = .ok (.ireturn, 1) := by decide +kernel
theorem dX6_waits_22 : decode cX6_waits 22 = .ok (.aload_n 0, 1) := by decide +kernel
theorem dX6_waits_23 : decode cX6_waits 23 = .ok (.iload_n 2, 1) := by decide +kernel
theorem dX6_waits_24 : decode cX6_waits 24 = .ok (.iload_n 3, 1) := by decide +kernel
theorem dX6_waits_25 : decode cX6_waits 25 = .ok (.invokevirtual 324, 3) := by decide +kernel
theorem dX6_waits_28 : decode cX6_waits 28 = .ok (.aload_n 0, 1) := by decide +kernel
theorem dX6_waits_29 : decode cX6_waits 29 = .ok (.getfield 39, 3) := by decide +kernel
theorem dX6_waits_32 : decode cX6_waits 32 = .ok (.iload_n 1, 1) := by decide +kernel
theorem dX6_waits_33 : decode cX6_waits 33 = .ok (.iaload, 1) := by decide +kernel
theorem dX6_waits_34 : decode cX6_waits 34 = .ok (.ireturn, 1) := by decide +kernel
set_option maxRecDepth 20000 in
theorem ggX6_tallyWaits_X6_clearTally : GoodIn wsX6_tallyWaits wsX6_clearTally := goodIn_r _ [9, 4, 181, 182, 183, 184, 185, 186, 187, 188, 189] (by decide +kernel) (by decide +kernel)
set_option maxRecDepth 20000 in
theorem gX6_tallyWaits_X6_clearTally : GoodIn wsX6_tallyWaits (wsV RX6 292 RX6 yX6_clearTally wsX6_clearTally) := goodIn_app (goodIn_of _ (by decide +kernel)) ggX6_tallyWaits_X6_clearTally
set_option maxRecDepth 20000 in
theorem ggX6_tallyWaits_X3_copy : GoodIn wsX6_tallyWaits wsX3_copy := goodIn_r _ [14, 15, 16, 17, 18, 19, 20, 21, 22, 23, 24, 25, 26, 27, 28, 29, 30, 31, 32, 33, 34, 35, 36, 37, 38, 39, 40, 41, 42, 43, 44, 45, 46, 47, 48, 49, 50, 51, 52, 53, 54, 55, 56, 57, 58, 59, 60, 61, 62, 63, 64, 65, 66, 67, 68, 69, 70, 190, 191, 192, 193, 194, 195, 196, 197, 198, 199, 200, 201, 202, 203, 204, 205, 206, 207, 208, 209, 210, 211, 212, 213, 214, 215, 216, 217, 218, 219, 220, 221, 222, 223, 224, 225] (by decide +kernel) (by decide +kernel)
set_option maxRecDepth 20000 in
theorem gX6_tallyWaits_X3_copy : GoodIn wsX6_tallyWaits (wsV RX6 270 RX3 yX3_copy wsX3_copy) := goodIn_app (goodIn_of _ (by decide +kernel)) ggX6_tallyWaits_X3_copy
set_option maxRecDepth 20000 in
theorem ggX6_tallyWaits_X3_step : GoodIn wsX6_tallyWaits wsX3_step := goodIn_r _ [74, 15, 16, 18, 20, 23, 75, 76, 77, 13, 78, 79, 25, 80, 81, 82, 83, 84, 85, 49, 86, 53, 87, 8, 88, 89, 90, 91, 92, 93, 21, 94, 95, 96, 97, 98, 33, 99, 41, 43, 44, 100, 101, 102, 103, 24, 104, 105, 106, 107, 108, 109, 61, 110, 63, 64, 111, 112, 113, 114, 115, 116, 117, 118, 119, 120, 65, 121, 122, 123, 124, 125, 126, 127, 128, 129, 130, 131, 132, 133, 134, 135, 136, 137, 138, 139, 140, 141, 142, 143, 51, 144, 145, 146, 147, 148, 19, 149, 150, 151, 152, 153, 154, 155, 156, 22, 157, 158, 159, 160, 161, 162, 163, 164, 165, 166, 167, 168, 169, 170, 171, 172, 17, 173, 174, 175, 176, 36, 45, 177, 178, 179, 190, 191, 192, 193, 194, 195, 196, 197, 198, 199, 200, 201, 202, 203, 204, 205, 206, 207, 208, 209, 210, 211, 212, 213, 214, 215, 216, 217, 218, 219, 220, 221, 222, 223, 224, 225] (by decide +kernel) (by decide +kernel)
set_option maxRecDepth 20000 in
theorem gX6_tallyWaits_X3_step : GoodIn wsX6_tallyWaits (wsV RX6 233 RX3 yX3_step wsX3_step) := goodIn_app (goodIn_of _ (by decide +kernel)) ggX6_tallyWaits_X3_step
set_option maxRecDepth 20000 in
theorem ggX6_tallyWaits_X3_lacksCredit : GoodIn wsX6_tallyWaits wsX3_lacksCredit := goodIn_r _ [152, 25, 23, 81, 139, 140, 141, 142, 49, 143, 51, 53, 190, 191, 192, 193, 194, 195, 196, 197, 198, 199, 200, 201, 202, 203, 204, 205, 206, 207, 208, 209, 210, 211, 212, 213, 214, 215, 216, 217] (by decide +kernel) (by decide +kernel)
set_option maxRecDepth 20000 in
theorem gX6_tallyWaits_X3_lacksCredit : GoodIn wsX6_tallyWaits (wsV RX6 328 RX3 yX3_lacksCredit wsX3_lacksCredit) := goodIn_app (goodIn_of _ (by decide +kernel)) ggX6_tallyWaits_X3_lacksCredit
theorem dX6_tallyWaits_0 : decode cX6_tallyWaits 0 = .ok (.aload_n 0, 1) := by decide +kernel
theorem dX6_tallyWaits_1 : decode cX6_tallyWaits 1 = .ok (.invokevirtual 292, 3) := by decide +kernel
theorem dX6_tallyWaits_4 : decode cX6_tallyWaits 4 = .ok (.aload_n 0, 1) := by decide +kernel
theorem dX6_tallyWaits_5 : decode cX6_tallyWaits 5 = .ok (.getfield 30, 3) := by decide +kernel
theorem dX6_tallyWaits_8 : decode cX6_tallyWaits 8 = .ok (.aload_n 0, 1) := by decide +kernel
theorem dX6_tallyWaits_9 : decode cX6_tallyWaits 9 = .ok (.getfield 26, 3) := by decide +kernel
theorem dX6_tallyWaits_12 : decode cX6_tallyWaits 12 = .ok (.invokevirtual 270, 3) := by decide +kernel
theorem dX6_tallyWaits_15 : decode cX6_tallyWaits 15 = .ok (.iconst 0, 1) := by decide +kernel
theorem dX6_tallyWaits_16 : decode cX6_tallyWaits 16 = .ok (.istore_n 3, 1) := by decide +kernel
theorem dX6_tallyWaits_17 : decode cX6_tallyWaits 17 = .ok (.iload_n 3, 1) := by decide +kernel
theorem dX6_tallyWaits_18 : decode cX6_tallyWaits 18 = .ok (.iload_n 2, 1) := by decide +kernel
theorem dX6_tallyWaits_19 : decode cX6_tallyWaits 19 = .ok (.if_icmp .ge 61, 3) := by decide +kernel
theorem dX6_tallyWaits_22 : decode cX6_tallyWaits 22 = .ok (.aload_n 0, 1) := by decide +kernel
theorem dX6_tallyWaits_23 : decode cX6_tallyWaits 23 = .ok (.getfield 30, 3) := by decide +kernel
theorem dX6_tallyWaits_26 : decode cX6_tallyWaits 26 = .ok (.invokevirtual 233, 3) := by decide +kernel
theorem dX6_tallyWaits_29 : decode cX6_tallyWaits 29 = .ok (.iconst 0, 1) := by decide +kernel
theorem dX6_tallyWaits_30 : decode cX6_tallyWaits 30 = .ok (.istore 4, 2) := by decide +kernel
theorem dX6_tallyWaits_32 : decode cX6_tallyWaits 32 = .ok (.iload 4, 2) := by decide +kernel
theorem dX6_tallyWaits_34 : decode cX6_tallyWaits 34 = .ok (.aload_n 0, 1) := by decide +kernel
theorem dX6_tallyWaits_35 : decode cX6_tallyWaits 35 = .ok (.getfield 30, 3) := by decide +kernel
theorem dX6_tallyWaits_38 : decode cX6_tallyWaits 38 = .ok (.getfield 78, 3) := by decide +kernel
theorem dX6_tallyWaits_41 : decode cX6_tallyWaits 41 = .ok (.if_icmp .ge 33, 3) := by decide +kernel
theorem dX6_tallyWaits_44 : decode cX6_tallyWaits 44 = .ok (.aload_n 0, 1) := by decide +kernel
theorem dX6_tallyWaits_45 : decode cX6_tallyWaits 45 = .ok (.getfield 30, 3) := by decide +kernel
theorem dX6_tallyWaits_48 : decode cX6_tallyWaits 48 = .ok (.iload 4, 2) := by decide +kernel
theorem dX6_tallyWaits_50 : decode cX6_tallyWaits 50 = .ok (.iload_n 1, 1) := by decide +kernel
theorem dX6_tallyWaits_51 : decode cX6_tallyWaits 51 = .ok (.invokevirtual 328, 3) := by decide +kernel
theorem dX6_tallyWaits_54 : decode cX6_tallyWaits 54 = .ok (.ifCond .eq 14, 3) := by decide +kernel
theorem dX6_tallyWaits_57 : decode cX6_tallyWaits 57 = .ok (.aload_n 0, 1) := by decide +kernel
theorem dX6_tallyWaits_58 : decode cX6_tallyWaits 58 = .ok (.getfield 39, 3) := by decide +kernel
theorem dX6_tallyWaits_61 : decode cX6_tallyWaits 61 = .ok (.iload 4, 2) := by decide +kernel
theorem dX6_tallyWaits_63 : decode cX6_tallyWaits 63 = .ok (.dup2, 1) := by decide +kernel
theorem dX6_tallyWaits_64 : decode cX6_tallyWaits 64 = .ok (.iaload, 1) := by decide +kernel
theorem dX6_tallyWaits_65 : decode cX6_tallyWaits 65 = .ok (.iconst 1, 1) := by decide +kernel
theorem dX6_tallyWaits_66 : decode cX6_tallyWaits 66 = .ok (.iadd, 1) := by decide +kernel
theorem dX6_tallyWaits_67 : decode cX6_tallyWaits 67 = .ok (.iastore, 1) := by decide +kernel
theorem dX6_tallyWaits_68 : decode cX6_tallyWaits 68 = .ok (.iinc 4 1, 3) := by decide +kernel
theorem dX6_tallyWaits_71 : decode cX6_tallyWaits 71 = .ok (.goto (-39), 3) := by decide +kernel
theorem dX6_tallyWaits_74 : decode cX6_tallyWaits 74 = .ok (.iinc 3 1, 3) := by decide +kernel
theorem dX6_tallyWaits_77 : decode cX6_tallyWaits 77 = .ok (.goto (-60), 3) := by decide +kernel
theorem dX6_tallyWaits_80 : decode cX6_tallyWaits 80 = .ok (.return_, 1) := by decide +kernel
set_option maxRecDepth 20000 in
theorem ggX6_worst_X6_isCircuit : GoodIn wsX6_worst wsX6_isCircuit := goodIn_r _ [8, 9, 1, 10, 194, 195, 196, 197, 198, 199, 200, 201, 202, 203, 204, 205, 206, 207, 208, 209, 210, 211, 212, 213] (by decide +kernel) (by decide +kernel)
set_option maxRecDepth 20000 in
theorem gX6_worst_X6_isCircuit : GoodIn wsX6_worst (wsV RX6 135 RX6 yX6_isCircuit wsX6_isCircuit) := goodIn_app (goodIn_of _ (by decide +kernel)) ggX6_worst_X6_isCircuit
set_option maxRecDepth 20000 in
theorem ggX6_worst_X6_outside : GoodIn wsX6_worst wsX6_outside := goodIn_r _ [13] (by decide +kernel) (by decide +kernel)
set_option maxRecDepth 20000 in
theorem gX6_worst_X6_outside : GoodIn wsX6_worst (va_wsS RX6 55 yX6_outside wsX6_outside) := goodIn_app (goodIn_of _ (by decide +kernel)) ggX6_worst_X6_outside
set_option maxRecDepth 20000 in
theorem ggX6_worst_X6_tallyWaits : GoodIn wsX6_worst wsX6_tallyWaits := goodIn_r _ [17, 18, 1, 2, 3, 19, 20, 21, 7, 22, 23, 24, 25, 26, 27, 28, 29, 30, 31, 32, 33, 34, 35, 36, 37, 38, 39, 40, 41, 42, 43, 44, 45, 46, 47, 48, 49, 50, 51, 52, 53, 54, 55, 56, 57, 58, 59, 60, 61, 62, 63, 64, 65, 66, 67, 68, 69, 70, 71, 72, 73, 74, 75, 76, 77, 78, 79, 80, 81, 82, 83, 84, 85, 86, 87, 88, 89, 90, 91, 92, 93, 94, 95, 96, 97, 98, 99, 100, 101, 102, 103, 104, 105, 106, 107, 108, 109, 110, 111, 112, 113, 114, 115, 116, 117, 118, 119, 120, 121, 122, 123, 124, 125, 126, 127, 128, 129, 130, 131, 132, 133, 134, 135, 136, 137, 138, 139, 140, 141, 142, 143, 144, 145, 146, 147, 148, 149, 150, 151, 152, 153, 154, 155, 156, 157, 158, 159, 160, 161, 162, 163, 164, 165, 166, 167, 168, 169, 170, 171, 172, 173, 174, 175, 176, 177, 178, 179, 180, 181, 182, 183, 184, 185, 186, 187, 188, 189, 190, 191, 192, 193, 194, 195, 196, 197, 198, 199, 200, 201, 202, 203, 204, 205, 206, 207, 208, 209, 210, 211, 212, 213, 214, 215, 216, 217, 218, 219, 220, 221, 222, 223, 224, 225, 226, 227, 228, 229, 230, 231, 232, 233, 234, 235, 236, 237, 238] (by decide +kernel) (by decide +kernel)
set_option maxRecDepth 20000 in
theorem gX6_worst_X6_tallyWaits : GoodIn wsX6_worst (wsV RX6 324 RX6 yX6_tallyWaits wsX6_tallyWaits) := goodIn_app (goodIn_of _ (by decide +kernel)) ggX6_worst_X6_tallyWaits
theorem dX6_worst_0 : decode cX6_worst 0 = .ok (.aload_n 0, 1) := by decide +kernel
theorem dX6_worst_1 : decode cX6_worst 1 = .ok (.iload_n 1, 1) := by decide +kernel
theorem dX6_worst_2 : decode cX6_worst 2 = .ok (.invokevirtual 135, 3) := by decide +kernel
theorem dX6_worst_5 : decode cX6_worst 5 = .ok (.ifCond .eq 14, 3) := by decide +kernel
theorem dX6_worst_8 : decode cX6_worst 8 = .ok (.iload_n 2, 1) := by decide +kernel
theorem dX6_worst_9 : decode cX6_worst 9 = .ok (.iconst 1, 1) := by decide +kernel
theorem dX6_worst_10 : decode cX6_worst 10 = .ok (.sipush 200, 3) := by decide +kernel
theorem dX6_worst_13 : decode cX6_worst 13 = .ok (.invokestatic 55, 3) := by decide +kernel
theorem dX6_worst_16 : decode cX6_worst 16 = .ok (.ifCond .eq 5, 3) := by decide +kernel
theorem dX6_worst_19 : decode cX6_worst 19 = .ok (.iconst (-1), 1) := by decide +kernel
theorem dX6_worst_20 : decode cX6_worst 20 = .ok (.ireturn, 1) := by decide +kernel
theorem dX6_worst_21 : decode cX6_worst 21 = .ok (.aload_n 0, 1) := by decide +kernel
theorem dX6_worst_22 : decode cX6_worst 22 = .ok (.iload_n 1, 1) := by decide +kernel
theorem dX6_worst_23 : decode cX6_worst 23 = .ok (.iload_n 2, 1) := by decide +kernel
theorem dX6_worst_24 : decode cX6_worst 24 = .ok (.invokevirtual 324, 3) := by decide +kernel
theorem dX6_worst_27 : decode cX6_worst 27 = .ok (.iconst (-1), 1) := by decide +kernel
theorem dX6_worst_28 : decode cX6_worst 28 = .ok (.istore_n 3, 1) := by decide +kernel
theorem dX6_worst_29 : decode cX6_worst 29 = .ok (.iconst 0, 1) := by decide +kernel
theorem dX6_worst_30 : decode cX6_worst 30 = .ok (.istore 4, 2) := by decide +kernel
theorem dX6_worst_32 : decode cX6_worst 32 = .ok (.iconst 0, 1) := by decide +kernel
theorem dX6_worst_33 : decode cX6_worst 33 = .ok (.istore 5, 2) := by decide +kernel
theorem dX6_worst_35 : decode cX6_worst 35 = .ok (.iload 5, 2) := by decide +kernel
theorem dX6_worst_37 : decode cX6_worst 37 = .ok (.aload_n 0, 1) := by decide +kernel
theorem dX6_worst_38 : decode cX6_worst 38 = .ok (.getfield 26, 3) := by decide +kernel
theorem dX6_worst_41 : decode cX6_worst 41 = .ok (.getfield 78, 3) := by decide +kernel
theorem dX6_worst_44 : decode cX6_worst 44 = .ok (.if_icmp .ge 33, 3) := by decide +kernel
theorem dX6_worst_47 : decode cX6_worst 47 = .ok (.aload_n 0, 1) := by decide +kernel
theorem dX6_worst_48 : decode cX6_worst 48 = .ok (.getfield 39, 3) := by decide +kernel
theorem dX6_worst_51 : decode cX6_worst 51 = .ok (.iload 5, 2) := by decide +kernel
theorem dX6_worst_53 : decode cX6_worst 53 = .ok (.iaload, 1) := by decide +kernel
theorem dX6_worst_54 : decode cX6_worst 54 = .ok (.iload 4, 2) := by decide +kernel
theorem dX6_worst_56 : decode cX6_worst 56 = .ok (.if_icmp .le 15, 3) := by decide +kernel
theorem dX6_worst_59 : decode cX6_worst 59 = .ok (.aload_n 0, 1) := by decide +kernel
theorem dX6_worst_60 : decode cX6_worst 60 = .ok (.getfield 39, 3) := by decide +kernel
theorem dX6_worst_63 : decode cX6_worst 63 = .ok (.iload 5, 2) := by decide +kernel
theorem dX6_worst_65 : decode cX6_worst 65 = .ok (.iaload, 1) := by decide +kernel
theorem dX6_worst_66 : decode cX6_worst 66 = .ok (.istore 4, 2) := by decide +kernel
theorem dX6_worst_68 : decode cX6_worst 68 = .ok (.iload 5, 2) := by decide +kernel
theorem dX6_worst_70 : decode cX6_worst 70 = .ok (.istore_n 3, 1) := by decide +kernel
theorem dX6_worst_71 : decode cX6_worst 71 = .ok (.iinc 5 1, 3) := by decide +kernel
theorem dX6_worst_74 : decode cX6_worst 74 = .ok (.goto (-39), 3) := by decide +kernel
theorem dX6_worst_77 : decode cX6_worst 77 = .ok (.iload_n 3, 1) := by decide +kernel
theorem dX6_worst_78 : decode cX6_worst 78 = .ok (.ireturn, 1) := by decide +kernel
set_option maxRecDepth 20000 in
theorem ggX6_busiest_X6_outside : GoodIn wsX6_busiest wsX6_outside := goodIn_r _ [8] (by decide +kernel) (by decide +kernel)
set_option maxRecDepth 20000 in
theorem gX6_busiest_X6_outside : GoodIn wsX6_busiest (va_wsS RX6 55 yX6_outside wsX6_outside) := goodIn_app (goodIn_of _ (by decide +kernel)) ggX6_busiest_X6_outside
set_option maxRecDepth 20000 in
theorem ggX6_busiest_X6_tallyIdle : GoodIn wsX6_busiest wsX6_tallyIdle := goodIn_r _ [12, 13, 2, 3, 14, 15, 4, 16, 17, 18, 7, 19, 20, 21, 22, 23, 24, 25, 26, 27, 28, 29, 30, 31, 32, 33, 34, 35, 36, 37, 38, 39, 40, 41, 42, 43, 44, 45, 46, 47, 48, 49, 50, 51, 52, 53, 54, 55, 56, 57, 58, 59, 60, 61, 62, 63, 64, 65, 66, 67, 68, 69, 70, 71, 72, 73, 74, 75, 76, 77, 78, 79, 80, 81, 82, 83, 84, 85, 86, 87, 88, 89, 90, 91, 92, 93, 94, 95, 96, 97, 98, 99, 100, 101, 102, 103, 104, 105, 106, 107, 108, 109, 110, 111, 112, 113, 114, 115, 116, 117, 118, 119, 120, 121, 122, 123, 124, 125, 126, 127, 128, 129, 130, 131, 132, 133, 134, 135, 136, 137, 138, 139, 140, 141, 142, 143, 144, 145, 146, 147, 148, 149, 150, 151, 152, 153, 154, 155, 156, 157, 158, 159, 160, 161, 162, 163, 164, 165, 166, 167, 168, 169, 170, 171, 172, 173, 174, 175, 176, 177, 178, 179, 180, 181, 182, 183, 184, 185, 186, 187, 188, 189, 190, 191, 192, 193, 194, 195, 196, 197, 198, 199, 200, 201, 202, 203, 204, 205, 206, 207, 208, 209, 210, 211, 212, 213, 214, 215, 216, 217, 218, 219, 220, 221, 222, 223, 224, 225, 226, 227, 228, 229, 230, 231, 232, 233, 234] (by decide +kernel) (by decide +kernel)
set_option maxRecDepth 20000 in
theorem gX6_busiest_X6_tallyIdle : GoodIn wsX6_busiest (wsV RX6 289 RX6 yX6_tallyIdle wsX6_tallyIdle) := goodIn_app (goodIn_of _ (by decide +kernel)) ggX6_busiest_X6_tallyIdle
theorem dX6_busiest_0 : decode cX6_busiest 0 = .ok (.aload_n 0, 1) := by decide +kernel
theorem dX6_busiest_1 : decode cX6_busiest 1 = .ok (.getfield 70, 3) := by decide +kernel
theorem dX6_busiest_4 : decode cX6_busiest 4 = .ok (.ifCond .eq 14, 3) := by decide +kernel
theorem dX6_busiest_7 : decode cX6_busiest 7 = .ok (.iload_n 1, 1) := by decide +kernel
theorem dX6_busiest_8 : decode cX6_busiest 8 = .ok (.iconst 1, 1) := by decide +kernel
theorem dX6_busiest_9 : decode cX6_busiest 9 = .ok (.sipush 200, 3) := by decide +kernel
theorem dX6_busiest_12 : decode cX6_busiest 12 = .ok (.invokestatic 55, 3) := by decide +kernel
theorem dX6_busiest_15 : decode cX6_busiest 15 = .ok (.ifCond .eq 5, 3) := by decide +kernel
theorem dX6_busiest_18 : decode cX6_busiest 18 = .ok (.iconst (-1), 1) := by decide +kernel
theorem dX6_busiest_19 : decode cX6_busiest 19 = .ok (.ireturn, 1) := by decide +kernel
theorem dX6_busiest_20 : decode cX6_busiest 20 = .ok (.aload_n 0, 1) := by decide +kernel
theorem dX6_busiest_21 : decode cX6_busiest 21 = .ok (.iload_n 1, 1) := by decide +kernel
theorem dX6_busiest_22 : decode cX6_busiest 22 = .ok (.invokevirtual 289, 3) := by decide +kernel
theorem dX6_busiest_25 : decode cX6_busiest 25 = .ok (.iconst 0, 1) := by decide +kernel
theorem dX6_busiest_26 : decode cX6_busiest 26 = .ok (.istore_n 2, 1) := by decide +kernel
theorem dX6_busiest_27 : decode cX6_busiest 27 = .ok (.iconst 1, 1) := by decide +kernel
theorem dX6_busiest_28 : decode cX6_busiest 28 = .ok (.istore_n 3, 1) := by decide +kernel
theorem dX6_busiest_29 : decode cX6_busiest 29 = .ok (.iload_n 3, 1) := by decide +kernel
theorem dX6_busiest_30 : decode cX6_busiest 30 = .ok (.aload_n 0, 1) := by decide +kernel
theorem dX6_busiest_31 : decode cX6_busiest 31 = .ok (.getfield 26, 3) := by decide +kernel
theorem dX6_busiest_34 : decode cX6_busiest 34 = .ok (.getfield 78, 3) := by decide +kernel
theorem dX6_busiest_37 : decode cX6_busiest 37 = .ok (.if_icmp .ge 26, 3) := by decide +kernel
theorem dX6_busiest_40 : decode cX6_busiest 40 = .ok (.aload_n 0, 1) := by decide +kernel
theorem dX6_busiest_41 : decode cX6_busiest 41 = .ok (.getfield 39, 3) := by decide +kernel
theorem dX6_busiest_44 : decode cX6_busiest 44 = .ok (.iload_n 3, 1) := by decide +kernel
theorem dX6_busiest_45 : decode cX6_busiest 45 = .ok (.iaload, 1) := by decide +kernel
theorem dX6_busiest_46 : decode cX6_busiest 46 = .ok (.aload_n 0, 1) := by decide +kernel
theorem dX6_busiest_47 : decode cX6_busiest 47 = .ok (.getfield 39, 3) := by decide +kernel
theorem dX6_busiest_50 : decode cX6_busiest 50 = .ok (.iload_n 2, 1) := by decide +kernel
theorem dX6_busiest_51 : decode cX6_busiest 51 = .ok (.iaload, 1) := by decide +kernel
theorem dX6_busiest_52 : decode cX6_busiest 52 = .ok (.if_icmp .ge 5, 3) := by decide +kernel
theorem dX6_busiest_55 : decode cX6_busiest 55 = .ok (.iload_n 3, 1) := by decide +kernel
theorem dX6_busiest_56 : decode cX6_busiest 56 = .ok (.istore_n 2, 1) := by decide +kernel
theorem dX6_busiest_57 : decode cX6_busiest 57 = .ok (.iinc 3 1, 3) := by decide +kernel
theorem dX6_busiest_60 : decode cX6_busiest 60 = .ok (.goto (-31), 3) := by decide +kernel
theorem dX6_busiest_63 : decode cX6_busiest 63 = .ok (.iload_n 2, 1) := by decide +kernel
theorem dX6_busiest_64 : decode cX6_busiest 64 = .ok (.ireturn, 1) := by decide +kernel
set_option maxRecDepth 20000 in
theorem ggX6_alone_X6_outside : GoodIn wsX6_alone wsX6_outside := goodIn_r _ [4] (by decide +kernel) (by decide +kernel)
set_option maxRecDepth 20000 in
theorem gX6_alone_X6_outside : GoodIn wsX6_alone (va_wsS RX6 55 yX6_outside wsX6_outside) := goodIn_app (goodIn_of _ (by decide +kernel)) ggX6_alone_X6_outside
set_option maxRecDepth 20000 in
theorem ggX6_alone_X6_isNoLink : GoodIn wsX6_alone wsX6_isNoLink := goodIn_r _ [7, 1, 2, 3, 4] (by decide +kernel) (by decide +kernel)
set_option maxRecDepth 20000 in
theorem gX6_alone_X6_isNoLink : GoodIn wsX6_alone (va_wsS RX6 331 yX6_isNoLink wsX6_isNoLink) := goodIn_app (goodIn_of _ (by decide +kernel)) ggX6_alone_X6_isNoLink
set_option maxRecDepth 20000 in
theorem ggX6_alone_X6_sentAlone : GoodIn wsX6_alone wsX6_sentAlone := goodIn_r _ [11, 12, 13, 14, 15, 16, 17, 18, 19, 20, 21, 22, 23, 24, 25, 26, 27, 28, 29, 30, 31, 32, 33, 34, 35, 36, 37, 38, 39, 40, 41, 42, 43, 44, 45, 46, 47, 48, 49, 50, 51, 52, 53, 54, 55, 56, 57, 58, 59, 60, 61, 62, 63, 64, 65, 66, 67, 68, 69, 70, 71, 72, 73, 74, 75, 76, 77, 78, 79, 80, 81, 82, 83, 84, 85, 86, 87, 88, 89, 90, 91, 92, 93, 94, 95, 96, 97, 98, 99, 100, 3, 101, 102, 103, 104, 105, 106, 107, 108, 109, 110, 111, 112, 113, 114, 115, 116, 117, 118, 119, 120, 121, 122, 123, 124, 125, 126, 127, 128, 129, 130, 131, 132, 133, 134, 135, 136, 137, 138, 139, 140, 141, 142, 143, 144, 145, 146, 147, 148, 149, 150, 151, 152, 153, 154, 155, 156, 157, 158, 159, 160, 161, 162, 163, 164, 165, 166, 167, 168, 169, 170, 171, 172, 173, 174, 175, 176, 177, 178, 179, 180, 181, 182, 183, 184, 185, 186, 187, 188, 189, 190, 191, 192, 193, 194, 195, 196, 197, 198, 199, 200, 201, 202, 203, 204, 205, 206, 207, 208, 209, 210, 211, 212, 213, 214, 215, 216, 217, 218, 219, 220, 221, 222, 223, 224, 225, 226, 227, 228, 229, 230, 231, 232, 233, 234] (by decide +kernel) (by decide +kernel)
set_option maxRecDepth 20000 in
theorem gX6_alone_X6_sentAlone : GoodIn wsX6_alone (wsV RX6 335 RX6 yX6_sentAlone wsX6_sentAlone) := goodIn_app (goodIn_of _ (by decide +kernel)) ggX6_alone_X6_sentAlone
theorem dX6_alone_0 : decode cX6_alone 0 = .ok (.iload_n 3, 1) := by decide +kernel
theorem dX6_alone_1 : decode cX6_alone 1 = .ok (.iconst 1, 1) := by decide +kernel
theorem dX6_alone_2 : decode cX6_alone 2 = .ok (.bipush 30, 2) := by decide +kernel
theorem dX6_alone_4 : decode cX6_alone 4 = .ok (.invokestatic 55, 3) := by decide +kernel
theorem dX6_alone_7 : decode cX6_alone 7 = .ok (.ifCond .ne 15, 3) := by decide +kernel
theorem dX6_alone_10 : decode cX6_alone 10 = .ok (.iload_n 1, 1) := by decide +kernel
theorem dX6_alone_11 : decode cX6_alone 11 = .ok (.iload_n 2, 1) := by decide +kernel
theorem dX6_alone_12 : decode cX6_alone 12 = .ok (.iload 4, 2) := by decide +kernel
theorem dX6_alone_14 : decode cX6_alone 14 = .ok (.iload 5, 2) := by decide +kernel
theorem dX6_alone_16 : decode cX6_alone 16 = .ok (.invokestatic 331, 3) := by decide +kernel
theorem dX6_alone_19 : decode cX6_alone 19 = .ok (.ifCond .eq 5, 3) := by decide +kernel
theorem dX6_alone_22 : decode cX6_alone 22 = .ok (.iconst (-1), 1) := by decide +kernel
theorem dX6_alone_23 : decode cX6_alone 23 = .ok (.ireturn, 1) := by decide +kernel
theorem dX6_alone_24 : decode cX6_alone 24 = .ok (.aload_n 0, 1) := by decide +kernel
theorem dX6_alone_25 : decode cX6_alone 25 = .ok (.iload_n 1, 1) := by decide +kernel
theorem dX6_alone_26 : decode cX6_alone 26 = .ok (.iload_n 2, 1) := by decide +kernel
theorem dX6_alone_27 : decode cX6_alone 27 = .ok (.iload_n 3, 1) := by decide +kernel
theorem dX6_alone_28 : decode cX6_alone 28 = .ok (.iload 4, 2) := by decide +kernel
theorem dX6_alone_30 : decode cX6_alone 30 = .ok (.iload 5, 2) := by decide +kernel
theorem dX6_alone_32 : decode cX6_alone 32 = .ok (.invokevirtual 335, 3) := by decide +kernel
theorem dX6_alone_35 : decode cX6_alone 35 = .ok (.ireturn, 1) := by decide +kernel
set_option maxRecDepth 20000 in
theorem ggX6_isNoLink_X6_outside : GoodIn wsX6_isNoLink wsX6_outside := goodIn_r _ [4] (by decide +kernel) (by decide +kernel)
set_option maxRecDepth 20000 in
theorem gX6_isNoLink_X6_outside : GoodIn wsX6_isNoLink (va_wsS RX6 55 yX6_outside wsX6_outside) := goodIn_app (goodIn_of _ (by decide +kernel)) ggX6_isNoLink_X6_outside
theorem dX6_isNoLink_0 : decode cX6_isNoLink 0 = .ok (.iload_n 0, 1) := by decide +kernel
theorem dX6_isNoLink_1 : decode cX6_isNoLink 1 = .ok (.iconst 1, 1) := by decide +kernel
theorem dX6_isNoLink_2 : decode cX6_isNoLink 2 = .ok (.iconst 4, 1) := by decide +kernel
theorem dX6_isNoLink_3 : decode cX6_isNoLink 3 = .ok (.invokestatic 55, 3) := by decide +kernel
theorem dX6_isNoLink_6 : decode cX6_isNoLink 6 = .ok (.ifCond .ne 33, 3) := by decide +kernel
theorem dX6_isNoLink_9 : decode cX6_isNoLink 9 = .ok (.iload_n 1, 1) := by decide +kernel
theorem dX6_isNoLink_10 : decode cX6_isNoLink 10 = .ok (.iconst 1, 1) := by decide +kernel
theorem dX6_isNoLink_11 : decode cX6_isNoLink 11 = .ok (.iconst 4, 1) := by decide +kernel
theorem dX6_isNoLink_12 : decode cX6_isNoLink 12 = .ok (.invokestatic 55, 3) := by decide +kernel
theorem dX6_isNoLink_15 : decode cX6_isNoLink 15 = .ok (.ifCond .ne 24, 3) := by decide +kernel
theorem dX6_isNoLink_18 : decode cX6_isNoLink 18 = .ok (.iload_n 2, 1) := by decide +kernel
theorem dX6_isNoLink_19 : decode cX6_isNoLink 19 = .ok (.iconst 1, 1) := by decide +kernel
theorem dX6_isNoLink_20 : decode cX6_isNoLink 20 = .ok (.bipush 9, 2) := by decide +kernel
theorem dX6_isNoLink_22 : decode cX6_isNoLink 22 = .ok (.invokestatic 55, 3) := by decide +kernel
theorem dX6_isNoLink_25 : decode cX6_isNoLink 25 = .ok (.ifCond .ne 14, 3) := by decide +kernel
theorem dX6_isNoLink_28 : decode cX6_isNoLink 28 = .ok (.iload_n 3, 1) := by decide +kernel
theorem dX6_isNoLink_29 : decode cX6_isNoLink 29 = .ok (.iconst 1, 1) := by decide +kernel
theorem dX6_isNoLink_30 : decode cX6_isNoLink 30 = .ok (.sipush 200, 3) := by decide +kernel
theorem dX6_isNoLink_33 : decode cX6_isNoLink 33 = .ok (.invokestatic 55, 3) := by decide +kernel
theorem dX6_isNoLink_36 : decode cX6_isNoLink 36 = .ok (.ifCond .eq 7, 3) := by decide +kernel
theorem dX6_isNoLink_39 : decode cX6_isNoLink 39 = .ok (.iconst 1, 1) := by decide +kernel
theorem dX6_isNoLink_40 : decode cX6_isNoLink 40 = .ok (.goto 4, 3) := by decide +kernel
theorem dX6_isNoLink_43 : decode cX6_isNoLink 43 = .ok (.iconst 0, 1) := by decide +kernel
theorem dX6_isNoLink_44 : decode cX6_isNoLink 44 = .ok (.ireturn, 1) := by decide +kernel
set_option maxRecDepth 20000 in
theorem ggX6_sentAlone_X3_layAlone : GoodIn wsX6_sentAlone wsX3_layAlone := goodIn_r _ [9, 10, 11, 12, 13, 14, 15, 8, 16, 17, 18, 19, 20, 21, 22, 23, 24, 25, 26, 27, 28, 29, 30, 31, 32, 33, 34, 35, 36, 37, 38, 39, 40, 41, 42, 43, 44, 45, 46, 47, 48, 49, 50, 51, 52, 53, 54, 55, 56, 57, 58, 59, 60, 61, 62, 63, 64, 65, 66, 67, 68, 189, 190, 191, 192, 193, 194, 195, 196, 197, 198, 199, 200, 201, 202, 203, 204, 205, 206, 207, 208, 209, 210, 211, 212, 213, 214, 215, 216, 217, 218, 219, 220, 221, 222, 223, 224] (by decide +kernel) (by decide +kernel)
set_option maxRecDepth 20000 in
theorem gX6_sentAlone_X3_layAlone : GoodIn wsX6_sentAlone (wsV RX6 339 RX3 yX3_layAlone wsX3_layAlone) := goodIn_app (goodIn_of _ (by decide +kernel)) ggX6_sentAlone_X3_layAlone
set_option maxRecDepth 20000 in
theorem ggX6_sentAlone_X3_steps : GoodIn wsX6_sentAlone wsX3_steps := goodIn_r _ [72, 73, 74, 75, 8, 76, 17, 18, 20, 22, 10, 77, 78, 79, 80, 81, 12, 82, 83, 84, 85, 86, 87, 47, 88, 51, 89, 90, 91, 92, 93, 94, 95, 96, 23, 97, 98, 99, 38, 39, 28, 40, 41, 42, 43, 100, 101, 102, 103, 11, 104, 105, 106, 107, 108, 109, 59, 110, 61, 62, 111, 112, 113, 114, 115, 116, 117, 118, 119, 120, 63, 121, 122, 123, 124, 125, 126, 127, 128, 129, 130, 131, 132, 133, 134, 135, 136, 137, 138, 139, 140, 141, 142, 143, 49, 144, 145, 146, 147, 148, 21, 149, 150, 151, 152, 153, 154, 155, 156, 24, 157, 158, 159, 160, 161, 162, 163, 164, 165, 166, 167, 168, 169, 170, 171, 172, 19, 173, 174, 175, 176, 31, 36, 177, 178, 179, 189, 190, 191, 192, 193, 194, 195, 196, 197, 198, 199, 200, 201, 202, 203, 204, 205, 206, 207, 208, 209, 210, 211, 212, 213, 214, 215, 216, 217, 218, 219, 220, 221, 222, 223, 224] (by decide +kernel) (by decide +kernel)
set_option maxRecDepth 20000 in
theorem gX6_sentAlone_X3_steps : GoodIn wsX6_sentAlone (wsV RX6 274 RX3 yX3_steps wsX3_steps) := goodIn_app (goodIn_of _ (by decide +kernel)) ggX6_sentAlone_X3_steps
theorem dX6_sentAlone_0 : decode cX6_sentAlone 0 = .ok (.aload_n 0, 1) := by decide +kernel
theorem dX6_sentAlone_1 : decode cX6_sentAlone 1 = .ok (.getfield 30, 3) := by decide +kernel
theorem dX6_sentAlone_4 : decode cX6_sentAlone 4 = .ok (.iload_n 1, 1) := by decide +kernel
theorem dX6_sentAlone_5 : decode cX6_sentAlone 5 = .ok (.iload_n 2, 1) := by decide +kernel
theorem dX6_sentAlone_6 : decode cX6_sentAlone 6 = .ok (.iload_n 3, 1) := by decide +kernel
theorem dX6_sentAlone_7 : decode cX6_sentAlone 7 = .ok (.iload 4, 2) := by decide +kernel
theorem dX6_sentAlone_9 : decode cX6_sentAlone 9 = .ok (.invokevirtual 339, 3) := by decide +kernel
theorem dX6_sentAlone_12 : decode cX6_sentAlone 12 = .ok (.aload_n 0, 1) := by decide +kernel
theorem dX6_sentAlone_13 : decode cX6_sentAlone 13 = .ok (.getfield 30, 3) := by decide +kernel
theorem dX6_sentAlone_16 : decode cX6_sentAlone 16 = .ok (.iload 5, 2) := by decide +kernel
theorem dX6_sentAlone_18 : decode cX6_sentAlone 18 = .ok (.invokevirtual 274, 3) := by decide +kernel
theorem dX6_sentAlone_21 : decode cX6_sentAlone 21 = .ok (.aload_n 0, 1) := by decide +kernel
theorem dX6_sentAlone_22 : decode cX6_sentAlone 22 = .ok (.getfield 30, 3) := by decide +kernel
theorem dX6_sentAlone_25 : decode cX6_sentAlone 25 = .ok (.getfield 104, 3) := by decide +kernel
theorem dX6_sentAlone_28 : decode cX6_sentAlone 28 = .ok (.iconst 0, 1) := by decide +kernel
theorem dX6_sentAlone_29 : decode cX6_sentAlone 29 = .ok (.aaload, 1) := by decide +kernel
theorem dX6_sentAlone_30 : decode cX6_sentAlone 30 = .ok (.getfield 175, 3) := by decide +kernel
theorem dX6_sentAlone_33 : decode cX6_sentAlone 33 = .ok (.iconst 0, 1) := by decide +kernel
theorem dX6_sentAlone_34 : decode cX6_sentAlone 34 = .ok (.aaload, 1) := by decide +kernel
theorem dX6_sentAlone_35 : decode cX6_sentAlone 35 = .ok (.getfield 205, 3) := by decide +kernel
theorem dX6_sentAlone_38 : decode cX6_sentAlone 38 = .ok (.ireturn, 1) := by decide +kernel
set_option maxRecDepth 20000 in
theorem ggX6_full_X6_isNoLink : GoodIn wsX6_full wsX6_isNoLink := goodIn_r _ [4, 5, 6, 3, 7] (by decide +kernel) (by decide +kernel)
set_option maxRecDepth 20000 in
theorem gX6_full_X6_isNoLink : GoodIn wsX6_full (va_wsS RX6 331 yX6_isNoLink wsX6_isNoLink) := goodIn_app (goodIn_of _ (by decide +kernel)) ggX6_full_X6_isNoLink
set_option maxRecDepth 20000 in
theorem ggX6_full_X6_sentAlone : GoodIn wsX6_full wsX6_sentAlone := goodIn_r _ [11, 12, 13, 14, 15, 16, 17, 18, 19, 20, 21, 22, 23, 24, 25, 26, 27, 28, 29, 30, 31, 32, 33, 34, 35, 36, 37, 38, 39, 40, 41, 42, 43, 44, 45, 46, 47, 48, 49, 50, 51, 52, 53, 54, 55, 56, 57, 58, 59, 60, 61, 62, 63, 64, 65, 66, 67, 68, 69, 70, 71, 72, 73, 74, 75, 76, 77, 78, 79, 80, 81, 82, 83, 84, 85, 86, 87, 88, 89, 90, 91, 92, 93, 94, 95, 96, 97, 98, 99, 100, 3, 101, 102, 103, 104, 105, 106, 107, 108, 109, 110, 111, 112, 113, 114, 115, 116, 117, 118, 119, 120, 121, 122, 123, 124, 125, 126, 127, 128, 129, 130, 131, 132, 133, 134, 135, 136, 137, 138, 139, 140, 141, 142, 143, 144, 145, 146, 147, 148, 149, 150, 151, 152, 153, 154, 155, 156, 157, 158, 159, 160, 161, 162, 163, 164, 165, 166, 167, 168, 169, 170, 171, 172, 173, 174, 175, 176, 177, 178, 179, 180, 181, 182, 183, 184, 185, 186, 187, 188, 189, 190, 191, 192, 193, 194, 195, 196, 197, 198, 199, 200, 201, 202, 203, 204, 205, 206, 207, 208, 209, 210, 211, 212, 213, 214, 215, 216, 217, 218, 219, 220, 221, 222, 223, 224, 225, 226, 227, 228, 229, 230, 231, 232, 233, 234] (by decide +kernel) (by decide +kernel)
set_option maxRecDepth 20000 in
theorem gX6_full_X6_sentAlone : GoodIn wsX6_full (wsV RX6 335 RX6 yX6_sentAlone wsX6_sentAlone) := goodIn_app (goodIn_of _ (by decide +kernel)) ggX6_full_X6_sentAlone
theorem dX6_full_0 : decode cX6_full 0 = .ok (.iload_n 1, 1) := by decide +kernel
theorem dX6_full_1 : decode cX6_full 1 = .ok (.iload_n 2, 1) := by decide +kernel
theorem dX6_full_2 : decode cX6_full 2 = .ok (.iload_n 3, 1) := by decide +kernel
theorem dX6_full_3 : decode cX6_full 3 = .ok (.iload 4, 2) := by decide +kernel
theorem dX6_full_5 : decode cX6_full 5 = .ok (.invokestatic 331, 3) := by decide +kernel
theorem dX6_full_8 : decode cX6_full 8 = .ok (.ifCond .eq 5, 3) := by decide +kernel
theorem dX6_full_11 : decode cX6_full 11 = .ok (.iconst (-1), 1) := by decide +kernel
theorem dX6_full_12 : decode cX6_full 12 = .ok (.ireturn, 1) := by decide +kernel
theorem dX6_full_13 : decode cX6_full 13 = .ok (.aload_n 0, 1) := by decide +kernel
theorem dX6_full_14 : decode cX6_full 14 = .ok (.iload_n 1, 1) := by decide +kernel
theorem dX6_full_15 : decode cX6_full 15 = .ok (.iload_n 2, 1) := by decide +kernel
theorem dX6_full_16 : decode cX6_full 16 = .ok (.bipush 30, 2) := by decide +kernel
theorem dX6_full_18 : decode cX6_full 18 = .ok (.iload_n 3, 1) := by decide +kernel
theorem dX6_full_19 : decode cX6_full 19 = .ok (.iload 4, 2) := by decide +kernel
theorem dX6_full_21 : decode cX6_full 21 = .ok (.invokevirtual 335, 3) := by decide +kernel
theorem dX6_full_24 : decode cX6_full 24 = .ok (.istore 5, 2) := by decide +kernel
theorem dX6_full_26 : decode cX6_full 26 = .ok (.iconst 1, 1) := by decide +kernel
theorem dX6_full_27 : decode cX6_full 27 = .ok (.istore 6, 2) := by decide +kernel
theorem dX6_full_29 : decode cX6_full 29 = .ok (.iload 6, 2) := by decide +kernel
theorem dX6_full_31 : decode cX6_full 31 = .ok (.bipush 30, 2) := by decide +kernel
theorem dX6_full_33 : decode cX6_full 33 = .ok (.if_icmp .ge 28, 3) := by decide +kernel
theorem dX6_full_36 : decode cX6_full 36 = .ok (.aload_n 0, 1) := by decide +kernel
theorem dX6_full_37 : decode cX6_full 37 = .ok (.iload_n 1, 1) := by decide +kernel
theorem dX6_full_38 : decode cX6_full 38 = .ok (.iload_n 2, 1) := by decide +kernel
theorem dX6_full_39 : decode cX6_full 39 = .ok (.iload 6, 2) := by decide +kernel
theorem dX6_full_41 : decode cX6_full 41 = .ok (.iload_n 3, 1) := by decide +kernel
theorem dX6_full_42 : decode cX6_full 42 = .ok (.iload 4, 2) := by decide +kernel
theorem dX6_full_44 : decode cX6_full 44 = .ok (.invokevirtual 335, 3) := by decide +kernel
