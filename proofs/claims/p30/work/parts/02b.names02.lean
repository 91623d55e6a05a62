theorem dX6_full_47 : decode cX6_full 47 = .ok (.iload 5, 2) := by decide +kernel
theorem dX6_full_49 : decode cX6_full 49 = .ok (.if_icmp .ne 6, 3) := by decide +kernel
theorem dX6_full_52 : decode cX6_full 52 = .ok (.iload 6, 2) := by decide +kernel
theorem dX6_full_54 : decode cX6_full 54 = .ok (.ireturn, 1) := by decide +kernel
theorem dX6_full_55 : decode cX6_full 55 = .ok (.iinc 6 1, 3) := by decide +kernel
theorem dX6_full_58 : decode cX6_full 58 = .ok (.goto (-29), 3) := by decide +kernel
theorem dX6_full_61 : decode cX6_full 61 = .ok (.bipush 30, 2) := by decide +kernel
theorem dX6_full_63 : decode cX6_full 63 = .ok (.ireturn, 1) := by decide +kernel
set_option maxRecDepth 20000 in
theorem ggX6_law_X6_outside : GoodIn wsX6_law wsX6_outside := goodIn_r _ [4] (by decide +kernel) (by decide +kernel)
set_option maxRecDepth 20000 in
theorem gX6_law_X6_outside : GoodIn wsX6_law (va_wsS RX6 55 yX6_outside wsX6_outside) := goodIn_app (goodIn_of _ (by decide +kernel)) ggX6_law_X6_outside
theorem dX6_law_0 : decode cX6_law 0 = .ok (.iload_n 1, 1) := by decide +kernel
theorem dX6_law_1 : decode cX6_law 1 = .ok (.iconst 1, 1) := by decide +kernel
theorem dX6_law_2 : decode cX6_law 2 = .ok (.iconst 4, 1) := by decide +kernel
theorem dX6_law_3 : decode cX6_law 3 = .ok (.invokestatic 55, 3) := by decide +kernel
theorem dX6_law_6 : decode cX6_law 6 = .ok (.ifCond .ne 22, 3) := by decide +kernel
theorem dX6_law_9 : decode cX6_law 9 = .ok (.iload_n 2, 1) := by decide +kernel
theorem dX6_law_10 : decode cX6_law 10 = .ok (.iconst 1, 1) := by decide +kernel
theorem dX6_law_11 : decode cX6_law 11 = .ok (.iconst 4, 1) := by decide +kernel
theorem dX6_law_12 : decode cX6_law 12 = .ok (.invokestatic 55, 3) := by decide +kernel
theorem dX6_law_15 : decode cX6_law 15 = .ok (.ifCond .ne 13, 3) := by decide +kernel
theorem dX6_law_18 : decode cX6_law 18 = .ok (.iload_n 3, 1) := by decide +kernel
theorem dX6_law_19 : decode cX6_law 19 = .ok (.iconst 1, 1) := by decide +kernel
theorem dX6_law_20 : decode cX6_law 20 = .ok (.bipush 9, 2) := by decide +kernel
theorem dX6_law_22 : decode cX6_law 22 = .ok (.invokestatic 55, 3) := by decide +kernel
theorem dX6_law_25 : decode cX6_law 25 = .ok (.ifCond .eq 5, 3) := by decide +kernel
theorem dX6_law_28 : decode cX6_law 28 = .ok (.iconst (-1), 1) := by decide +kernel
theorem dX6_law_29 : decode cX6_law 29 = .ok (.ireturn, 1) := by decide +kernel
theorem dX6_law_30 : decode cX6_law 30 = .ok (.iconst 2, 1) := by decide +kernel
theorem dX6_law_31 : decode cX6_law 31 = .ok (.iload_n 1, 1) := by decide +kernel
theorem dX6_law_32 : decode cX6_law 32 = .ok (.imul, 1) := by decide +kernel
theorem dX6_law_33 : decode cX6_law 33 = .ok (.iload_n 3, 1) := by decide +kernel
theorem dX6_law_34 : decode cX6_law 34 = .ok (.iadd, 1) := by decide +kernel
theorem dX6_law_35 : decode cX6_law 35 = .ok (.iconst 1, 1) := by decide +kernel
theorem dX6_law_36 : decode cX6_law 36 = .ok (.isub, 1) := by decide +kernel
theorem dX6_law_37 : decode cX6_law 37 = .ok (.iload_n 3, 1) := by decide +kernel
theorem dX6_law_38 : decode cX6_law 38 = .ok (.idiv, 1) := by decide +kernel
theorem dX6_law_39 : decode cX6_law 39 = .ok (.iload_n 2, 1) := by decide +kernel
theorem dX6_law_40 : decode cX6_law 40 = .ok (.iadd, 1) := by decide +kernel
theorem dX6_law_41 : decode cX6_law 41 = .ok (.iconst 1, 1) := by decide +kernel
theorem dX6_law_42 : decode cX6_law 42 = .ok (.isub, 1) := by decide +kernel
theorem dX6_law_43 : decode cX6_law 43 = .ok (.ireturn, 1) := by decide +kernel
set_option maxRecDepth 20000 in
theorem ggX6_aim_X6_isLane : GoodIn wsX6_aim wsX6_isLane := goodIn_r _ [7, 8, 9, 10, 6, 11, 12, 1, 13, 14, 15, 16, 17, 18, 29, 30, 31, 32, 33, 34, 35, 36, 37, 38, 39, 40, 41, 42, 43, 44, 45, 46, 47, 48] (by decide +kernel) (by decide +kernel)
set_option maxRecDepth 20000 in
theorem gX6_aim_X6_isLane : GoodIn wsX6_aim (wsV RX6 167 RX6 yX6_isLane wsX6_isLane) := goodIn_app (goodIn_of _ (by decide +kernel)) ggX6_aim_X6_isLane
set_option maxRecDepth 20000 in
theorem ggX6_aim_X3_aimOf : GoodIn wsX6_aim wsX3_aimOf := goodIn_r _ [23, 24, 25, 26, 27, 28, 38, 39, 40, 41, 42, 43, 44, 45, 46, 47, 48, 49, 50, 51, 52, 53, 54, 55, 56, 57, 58, 59, 60, 61, 62, 63, 64, 65] (by decide +kernel) (by decide +kernel)
set_option maxRecDepth 20000 in
theorem gX6_aim_X3_aimOf : GoodIn wsX6_aim (wsV RX6 343 RX3 yX3_aimOf wsX3_aimOf) := goodIn_app (goodIn_of _ (by decide +kernel)) ggX6_aim_X3_aimOf
theorem dX6_aim_0 : decode cX6_aim 0 = .ok (.aload_n 0, 1) := by decide +kernel
theorem dX6_aim_1 : decode cX6_aim 1 = .ok (.iload_n 1, 1) := by decide +kernel
theorem dX6_aim_2 : decode cX6_aim 2 = .ok (.iload_n 2, 1) := by decide +kernel
theorem dX6_aim_3 : decode cX6_aim 3 = .ok (.invokevirtual 167, 3) := by decide +kernel
theorem dX6_aim_6 : decode cX6_aim 6 = .ok (.ifCond .eq 23, 3) := by decide +kernel
theorem dX6_aim_9 : decode cX6_aim 9 = .ok (.aload_n 0, 1) := by decide +kernel
theorem dX6_aim_10 : decode cX6_aim 10 = .ok (.getfield 26, 3) := by decide +kernel
theorem dX6_aim_13 : decode cX6_aim 13 = .ok (.aload_n 0, 1) := by decide +kernel
theorem dX6_aim_14 : decode cX6_aim 14 = .ok (.getfield 26, 3) := by decide +kernel
theorem dX6_aim_17 : decode cX6_aim 17 = .ok (.getfield 104, 3) := by decide +kernel
theorem dX6_aim_20 : decode cX6_aim 20 = .ok (.iload_n 1, 1) := by decide +kernel
theorem dX6_aim_21 : decode cX6_aim 21 = .ok (.aaload, 1) := by decide +kernel
theorem dX6_aim_22 : decode cX6_aim 22 = .ok (.iload_n 2, 1) := by decide +kernel
theorem dX6_aim_23 : decode cX6_aim 23 = .ok (.invokevirtual 343, 3) := by decide +kernel
theorem dX6_aim_26 : decode cX6_aim 26 = .ok (.goto 4, 3) := by decide +kernel
theorem dX6_aim_29 : decode cX6_aim 29 = .ok (.iconst (-1), 1) := by decide +kernel
theorem dX6_aim_30 : decode cX6_aim 30 = .ok (.ireturn, 1) := by decide +kernel
set_option maxRecDepth 20000 in
theorem ggX6_room_X6_isLane : GoodIn wsX6_room wsX6_isLane := goodIn_r _ [5, 6, 7, 8, 4, 9, 10, 11, 12, 13, 14, 15, 16, 17, 45, 46, 47, 48, 49, 50, 51, 52, 53, 54, 55, 56, 57, 58, 59, 60, 61, 62, 63, 64] (by decide +kernel) (by decide +kernel)
set_option maxRecDepth 20000 in
theorem gX6_room_X6_isLane : GoodIn wsX6_room (wsV RX6 167 RX6 yX6_isLane wsX6_isLane) := goodIn_app (goodIn_of _ (by decide +kernel)) ggX6_room_X6_isLane
set_option maxRecDepth 20000 in
theorem ggX6_room_X6_largestZone : GoodIn wsX6_room wsX6_largestZone := goodIn_r _ [21, 11, 22, 23, 24, 17, 25, 26, 27, 28, 29, 30, 31, 32, 33, 34, 35, 36, 37, 38, 39, 40, 41, 42, 43, 44, 45, 46, 47, 48, 49, 50, 51, 52, 53, 54, 55, 56, 57, 58, 59, 60, 61, 62, 63, 64, 65, 66, 67, 68, 69, 70, 71, 72, 73, 74, 75, 76, 77, 78, 79, 80, 81] (by decide +kernel) (by decide +kernel)
set_option maxRecDepth 20000 in
theorem gX6_room_X6_largestZone : GoodIn wsX6_room (wsV RX6 252 RX6 yX6_largestZone wsX6_largestZone) := goodIn_app (goodIn_of _ (by decide +kernel)) ggX6_room_X6_largestZone
theorem dX6_room_0 : decode cX6_room 0 = .ok (.aload_n 0, 1) := by decide +kernel
theorem dX6_room_1 : decode cX6_room 1 = .ok (.iload_n 1, 1) := by decide +kernel
theorem dX6_room_2 : decode cX6_room 2 = .ok (.iload_n 2, 1) := by decide +kernel
theorem dX6_room_3 : decode cX6_room 3 = .ok (.invokevirtual 167, 3) := by decide +kernel
theorem dX6_room_6 : decode cX6_room 6 = .ok (.ifCond .eq 12, 3) := by decide +kernel
theorem dX6_room_9 : decode cX6_room 9 = .ok (.aload_n 0, 1) := by decide +kernel
theorem dX6_room_10 : decode cX6_room 10 = .ok (.iload_n 1, 1) := by decide +kernel
theorem dX6_room_11 : decode cX6_room 11 = .ok (.iload_n 2, 1) := by decide +kernel
theorem dX6_room_12 : decode cX6_room 12 = .ok (.invokevirtual 252, 3) := by decide +kernel
theorem dX6_room_15 : decode cX6_room 15 = .ok (.goto 4, 3) := by decide +kernel
theorem dX6_room_18 : decode cX6_room 18 = .ok (.iconst (-1), 1) := by decide +kernel
theorem dX6_room_19 : decode cX6_room 19 = .ok (.ireturn, 1) := by decide +kernel
set_option maxRecDepth 20000 in
theorem ggX6_trip_X6_isCircuit : GoodIn wsX6_trip wsX6_isCircuit := goodIn_r _ [12, 13, 1, 14, 15, 16, 17, 18, 19, 20, 21, 22, 23, 24, 25, 26, 27, 28, 29, 30, 31, 32, 33, 34] (by decide +kernel) (by decide +kernel)
set_option maxRecDepth 20000 in
theorem gX6_trip_X6_isCircuit : GoodIn wsX6_trip (wsV RX6 135 RX6 yX6_isCircuit wsX6_isCircuit) := goodIn_app (goodIn_of _ (by decide +kernel)) ggX6_trip_X6_isCircuit
theorem dX6_trip_0 : decode cX6_trip 0 = .ok (.aload_n 0, 1) := by decide +kernel
theorem dX6_trip_1 : decode cX6_trip 1 = .ok (.iload_n 1, 1) := by decide +kernel
theorem dX6_trip_2 : decode cX6_trip 2 = .ok (.invokevirtual 135, 3) := by decide +kernel
theorem dX6_trip_5 : decode cX6_trip 5 = .ok (.ifCond .eq 18, 3) := by decide +kernel
theorem dX6_trip_8 : decode cX6_trip 8 = .ok (.aload_n 0, 1) := by decide +kernel
theorem dX6_trip_9 : decode cX6_trip 9 = .ok (.getfield 26, 3) := by decide +kernel
theorem dX6_trip_12 : decode cX6_trip 12 = .ok (.getfield 140, 3) := by decide +kernel
theorem dX6_trip_15 : decode cX6_trip 15 = .ok (.iload_n 1, 1) := by decide +kernel
theorem dX6_trip_16 : decode cX6_trip 16 = .ok (.aaload, 1) := by decide +kernel
theorem dX6_trip_17 : decode cX6_trip 17 = .ok (.getfield 161, 3) := by decide +kernel
theorem dX6_trip_20 : decode cX6_trip 20 = .ok (.ifCond .ne 5, 3) := by decide +kernel
theorem dX6_trip_23 : decode cX6_trip 23 = .ok (.iconst (-1), 1) := by decide +kernel
theorem dX6_trip_24 : decode cX6_trip 24 = .ok (.ireturn, 1) := by decide +kernel
theorem dX6_trip_25 : decode cX6_trip 25 = .ok (.iload_n 2, 1) := by decide +kernel
theorem dX6_trip_26 : decode cX6_trip 26 = .ok (.tableswitch 56 0 2 #[26, 36, 46], 26) := by decide +kernel
theorem dX6_trip_52 : decode cX6_trip 52 = .ok (.aload_n 0, 1) := by decide +kernel
theorem dX6_trip_53 : decode cX6_trip 53 = .ok (.getfield 35, 3) := by decide +kernel
theorem dX6_trip_56 : decode cX6_trip 56 = .ok (.iload_n 1, 1) := by decide +kernel
theorem dX6_trip_57 : decode cX6_trip 57 = .ok (.aaload, 1) := by decide +kernel
theorem dX6_trip_58 : decode cX6_trip 58 = .ok (.getfield 347, 3) := by decide +kernel
theorem dX6_trip_61 : decode cX6_trip 61 = .ok (.ireturn, 1) := by decide +kernel
theorem dX6_trip_62 : decode cX6_trip 62 = .ok (.aload_n 0, 1) := by decide +kernel
theorem dX6_trip_63 : decode cX6_trip 63 = .ok (.getfield 35, 3) := by decide +kernel
theorem dX6_trip_66 : decode cX6_trip 66 = .ok (.iload_n 1, 1) := by decide +kernel
theorem dX6_trip_67 : decode cX6_trip 67 = .ok (.aaload, 1) := by decide +kernel
theorem dX6_trip_68 : decode cX6_trip 68 = .ok (.getfield 348, 3) := by decide +kernel
theorem dX6_trip_71 : decode cX6_trip 71 = .ok (.ireturn, 1) := by decide +kernel
theorem dX6_trip_72 : decode cX6_trip 72 = .ok (.aload_n 0, 1) := by decide +kernel
theorem dX6_trip_73 : decode cX6_trip 73 = .ok (.getfield 35, 3) := by decide +kernel
theorem dX6_trip_76 : decode cX6_trip 76 = .ok (.iload_n 1, 1) := by decide +kernel
theorem dX6_trip_77 : decode cX6_trip 77 = .ok (.aaload, 1) := by decide +kernel
theorem dX6_trip_78 : decode cX6_trip 78 = .ok (.getfield 351, 3) := by decide +kernel
theorem dX6_trip_81 : decode cX6_trip 81 = .ok (.ireturn, 1) := by decide +kernel
theorem dX6_trip_82 : decode cX6_trip 82 = .ok (.iconst (-1), 1) := by decide +kernel
theorem dX6_trip_83 : decode cX6_trip 83 = .ok (.ireturn, 1) := by decide +kernel
set_option maxRecDepth 20000 in
theorem ggX6_oldest_X6_isCircuit : GoodIn wsX6_oldest wsX6_isCircuit := goodIn_r _ [9, 10, 3, 11, 19, 20, 21, 22, 23, 24, 25, 26, 27, 34, 35, 36, 37, 38, 39, 40, 41, 42, 43, 44] (by decide +kernel) (by decide +kernel)
set_option maxRecDepth 20000 in
theorem gX6_oldest_X6_isCircuit : GoodIn wsX6_oldest (wsV RX6 135 RX6 yX6_isCircuit wsX6_isCircuit) := goodIn_app (goodIn_of _ (by decide +kernel)) ggX6_oldest_X6_isCircuit
set_option maxRecDepth 20000 in
theorem ggX6_oldest_X5_firstBegun : GoodIn wsX6_oldest wsX5_firstBegun := goodIn_r _ [16, 17, 18, 28, 29, 30, 31, 32, 33] (by decide +kernel) (by decide +kernel)
set_option maxRecDepth 20000 in
theorem gX6_oldest_X5_firstBegun : GoodIn wsX6_oldest (wsV RX6 357 RX5 yX5_firstBegun wsX5_firstBegun) := goodIn_app (goodIn_of _ (by decide +kernel)) ggX6_oldest_X5_firstBegun
theorem dX6_oldest_0 : decode cX6_oldest 0 = .ok (.aload_n 0, 1) := by decide +kernel
theorem dX6_oldest_1 : decode cX6_oldest 1 = .ok (.iload_n 1, 1) := by decide +kernel
theorem dX6_oldest_2 : decode cX6_oldest 2 = .ok (.invokevirtual 135, 3) := by decide +kernel
theorem dX6_oldest_5 : decode cX6_oldest 5 = .ok (.ifCond .eq 15, 3) := by decide +kernel
theorem dX6_oldest_8 : decode cX6_oldest 8 = .ok (.aload_n 0, 1) := by decide +kernel
theorem dX6_oldest_9 : decode cX6_oldest 9 = .ok (.getfield 35, 3) := by decide +kernel
theorem dX6_oldest_12 : decode cX6_oldest 12 = .ok (.iload_n 1, 1) := by decide +kernel
theorem dX6_oldest_13 : decode cX6_oldest 13 = .ok (.aaload, 1) := by decide +kernel
theorem dX6_oldest_14 : decode cX6_oldest 14 = .ok (.getfield 354, 3) := by decide +kernel
theorem dX6_oldest_17 : decode cX6_oldest 17 = .ok (.ifCond .ne 5, 3) := by decide +kernel
theorem dX6_oldest_20 : decode cX6_oldest 20 = .ok (.iconst (-1), 1) := by decide +kernel
theorem dX6_oldest_21 : decode cX6_oldest 21 = .ok (.ireturn, 1) := by decide +kernel
theorem dX6_oldest_22 : decode cX6_oldest 22 = .ok (.aload_n 0, 1) := by decide +kernel
theorem dX6_oldest_23 : decode cX6_oldest 23 = .ok (.getfield 26, 3) := by decide +kernel
theorem dX6_oldest_26 : decode cX6_oldest 26 = .ok (.getfield 90, 3) := by decide +kernel
theorem dX6_oldest_29 : decode cX6_oldest 29 = .ok (.aload_n 0, 1) := by decide +kernel
theorem dX6_oldest_30 : decode cX6_oldest 30 = .ok (.getfield 35, 3) := by decide +kernel
theorem dX6_oldest_33 : decode cX6_oldest 33 = .ok (.iload_n 1, 1) := by decide +kernel
theorem dX6_oldest_34 : decode cX6_oldest 34 = .ok (.aaload, 1) := by decide +kernel
theorem dX6_oldest_35 : decode cX6_oldest 35 = .ok (.invokevirtual 357, 3) := by decide +kernel
theorem dX6_oldest_38 : decode cX6_oldest 38 = .ok (.isub, 1) := by decide +kernel
theorem dX6_oldest_39 : decode cX6_oldest 39 = .ok (.ireturn, 1) := by decide +kernel
set_option maxRecDepth 20000 in
theorem ggX6_count_X3_cellsOfAll : GoodIn wsX6_count wsX3_cellsOfAll := goodIn_r _ [11, 12, 13, 14, 15, 10, 16, 17, 18, 19, 20, 21, 22, 23, 24, 25, 26, 27, 28, 29, 52, 53, 54, 55, 56, 57, 58, 59, 60, 61, 62, 63, 64, 65, 66, 67, 68, 69, 70, 71, 72] (by decide +kernel) (by decide +kernel)
set_option maxRecDepth 20000 in
theorem gX6_count_X3_cellsOfAll : GoodIn wsX6_count (wsV RX6 313 RX3 yX3_cellsOfAll wsX3_cellsOfAll) := goodIn_app (goodIn_of _ (by decide +kernel)) ggX6_count_X3_cellsOfAll
set_option maxRecDepth 20000 in
theorem ggX6_count_X3_deliveredOfAll : GoodIn wsX6_count wsX3_deliveredOfAll := goodIn_r _ [33, 12, 34, 35, 52, 53, 54, 55, 56, 57, 58, 59, 60, 61, 62, 73, 74, 75, 76, 77, 78, 79, 80] (by decide +kernel) (by decide +kernel)
set_option maxRecDepth 20000 in
theorem gX6_count_X3_deliveredOfAll : GoodIn wsX6_count (wsV RX6 283 RX3 yX3_deliveredOfAll wsX3_deliveredOfAll) := goodIn_app (goodIn_of _ (by decide +kernel)) ggX6_count_X3_deliveredOfAll
set_option maxRecDepth 20000 in
theorem ggX6_count_X3_unknown : GoodIn wsX6_count wsX3_unknown := goodIn_r _ [39, 17, 12, 18, 40, 41, 42, 52, 53, 54, 55, 56, 57, 58, 59, 60, 61, 62, 63, 64, 65, 66, 67, 68, 69, 70, 71, 72, 81, 82, 83, 84, 85, 86, 87] (by decide +kernel) (by decide +kernel)
set_option maxRecDepth 20000 in
theorem gX6_count_X3_unknown : GoodIn wsX6_count (wsV RX6 298 RX3 yX3_unknown wsX3_unknown) := goodIn_app (goodIn_of _ (by decide +kernel)) ggX6_count_X3_unknown
theorem dX6_count_0 : decode cX6_count 0 = .ok (.iload_n 1, 1) := by decide +kernel
theorem dX6_count_1 : decode cX6_count 1 = .ok (.ifCond .ne 8, 3) := by decide +kernel
theorem dX6_count_4 : decode cX6_count 4 = .ok (.aload_n 0, 1) := by decide +kernel
theorem dX6_count_5 : decode cX6_count 5 = .ok (.getfield 47, 3) := by decide +kernel
theorem dX6_count_8 : decode cX6_count 8 = .ok (.ireturn, 1) := by decide +kernel
theorem dX6_count_9 : decode cX6_count 9 = .ok (.aload_n 0, 1) := by decide +kernel
theorem dX6_count_10 : decode cX6_count 10 = .ok (.getfield 70, 3) := by decide +kernel
theorem dX6_count_13 : decode cX6_count 13 = .ok (.ifCond .ne 6, 3) := by decide +kernel
theorem dX6_count_16 : decode cX6_count 16 = .ok (.ldc 77, 2) := by decide +kernel
theorem dX6_count_18 : decode cX6_count 18 = .ok (.ireturn, 1) := by decide +kernel
theorem dX6_count_19 : decode cX6_count 19 = .ok (.iload_n 1, 1) := by decide +kernel
theorem dX6_count_20 : decode cX6_count 20 = .ok (.tableswitch 76 1 5 #[36, 44, 52, 60, 68], 36) := by decide +kernel
theorem dX6_count_56 : decode cX6_count 56 = .ok (.aload_n 0, 1) := by decide +kernel
theorem dX6_count_57 : decode cX6_count 57 = .ok (.getfield 26, 3) := by decide +kernel
theorem dX6_count_60 : decode cX6_count 60 = .ok (.invokevirtual 313, 3) := by decide +kernel
theorem dX6_count_63 : decode cX6_count 63 = .ok (.ireturn, 1) := by decide +kernel
theorem dX6_count_64 : decode cX6_count 64 = .ok (.aload_n 0, 1) := by decide +kernel
theorem dX6_count_65 : decode cX6_count 65 = .ok (.getfield 26, 3) := by decide +kernel
theorem dX6_count_68 : decode cX6_count 68 = .ok (.invokevirtual 283, 3) := by decide +kernel
theorem dX6_count_71 : decode cX6_count 71 = .ok (.ireturn, 1) := by decide +kernel
theorem dX6_count_72 : decode cX6_count 72 = .ok (.aload_n 0, 1) := by decide +kernel
theorem dX6_count_73 : decode cX6_count 73 = .ok (.getfield 26, 3) := by decide +kernel
theorem dX6_count_76 : decode cX6_count 76 = .ok (.getfield 360, 3) := by decide +kernel
theorem dX6_count_79 : decode cX6_count 79 = .ok (.ireturn, 1) := by decide +kernel
theorem dX6_count_80 : decode cX6_count 80 = .ok (.aload_n 0, 1) := by decide +kernel
theorem dX6_count_81 : decode cX6_count 81 = .ok (.getfield 26, 3) := by decide +kernel
theorem dX6_count_84 : decode cX6_count 84 = .ok (.getfield 363, 3) := by decide +kernel
theorem dX6_count_87 : decode cX6_count 87 = .ok (.ireturn, 1) := by decide +kernel
theorem dX6_count_88 : decode cX6_count 88 = .ok (.aload_n 0, 1) := by decide +kernel
theorem dX6_count_89 : decode cX6_count 89 = .ok (.getfield 26, 3) := by decide +kernel
theorem dX6_count_92 : decode cX6_count 92 = .ok (.invokevirtual 298, 3) := by decide +kernel
theorem dX6_count_95 : decode cX6_count 95 = .ok (.ireturn, 1) := by decide +kernel
theorem dX6_count_96 : decode cX6_count 96 = .ok (.ldc 77, 2) := by decide +kernel
theorem dX6_count_98 : decode cX6_count 98 = .ok (.ireturn, 1) := by decide +kernel
theorem dX6_isHop_0 : decode cX6_isHop 0 = .ok (.aload_n 0, 1) := by decide +kernel
theorem dX6_isHop_1 : decode cX6_isHop 1 = .ok (.getfield 70, 3) := by decide +kernel
theorem dX6_isHop_4 : decode cX6_isHop 4 = .ok (.ifCond .eq 22, 3) := by decide +kernel
theorem dX6_isHop_7 : decode cX6_isHop 7 = .ok (.iload_n 1, 1) := by decide +kernel
theorem dX6_isHop_8 : decode cX6_isHop 8 = .ok (.ifCond .lt 18, 3) := by decide +kernel
theorem dX6_isHop_11 : decode cX6_isHop 11 = .ok (.iload_n 1, 1) := by decide +kernel
theorem dX6_isHop_12 : decode cX6_isHop 12 = .ok (.aload_n 0, 1) := by decide +kernel
theorem dX6_isHop_13 : decode cX6_isHop 13 = .ok (.getfield 26, 3) := by decide +kernel
theorem dX6_isHop_16 : decode cX6_isHop 16 = .ok (.getfield 78, 3) := by decide +kernel
theorem dX6_isHop_19 : decode cX6_isHop 19 = .ok (.if_icmp .ge 7, 3) := by decide +kernel
theorem dX6_isHop_22 : decode cX6_isHop 22 = .ok (.iconst 1, 1) := by decide +kernel
theorem dX6_isHop_23 : decode cX6_isHop 23 = .ok (.goto 4, 3) := by decide +kernel
theorem dX6_isHop_26 : decode cX6_isHop 26 = .ok (.iconst 0, 1) := by decide +kernel
theorem dX6_isHop_27 : decode cX6_isHop 27 = .ok (.ireturn, 1) := by decide +kernel
theorem dX6_isCircuit_0 : decode cX6_isCircuit 0 = .ok (.aload_n 0, 1) := by decide +kernel
theorem dX6_isCircuit_1 : decode cX6_isCircuit 1 = .ok (.getfield 70, 3) := by decide +kernel
theorem dX6_isCircuit_4 : decode cX6_isCircuit 4 = .ok (.ifCond .eq 22, 3) := by decide +kernel
theorem dX6_isCircuit_7 : decode cX6_isCircuit 7 = .ok (.iload_n 1, 1) := by decide +kernel
theorem dX6_isCircuit_8 : decode cX6_isCircuit 8 = .ok (.ifCond .lt 18, 3) := by decide +kernel
theorem dX6_isCircuit_11 : decode cX6_isCircuit 11 = .ok (.iload_n 1, 1) := by decide +kernel
theorem dX6_isCircuit_12 : decode cX6_isCircuit 12 = .ok (.aload_n 0, 1) := by decide +kernel
theorem dX6_isCircuit_13 : decode cX6_isCircuit 13 = .ok (.getfield 26, 3) := by decide +kernel
theorem dX6_isCircuit_16 : decode cX6_isCircuit 16 = .ok (.getfield 74, 3) := by decide +kernel
theorem dX6_isCircuit_19 : decode cX6_isCircuit 19 = .ok (.if_icmp .ge 7, 3) := by decide +kernel
theorem dX6_isCircuit_22 : decode cX6_isCircuit 22 = .ok (.iconst 1, 1) := by decide +kernel
theorem dX6_isCircuit_23 : decode cX6_isCircuit 23 = .ok (.goto 4, 3) := by decide +kernel
theorem dX6_isCircuit_26 : decode cX6_isCircuit 26 = .ok (.iconst 0, 1) := by decide +kernel
theorem dX6_isCircuit_27 : decode cX6_isCircuit 27 = .ok (.ireturn, 1) := by decide +kernel
set_option maxRecDepth 20000 in
theorem ggX6_isLane_X6_isHop : GoodIn wsX6_isLane wsX6_isHop := goodIn_r _ [5, 6, 7, 8, 14, 15, 16, 17, 18, 19, 20, 21, 22, 23, 24, 25, 26, 27, 28, 29, 30, 31, 32, 33] (by decide +kernel) (by decide +kernel)
set_option maxRecDepth 20000 in
theorem gX6_isLane_X6_isHop : GoodIn wsX6_isLane (wsV RX6 93 RX6 yX6_isHop wsX6_isHop) := goodIn_app (goodIn_of _ (by decide +kernel)) ggX6_isLane_X6_isHop
set_option maxRecDepth 20000 in
theorem ggX6_isLane_X6_isCircuit : GoodIn wsX6_isLane wsX6_isCircuit := goodIn_r _ [12, 6, 7, 13, 14, 15, 16, 17, 18, 19, 20, 21, 22, 23, 24, 25, 26, 27, 28, 29, 30, 31, 32, 33] (by decide +kernel) (by decide +kernel)
set_option maxRecDepth 20000 in
theorem gX6_isLane_X6_isCircuit : GoodIn wsX6_isLane (wsV RX6 135 RX6 yX6_isCircuit wsX6_isCircuit) := goodIn_app (goodIn_of _ (by decide +kernel)) ggX6_isLane_X6_isCircuit
theorem dX6_isLane_0 : decode cX6_isLane 0 = .ok (.aload_n 0, 1) := by decide +kernel
theorem dX6_isLane_1 : decode cX6_isLane 1 = .ok (.iload_n 1, 1) := by decide +kernel
theorem dX6_isLane_2 : decode cX6_isLane 2 = .ok (.invokevirtual 93, 3) := by decide +kernel
theorem dX6_isLane_5 : decode cX6_isLane 5 = .ok (.ifCond .eq 15, 3) := by decide +kernel
theorem dX6_isLane_8 : decode cX6_isLane 8 = .ok (.aload_n 0, 1) := by decide +kernel
theorem dX6_isLane_9 : decode cX6_isLane 9 = .ok (.iload_n 2, 1) := by decide +kernel
theorem dX6_isLane_10 : decode cX6_isLane 10 = .ok (.invokevirtual 135, 3) := by decide +kernel
theorem dX6_isLane_13 : decode cX6_isLane 13 = .ok (.ifCond .eq 7, 3) := by decide +kernel
theorem dX6_isLane_16 : decode cX6_isLane 16 = .ok (.iconst 1, 1) := by decide +kernel
theorem dX6_isLane_17 : decode cX6_isLane 17 = .ok (.goto 4, 3) := by decide +kernel
theorem dX6_isLane_20 : decode cX6_isLane 20 = .ok (.iconst 0, 1) := by decide +kernel
theorem dX6_isLane_21 : decode cX6_isLane 21 = .ok (.ireturn, 1) := by decide +kernel
theorem dX6_isNode_0 : decode cX6_isNode 0 = .ok (.aload_n 0, 1) := by decide +kernel
theorem dX6_isNode_1 : decode cX6_isNode 1 = .ok (.getfield 70, 3) := by decide +kernel
theorem dX6_isNode_4 : decode cX6_isNode 4 = .ok (.ifCond .eq 22, 3) := by decide +kernel
theorem dX6_isNode_7 : decode cX6_isNode 7 = .ok (.iload_n 1, 1) := by decide +kernel
theorem dX6_isNode_8 : decode cX6_isNode 8 = .ok (.ifCond .lt 18, 3) := by decide +kernel
theorem dX6_isNode_11 : decode cX6_isNode 11 = .ok (.iload_n 1, 1) := by decide +kernel
theorem dX6_isNode_12 : decode cX6_isNode 12 = .ok (.aload_n 0, 1) := by decide +kernel
theorem dX6_isNode_13 : decode cX6_isNode 13 = .ok (.getfield 26, 3) := by decide +kernel
theorem dX6_isNode_16 : decode cX6_isNode 16 = .ok (.getfield 78, 3) := by decide +kernel
theorem dX6_isNode_19 : decode cX6_isNode 19 = .ok (.if_icmp .gt 7, 3) := by decide +kernel
theorem dX6_isNode_22 : decode cX6_isNode 22 = .ok (.iconst 1, 1) := by decide +kernel
theorem dX6_isNode_23 : decode cX6_isNode 23 = .ok (.goto 4, 3) := by decide +kernel
theorem dX6_isNode_26 : decode cX6_isNode 26 = .ok (.iconst 0, 1) := by decide +kernel
theorem dX6_isNode_27 : decode cX6_isNode 27 = .ok (.ireturn, 1) := by decide +kernel
