set_option maxRecDepth 20000 in
theorem gX7_source_X7_isCircuit : GoodIn wsX7_source (wsV RX7 133 RX7 yX7_isCircuit wsX7_isCircuit) := goodIn_app (goodIn_of _ (by decide +kernel)) ggX7_source_X7_isCircuit
set_option maxRecDepth 20000 in
theorem ggX7_source_X7_refuses : GoodIn wsX7_source wsX7_refuses := goodIn_r _ [15, 16, 20, 21, 22, 23, 24, 25, 26, 27, 28, 29, 30, 31, 32, 33, 34, 35, 36, 37, 38, 39, 40] (by decide +kernel) (by decide +kernel)
set_option maxRecDepth 20000 in
theorem gX7_source_X7_refuses : GoodIn wsX7_source (wsV RX7 223 RX7 yX7_refuses wsX7_refuses) := goodIn_app (goodIn_of _ (by decide +kernel)) ggX7_source_X7_refuses
theorem dX7_source_0 : decode cX7_source 0 = .ok (.aload_n 0, 1) := by decide +kernel
theorem dX7_source_1 : decode cX7_source 1 = .ok (.iconst 0, 1) := by decide +kernel
theorem dX7_source_2 : decode cX7_source 2 = .ok (.putfield 49, 3) := by decide +kernel
theorem dX7_source_5 : decode cX7_source 5 = .ok (.aload_n 0, 1) := by decide +kernel
theorem dX7_source_6 : decode cX7_source 6 = .ok (.iload_n 1, 1) := by decide +kernel
theorem dX7_source_7 : decode cX7_source 7 = .ok (.invokevirtual 133, 3) := by decide +kernel
theorem dX7_source_10 : decode cX7_source 10 = .ok (.ifCond .ne 9, 3) := by decide +kernel
theorem dX7_source_13 : decode cX7_source 13 = .ok (.aload_n 0, 1) := by decide +kernel
theorem dX7_source_14 : decode cX7_source 14 = .ok (.iconst 0, 1) := by decide +kernel
theorem dX7_source_15 : decode cX7_source 15 = .ok (.invokevirtual 223, 3) := by decide +kernel
theorem dX7_source_18 : decode cX7_source 18 = .ok (.ireturn, 1) := by decide +kernel
set_option maxRecDepth 20000 in
theorem ggX7_takes_X7_isCircuit : GoodIn wsX7_takes wsX7_isCircuit := goodIn_r _ [7, 8, 9, 10, 6, 11, 20, 21, 22, 23, 24, 25, 26, 27, 28, 29, 30, 31, 32, 33, 34, 35, 36, 37, 38, 39, 40] (by decide +kernel) (by decide +kernel)
set_option maxRecDepth 20000 in
theorem gX7_takes_X7_isCircuit : GoodIn wsX7_takes (wsV RX7 133 RX7 yX7_isCircuit wsX7_isCircuit) := goodIn_app (goodIn_of _ (by decide +kernel)) ggX7_takes_X7_isCircuit
set_option maxRecDepth 20000 in
theorem ggX7_takes_X7_refuses : GoodIn wsX7_takes wsX7_refuses := goodIn_r _ [15, 16, 20, 21, 22, 23, 24, 25, 26, 27, 28, 29, 30, 31, 32, 33, 34, 35, 36, 37, 38, 39, 40] (by decide +kernel) (by decide +kernel)
set_option maxRecDepth 20000 in
theorem gX7_takes_X7_refuses : GoodIn wsX7_takes (wsV RX7 223 RX7 yX7_refuses wsX7_refuses) := goodIn_app (goodIn_of _ (by decide +kernel)) ggX7_takes_X7_refuses
theorem dX7_takes_0 : decode cX7_takes 0 = .ok (.aload_n 0, 1) := by decide +kernel
theorem dX7_takes_1 : decode cX7_takes 1 = .ok (.iconst 0, 1) := by decide +kernel
theorem dX7_takes_2 : decode cX7_takes 2 = .ok (.putfield 49, 3) := by decide +kernel
theorem dX7_takes_5 : decode cX7_takes 5 = .ok (.aload_n 0, 1) := by decide +kernel
theorem dX7_takes_6 : decode cX7_takes 6 = .ok (.iload_n 1, 1) := by decide +kernel
theorem dX7_takes_7 : decode cX7_takes 7 = .ok (.invokevirtual 133, 3) := by decide +kernel
theorem dX7_takes_10 : decode cX7_takes 10 = .ok (.ifCond .ne 9, 3) := by decide +kernel
theorem dX7_takes_13 : decode cX7_takes 13 = .ok (.aload_n 0, 1) := by decide +kernel
theorem dX7_takes_14 : decode cX7_takes 14 = .ok (.iconst 0, 1) := by decide +kernel
theorem dX7_takes_15 : decode cX7_takes 15 = .ok (.invokevirtual 223, 3) := by decide +kernel
theorem dX7_takes_18 : decode cX7_takes 18 = .ok (.ireturn, 1) := by decide +kernel
set_option maxRecDepth 20000 in
theorem ggX7_whyZone_X7_isLane : GoodIn wsX7_whyZone wsX7_isLane := goodIn_r _ [7, 8, 9, 10, 6, 11, 12, 13, 14, 15, 16, 17, 18, 19, 20, 44, 45, 46, 47, 48, 49, 50, 51, 52, 53, 54, 55, 56, 57, 58, 59, 60, 61, 62, 63, 64] (by decide +kernel) (by decide +kernel)
set_option maxRecDepth 20000 in
theorem gX7_whyZone_X7_isLane : GoodIn wsX7_whyZone (wsV RX7 229 RX7 yX7_isLane wsX7_isLane) := goodIn_app (goodIn_of _ (by decide +kernel)) ggX7_whyZone_X7_isLane
theorem dX7_whyZone_0 : decode cX7_whyZone 0 = .ok (.aload_n 0, 1) := by decide +kernel
theorem dX7_whyZone_1 : decode cX7_whyZone 1 = .ok (.iload_n 1, 1) := by decide +kernel
theorem dX7_whyZone_2 : decode cX7_whyZone 2 = .ok (.iload_n 2, 1) := by decide +kernel
theorem dX7_whyZone_3 : decode cX7_whyZone 3 = .ok (.invokevirtual 229, 3) := by decide +kernel
theorem dX7_whyZone_6 : decode cX7_whyZone 6 = .ok (.ifCond .ne 5, 3) := by decide +kernel
theorem dX7_whyZone_9 : decode cX7_whyZone 9 = .ok (.iconst 0, 1) := by decide +kernel
theorem dX7_whyZone_10 : decode cX7_whyZone 10 = .ok (.ireturn, 1) := by decide +kernel
set_option maxRecDepth 20000 in
theorem ggX7_zone_X7_whyZone : GoodIn wsX7_zone wsX7_whyZone := goodIn_r _ [7, 8, 2, 9, 10, 11, 6, 12, 13, 14, 15, 16, 17, 18, 19, 20, 21, 22, 23, 24, 25, 26, 27, 28, 29, 30, 31, 32, 33, 34, 35, 36, 37, 38, 39, 40, 41, 42, 43, 44, 45, 46, 47, 48, 54, 55, 56, 57, 58, 59, 60, 61, 62, 63, 64, 65, 66, 67, 68, 69, 70, 71, 72, 73, 74] (by decide +kernel) (by decide +kernel)
set_option maxRecDepth 20000 in
theorem gX7_zone_X7_whyZone : GoodIn wsX7_zone (wsV RX7 232 RX7 yX7_whyZone wsX7_whyZone) := goodIn_app (goodIn_of _ (by decide +kernel)) ggX7_zone_X7_whyZone
set_option maxRecDepth 20000 in
theorem ggX7_zone_X7_refuses : GoodIn wsX7_zone wsX7_refuses := goodIn_r _ [52, 53, 54, 55, 56, 57, 58, 59, 60, 61, 62, 63, 64, 65, 66, 67, 68, 69, 70, 71, 72, 73, 74] (by decide +kernel) (by decide +kernel)
set_option maxRecDepth 20000 in
theorem gX7_zone_X7_refuses : GoodIn wsX7_zone (wsV RX7 223 RX7 yX7_refuses wsX7_refuses) := goodIn_app (goodIn_of _ (by decide +kernel)) ggX7_zone_X7_refuses
theorem dX7_zone_0 : decode cX7_zone 0 = .ok (.aload_n 0, 1) := by decide +kernel
theorem dX7_zone_1 : decode cX7_zone 1 = .ok (.iconst 0, 1) := by decide +kernel
theorem dX7_zone_2 : decode cX7_zone 2 = .ok (.putfield 49, 3) := by decide +kernel
theorem dX7_zone_5 : decode cX7_zone 5 = .ok (.aload_n 0, 1) := by decide +kernel
theorem dX7_zone_6 : decode cX7_zone 6 = .ok (.iload_n 1, 1) := by decide +kernel
theorem dX7_zone_7 : decode cX7_zone 7 = .ok (.iload_n 2, 1) := by decide +kernel
theorem dX7_zone_8 : decode cX7_zone 8 = .ok (.iload_n 3, 1) := by decide +kernel
theorem dX7_zone_9 : decode cX7_zone 9 = .ok (.invokevirtual 232, 3) := by decide +kernel
theorem dX7_zone_12 : decode cX7_zone 12 = .ok (.istore 4, 2) := by decide +kernel
theorem dX7_zone_14 : decode cX7_zone 14 = .ok (.iload 4, 2) := by decide +kernel
theorem dX7_zone_16 : decode cX7_zone 16 = .ok (.iconst (-1), 1) := by decide +kernel
theorem dX7_zone_17 : decode cX7_zone 17 = .ok (.if_icmp .eq 10, 3) := by decide +kernel
theorem dX7_zone_20 : decode cX7_zone 20 = .ok (.aload_n 0, 1) := by decide +kernel
theorem dX7_zone_21 : decode cX7_zone 21 = .ok (.iload 4, 2) := by decide +kernel
theorem dX7_zone_23 : decode cX7_zone 23 = .ok (.invokevirtual 223, 3) := by decide +kernel
theorem dX7_zone_26 : decode cX7_zone 26 = .ok (.ireturn, 1) := by decide +kernel
set_option maxRecDepth 20000 in
theorem ggX7_probe_X7_isLane : GoodIn wsX7_probe wsX7_isLane := goodIn_r _ [6, 7, 8, 9, 5, 10, 11, 12, 13, 14, 15, 16, 17, 18, 19, 48, 49, 50, 51, 52, 53, 54, 55, 56, 57, 58, 59, 60, 61, 62, 63, 64, 65, 66, 67, 68] (by decide +kernel) (by decide +kernel)
set_option maxRecDepth 20000 in
theorem gX7_probe_X7_isLane : GoodIn wsX7_probe (wsV RX7 229 RX7 yX7_isLane wsX7_isLane) := goodIn_app (goodIn_of _ (by decide +kernel)) ggX7_probe_X7_isLane
set_option maxRecDepth 20000 in
theorem ggX7_probe_X7_refuses : GoodIn wsX7_probe wsX7_refuses := goodIn_r _ [23, 24, 48, 49, 50, 51, 52, 53, 54, 55, 56, 57, 58, 59, 60, 61, 62, 63, 64, 65, 66, 67, 68] (by decide +kernel) (by decide +kernel)
set_option maxRecDepth 20000 in
theorem gX7_probe_X7_refuses : GoodIn wsX7_probe (wsV RX7 223 RX7 yX7_refuses wsX7_refuses) := goodIn_app (goodIn_of _ (by decide +kernel)) ggX7_probe_X7_refuses
theorem dX7_probe_0 : decode cX7_probe 0 = .ok (.aload_n 0, 1) := by decide +kernel
theorem dX7_probe_1 : decode cX7_probe 1 = .ok (.iconst 0, 1) := by decide +kernel
theorem dX7_probe_2 : decode cX7_probe 2 = .ok (.putfield 49, 3) := by decide +kernel
theorem dX7_probe_5 : decode cX7_probe 5 = .ok (.aload_n 0, 1) := by decide +kernel
theorem dX7_probe_6 : decode cX7_probe 6 = .ok (.iload_n 1, 1) := by decide +kernel
theorem dX7_probe_7 : decode cX7_probe 7 = .ok (.iload_n 2, 1) := by decide +kernel
theorem dX7_probe_8 : decode cX7_probe 8 = .ok (.invokevirtual 229, 3) := by decide +kernel
theorem dX7_probe_11 : decode cX7_probe 11 = .ok (.ifCond .ne 9, 3) := by decide +kernel
theorem dX7_probe_14 : decode cX7_probe 14 = .ok (.aload_n 0, 1) := by decide +kernel
theorem dX7_probe_15 : decode cX7_probe 15 = .ok (.iconst 0, 1) := by decide +kernel
theorem dX7_probe_16 : decode cX7_probe 16 = .ok (.invokevirtual 223, 3) := by decide +kernel
theorem dX7_probe_19 : decode cX7_probe 19 = .ok (.ireturn, 1) := by decide +kernel
set_option maxRecDepth 20000 in
theorem ggX7_status_X7_in : GoodIn wsX7_status wsX7_in := goodIn_r _ [6] (by decide +kernel) (by decide +kernel)
set_option maxRecDepth 20000 in
theorem gX7_status_X7_in : GoodIn wsX7_status (va_wsS RX7 60 yX7_in wsX7_in) := goodIn_app (goodIn_of _ (by decide +kernel)) ggX7_status_X7_in
theorem dX7_status_0 : decode cX7_status 0 = .ok (.aload_n 0, 1) := by decide +kernel
theorem dX7_status_1 : decode cX7_status 1 = .ok (.iconst 0, 1) := by decide +kernel
theorem dX7_status_2 : decode cX7_status 2 = .ok (.putfield 49, 3) := by decide +kernel
theorem dX7_status_5 : decode cX7_status 5 = .ok (.iload_n 1, 1) := by decide +kernel
theorem dX7_status_6 : decode cX7_status 6 = .ok (.iconst 0, 1) := by decide +kernel
theorem dX7_status_7 : decode cX7_status 7 = .ok (.iconst 3, 1) := by decide +kernel
theorem dX7_status_8 : decode cX7_status 8 = .ok (.invokestatic 60, 3) := by decide +kernel
theorem dX7_status_11 : decode cX7_status 11 = .ok (.ifCond .eq 12, 3) := by decide +kernel
theorem dX7_status_14 : decode cX7_status 14 = .ok (.aload_n 0, 1) := by decide +kernel
theorem dX7_status_15 : decode cX7_status 15 = .ok (.getfield 25, 3) := by decide +kernel
theorem dX7_status_18 : decode cX7_status 18 = .ok (.iload_n 1, 1) := by decide +kernel
theorem dX7_status_19 : decode cX7_status 19 = .ok (.iaload, 1) := by decide +kernel
theorem dX7_status_20 : decode cX7_status 20 = .ok (.goto 4, 3) := by decide +kernel
theorem dX7_status_23 : decode cX7_status 23 = .ok (.iconst (-1), 1) := by decide +kernel
theorem dX7_status_24 : decode cX7_status 24 = .ok (.ireturn, 1) := by decide +kernel
set_option maxRecDepth 20000 in
theorem ggX7_rule_X7_isNet : GoodIn wsX7_rule wsX7_isNet := goodIn_r _ [11, 3, 15, 16, 17, 18, 19, 20, 21, 22, 23, 24, 25, 26, 27, 28, 29, 30, 31, 32, 33, 34, 35] (by decide +kernel) (by decide +kernel)
set_option maxRecDepth 20000 in
theorem gX7_rule_X7_isNet : GoodIn wsX7_rule (wsV RX7 136 RX7 yX7_isNet wsX7_isNet) := goodIn_app (goodIn_of _ (by decide +kernel)) ggX7_rule_X7_isNet
theorem dX7_rule_0 : decode cX7_rule 0 = .ok (.aload_n 0, 1) := by decide +kernel
theorem dX7_rule_1 : decode cX7_rule 1 = .ok (.iconst 0, 1) := by decide +kernel
theorem dX7_rule_2 : decode cX7_rule 2 = .ok (.putfield 49, 3) := by decide +kernel
theorem dX7_rule_5 : decode cX7_rule 5 = .ok (.aload_n 0, 1) := by decide +kernel
theorem dX7_rule_6 : decode cX7_rule 6 = .ok (.invokevirtual 136, 3) := by decide +kernel
theorem dX7_rule_9 : decode cX7_rule 9 = .ok (.ifCond .eq 12, 3) := by decide +kernel
theorem dX7_rule_21 : decode cX7_rule 21 = .ok (.ldc 236, 2) := by decide +kernel
theorem dX7_rule_23 : decode cX7_rule 23 = .ok (.ireturn, 1) := by decide +kernel
set_option maxRecDepth 20000 in
theorem ggX7_hop_X7_isHop : GoodIn wsX7_hop wsX7_isHop := goodIn_r _ [8, 9, 10, 11, 7, 12, 25, 26, 27, 28, 29, 30, 31, 32, 33, 34, 35, 36, 37, 38, 39, 40, 41, 42, 43, 44, 45] (by decide +kernel) (by decide +kernel)
set_option maxRecDepth 20000 in
theorem gX7_hop_X7_isHop : GoodIn wsX7_hop (wsV RX7 130 RX7 yX7_isHop wsX7_isHop) := goodIn_app (goodIn_of _ (by decide +kernel)) ggX7_hop_X7_isHop
theorem dX7_hop_0 : decode cX7_hop 0 = .ok (.aload_n 0, 1) := by decide +kernel
theorem dX7_hop_1 : decode cX7_hop 1 = .ok (.aload_n 0, 1) := by decide +kernel
theorem dX7_hop_2 : decode cX7_hop 2 = .ok (.iload_n 1, 1) := by decide +kernel
theorem dX7_hop_3 : decode cX7_hop 3 = .ok (.invokevirtual 130, 3) := by decide +kernel
theorem dX7_hop_6 : decode cX7_hop 6 = .ok (.ifCond .eq 17, 3) := by decide +kernel
theorem dX7_hop_23 : decode cX7_hop 23 = .ok (.iconst 1, 1) := by decide +kernel
theorem dX7_hop_24 : decode cX7_hop 24 = .ok (.putfield 49, 3) := by decide +kernel
theorem dX7_hop_27 : decode cX7_hop 27 = .ok (.aload_n 0, 1) := by decide +kernel
theorem dX7_hop_28 : decode cX7_hop 28 = .ok (.getfield 49, 3) := by decide +kernel
theorem dX7_hop_31 : decode cX7_hop 31 = .ok (.iconst 1, 1) := by decide +kernel
theorem dX7_hop_32 : decode cX7_hop 32 = .ok (.if_icmp .ne 5, 3) := by decide +kernel
theorem dX7_hop_35 : decode cX7_hop 35 = .ok (.iconst 0, 1) := by decide +kernel
theorem dX7_hop_36 : decode cX7_hop 36 = .ok (.ireturn, 1) := by decide +kernel
set_option maxRecDepth 20000 in
theorem ggX7_circuit_X7_isCircuit : GoodIn wsX7_circuit wsX7_isCircuit := goodIn_r _ [7, 8, 9, 10, 6, 11, 19, 20, 21, 22, 23, 24, 25, 26, 27, 28, 29, 30, 31, 32, 33, 34, 35, 36, 37, 38, 39] (by decide +kernel) (by decide +kernel)
set_option maxRecDepth 20000 in
theorem gX7_circuit_X7_isCircuit : GoodIn wsX7_circuit (wsV RX7 133 RX7 yX7_isCircuit wsX7_isCircuit) := goodIn_app (goodIn_of _ (by decide +kernel)) ggX7_circuit_X7_isCircuit
theorem dX7_circuit_0 : decode cX7_circuit 0 = .ok (.aload_n 0, 1) := by decide +kernel
theorem dX7_circuit_1 : decode cX7_circuit 1 = .ok (.aload_n 0, 1) := by decide +kernel
theorem dX7_circuit_2 : decode cX7_circuit 2 = .ok (.iload_n 1, 1) := by decide +kernel
theorem dX7_circuit_3 : decode cX7_circuit 3 = .ok (.invokevirtual 133, 3) := by decide +kernel
theorem dX7_circuit_6 : decode cX7_circuit 6 = .ok (.ifCond .eq 17, 3) := by decide +kernel
theorem dX7_circuit_23 : decode cX7_circuit 23 = .ok (.iconst 1, 1) := by decide +kernel
theorem dX7_circuit_24 : decode cX7_circuit 24 = .ok (.putfield 49, 3) := by decide +kernel
theorem dX7_circuit_27 : decode cX7_circuit 27 = .ok (.aload_n 0, 1) := by decide +kernel
theorem dX7_circuit_28 : decode cX7_circuit 28 = .ok (.getfield 49, 3) := by decide +kernel
theorem dX7_circuit_31 : decode cX7_circuit 31 = .ok (.iconst 1, 1) := by decide +kernel
theorem dX7_circuit_32 : decode cX7_circuit 32 = .ok (.if_icmp .ne 5, 3) := by decide +kernel
theorem dX7_circuit_35 : decode cX7_circuit 35 = .ok (.iconst 0, 1) := by decide +kernel
theorem dX7_circuit_36 : decode cX7_circuit 36 = .ok (.ireturn, 1) := by decide +kernel
set_option maxRecDepth 20000 in
theorem ggX7_lane__X7_isLane : GoodIn wsX7_lane_ wsX7_isLane := goodIn_r _ [6, 7, 8, 9, 5, 10, 11, 12, 13, 14, 15, 16, 17, 18, 19, 50, 51, 52, 53, 54, 55, 56, 57, 58, 59, 60, 61, 62, 63, 64, 65, 66, 67, 68, 69, 70] (by decide +kernel) (by decide +kernel)
set_option maxRecDepth 20000 in
theorem gX7_lane__X7_isLane : GoodIn wsX7_lane_ (wsV RX7 229 RX7 yX7_isLane wsX7_isLane) := goodIn_app (goodIn_of _ (by decide +kernel)) ggX7_lane__X7_isLane
theorem dX7_lane__0 : decode cX7_lane_ 0 = .ok (.aload_n 0, 1) := by decide +kernel
theorem dX7_lane__1 : decode cX7_lane_ 1 = .ok (.iconst 0, 1) := by decide +kernel
theorem dX7_lane__2 : decode cX7_lane_ 2 = .ok (.putfield 49, 3) := by decide +kernel
theorem dX7_lane__5 : decode cX7_lane_ 5 = .ok (.aload_n 0, 1) := by decide +kernel
theorem dX7_lane__6 : decode cX7_lane_ 6 = .ok (.iload_n 1, 1) := by decide +kernel
theorem dX7_lane__7 : decode cX7_lane_ 7 = .ok (.iload_n 2, 1) := by decide +kernel
theorem dX7_lane__8 : decode cX7_lane_ 8 = .ok (.invokevirtual 229, 3) := by decide +kernel
theorem dX7_lane__11 : decode cX7_lane_ 11 = .ok (.ifCond .eq 23, 3) := by decide +kernel
theorem dX7_lane__34 : decode cX7_lane_ 34 = .ok (.iconst (-1), 1) := by decide +kernel
theorem dX7_lane__35 : decode cX7_lane_ 35 = .ok (.ireturn, 1) := by decide +kernel
set_option maxRecDepth 20000 in
theorem ggX7_buffer_X7_isNode : GoodIn wsX7_buffer wsX7_isNode := goodIn_r _ [7, 8, 9, 10, 11, 6, 12, 13, 14, 15, 24, 25, 26, 27, 28, 29, 30, 31, 32, 33, 34, 35, 36, 37, 38, 39, 40, 41, 42, 43, 44] (by decide +kernel) (by decide +kernel)
set_option maxRecDepth 20000 in
theorem gX7_buffer_X7_isNode : GoodIn wsX7_buffer (wsV RX7 250 RX7 yX7_isNode wsX7_isNode) := goodIn_app (goodIn_of _ (by decide +kernel)) ggX7_buffer_X7_isNode
theorem dX7_buffer_0 : decode cX7_buffer 0 = .ok (.aload_n 0, 1) := by decide +kernel
theorem dX7_buffer_1 : decode cX7_buffer 1 = .ok (.iconst 0, 1) := by decide +kernel
theorem dX7_buffer_2 : decode cX7_buffer 2 = .ok (.putfield 49, 3) := by decide +kernel
theorem dX7_buffer_5 : decode cX7_buffer 5 = .ok (.aload_n 0, 1) := by decide +kernel
theorem dX7_buffer_6 : decode cX7_buffer 6 = .ok (.iload_n 1, 1) := by decide +kernel
theorem dX7_buffer_7 : decode cX7_buffer 7 = .ok (.invokevirtual 250, 3) := by decide +kernel
theorem dX7_buffer_10 : decode cX7_buffer 10 = .ok (.ifCond .eq 24, 3) := by decide +kernel
theorem dX7_buffer_34 : decode cX7_buffer 34 = .ok (.iconst (-1), 1) := by decide +kernel
theorem dX7_buffer_35 : decode cX7_buffer 35 = .ok (.ireturn, 1) := by decide +kernel
set_option maxRecDepth 20000 in
theorem ggX7_way_X7_isHop : GoodIn wsX7_way wsX7_isHop := goodIn_r _ [7, 8, 9, 10, 6, 11, 15, 16, 17, 18, 19, 20, 21, 22, 23, 24, 25, 26, 27, 28, 29, 30, 31, 32, 33, 34, 35] (by decide +kernel) (by decide +kernel)
set_option maxRecDepth 20000 in
theorem gX7_way_X7_isHop : GoodIn wsX7_way (wsV RX7 130 RX7 yX7_isHop wsX7_isHop) := goodIn_app (goodIn_of _ (by decide +kernel)) ggX7_way_X7_isHop
theorem dX7_way_0 : decode cX7_way 0 = .ok (.aload_n 0, 1) := by decide +kernel
theorem dX7_way_1 : decode cX7_way 1 = .ok (.iconst 0, 1) := by decide +kernel
theorem dX7_way_2 : decode cX7_way 2 = .ok (.putfield 49, 3) := by decide +kernel
theorem dX7_way_5 : decode cX7_way 5 = .ok (.aload_n 0, 1) := by decide +kernel
theorem dX7_way_6 : decode cX7_way 6 = .ok (.iload_n 1, 1) := by decide +kernel
theorem dX7_way_7 : decode cX7_way 7 = .ok (.invokevirtual 130, 3) := by decide +kernel
theorem dX7_way_10 : decode cX7_way 10 = .ok (.ifCond .eq 21, 3) := by decide +kernel
theorem dX7_way_31 : decode cX7_way 31 = .ok (.iconst (-1), 1) := by decide +kernel
theorem dX7_way_32 : decode cX7_way 32 = .ok (.ireturn, 1) := by decide +kernel
set_option maxRecDepth 20000 in
theorem ggX7_isSpan_X7_in : GoodIn wsX7_isSpan wsX7_in := goodIn_r _ [4] (by decide +kernel) (by decide +kernel)
set_option maxRecDepth 20000 in
theorem gX7_isSpan_X7_in : GoodIn wsX7_isSpan (va_wsS RX7 60 yX7_in wsX7_in) := goodIn_app (goodIn_of _ (by decide +kernel)) ggX7_isSpan_X7_in
theorem dX7_isSpan_0 : decode cX7_isSpan 0 = .ok (.iload_n 0, 1) := by decide +kernel
theorem dX7_isSpan_1 : decode cX7_isSpan 1 = .ok (.iload_n 1, 1) := by decide +kernel
theorem dX7_isSpan_2 : decode cX7_isSpan 2 = .ok (.sipush 200, 3) := by decide +kernel
theorem dX7_isSpan_5 : decode cX7_isSpan 5 = .ok (.invokestatic 60, 3) := by decide +kernel
theorem dX7_isSpan_8 : decode cX7_isSpan 8 = .ok (.ireturn, 1) := by decide +kernel
set_option maxRecDepth 20000 in
theorem ggX7_laneAhead_X7_isLane : GoodIn wsX7_laneAhead wsX7_isLane := goodIn_r _ [6, 7, 8, 9, 5, 10, 11, 12, 13, 14, 15, 16, 17, 18, 19, 149, 150, 151, 152, 153, 154, 155, 156, 157, 158, 159, 160, 161, 162, 163, 164, 165, 166, 167, 168, 169] (by decide +kernel) (by decide +kernel)
set_option maxRecDepth 20000 in
theorem gX7_laneAhead_X7_isLane : GoodIn wsX7_laneAhead (wsV RX7 229 RX7 yX7_isLane wsX7_isLane) := goodIn_app (goodIn_of _ (by decide +kernel)) ggX7_laneAhead_X7_isLane
theorem dX7_laneAhead_0 : decode cX7_laneAhead 0 = .ok (.aload_n 0, 1) := by decide +kernel
theorem dX7_laneAhead_1 : decode cX7_laneAhead 1 = .ok (.iconst 0, 1) := by decide +kernel
theorem dX7_laneAhead_2 : decode cX7_laneAhead 2 = .ok (.putfield 49, 3) := by decide +kernel
theorem dX7_laneAhead_5 : decode cX7_laneAhead 5 = .ok (.aload_n 0, 1) := by decide +kernel
theorem dX7_laneAhead_6 : decode cX7_laneAhead 6 = .ok (.iload_n 1, 1) := by decide +kernel
theorem dX7_laneAhead_7 : decode cX7_laneAhead 7 = .ok (.iload_n 2, 1) := by decide +kernel
theorem dX7_laneAhead_8 : decode cX7_laneAhead 8 = .ok (.invokevirtual 229, 3) := by decide +kernel
theorem dX7_laneAhead_11 : decode cX7_laneAhead 11 = .ok (.ifCond .eq 22, 3) := by decide +kernel
theorem dX7_laneAhead_33 : decode cX7_laneAhead 33 = .ok (.iconst (-1), 1) := by decide +kernel
theorem dX7_laneAhead_34 : decode cX7_laneAhead 34 = .ok (.ireturn, 1) := by decide +kernel
set_option maxRecDepth 20000 in
theorem ggX7_bufferAhead_X7_isNode : GoodIn wsX7_bufferAhead wsX7_isNode := goodIn_r _ [7, 8, 9, 10, 11, 6, 12, 13, 14, 15, 141, 142, 143, 144, 145, 146, 147, 148, 149, 150, 151, 152, 153, 154, 155, 156, 157, 158, 159, 160, 161] (by decide +kernel) (by decide +kernel)
set_option maxRecDepth 20000 in
theorem gX7_bufferAhead_X7_isNode : GoodIn wsX7_bufferAhead (wsV RX7 250 RX7 yX7_isNode wsX7_isNode) := goodIn_app (goodIn_of _ (by decide +kernel)) ggX7_bufferAhead_X7_isNode
theorem dX7_bufferAhead_0 : decode cX7_bufferAhead 0 = .ok (.aload_n 0, 1) := by decide +kernel
theorem dX7_bufferAhead_1 : decode cX7_bufferAhead 1 = .ok (.iconst 0, 1) := by decide +kernel
theorem dX7_bufferAhead_2 : decode cX7_bufferAhead 2 = .ok (.putfield 49, 3) := by decide +kernel
theorem dX7_bufferAhead_5 : decode cX7_bufferAhead 5 = .ok (.aload_n 0, 1) := by decide +kernel
theorem dX7_bufferAhead_6 : decode cX7_bufferAhead 6 = .ok (.iload_n 1, 1) := by decide +kernel
theorem dX7_bufferAhead_7 : decode cX7_bufferAhead 7 = .ok (.invokevirtual 250, 3) := by decide +kernel
theorem dX7_bufferAhead_10 : decode cX7_bufferAhead 10 = .ok (.ifCond .eq 19, 3) := by decide +kernel
theorem dX7_bufferAhead_29 : decode cX7_bufferAhead 29 = .ok (.iconst (-1), 1) := by decide +kernel
theorem dX7_bufferAhead_30 : decode cX7_bufferAhead 30 = .ok (.ireturn, 1) := by decide +kernel
set_option maxRecDepth 20000 in
theorem ggX7_delivered_X7_isNet : GoodIn wsX7_delivered wsX7_isNet := goodIn_r _ [6, 7, 145, 146, 147, 148, 149, 150, 151, 152, 153, 154, 155, 156, 157, 158, 159, 160, 161, 162, 163, 164, 165] (by decide +kernel) (by decide +kernel)
set_option maxRecDepth 20000 in
theorem gX7_delivered_X7_isNet : GoodIn wsX7_delivered (wsV RX7 136 RX7 yX7_isNet wsX7_isNet) := goodIn_app (goodIn_of _ (by decide +kernel)) ggX7_delivered_X7_isNet
theorem dX7_delivered_0 : decode cX7_delivered 0 = .ok (.aload_n 0, 1) := by decide +kernel
theorem dX7_delivered_1 : decode cX7_delivered 1 = .ok (.iconst 0, 1) := by decide +kernel
theorem dX7_delivered_2 : decode cX7_delivered 2 = .ok (.putfield 49, 3) := by decide +kernel
theorem dX7_delivered_5 : decode cX7_delivered 5 = .ok (.aload_n 0, 1) := by decide +kernel
theorem dX7_delivered_6 : decode cX7_delivered 6 = .ok (.invokevirtual 136, 3) := by decide +kernel
theorem dX7_delivered_9 : decode cX7_delivered 9 = .ok (.ifCond .eq 24, 3) := by decide +kernel
theorem dX7_delivered_33 : decode cX7_delivered 33 = .ok (.iconst (-1), 1) := by decide +kernel
theorem dX7_delivered_34 : decode cX7_delivered 34 = .ok (.ireturn, 1) := by decide +kernel
set_option maxRecDepth 20000 in
theorem ggX7_heldUp_X7_isLane : GoodIn wsX7_heldUp wsX7_isLane := goodIn_r _ [7, 8, 9, 10, 6, 11, 12, 13, 14, 15, 16, 17, 18, 19, 20, 134, 135, 136, 137, 138, 139, 140, 141, 142, 143, 144, 145, 146, 147, 148, 149, 150, 151, 152, 153, 154] (by decide +kernel) (by decide +kernel)
set_option maxRecDepth 20000 in
theorem gX7_heldUp_X7_isLane : GoodIn wsX7_heldUp (wsV RX7 229 RX7 yX7_isLane wsX7_isLane) := goodIn_app (goodIn_of _ (by decide +kernel)) ggX7_heldUp_X7_isLane
theorem dX7_heldUp_0 : decode cX7_heldUp 0 = .ok (.aload_n 0, 1) := by decide +kernel
theorem dX7_heldUp_1 : decode cX7_heldUp 1 = .ok (.iconst 0, 1) := by decide +kernel
theorem dX7_heldUp_2 : decode cX7_heldUp 2 = .ok (.putfield 49, 3) := by decide +kernel
theorem dX7_heldUp_5 : decode cX7_heldUp 5 = .ok (.aload_n 0, 1) := by decide +kernel
theorem dX7_heldUp_6 : decode cX7_heldUp 6 = .ok (.iload_n 1, 1) := by decide +kernel
theorem dX7_heldUp_7 : decode cX7_heldUp 7 = .ok (.iload_n 2, 1) := by decide +kernel
theorem dX7_heldUp_8 : decode cX7_heldUp 8 = .ok (.invokevirtual 229, 3) := by decide +kernel
theorem dX7_heldUp_11 : decode cX7_heldUp 11 = .ok (.ifCond .ne 5, 3) := by decide +kernel
theorem dX7_heldUp_14 : decode cX7_heldUp 14 = .ok (.iconst (-1), 1) := by decide +kernel
theorem dX7_heldUp_15 : decode cX7_heldUp 15 = .ok (.ireturn, 1) := by decide +kernel
set_option maxRecDepth 20000 in
theorem ggX7_idle_X7_isHop : GoodIn wsX7_idle wsX7_isHop := goodIn_r _ [6, 7, 8, 9, 5, 10, 137, 138, 139, 140, 141, 142, 143, 144, 145, 146, 147, 148, 149, 150, 151, 152, 153, 154, 155, 156, 157] (by decide +kernel) (by decide +kernel)
set_option maxRecDepth 20000 in
theorem gX7_idle_X7_isHop : GoodIn wsX7_idle (wsV RX7 130 RX7 yX7_isHop wsX7_isHop) := goodIn_app (goodIn_of _ (by decide +kernel)) ggX7_idle_X7_isHop
theorem dX7_idle_0 : decode cX7_idle 0 = .ok (.aload_n 0, 1) := by decide +kernel
theorem dX7_idle_1 : decode cX7_idle 1 = .ok (.iconst 0, 1) := by decide +kernel
theorem dX7_idle_2 : decode cX7_idle 2 = .ok (.putfield 49, 3) := by decide +kernel
theorem dX7_idle_5 : decode cX7_idle 5 = .ok (.aload_n 0, 1) := by decide +kernel
theorem dX7_idle_6 : decode cX7_idle 6 = .ok (.iload_n 1, 1) := by decide +kernel
theorem dX7_idle_7 : decode cX7_idle 7 = .ok (.invokevirtual 130, 3) := by decide +kernel
theorem dX7_idle_10 : decode cX7_idle 10 = .ok (.ifCond .eq 20, 3) := by decide +kernel
theorem dX7_idle_30 : decode cX7_idle 30 = .ok (.iconst (-1), 1) := by decide +kernel
theorem dX7_idle_31 : decode cX7_idle 31 = .ok (.ireturn, 1) := by decide +kernel
set_option maxRecDepth 20000 in
theorem ggX7_busiest_X7_isNet : GoodIn wsX7_busiest wsX7_isNet := goodIn_r _ [7, 2, 137, 138, 139, 140, 141, 142, 143, 144, 145, 146, 147, 148, 149, 150, 151, 152, 153, 154, 155, 156, 157] (by decide +kernel) (by decide +kernel)
set_option maxRecDepth 20000 in
theorem gX7_busiest_X7_isNet : GoodIn wsX7_busiest (wsV RX7 136 RX7 yX7_isNet wsX7_isNet) := goodIn_app (goodIn_of _ (by decide +kernel)) ggX7_busiest_X7_isNet
theorem dX7_busiest_0 : decode cX7_busiest 0 = .ok (.aload_n 0, 1) := by decide +kernel
theorem dX7_busiest_1 : decode cX7_busiest 1 = .ok (.iconst 0, 1) := by decide +kernel
theorem dX7_busiest_2 : decode cX7_busiest 2 = .ok (.putfield 49, 3) := by decide +kernel
theorem dX7_busiest_5 : decode cX7_busiest 5 = .ok (.aload_n 0, 1) := by decide +kernel
theorem dX7_busiest_6 : decode cX7_busiest 6 = .ok (.invokevirtual 136, 3) := by decide +kernel
theorem dX7_busiest_9 : decode cX7_busiest 9 = .ok (.ifCond .eq 11, 3) := by decide +kernel
theorem dX7_busiest_20 : decode cX7_busiest 20 = .ok (.iconst (-1), 1) := by decide +kernel
theorem dX7_busiest_21 : decode cX7_busiest 21 = .ok (.ireturn, 1) := by decide +kernel
set_option maxRecDepth 20000 in
theorem ggX7_most_X7_isNode : GoodIn wsX7_most wsX7_isNode := goodIn_r _ [10, 11, 12, 13, 14, 9, 15, 16, 17, 18, 145, 146, 147, 148, 149, 150, 151, 152, 153, 154, 155, 156, 157, 158, 159, 160, 161, 162, 163, 164, 165] (by decide +kernel) (by decide +kernel)
set_option maxRecDepth 20000 in
theorem gX7_most_X7_isNode : GoodIn wsX7_most (wsV RX7 250 RX7 yX7_isNode wsX7_isNode) := goodIn_app (goodIn_of _ (by decide +kernel)) ggX7_most_X7_isNode
theorem dX7_most_0 : decode cX7_most 0 = .ok (.aload_n 0, 1) := by decide +kernel
theorem dX7_most_1 : decode cX7_most 1 = .ok (.iconst 0, 1) := by decide +kernel
theorem dX7_most_2 : decode cX7_most 2 = .ok (.putfield 49, 3) := by decide +kernel
theorem dX7_most_5 : decode cX7_most 5 = .ok (.aload_n 0, 1) := by decide +kernel
theorem dX7_most_6 : decode cX7_most 6 = .ok (.iload_n 1, 1) := by decide +kernel
theorem dX7_most_7 : decode cX7_most 7 = .ok (.invokevirtual 250, 3) := by decide +kernel
theorem dX7_most_10 : decode cX7_most 10 = .ok (.ifCond .eq 38, 3) := by decide +kernel
theorem dX7_most_48 : decode cX7_most 48 = .ok (.iconst (-1), 1) := by decide +kernel
theorem dX7_most_49 : decode cX7_most 49 = .ok (.ireturn, 1) := by decide +kernel
set_option maxRecDepth 20000 in
theorem ggX7_healed_X7_isNet : GoodIn wsX7_healed wsX7_isNet := goodIn_r _ [6, 7, 84, 85, 86, 87, 88, 89, 90, 91, 92, 93, 94, 95, 96, 97, 98, 99, 100, 101, 102, 103, 104] (by decide +kernel) (by decide +kernel)
set_option maxRecDepth 20000 in
theorem gX7_healed_X7_isNet : GoodIn wsX7_healed (wsV RX7 136 RX7 yX7_isNet wsX7_isNet) := goodIn_app (goodIn_of _ (by decide +kernel)) ggX7_healed_X7_isNet
theorem dX7_healed_0 : decode cX7_healed 0 = .ok (.aload_n 0, 1) := by decide +kernel
theorem dX7_healed_1 : decode cX7_healed 1 = .ok (.iconst 0, 1) := by decide +kernel
theorem dX7_healed_2 : decode cX7_healed 2 = .ok (.putfield 49, 3) := by decide +kernel
theorem dX7_healed_5 : decode cX7_healed 5 = .ok (.aload_n 0, 1) := by decide +kernel
theorem dX7_healed_6 : decode cX7_healed 6 = .ok (.invokevirtual 136, 3) := by decide +kernel
theorem dX7_healed_9 : decode cX7_healed 9 = .ok (.ifCond .ne 5, 3) := by decide +kernel
theorem dX7_healed_12 : decode cX7_healed 12 = .ok (.iconst (-1), 1) := by decide +kernel
theorem dX7_healed_13 : decode cX7_healed 13 = .ok (.ireturn, 1) := by decide +kernel
set_option maxRecDepth 20000 in
theorem ggX7_loss_X7_isNet : GoodIn wsX7_loss wsX7_isNet := goodIn_r _ [7, 8, 150, 151, 152, 153, 154, 155, 156, 157, 158, 159, 160, 161, 162, 163, 164, 165, 166, 167, 168, 169, 170] (by decide +kernel) (by decide +kernel)
set_option maxRecDepth 20000 in
theorem gX7_loss_X7_isNet : GoodIn wsX7_loss (wsV RX7 136 RX7 yX7_isNet wsX7_isNet) := goodIn_app (goodIn_of _ (by decide +kernel)) ggX7_loss_X7_isNet
theorem dX7_loss_0 : decode cX7_loss 0 = .ok (.aload_n 0, 1) := by decide +kernel
theorem dX7_loss_1 : decode cX7_loss 1 = .ok (.iconst 0, 1) := by decide +kernel
theorem dX7_loss_2 : decode cX7_loss 2 = .ok (.putfield 49, 3) := by decide +kernel
theorem dX7_loss_5 : decode cX7_loss 5 = .ok (.aload_n 0, 1) := by decide +kernel
theorem dX7_loss_6 : decode cX7_loss 6 = .ok (.invokevirtual 136, 3) := by decide +kernel
theorem dX7_loss_9 : decode cX7_loss 9 = .ok (.ifCond .eq 30, 3) := by decide +kernel
theorem dX7_loss_39 : decode cX7_loss 39 = .ok (.ldc 236, 2) := by decide +kernel
theorem dX7_loss_41 : decode cX7_loss 41 = .ok (.ireturn, 1) := by decide +kernel
set_option maxRecDepth 20000 in
theorem ggX7_bears_X7_isNet : GoodIn wsX7_bears wsX7_isNet := goodIn_r _ [6, 7, 149, 150, 151, 152, 153, 154, 155, 156, 157, 158, 159, 160, 161, 162, 163, 164, 165, 166, 167, 168, 169] (by decide +kernel) (by decide +kernel)
set_option maxRecDepth 20000 in
theorem gX7_bears_X7_isNet : GoodIn wsX7_bears (wsV RX7 136 RX7 yX7_isNet wsX7_isNet) := goodIn_app (goodIn_of _ (by decide +kernel)) ggX7_bears_X7_isNet
theorem dX7_bears_0 : decode cX7_bears 0 = .ok (.aload_n 0, 1) := by decide +kernel
theorem dX7_bears_1 : decode cX7_bears 1 = .ok (.iconst 0, 1) := by decide +kernel
theorem dX7_bears_2 : decode cX7_bears 2 = .ok (.putfield 49, 3) := by decide +kernel
theorem dX7_bears_5 : decode cX7_bears 5 = .ok (.aload_n 0, 1) := by decide +kernel
theorem dX7_bears_6 : decode cX7_bears 6 = .ok (.invokevirtual 136, 3) := by decide +kernel
theorem dX7_bears_9 : decode cX7_bears 9 = .ok (.ifCond .eq 11, 3) := by decide +kernel
theorem dX7_bears_20 : decode cX7_bears 20 = .ok (.iconst (-1), 1) := by decide +kernel
theorem dX7_bears_21 : decode cX7_bears 21 = .ok (.ireturn, 1) := by decide +kernel
set_option maxRecDepth 20000 in
theorem ggX7_fair_X7_isNet : GoodIn wsX7_fair wsX7_isNet := goodIn_r _ [14, 15, 141, 142, 143, 144, 145, 146, 147, 148, 149, 150, 151, 152, 153, 154, 155, 156, 157, 158, 159, 160, 161] (by decide +kernel) (by decide +kernel)
set_option maxRecDepth 20000 in
theorem gX7_fair_X7_isNet : GoodIn wsX7_fair (wsV RX7 136 RX7 yX7_isNet wsX7_isNet) := goodIn_app (goodIn_of _ (by decide +kernel)) ggX7_fair_X7_isNet
theorem dX7_fair_0 : decode cX7_fair 0 = .ok (.aload_n 0, 1) := by decide +kernel
theorem dX7_fair_1 : decode cX7_fair 1 = .ok (.iconst 0, 1) := by decide +kernel
theorem dX7_fair_2 : decode cX7_fair 2 = .ok (.putfield 49, 3) := by decide +kernel
theorem dX7_fair_5 : decode cX7_fair 5 = .ok (.aload_n 0, 1) := by decide +kernel
theorem dX7_fair_6 : decode cX7_fair 6 = .ok (.invokevirtual 136, 3) := by decide +kernel
theorem dX7_fair_9 : decode cX7_fair 9 = .ok (.ifCond .eq 11, 3) := by decide +kernel
theorem dX7_fair_20 : decode cX7_fair 20 = .ok (.iconst (-1), 1) := by decide +kernel
theorem dX7_fair_21 : decode cX7_fair 21 = .ok (.ireturn, 1) := by decide +kernel
set_option maxRecDepth 20000 in
theorem ggX7_learns_X7_isLane : GoodIn wsX7_learns wsX7_isLane := goodIn_r _ [7, 8, 9, 10, 6, 11, 12, 13, 14, 15, 16, 17, 18, 19, 20, 134, 135, 136, 137, 138, 139, 140, 141, 142, 143, 144, 145, 146, 147, 148, 149, 150, 151, 152, 153, 154] (by decide +kernel) (by decide +kernel)
set_option maxRecDepth 20000 in
theorem gX7_learns_X7_isLane : GoodIn wsX7_learns (wsV RX7 229 RX7 yX7_isLane wsX7_isLane) := goodIn_app (goodIn_of _ (by decide +kernel)) ggX7_learns_X7_isLane
theorem dX7_learns_0 : decode cX7_learns 0 = .ok (.aload_n 0, 1) := by decide +kernel
theorem dX7_learns_1 : decode cX7_learns 1 = .ok (.iconst 0, 1) := by decide +kernel
theorem dX7_learns_2 : decode cX7_learns 2 = .ok (.putfield 49, 3) := by decide +kernel
theorem dX7_learns_5 : decode cX7_learns 5 = .ok (.aload_n 0, 1) := by decide +kernel
theorem dX7_learns_6 : decode cX7_learns 6 = .ok (.iload_n 1, 1) := by decide +kernel
theorem dX7_learns_7 : decode cX7_learns 7 = .ok (.iload_n 2, 1) := by decide +kernel
theorem dX7_learns_8 : decode cX7_learns 8 = .ok (.invokevirtual 229, 3) := by decide +kernel
theorem dX7_learns_11 : decode cX7_learns 11 = .ok (.ifCond .ne 5, 3) := by decide +kernel
theorem dX7_learns_14 : decode cX7_learns 14 = .ok (.iconst (-1), 1) := by decide +kernel
theorem dX7_learns_15 : decode cX7_learns 15 = .ok (.ireturn, 1) := by decide +kernel
set_option maxRecDepth 20000 in
theorem ggX7_stuck_X7_isNet : GoodIn wsX7_stuck wsX7_isNet := goodIn_r _ [8, 3, 140, 141, 142, 143, 144, 145, 146, 147, 148, 149, 150, 151, 152, 153, 154, 155, 156, 157, 158, 159, 160] (by decide +kernel) (by decide +kernel)
set_option maxRecDepth 20000 in
theorem gX7_stuck_X7_isNet : GoodIn wsX7_stuck (wsV RX7 136 RX7 yX7_isNet wsX7_isNet) := goodIn_app (goodIn_of _ (by decide +kernel)) ggX7_stuck_X7_isNet
theorem dX7_stuck_0 : decode cX7_stuck 0 = .ok (.aload_n 0, 1) := by decide +kernel
theorem dX7_stuck_1 : decode cX7_stuck 1 = .ok (.iconst 0, 1) := by decide +kernel
theorem dX7_stuck_2 : decode cX7_stuck 2 = .ok (.putfield 49, 3) := by decide +kernel
theorem dX7_stuck_5 : decode cX7_stuck 5 = .ok (.aload_n 0, 1) := by decide +kernel
theorem dX7_stuck_6 : decode cX7_stuck 6 = .ok (.invokevirtual 136, 3) := by decide +kernel
theorem dX7_stuck_9 : decode cX7_stuck 9 = .ok (.ifCond .eq 10, 3) := by decide +kernel
theorem dX7_stuck_19 : decode cX7_stuck 19 = .ok (.iconst 0, 1) := by decide +kernel
theorem dX7_stuck_20 : decode cX7_stuck 20 = .ok (.ireturn, 1) := by decide +kernel
set_option maxRecDepth 20000 in
theorem ggX7_would_X7_whyZone : GoodIn wsX7_would wsX7_whyZone := goodIn_r _ [6, 7, 8, 9, 10, 11, 5, 12, 13, 14, 15, 16, 17, 18, 19, 20, 21, 22, 23, 24, 25, 26, 27, 28, 29, 30, 31, 32, 33, 34, 35, 36, 37, 38, 39, 40, 41, 42, 43, 44, 45, 46, 47, 48, 157, 158, 159, 160, 161, 162, 163, 164, 165, 166, 167, 168, 169, 170, 171, 172, 173, 174, 175, 176, 177] (by decide +kernel) (by decide +kernel)
set_option maxRecDepth 20000 in
theorem gX7_would_X7_whyZone : GoodIn wsX7_would (wsV RX7 232 RX7 yX7_whyZone wsX7_whyZone) := goodIn_app (goodIn_of _ (by decide +kernel)) ggX7_would_X7_whyZone
theorem dX7_would_0 : decode cX7_would 0 = .ok (.aload_n 0, 1) := by decide +kernel
theorem dX7_would_1 : decode cX7_would 1 = .ok (.iconst 0, 1) := by decide +kernel
theorem dX7_would_2 : decode cX7_would 2 = .ok (.putfield 49, 3) := by decide +kernel
theorem dX7_would_5 : decode cX7_would 5 = .ok (.aload_n 0, 1) := by decide +kernel
theorem dX7_would_6 : decode cX7_would 6 = .ok (.iload_n 1, 1) := by decide +kernel
theorem dX7_would_7 : decode cX7_would 7 = .ok (.iload_n 2, 1) := by decide +kernel
theorem dX7_would_8 : decode cX7_would 8 = .ok (.iload_n 3, 1) := by decide +kernel
theorem dX7_would_9 : decode cX7_would 9 = .ok (.invokevirtual 232, 3) := by decide +kernel
theorem dX7_would_12 : decode cX7_would 12 = .ok (.iconst (-1), 1) := by decide +kernel
theorem dX7_would_13 : decode cX7_would 13 = .ok (.if_icmp .ne 24, 3) := by decide +kernel
theorem dX7_would_37 : decode cX7_would 37 = .ok (.iconst (-1), 1) := by decide +kernel
theorem dX7_would_38 : decode cX7_would 38 = .ok (.ireturn, 1) := by decide +kernel
set_option maxRecDepth 20000 in
theorem ggX7_bestZone_X7_isLane : GoodIn wsX7_bestZone wsX7_isLane := goodIn_r _ [11, 12, 13, 14, 10, 15, 16, 17, 18, 19, 20, 21, 22, 23, 24, 154, 155, 156, 157, 158, 159, 160, 161, 162, 163, 164, 165, 166, 167, 168, 169, 170, 171, 172, 173, 174] (by decide +kernel) (by decide +kernel)
set_option maxRecDepth 20000 in
theorem gX7_bestZone_X7_isLane : GoodIn wsX7_bestZone (wsV RX7 229 RX7 yX7_isLane wsX7_isLane) := goodIn_app (goodIn_of _ (by decide +kernel)) ggX7_bestZone_X7_isLane
theorem dX7_bestZone_0 : decode cX7_bestZone 0 = .ok (.aload_n 0, 1) := by decide +kernel
theorem dX7_bestZone_1 : decode cX7_bestZone 1 = .ok (.iconst 0, 1) := by decide +kernel
theorem dX7_bestZone_2 : decode cX7_bestZone 2 = .ok (.putfield 49, 3) := by decide +kernel
theorem dX7_bestZone_5 : decode cX7_bestZone 5 = .ok (.aload_n 0, 1) := by decide +kernel
theorem dX7_bestZone_6 : decode cX7_bestZone 6 = .ok (.iload_n 1, 1) := by decide +kernel
theorem dX7_bestZone_7 : decode cX7_bestZone 7 = .ok (.iload_n 2, 1) := by decide +kernel
theorem dX7_bestZone_8 : decode cX7_bestZone 8 = .ok (.invokevirtual 229, 3) := by decide +kernel
theorem dX7_bestZone_11 : decode cX7_bestZone 11 = .ok (.ifCond .eq 13, 3) := by decide +kernel
theorem dX7_bestZone_24 : decode cX7_bestZone 24 = .ok (.iconst (-1), 1) := by decide +kernel
theorem dX7_bestZone_25 : decode cX7_bestZone 25 = .ok (.ireturn, 1) := by decide +kernel
set_option maxRecDepth 20000 in
theorem ggX7_waits__X7_isLane : GoodIn wsX7_waits_ wsX7_isLane := goodIn_r _ [6, 7, 8, 9, 5, 10, 11, 12, 13, 14, 15, 16, 17, 18, 19, 141, 142, 143, 144, 145, 146, 147, 148, 149, 150, 151, 152, 153, 154, 155, 156, 157, 158, 159, 160, 161] (by decide +kernel) (by decide +kernel)
set_option maxRecDepth 20000 in
theorem gX7_waits__X7_isLane : GoodIn wsX7_waits_ (wsV RX7 229 RX7 yX7_isLane wsX7_isLane) := goodIn_app (goodIn_of _ (by decide +kernel)) ggX7_waits__X7_isLane
theorem dX7_waits__0 : decode cX7_waits_ 0 = .ok (.aload_n 0, 1) := by decide +kernel
theorem dX7_waits__1 : decode cX7_waits_ 1 = .ok (.iconst 0, 1) := by decide +kernel
theorem dX7_waits__2 : decode cX7_waits_ 2 = .ok (.putfield 49, 3) := by decide +kernel
theorem dX7_waits__5 : decode cX7_waits_ 5 = .ok (.aload_n 0, 1) := by decide +kernel
theorem dX7_waits__6 : decode cX7_waits_ 6 = .ok (.iload_n 1, 1) := by decide +kernel
theorem dX7_waits__7 : decode cX7_waits_ 7 = .ok (.iload_n 2, 1) := by decide +kernel
theorem dX7_waits__8 : decode cX7_waits_ 8 = .ok (.invokevirtual 229, 3) := by decide +kernel
theorem dX7_waits__11 : decode cX7_waits_ 11 = .ok (.ifCond .eq 21, 3) := by decide +kernel
theorem dX7_waits__32 : decode cX7_waits_ 32 = .ok (.iconst (-1), 1) := by decide +kernel
theorem dX7_waits__33 : decode cX7_waits_ 33 = .ok (.ireturn, 1) := by decide +kernel
set_option maxRecDepth 20000 in
theorem ggX7_worst_X7_isCircuit : GoodIn wsX7_worst wsX7_isCircuit := goodIn_r _ [11, 12, 13, 14, 10, 15, 133, 134, 135, 136, 137, 138, 139, 140, 141, 142, 143, 144, 145, 146, 147, 148, 149, 150, 151, 152, 153] (by decide +kernel) (by decide +kernel)
set_option maxRecDepth 20000 in
theorem gX7_worst_X7_isCircuit : GoodIn wsX7_worst (wsV RX7 133 RX7 yX7_isCircuit wsX7_isCircuit) := goodIn_app (goodIn_of _ (by decide +kernel)) ggX7_worst_X7_isCircuit
theorem dX7_worst_0 : decode cX7_worst 0 = .ok (.aload_n 0, 1) := by decide +kernel
theorem dX7_worst_1 : decode cX7_worst 1 = .ok (.iconst 0, 1) := by decide +kernel
theorem dX7_worst_2 : decode cX7_worst 2 = .ok (.putfield 49, 3) := by decide +kernel
theorem dX7_worst_5 : decode cX7_worst 5 = .ok (.aload_n 0, 1) := by decide +kernel
theorem dX7_worst_6 : decode cX7_worst 6 = .ok (.iload_n 1, 1) := by decide +kernel
theorem dX7_worst_7 : decode cX7_worst 7 = .ok (.invokevirtual 133, 3) := by decide +kernel
theorem dX7_worst_10 : decode cX7_worst 10 = .ok (.ifCond .eq 11, 3) := by decide +kernel
theorem dX7_worst_21 : decode cX7_worst 21 = .ok (.iconst (-1), 1) := by decide +kernel
theorem dX7_worst_22 : decode cX7_worst 22 = .ok (.ireturn, 1) := by decide +kernel
theorem dX7_aloneSent_0 : decode cX7_aloneSent 0 = .ok (.iconst 0, 1) := by decide +kernel
theorem dX7_aloneSent_1 : decode cX7_aloneSent 1 = .ok (.istore 6, 2) := by decide +kernel
theorem dX7_aloneSent_3 : decode cX7_aloneSent 3 = .ok (.iload 6, 2) := by decide +kernel
theorem dX7_aloneSent_5 : decode cX7_aloneSent 5 = .ok (.bipush 8, 2) := by decide +kernel
theorem dX7_aloneSent_7 : decode cX7_aloneSent 7 = .ok (.if_icmp .ge 25, 3) := by decide +kernel
theorem dX7_aloneSent_10 : decode cX7_aloneSent 10 = .ok (.aload_n 0, 1) := by decide +kernel
theorem dX7_aloneSent_11 : decode cX7_aloneSent 11 = .ok (.getfield 43, 3) := by decide +kernel
theorem dX7_aloneSent_14 : decode cX7_aloneSent 14 = .ok (.iload 6, 2) := by decide +kernel
theorem dX7_aloneSent_16 : decode cX7_aloneSent 16 = .ok (.iconst 0, 1) := by decide +kernel
theorem dX7_aloneSent_17 : decode cX7_aloneSent 17 = .ok (.iastore, 1) := by decide +kernel
theorem dX7_aloneSent_18 : decode cX7_aloneSent 18 = .ok (.aload_n 0, 1) := by decide +kernel
theorem dX7_aloneSent_19 : decode cX7_aloneSent 19 = .ok (.getfield 46, 3) := by decide +kernel
theorem dX7_aloneSent_22 : decode cX7_aloneSent 22 = .ok (.iload 6, 2) := by decide +kernel
theorem dX7_aloneSent_24 : decode cX7_aloneSent 24 = .ok (.iconst (-1), 1) := by decide +kernel
theorem dX7_aloneSent_25 : decode cX7_aloneSent 25 = .ok (.iastore, 1) := by decide +kernel
theorem dX7_aloneSent_26 : decode cX7_aloneSent 26 = .ok (.iinc 6 1, 3) := by decide +kernel
theorem dX7_aloneSent_29 : decode cX7_aloneSent 29 = .ok (.goto (-26), 3) := by decide +kernel
theorem dX7_aloneSent_32 : decode cX7_aloneSent 32 = .ok (.iconst 0, 1) := by decide +kernel
theorem dX7_aloneSent_33 : decode cX7_aloneSent 33 = .ok (.istore 6, 2) := by decide +kernel
theorem dX7_aloneSent_35 : decode cX7_aloneSent 35 = .ok (.iconst 0, 1) := by decide +kernel
theorem dX7_aloneSent_36 : decode cX7_aloneSent 36 = .ok (.istore 7, 2) := by decide +kernel
theorem dX7_aloneSent_38 : decode cX7_aloneSent 38 = .ok (.iconst 0, 1) := by decide +kernel
theorem dX7_aloneSent_39 : decode cX7_aloneSent 39 = .ok (.istore 8, 2) := by decide +kernel
theorem dX7_aloneSent_41 : decode cX7_aloneSent 41 = .ok (.iconst 0, 1) := by decide +kernel
theorem dX7_aloneSent_42 : decode cX7_aloneSent 42 = .ok (.istore 9, 2) := by decide +kernel
theorem dX7_aloneSent_44 : decode cX7_aloneSent 44 = .ok (.iconst 0, 1) := by decide +kernel
theorem dX7_aloneSent_45 : decode cX7_aloneSent 45 = .ok (.istore 10, 2) := by decide +kernel
theorem dX7_aloneSent_47 : decode cX7_aloneSent 47 = .ok (.iload 10, 2) := by decide +kernel
theorem dX7_aloneSent_49 : decode cX7_aloneSent 49 = .ok (.iload 5, 2) := by decide +kernel
theorem dX7_aloneSent_51 : decode cX7_aloneSent 51 = .ok (.if_icmp .ge 137, 3) := by decide +kernel
theorem dX7_aloneSent_54 : decode cX7_aloneSent 54 = .ok (.iload 10, 2) := by decide +kernel
theorem dX7_aloneSent_56 : decode cX7_aloneSent 56 = .ok (.bipush 8, 2) := by decide +kernel
theorem dX7_aloneSent_58 : decode cX7_aloneSent 58 = .ok (.irem, 1) := by decide +kernel
theorem dX7_aloneSent_59 : decode cX7_aloneSent 59 = .ok (.istore 11, 2) := by decide +kernel
theorem dX7_aloneSent_61 : decode cX7_aloneSent 61 = .ok (.iload 9, 2) := by decide +kernel
theorem dX7_aloneSent_63 : decode cX7_aloneSent 63 = .ok (.aload_n 0, 1) := by decide +kernel
theorem dX7_aloneSent_64 : decode cX7_aloneSent 64 = .ok (.getfield 43, 3) := by decide +kernel
theorem dX7_aloneSent_67 : decode cX7_aloneSent 67 = .ok (.iload 11, 2) := by decide +kernel
theorem dX7_aloneSent_69 : decode cX7_aloneSent 69 = .ok (.iaload, 1) := by decide +kernel
theorem dX7_aloneSent_70 : decode cX7_aloneSent 70 = .ok (.iadd, 1) := by decide +kernel
theorem dX7_aloneSent_71 : decode cX7_aloneSent 71 = .ok (.istore 9, 2) := by decide +kernel
theorem dX7_aloneSent_73 : decode cX7_aloneSent 73 = .ok (.aload_n 0, 1) := by decide +kernel
theorem dX7_aloneSent_74 : decode cX7_aloneSent 74 = .ok (.getfield 46, 3) := by decide +kernel
theorem dX7_aloneSent_77 : decode cX7_aloneSent 77 = .ok (.iload 11, 2) := by decide +kernel
theorem dX7_aloneSent_79 : decode cX7_aloneSent 79 = .ok (.iaload, 1) := by decide +kernel
theorem dX7_aloneSent_80 : decode cX7_aloneSent 80 = .ok (.iconst (-1), 1) := by decide +kernel
theorem dX7_aloneSent_81 : decode cX7_aloneSent 81 = .ok (.if_icmp .ne 8, 3) := by decide +kernel
theorem dX7_aloneSent_84 : decode cX7_aloneSent 84 = .ok (.iload 8, 2) := by decide +kernel
theorem dX7_aloneSent_86 : decode cX7_aloneSent 86 = .ok (.goto 10, 3) := by decide +kernel
theorem dX7_aloneSent_89 : decode cX7_aloneSent 89 = .ok (.aload_n 0, 1) := by decide +kernel
theorem dX7_aloneSent_90 : decode cX7_aloneSent 90 = .ok (.getfield 46, 3) := by decide +kernel
theorem dX7_aloneSent_93 : decode cX7_aloneSent 93 = .ok (.iload 11, 2) := by decide +kernel
theorem dX7_aloneSent_95 : decode cX7_aloneSent 95 = .ok (.iaload, 1) := by decide +kernel
theorem dX7_aloneSent_96 : decode cX7_aloneSent 96 = .ok (.istore 8, 2) := by decide +kernel
theorem dX7_aloneSent_98 : decode cX7_aloneSent 98 = .ok (.aload_n 0, 1) := by decide +kernel
theorem dX7_aloneSent_99 : decode cX7_aloneSent 99 = .ok (.getfield 43, 3) := by decide +kernel
theorem dX7_aloneSent_102 : decode cX7_aloneSent 102 = .ok (.iload 11, 2) := by decide +kernel
theorem dX7_aloneSent_104 : decode cX7_aloneSent 104 = .ok (.iconst 0, 1) := by decide +kernel
theorem dX7_aloneSent_105 : decode cX7_aloneSent 105 = .ok (.iastore, 1) := by decide +kernel
theorem dX7_aloneSent_106 : decode cX7_aloneSent 106 = .ok (.aload_n 0, 1) := by decide +kernel
theorem dX7_aloneSent_107 : decode cX7_aloneSent 107 = .ok (.getfield 46, 3) := by decide +kernel
theorem dX7_aloneSent_110 : decode cX7_aloneSent 110 = .ok (.iload 11, 2) := by decide +kernel
theorem dX7_aloneSent_112 : decode cX7_aloneSent 112 = .ok (.iconst (-1), 1) := by decide +kernel
theorem dX7_aloneSent_113 : decode cX7_aloneSent 113 = .ok (.iastore, 1) := by decide +kernel
theorem dX7_aloneSent_114 : decode cX7_aloneSent 114 = .ok (.iload 10, 2) := by decide +kernel
theorem dX7_aloneSent_116 : decode cX7_aloneSent 116 = .ok (.iload_n 1, 1) := by decide +kernel
theorem dX7_aloneSent_117 : decode cX7_aloneSent 117 = .ok (.iadd, 1) := by decide +kernel
theorem dX7_aloneSent_118 : decode cX7_aloneSent 118 = .ok (.bipush 8, 2) := by decide +kernel
theorem dX7_aloneSent_120 : decode cX7_aloneSent 120 = .ok (.irem, 1) := by decide +kernel
theorem dX7_aloneSent_121 : decode cX7_aloneSent 121 = .ok (.istore 12, 2) := by decide +kernel
theorem dX7_aloneSent_123 : decode cX7_aloneSent 123 = .ok (.iload 10, 2) := by decide +kernel
theorem dX7_aloneSent_125 : decode cX7_aloneSent 125 = .ok (.iload 4, 2) := by decide +kernel
theorem dX7_aloneSent_127 : decode cX7_aloneSent 127 = .ok (.irem, 1) := by decide +kernel
theorem dX7_aloneSent_128 : decode cX7_aloneSent 128 = .ok (.ifCond .ne 34, 3) := by decide +kernel
theorem dX7_aloneSent_131 : decode cX7_aloneSent 131 = .ok (.iload 9, 2) := by decide +kernel
theorem dX7_aloneSent_133 : decode cX7_aloneSent 133 = .ok (.ifCond .le 29, 3) := by decide +kernel
theorem dX7_aloneSent_136 : decode cX7_aloneSent 136 = .ok (.iinc 9 (-1), 3) := by decide +kernel
theorem dX7_aloneSent_139 : decode cX7_aloneSent 139 = .ok (.iinc 7 1, 3) := by decide +kernel
theorem dX7_aloneSent_142 : decode cX7_aloneSent 142 = .ok (.aload_n 0, 1) := by decide +kernel
theorem dX7_aloneSent_143 : decode cX7_aloneSent 143 = .ok (.getfield 46, 3) := by decide +kernel
theorem dX7_aloneSent_146 : decode cX7_aloneSent 146 = .ok (.iload 12, 2) := by decide +kernel
theorem dX7_aloneSent_148 : decode cX7_aloneSent 148 = .ok (.iload 7, 2) := by decide +kernel
theorem dX7_aloneSent_150 : decode cX7_aloneSent 150 = .ok (.iload_n 2, 1) := by decide +kernel
theorem dX7_aloneSent_151 : decode cX7_aloneSent 151 = .ok (.irem, 1) := by decide +kernel
theorem dX7_aloneSent_152 : decode cX7_aloneSent 152 = .ok (.ifCond .ne 8, 3) := by decide +kernel
theorem dX7_aloneSent_155 : decode cX7_aloneSent 155 = .ok (.iload 7, 2) := by decide +kernel
theorem dX7_aloneSent_157 : decode cX7_aloneSent 157 = .ok (.goto 4, 3) := by decide +kernel
theorem dX7_aloneSent_160 : decode cX7_aloneSent 160 = .ok (.iconst (-1), 1) := by decide +kernel
theorem dX7_aloneSent_161 : decode cX7_aloneSent 161 = .ok (.iastore, 1) := by decide +kernel
theorem dX7_aloneSent_162 : decode cX7_aloneSent 162 = .ok (.iload 6, 2) := by decide +kernel
theorem dX7_aloneSent_164 : decode cX7_aloneSent 164 = .ok (.iload 8, 2) := by decide +kernel
theorem dX7_aloneSent_166 : decode cX7_aloneSent 166 = .ok (.isub, 1) := by decide +kernel
theorem dX7_aloneSent_167 : decode cX7_aloneSent 167 = .ok (.iload_n 3, 1) := by decide +kernel
theorem dX7_aloneSent_168 : decode cX7_aloneSent 168 = .ok (.if_icmp .ge 14, 3) := by decide +kernel
theorem dX7_aloneSent_171 : decode cX7_aloneSent 171 = .ok (.iinc 6 1, 3) := by decide +kernel
theorem dX7_aloneSent_174 : decode cX7_aloneSent 174 = .ok (.aload_n 0, 1) := by decide +kernel
theorem dX7_aloneSent_175 : decode cX7_aloneSent 175 = .ok (.getfield 43, 3) := by decide +kernel
theorem dX7_aloneSent_178 : decode cX7_aloneSent 178 = .ok (.iload 12, 2) := by decide +kernel
theorem dX7_aloneSent_180 : decode cX7_aloneSent 180 = .ok (.iconst 1, 1) := by decide +kernel
theorem dX7_aloneSent_181 : decode cX7_aloneSent 181 = .ok (.iastore, 1) := by decide +kernel
theorem dX7_aloneSent_182 : decode cX7_aloneSent 182 = .ok (.iinc 10 1, 3) := by decide +kernel
theorem dX7_aloneSent_185 : decode cX7_aloneSent 185 = .ok (.goto (-138), 3) := by decide +kernel
theorem dX7_aloneSent_188 : decode cX7_aloneSent 188 = .ok (.iload 6, 2) := by decide +kernel
theorem dX7_aloneSent_190 : decode cX7_aloneSent 190 = .ok (.ireturn, 1) := by decide +kernel
set_option maxRecDepth 20000 in
theorem ggX7_isAlone_X7_in : GoodIn wsX7_isAlone wsX7_in := goodIn_r _ [4] (by decide +kernel) (by decide +kernel)
set_option maxRecDepth 20000 in
theorem gX7_isAlone_X7_in : GoodIn wsX7_isAlone (va_wsS RX7 60 yX7_in wsX7_in) := goodIn_app (goodIn_of _ (by decide +kernel)) ggX7_isAlone_X7_in
set_option maxRecDepth 20000 in
theorem ggX7_isAlone_X7_isSpan : GoodIn wsX7_isAlone wsX7_isSpan := goodIn_r _ [7, 1, 2, 3, 4] (by decide +kernel) (by decide +kernel)
set_option maxRecDepth 20000 in
theorem gX7_isAlone_X7_isSpan : GoodIn wsX7_isAlone (va_wsS RX7 253 yX7_isSpan wsX7_isSpan) := goodIn_app (goodIn_of _ (by decide +kernel)) ggX7_isAlone_X7_isSpan
theorem dX7_isAlone_0 : decode cX7_isAlone 0 = .ok (.iload_n 0, 1) := by decide +kernel
theorem dX7_isAlone_1 : decode cX7_isAlone 1 = .ok (.iconst 1, 1) := by decide +kernel
theorem dX7_isAlone_2 : decode cX7_isAlone 2 = .ok (.iconst 4, 1) := by decide +kernel
theorem dX7_isAlone_3 : decode cX7_isAlone 3 = .ok (.invokestatic 60, 3) := by decide +kernel
theorem dX7_isAlone_6 : decode cX7_isAlone 6 = .ok (.ifCond .eq 34, 3) := by decide +kernel
theorem dX7_isAlone_9 : decode cX7_isAlone 9 = .ok (.iload_n 1, 1) := by decide +kernel
theorem dX7_isAlone_10 : decode cX7_isAlone 10 = .ok (.iconst 1, 1) := by decide +kernel
theorem dX7_isAlone_11 : decode cX7_isAlone 11 = .ok (.iconst 4, 1) := by decide +kernel
theorem dX7_isAlone_12 : decode cX7_isAlone 12 = .ok (.invokestatic 60, 3) := by decide +kernel
theorem dX7_isAlone_15 : decode cX7_isAlone 15 = .ok (.ifCond .eq 25, 3) := by decide +kernel
theorem dX7_isAlone_18 : decode cX7_isAlone 18 = .ok (.iload_n 2, 1) := by decide +kernel
theorem dX7_isAlone_19 : decode cX7_isAlone 19 = .ok (.iconst 1, 1) := by decide +kernel
theorem dX7_isAlone_20 : decode cX7_isAlone 20 = .ok (.bipush 9, 2) := by decide +kernel
theorem dX7_isAlone_22 : decode cX7_isAlone 22 = .ok (.invokestatic 60, 3) := by decide +kernel
theorem dX7_isAlone_25 : decode cX7_isAlone 25 = .ok (.ifCond .eq 15, 3) := by decide +kernel
theorem dX7_isAlone_28 : decode cX7_isAlone 28 = .ok (.iload_n 3, 1) := by decide +kernel
theorem dX7_isAlone_29 : decode cX7_isAlone 29 = .ok (.iconst 1, 1) := by decide +kernel
theorem dX7_isAlone_30 : decode cX7_isAlone 30 = .ok (.invokestatic 253, 3) := by decide +kernel
theorem dX7_isAlone_33 : decode cX7_isAlone 33 = .ok (.ifCond .eq 7, 3) := by decide +kernel
theorem dX7_isAlone_36 : decode cX7_isAlone 36 = .ok (.iconst 1, 1) := by decide +kernel
theorem dX7_isAlone_37 : decode cX7_isAlone 37 = .ok (.goto 4, 3) := by decide +kernel
theorem dX7_isAlone_40 : decode cX7_isAlone 40 = .ok (.iconst 0, 1) := by decide +kernel
theorem dX7_isAlone_41 : decode cX7_isAlone 41 = .ok (.ireturn, 1) := by decide +kernel
set_option maxRecDepth 20000 in
theorem ggX7_alone_X7_isAlone : GoodIn wsX7_alone wsX7_isAlone := goodIn_r _ [5, 6, 7, 4, 8, 9, 10, 11] (by decide +kernel) (by decide +kernel)
set_option maxRecDepth 20000 in
theorem gX7_alone_X7_isAlone : GoodIn wsX7_alone (va_wsS RX7 302 yX7_isAlone wsX7_isAlone) := goodIn_app (goodIn_of _ (by decide +kernel)) ggX7_alone_X7_isAlone
set_option maxRecDepth 20000 in
theorem ggX7_alone_X7_in : GoodIn wsX7_alone wsX7_in := goodIn_r _ [8] (by decide +kernel) (by decide +kernel)
set_option maxRecDepth 20000 in
theorem gX7_alone_X7_in : GoodIn wsX7_alone (va_wsS RX7 60 yX7_in wsX7_in) := goodIn_app (goodIn_of _ (by decide +kernel)) ggX7_alone_X7_in
set_option maxRecDepth 20000 in
theorem ggX7_alone_X7_aloneSent : GoodIn wsX7_alone wsX7_aloneSent := goodIn_r _ [15, 16, 17, 18, 19, 20, 21, 22, 23, 24, 25, 26, 27, 28, 29, 30, 31, 32, 33, 34, 35, 36, 37, 38] (by decide +kernel) (by decide +kernel)
set_option maxRecDepth 20000 in
theorem gX7_alone_X7_aloneSent : GoodIn wsX7_alone (wsV RX7 306 RX7 yX7_aloneSent wsX7_aloneSent) := goodIn_app (goodIn_of _ (by decide +kernel)) ggX7_alone_X7_aloneSent
theorem dX7_alone_0 : decode cX7_alone 0 = .ok (.aload_n 0, 1) := by decide +kernel
theorem dX7_alone_1 : decode cX7_alone 1 = .ok (.iconst 0, 1) := by decide +kernel
theorem dX7_alone_2 : decode cX7_alone 2 = .ok (.putfield 49, 3) := by decide +kernel
theorem dX7_alone_5 : decode cX7_alone 5 = .ok (.iload_n 1, 1) := by decide +kernel
theorem dX7_alone_6 : decode cX7_alone 6 = .ok (.iload_n 2, 1) := by decide +kernel
theorem dX7_alone_7 : decode cX7_alone 7 = .ok (.iload 4, 2) := by decide +kernel
theorem dX7_alone_9 : decode cX7_alone 9 = .ok (.iload 5, 2) := by decide +kernel
theorem dX7_alone_11 : decode cX7_alone 11 = .ok (.invokestatic 302, 3) := by decide +kernel
theorem dX7_alone_14 : decode cX7_alone 14 = .ok (.ifCond .eq 27, 3) := by decide +kernel
theorem dX7_alone_17 : decode cX7_alone 17 = .ok (.iload_n 3, 1) := by decide +kernel
theorem dX7_alone_18 : decode cX7_alone 18 = .ok (.iconst 1, 1) := by decide +kernel
theorem dX7_alone_19 : decode cX7_alone 19 = .ok (.bipush 30, 2) := by decide +kernel
theorem dX7_alone_21 : decode cX7_alone 21 = .ok (.invokestatic 60, 3) := by decide +kernel
theorem dX7_alone_24 : decode cX7_alone 24 = .ok (.ifCond .eq 17, 3) := by decide +kernel
theorem dX7_alone_27 : decode cX7_alone 27 = .ok (.aload_n 0, 1) := by decide +kernel
theorem dX7_alone_28 : decode cX7_alone 28 = .ok (.iload_n 1, 1) := by decide +kernel
theorem dX7_alone_29 : decode cX7_alone 29 = .ok (.iload_n 2, 1) := by decide +kernel
theorem dX7_alone_30 : decode cX7_alone 30 = .ok (.iload_n 3, 1) := by decide +kernel
theorem dX7_alone_31 : decode cX7_alone 31 = .ok (.iload 4, 2) := by decide +kernel
theorem dX7_alone_33 : decode cX7_alone 33 = .ok (.iload 5, 2) := by decide +kernel
theorem dX7_alone_35 : decode cX7_alone 35 = .ok (.invokevirtual 306, 3) := by decide +kernel
theorem dX7_alone_38 : decode cX7_alone 38 = .ok (.goto 4, 3) := by decide +kernel
theorem dX7_alone_41 : decode cX7_alone 41 = .ok (.iconst (-1), 1) := by decide +kernel
theorem dX7_alone_42 : decode cX7_alone 42 = .ok (.ireturn, 1) := by decide +kernel
set_option maxRecDepth 20000 in
theorem ggX7_full_X7_isAlone : GoodIn wsX7_full wsX7_isAlone := goodIn_r _ [5, 6, 7, 4, 8, 9, 10, 11] (by decide +kernel) (by decide +kernel)
set_option maxRecDepth 20000 in
theorem gX7_full_X7_isAlone : GoodIn wsX7_full (va_wsS RX7 302 yX7_isAlone wsX7_isAlone) := goodIn_app (goodIn_of _ (by decide +kernel)) ggX7_full_X7_isAlone
set_option maxRecDepth 20000 in
theorem ggX7_full_X7_aloneSent : GoodIn wsX7_full wsX7_aloneSent := goodIn_r _ [15, 16, 17, 18, 19, 20, 21, 22, 23, 24, 25, 26, 27, 28, 29, 30, 31, 32, 33, 34, 35, 36, 37, 38] (by decide +kernel) (by decide +kernel)
set_option maxRecDepth 20000 in
theorem gX7_full_X7_aloneSent : GoodIn wsX7_full (wsV RX7 306 RX7 yX7_aloneSent wsX7_aloneSent) := goodIn_app (goodIn_of _ (by decide +kernel)) ggX7_full_X7_aloneSent
theorem dX7_full_0 : decode cX7_full 0 = .ok (.aload_n 0, 1) := by decide +kernel
theorem dX7_full_1 : decode cX7_full 1 = .ok (.iconst 0, 1) := by decide +kernel
theorem dX7_full_2 : decode cX7_full 2 = .ok (.putfield 49, 3) := by decide +kernel
theorem dX7_full_5 : decode cX7_full 5 = .ok (.iload_n 1, 1) := by decide +kernel
theorem dX7_full_6 : decode cX7_full 6 = .ok (.iload_n 2, 1) := by decide +kernel
theorem dX7_full_7 : decode cX7_full 7 = .ok (.iload_n 3, 1) := by decide +kernel
theorem dX7_full_8 : decode cX7_full 8 = .ok (.iload 4, 2) := by decide +kernel
theorem dX7_full_10 : decode cX7_full 10 = .ok (.invokestatic 302, 3) := by decide +kernel
theorem dX7_full_13 : decode cX7_full 13 = .ok (.ifCond .ne 5, 3) := by decide +kernel
theorem dX7_full_16 : decode cX7_full 16 = .ok (.iconst (-1), 1) := by decide +kernel
theorem dX7_full_17 : decode cX7_full 17 = .ok (.ireturn, 1) := by decide +kernel
theorem dX7_full_18 : decode cX7_full 18 = .ok (.aload_n 0, 1) := by decide +kernel
theorem dX7_full_19 : decode cX7_full 19 = .ok (.iload_n 1, 1) := by decide +kernel
theorem dX7_full_20 : decode cX7_full 20 = .ok (.iload_n 2, 1) := by decide +kernel
theorem dX7_full_21 : decode cX7_full 21 = .ok (.bipush 30, 2) := by decide +kernel
theorem dX7_full_23 : decode cX7_full 23 = .ok (.iload_n 3, 1) := by decide +kernel
theorem dX7_full_24 : decode cX7_full 24 = .ok (.iload 4, 2) := by decide +kernel
theorem dX7_full_26 : decode cX7_full 26 = .ok (.invokevirtual 306, 3) := by decide +kernel
theorem dX7_full_29 : decode cX7_full 29 = .ok (.istore 5, 2) := by decide +kernel
theorem dX7_full_31 : decode cX7_full 31 = .ok (.iconst 1, 1) := by decide +kernel
theorem dX7_full_32 : decode cX7_full 32 = .ok (.istore 6, 2) := by decide +kernel
theorem dX7_full_34 : decode cX7_full 34 = .ok (.aload_n 0, 1) := by decide +kernel
theorem dX7_full_35 : decode cX7_full 35 = .ok (.iload_n 1, 1) := by decide +kernel
theorem dX7_full_36 : decode cX7_full 36 = .ok (.iload_n 2, 1) := by decide +kernel
theorem dX7_full_37 : decode cX7_full 37 = .ok (.iload 6, 2) := by decide +kernel
theorem dX7_full_39 : decode cX7_full 39 = .ok (.iload_n 3, 1) := by decide +kernel
theorem dX7_full_40 : decode cX7_full 40 = .ok (.iload 4, 2) := by decide +kernel
theorem dX7_full_42 : decode cX7_full 42 = .ok (.invokevirtual 306, 3) := by decide +kernel
theorem dX7_full_45 : decode cX7_full 45 = .ok (.iload 5, 2) := by decide +kernel
theorem dX7_full_47 : decode cX7_full 47 = .ok (.if_icmp .ge 9, 3) := by decide +kernel
theorem dX7_full_50 : decode cX7_full 50 = .ok (.iinc 6 1, 3) := by decide +kernel
theorem dX7_full_53 : decode cX7_full 53 = .ok (.goto (-19), 3) := by decide +kernel
theorem dX7_full_56 : decode cX7_full 56 = .ok (.iload 6, 2) := by decide +kernel
theorem dX7_full_58 : decode cX7_full 58 = .ok (.ireturn, 1) := by decide +kernel
set_option maxRecDepth 20000 in
theorem ggX7_law_X7_isAlone : GoodIn wsX7_law wsX7_isAlone := goodIn_r _ [5, 6, 7, 4, 8, 9, 10, 11] (by decide +kernel) (by decide +kernel)
set_option maxRecDepth 20000 in
theorem gX7_law_X7_isAlone : GoodIn wsX7_law (va_wsS RX7 302 yX7_isAlone wsX7_isAlone) := goodIn_app (goodIn_of _ (by decide +kernel)) ggX7_law_X7_isAlone
set_option maxRecDepth 20000 in
theorem ggX7_law_X7_in : GoodIn wsX7_law wsX7_in := goodIn_r _ [8] (by decide +kernel) (by decide +kernel)
set_option maxRecDepth 20000 in
theorem gX7_law_X7_in : GoodIn wsX7_law (va_wsS RX7 60 yX7_in wsX7_in) := goodIn_app (goodIn_of _ (by decide +kernel)) ggX7_law_X7_in
theorem dX7_law_0 : decode cX7_law 0 = .ok (.aload_n 0, 1) := by decide +kernel
theorem dX7_law_1 : decode cX7_law 1 = .ok (.iconst 0, 1) := by decide +kernel
theorem dX7_law_2 : decode cX7_law 2 = .ok (.putfield 49, 3) := by decide +kernel
theorem dX7_law_5 : decode cX7_law 5 = .ok (.iload_n 1, 1) := by decide +kernel
theorem dX7_law_6 : decode cX7_law 6 = .ok (.iload_n 2, 1) := by decide +kernel
theorem dX7_law_7 : decode cX7_law 7 = .ok (.iconst 1, 1) := by decide +kernel
theorem dX7_law_8 : decode cX7_law 8 = .ok (.iconst 1, 1) := by decide +kernel
theorem dX7_law_9 : decode cX7_law 9 = .ok (.invokestatic 302, 3) := by decide +kernel
theorem dX7_law_12 : decode cX7_law 12 = .ok (.ifCond .eq 29, 3) := by decide +kernel
theorem dX7_law_15 : decode cX7_law 15 = .ok (.iload_n 3, 1) := by decide +kernel
theorem dX7_law_16 : decode cX7_law 16 = .ok (.iconst 1, 1) := by decide +kernel
theorem dX7_law_17 : decode cX7_law 17 = .ok (.bipush 9, 2) := by decide +kernel
theorem dX7_law_19 : decode cX7_law 19 = .ok (.invokestatic 60, 3) := by decide +kernel
theorem dX7_law_22 : decode cX7_law 22 = .ok (.ifCond .eq 19, 3) := by decide +kernel
theorem dX7_law_25 : decode cX7_law 25 = .ok (.iconst 2, 1) := by decide +kernel
theorem dX7_law_26 : decode cX7_law 26 = .ok (.iload_n 1, 1) := by decide +kernel
theorem dX7_law_27 : decode cX7_law 27 = .ok (.imul, 1) := by decide +kernel
theorem dX7_law_28 : decode cX7_law 28 = .ok (.iload_n 3, 1) := by decide +kernel
theorem dX7_law_29 : decode cX7_law 29 = .ok (.iadd, 1) := by decide +kernel
theorem dX7_law_30 : decode cX7_law 30 = .ok (.iconst 1, 1) := by decide +kernel
theorem dX7_law_31 : decode cX7_law 31 = .ok (.isub, 1) := by decide +kernel
theorem dX7_law_32 : decode cX7_law 32 = .ok (.iload_n 3, 1) := by decide +kernel
theorem dX7_law_33 : decode cX7_law 33 = .ok (.idiv, 1) := by decide +kernel
theorem dX7_law_34 : decode cX7_law 34 = .ok (.iload_n 2, 1) := by decide +kernel
theorem dX7_law_35 : decode cX7_law 35 = .ok (.iadd, 1) := by decide +kernel
theorem dX7_law_36 : decode cX7_law 36 = .ok (.iconst 1, 1) := by decide +kernel
theorem dX7_law_37 : decode cX7_law 37 = .ok (.isub, 1) := by decide +kernel
theorem dX7_law_38 : decode cX7_law 38 = .ok (.goto 4, 3) := by decide +kernel
theorem dX7_law_41 : decode cX7_law 41 = .ok (.iconst (-1), 1) := by decide +kernel
theorem dX7_law_42 : decode cX7_law 42 = .ok (.ireturn, 1) := by decide +kernel
set_option maxRecDepth 20000 in
theorem ggX7_aim_X7_isLane : GoodIn wsX7_aim wsX7_isLane := goodIn_r _ [6, 7, 8, 9, 5, 10, 11, 12, 13, 14, 15, 16, 17, 18, 19, 34, 35, 36, 37, 38, 39, 40, 41, 42, 43, 44, 45, 46, 47, 48, 49, 50, 51, 52, 53, 54] (by decide +kernel) (by decide +kernel)
set_option maxRecDepth 20000 in
theorem gX7_aim_X7_isLane : GoodIn wsX7_aim (wsV RX7 229 RX7 yX7_isLane wsX7_isLane) := goodIn_app (goodIn_of _ (by decide +kernel)) ggX7_aim_X7_isLane
theorem dX7_aim_0 : decode cX7_aim 0 = .ok (.aload_n 0, 1) := by decide +kernel
theorem dX7_aim_1 : decode cX7_aim 1 = .ok (.iconst 0, 1) := by decide +kernel
theorem dX7_aim_2 : decode cX7_aim 2 = .ok (.putfield 49, 3) := by decide +kernel
theorem dX7_aim_5 : decode cX7_aim 5 = .ok (.aload_n 0, 1) := by decide +kernel
theorem dX7_aim_6 : decode cX7_aim 6 = .ok (.iload_n 1, 1) := by decide +kernel
theorem dX7_aim_7 : decode cX7_aim 7 = .ok (.iload_n 2, 1) := by decide +kernel
theorem dX7_aim_8 : decode cX7_aim 8 = .ok (.invokevirtual 229, 3) := by decide +kernel
theorem dX7_aim_11 : decode cX7_aim 11 = .ok (.ifCond .eq 12, 3) := by decide +kernel
theorem dX7_aim_23 : decode cX7_aim 23 = .ok (.iconst (-1), 1) := by decide +kernel
theorem dX7_aim_24 : decode cX7_aim 24 = .ok (.ireturn, 1) := by decide +kernel
set_option maxRecDepth 20000 in
theorem ggX7_room_X7_isLane : GoodIn wsX7_room wsX7_isLane := goodIn_r _ [6, 7, 8, 9, 5, 10, 11, 12, 13, 14, 15, 16, 17, 18, 19, 51, 52, 53, 54, 55, 56, 57, 58, 59, 60, 61, 62, 63, 64, 65, 66, 67, 68, 69, 70, 71] (by decide +kernel) (by decide +kernel)
set_option maxRecDepth 20000 in
theorem gX7_room_X7_isLane : GoodIn wsX7_room (wsV RX7 229 RX7 yX7_isLane wsX7_isLane) := goodIn_app (goodIn_of _ (by decide +kernel)) ggX7_room_X7_isLane
theorem dX7_room_0 : decode cX7_room 0 = .ok (.aload_n 0, 1) := by decide +kernel
theorem dX7_room_1 : decode cX7_room 1 = .ok (.iconst 0, 1) := by decide +kernel
theorem dX7_room_2 : decode cX7_room 2 = .ok (.putfield 49, 3) := by decide +kernel
theorem dX7_room_5 : decode cX7_room 5 = .ok (.aload_n 0, 1) := by decide +kernel
theorem dX7_room_6 : decode cX7_room 6 = .ok (.iload_n 1, 1) := by decide +kernel
theorem dX7_room_7 : decode cX7_room 7 = .ok (.iload_n 2, 1) := by decide +kernel
theorem dX7_room_8 : decode cX7_room 8 = .ok (.invokevirtual 229, 3) := by decide +kernel
theorem dX7_room_11 : decode cX7_room 11 = .ok (.ifCond .eq 12, 3) := by decide +kernel
theorem dX7_room_23 : decode cX7_room 23 = .ok (.iconst (-1), 1) := by decide +kernel
theorem dX7_room_24 : decode cX7_room 24 = .ok (.ireturn, 1) := by decide +kernel
set_option maxRecDepth 20000 in
theorem ggX7_trip_X7_isCircuit : GoodIn wsX7_trip wsX7_isCircuit := goodIn_r _ [7, 8, 9, 10, 6, 11, 15, 16, 17, 18, 19, 20, 21, 22, 23, 24, 25, 26, 27, 28, 29, 30, 31, 32, 33, 34, 35] (by decide +kernel) (by decide +kernel)
set_option maxRecDepth 20000 in
theorem gX7_trip_X7_isCircuit : GoodIn wsX7_trip (wsV RX7 133 RX7 yX7_isCircuit wsX7_isCircuit) := goodIn_app (goodIn_of _ (by decide +kernel)) ggX7_trip_X7_isCircuit
theorem dX7_trip_0 : decode cX7_trip 0 = .ok (.aload_n 0, 1) := by decide +kernel
theorem dX7_trip_1 : decode cX7_trip 1 = .ok (.iconst 0, 1) := by decide +kernel
theorem dX7_trip_2 : decode cX7_trip 2 = .ok (.putfield 49, 3) := by decide +kernel
theorem dX7_trip_5 : decode cX7_trip 5 = .ok (.aload_n 0, 1) := by decide +kernel
theorem dX7_trip_6 : decode cX7_trip 6 = .ok (.iload_n 1, 1) := by decide +kernel
theorem dX7_trip_7 : decode cX7_trip 7 = .ok (.invokevirtual 133, 3) := by decide +kernel
theorem dX7_trip_10 : decode cX7_trip 10 = .ok (.ifCond .eq 26, 3) := by decide +kernel
theorem dX7_trip_36 : decode cX7_trip 36 = .ok (.iconst (-1), 1) := by decide +kernel
theorem dX7_trip_37 : decode cX7_trip 37 = .ok (.ireturn, 1) := by decide +kernel
set_option maxRecDepth 20000 in
theorem ggX7_oldest_X7_isCircuit : GoodIn wsX7_oldest wsX7_isCircuit := goodIn_r _ [7, 8, 9, 10, 6, 11, 19, 20, 21, 22, 23, 24, 25, 26, 27, 28, 29, 30, 31, 32, 33, 34, 35, 36, 37, 38, 39] (by decide +kernel) (by decide +kernel)
set_option maxRecDepth 20000 in
theorem gX7_oldest_X7_isCircuit : GoodIn wsX7_oldest (wsV RX7 133 RX7 yX7_isCircuit wsX7_isCircuit) := goodIn_app (goodIn_of _ (by decide +kernel)) ggX7_oldest_X7_isCircuit
theorem dX7_oldest_0 : decode cX7_oldest 0 = .ok (.aload_n 0, 1) := by decide +kernel
theorem dX7_oldest_1 : decode cX7_oldest 1 = .ok (.iconst 0, 1) := by decide +kernel
theorem dX7_oldest_2 : decode cX7_oldest 2 = .ok (.putfield 49, 3) := by decide +kernel
theorem dX7_oldest_5 : decode cX7_oldest 5 = .ok (.aload_n 0, 1) := by decide +kernel
theorem dX7_oldest_6 : decode cX7_oldest 6 = .ok (.iload_n 1, 1) := by decide +kernel
theorem dX7_oldest_7 : decode cX7_oldest 7 = .ok (.invokevirtual 133, 3) := by decide +kernel
theorem dX7_oldest_10 : decode cX7_oldest 10 = .ok (.ifCond .eq 11, 3) := by decide +kernel
theorem dX7_oldest_21 : decode cX7_oldest 21 = .ok (.iconst (-1), 1) := by decide +kernel
theorem dX7_oldest_22 : decode cX7_oldest 22 = .ok (.ireturn, 1) := by decide +kernel
set_option maxRecDepth 20000 in
theorem ggX7_count_X7_isNet : GoodIn wsX7_count wsX7_isNet := goodIn_r _ [9, 10, 34, 35, 36, 37, 38, 39, 40, 41, 42, 43, 44, 45, 46, 47, 48, 49, 50, 51, 52, 53, 54] (by decide +kernel) (by decide +kernel)
set_option maxRecDepth 20000 in
theorem gX7_count_X7_isNet : GoodIn wsX7_count (wsV RX7 136 RX7 yX7_isNet wsX7_isNet) := goodIn_app (goodIn_of _ (by decide +kernel)) ggX7_count_X7_isNet
theorem dX7_count_0 : decode cX7_count 0 = .ok (.aload_n 0, 1) := by decide +kernel
theorem dX7_count_1 : decode cX7_count 1 = .ok (.iconst 0, 1) := by decide +kernel
theorem dX7_count_2 : decode cX7_count 2 = .ok (.putfield 49, 3) := by decide +kernel
theorem dX7_count_5 : decode cX7_count 5 = .ok (.iload_n 1, 1) := by decide +kernel
theorem dX7_count_6 : decode cX7_count 6 = .ok (.ifCond .ne 8, 3) := by decide +kernel
theorem dX7_count_9 : decode cX7_count 9 = .ok (.aload_n 0, 1) := by decide +kernel
theorem dX7_count_10 : decode cX7_count 10 = .ok (.getfield 57, 3) := by decide +kernel
theorem dX7_count_13 : decode cX7_count 13 = .ok (.ireturn, 1) := by decide +kernel
theorem dX7_count_14 : decode cX7_count 14 = .ok (.aload_n 0, 1) := by decide +kernel
theorem dX7_count_15 : decode cX7_count 15 = .ok (.invokevirtual 136, 3) := by decide +kernel
theorem dX7_count_18 : decode cX7_count 18 = .ok (.ifCond .ne 6, 3) := by decide +kernel
theorem dX7_count_21 : decode cX7_count 21 = .ok (.ldc 236, 2) := by decide +kernel
theorem dX7_count_23 : decode cX7_count 23 = .ok (.ireturn, 1) := by decide +kernel
set_option maxRecDepth 20000 in
theorem ggL_hop_X6_hop : GoodIn wsL_hop wsX6_hop := goodIn_ca (goodIn_r _ [6, 7, 8, 9, 10, 11, 12, 13, 14, 15, 16, 17, 18, 5, 19, 20, 21, 22, 23, 24, 25, 26, 27, 28, 29, 30, 31, 32, 33, 34, 35, 36, 37, 38, 39, 40, 41, 42, 43, 44, 45, 46, 47, 48, 49, 50, 51, 52, 53, 54, 55, 56, 57, 58, 59, 60, 61, 62, 63, 64, 65, 66, 67, 68, 69, 70] (by decide +kernel) (by decide +kernel)) (goodIn_sub (fun _ h => List.mem_cons_of_mem _ (List.mem_append_right _ h)) (by decide +kernel))
set_option maxRecDepth 20000 in
theorem gL_hop_X6_hop : GoodIn wsL_hop (wsV RL 7 RX6 yX6_hop wsX6_hop) := goodIn_app (goodIn_of _ (by decide +kernel)) ggL_hop_X6_hop
theorem dL_hop_0 : decode cL_hop 0 = .ok (.aload_n 3, 1) := by decide +kernel
theorem dL_hop_1 : decode cL_hop 1 = .ok (.iconst 0, 1) := by decide +kernel
theorem dL_hop_2 : decode cL_hop 2 = .ok (.aload_n 0, 1) := by decide +kernel
theorem dL_hop_3 : decode cL_hop 3 = .ok (.iload_n 1, 1) := by decide +kernel
theorem dL_hop_4 : decode cL_hop 4 = .ok (.iload_n 2, 1) := by decide +kernel
theorem dL_hop_5 : decode cL_hop 5 = .ok (.invokevirtual 7, 3) := by decide +kernel
theorem dL_hop_13 : decode cL_hop 13 = .ok (.astore 4, 2) := by decide +kernel
theorem dL_hop_15 : decode cL_hop 15 = .ok (.iconst 1, 1) := by decide +kernel
theorem dL_hop_16 : decode cL_hop 16 = .ok (.ireturn, 1) := by decide +kernel
set_option maxRecDepth 20000 in
theorem ggL_circuit_X6_circuit : GoodIn wsL_circuit wsX6_circuit := goodIn_ca (goodIn_r _ [6, 7, 8, 9, 10, 11, 12, 13, 14, 15, 16, 17, 18, 19, 5, 20, 21, 22, 23, 24, 25, 26, 27, 28, 29, 30, 31, 32, 33, 34, 35, 36, 37, 38, 39, 40, 41, 42, 43, 44, 45, 46, 47, 48, 49, 50, 51, 52, 53, 54, 55, 56, 57, 58, 59, 60, 61, 62, 63, 64, 65, 66, 67, 68, 69, 70, 71, 72, 73, 74, 75, 76, 77, 78, 79, 80, 81] (by decide +kernel) (by decide +kernel)) (goodIn_sub (fun _ h => List.mem_cons_of_mem _ (List.mem_append_right _ h)) (by decide +kernel))
set_option maxRecDepth 20000 in
theorem gL_circuit_X6_circuit : GoodIn wsL_circuit (wsV RL 15 RX6 yX6_circuit wsX6_circuit) := goodIn_app (goodIn_of _ (by decide +kernel)) ggL_circuit_X6_circuit
theorem dL_circuit_0 : decode cL_circuit 0 = .ok (.aload_n 3, 1) := by decide +kernel
theorem dL_circuit_1 : decode cL_circuit 1 = .ok (.iconst 0, 1) := by decide +kernel
theorem dL_circuit_2 : decode cL_circuit 2 = .ok (.aload_n 0, 1) := by decide +kernel
theorem dL_circuit_3 : decode cL_circuit 3 = .ok (.iload_n 1, 1) := by decide +kernel
theorem dL_circuit_4 : decode cL_circuit 4 = .ok (.iload_n 2, 1) := by decide +kernel
theorem dL_circuit_5 : decode cL_circuit 5 = .ok (.invokevirtual 15, 3) := by decide +kernel
theorem dL_circuit_13 : decode cL_circuit 13 = .ok (.astore 4, 2) := by decide +kernel
theorem dL_circuit_15 : decode cL_circuit 15 = .ok (.iconst 1, 1) := by decide +kernel
theorem dL_circuit_16 : decode cL_circuit 16 = .ok (.ireturn, 1) := by decide +kernel
abbrev vwCl : List vw_C := [(RX0, TX0, 8), (RX1, TX1, 7), (RX2, TX2, 10), (RX3, TX3, 11), (RX4, TX4, 7), (RX5, TX5, 6), (RX6, TX6, 9), (RX7, TX7, 21)]
