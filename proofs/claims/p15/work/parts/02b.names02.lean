theorem dX6_isLane_21 : decode cX6_isLane 21 = .ok (.ireturn, 1) := by decide +kernel
theorem dX6_isNode_0 : decode cX6_isNode 0 = .ok (.aload_n 0, 1) := by decide +kernel
theorem dX6_isNode_1 : decode cX6_isNode 1 = .ok (.getfield 70, 3) := by decide +kernel
theorem dX6_isNode_4 : decode cX6_isNode 4 = .ok (.ifCond .eq 22, 3) := by decide +kernel
theorem dX6_isNode_7 : decode cX6_isNode 7 = .ok (.iload_n 1, 1) := by decide +kernel
theorem dX6_isNode_8 : decode cX6_isNode 8 = .ok (.ifCond .lt 18, 3) := by decide +kernel
theorem dX6_isNode_11 : decode cX6_isNode 11 = .ok (.iload_n 1, 1) := by decide +kernel
theorem dX6_isNode_12 : decode cX6_isNode 12 = .ok (.aload_n 0, 1) := by decide +kernel
theorem dX6_isNode_13 : decode cX6_isNode 13 = .ok (.getfield 26, 3) := by decide +kernel
theorem dX6_isNode_16 : decode cX6_isNode 16 = .ok (.getfield 78, 3) := by decide +kernel
theorem dX6_isNode_19 : decode cX6_isNode 19 = .ok (.if_icmp .gt 7, 3) := by decide +kernel
theorem dX6_isNode_22 : decode cX6_isNode 22 = .ok (.iconst 1, 1) := by decide +kernel
theorem dX6_isNode_23 : decode cX6_isNode 23 = .ok (.goto 4, 3) := by decide +kernel
theorem dX6_isNode_26 : decode cX6_isNode 26 = .ok (.iconst 0, 1) := by decide +kernel
theorem dX6_isNode_27 : decode cX6_isNode 27 = .ok (.ireturn, 1) := by decide +kernel
