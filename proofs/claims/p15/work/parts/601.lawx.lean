def wsL_hopx : List Cond := .codeWith yL_hop cL_hop 5 (some .int) [(0, 10, 13, 13)] :: ((wsL_hop_r1 ++ wsL_hop_r2) ++ wsX60 ++ wsX30 ++ wsX20 ++ oxG)
def wsL_circuitx : List Cond := .codeWith yL_circuit cL_circuit 5 (some .int) [(0, 10, 13, 13)] :: ((wsL_circuit_r1 ++ wsL_circuit_r2) ++ wsX60 ++ wsX30 ++ wsX00 ++ wsX20 ++ oxG)
set_option maxRecDepth 20000 in
theorem ggL_hopx_X6_hopx : GoodIn wsL_hopx wsX6_hopx := goodIn_ca (goodIn_r _ [6, 7, 8, 9, 10, 11, 12, 13, 14, 15, 16, 17, 18, 5, 19, 20, 21, 22, 23, 24, 25, 26, 27, 28, 29, 30, 31, 32, 33, 34, 35, 36, 37, 38, 39, 40, 41, 42, 43, 44, 45, 46, 47, 48, 49, 50, 51, 52, 53, 54, 55, 56, 57, 58, 59, 60, 61, 62, 63, 64, 65, 66, 67, 68, 69, 70] (by decide +kernel) (by decide +kernel)) (goodIn_sub (fun _ h => List.mem_cons_of_mem _ (List.mem_append_right _ h)) (by decide +kernel))
set_option maxRecDepth 20000 in
theorem gL_hopx_X6_hopx : GoodIn wsL_hopx (wsV RL 7 RX6 yX6_hop wsX6_hopx) := goodIn_app (goodIn_of _ (by decide +kernel)) ggL_hopx_X6_hopx
set_option maxRecDepth 20000 in
theorem ggL_circuitx_X6_circuitx : GoodIn wsL_circuitx wsX6_circuitx := goodIn_ca (goodIn_r _ [6, 7, 8, 9, 10, 11, 12, 13, 14, 15, 16, 17, 18, 19, 5, 20, 21, 22, 23, 24, 25, 26, 27, 28, 29, 30, 31, 32, 33, 34, 35, 36, 37, 38, 39, 40, 41, 42, 43, 44, 45, 46, 47, 48, 49, 50, 51, 52, 53, 54, 55, 56, 57, 58, 59, 60, 61, 62, 63, 64, 65, 66, 67, 68, 69, 70, 71, 72, 73, 74, 75, 76, 77, 78, 79, 80, 81] (by decide +kernel) (by decide +kernel)) (goodIn_sub (fun _ h => List.mem_cons_of_mem _ (List.mem_append_right _ h)) (by decide +kernel))
set_option maxRecDepth 20000 in
theorem gL_circuitx_X6_circuitx : GoodIn wsL_circuitx (wsV RL 15 RX6 yX6_circuit wsX6_circuitx) := goodIn_app (goodIn_of _ (by decide +kernel)) ggL_circuitx_X6_circuitx
