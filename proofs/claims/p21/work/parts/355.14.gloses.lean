set_option maxRecDepth 20000 in
theorem ggL_loses_X1_onTurn : GoodIn wsL_loses wsX1_onTurn := goodIn_r _ [5, 6, 85, 86, 87, 88, 89, 90] (by decide +kernel) (by decide +kernel)
set_option maxRecDepth 20000 in
theorem gL_loses_X1_onTurn : GoodIn wsL_loses (wsV RL 62 RX1 yX1_onTurn wsX1_onTurn) := goodIn_app (goodIn_of _ (by decide +kernel)) ggL_loses_X1_onTurn
set_option maxRecDepth 20000 in
theorem ggL_loses_X1_throwShells : GoodIn wsL_loses wsX1_throwShells := goodIn_ca (goodIn_ca (goodIn_r _ [10, 11, 12, 13, 14, 6, 15, 16, 17, 18, 19, 4, 20, 21, 22, 23, 24, 25, 26, 27, 28, 29, 30, 31, 32, 33, 34, 35, 36, 37, 38, 39, 40, 41, 42, 43, 44, 45, 46, 47, 48, 49, 50, 51, 52, 53, 54, 55, 56, 57, 58, 59, 60, 61, 62, 63, 64, 65, 66, 67, 68, 69, 70, 71, 72, 73, 74, 75, 76, 77, 78, 79, 80, 81, 82, 83, 84, 85, 86, 87, 88, 89, 90, 91, 92] (by decide +kernel) (by decide +kernel)) (goodIn_sub (fun _ h => List.mem_cons_of_mem _ (List.mem_append_left _ (List.mem_append_right _ h))) (by decide +kernel))) (goodIn_sub (fun _ h => List.mem_cons_of_mem _ (List.mem_append_right _ h)) (by decide +kernel))
set_option maxRecDepth 20000 in
theorem gL_loses_X1_throwShells : GoodIn wsL_loses (wsV RL 7 RX1 yX1_throwShells wsX1_throwShells) := goodIn_app (goodIn_of _ (by decide +kernel)) ggL_loses_X1_throwShells
