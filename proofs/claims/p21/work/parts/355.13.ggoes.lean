set_option maxRecDepth 20000 in
theorem ggL_goes_X1_throwShells : GoodIn wsL_goes wsX1_throwShells := goodIn_ca (goodIn_ca (goodIn_r _ [5, 6, 7, 8, 9, 10, 11, 12, 13, 14, 15, 4, 16, 17, 18, 19, 20, 21, 22, 23, 24, 25, 26, 27, 28, 29, 30, 31, 32, 33, 34, 35, 36, 37, 38, 39, 40, 41, 42, 43, 44, 45, 46, 47, 48, 49, 50, 51, 52, 53, 54, 55, 56, 57, 58, 59, 60, 61, 62, 63, 64, 65, 66, 67, 68, 69, 70, 71, 72, 73, 74, 75, 76, 77, 78, 79, 80, 134, 135, 136, 137, 138, 139, 140, 141] (by decide +kernel) (by decide +kernel)) (goodIn_sub (fun _ h => List.mem_cons_of_mem _ (List.mem_append_left _ (List.mem_append_left _ (List.mem_append_right _ h)))) (by decide +kernel))) (goodIn_sub (fun _ h => List.mem_cons_of_mem _ (List.mem_append_left _ (List.mem_append_right _ h))) (by decide +kernel))
set_option maxRecDepth 20000 in
theorem gL_goes_X1_throwShells : GoodIn wsL_goes (wsV RL 7 RX1 yX1_throwShells wsX1_throwShells) := goodIn_app (goodIn_of _ (by decide +kernel)) ggL_goes_X1_throwShells
set_option maxRecDepth 20000 in
theorem ggL_goes_X1_phase : GoodIn wsL_goes wsX1_phase := goodIn_r _ [84, 12, 134, 135, 136, 137, 138, 139] (by decide +kernel) (by decide +kernel)
set_option maxRecDepth 20000 in
theorem gL_goes_X1_phase : GoodIn wsL_goes (wsV RL 59 RX1 yX1_phase wsX1_phase) := goodIn_app (goodIn_of _ (by decide +kernel)) ggL_goes_X1_phase
set_option maxRecDepth 20000 in
theorem ggL_goes_X1_movable : GoodIn wsL_goes wsX1_movable := goodIn_ca (goodIn_r _ [88, 9, 10, 11, 89, 90, 91, 4, 92, 17, 18, 12, 32, 33, 34, 35, 36, 37, 38, 39, 40, 41, 42, 43, 44, 45, 46, 47, 48, 49, 50, 51, 52, 53, 54, 55, 26, 27, 20, 21, 56, 57, 58, 59, 60, 61, 62, 63, 64, 65, 66, 67, 68, 69, 70, 71, 72, 73, 74, 75, 76, 77, 78, 79, 80, 134, 135, 136, 137, 138, 139, 140, 141] (by decide +kernel) (by decide +kernel)) (goodIn_sub (fun _ h => List.mem_cons_of_mem _ (List.mem_append_left _ (List.mem_append_right _ h))) (by decide +kernel))
set_option maxRecDepth 20000 in
theorem gL_goes_X1_movable : GoodIn wsL_goes (wsV RL 16 RX1 yX1_movable wsX1_movable) := goodIn_app (goodIn_of _ (by decide +kernel)) ggL_goes_X1_movable
set_option maxRecDepth 20000 in
theorem ggL_goes_X1_move : GoodIn wsL_goes wsX1_move := goodIn_ca (goodIn_ca (goodIn_r _ [96, 17, 18, 9, 10, 11, 97, 98, 4, 99, 100, 101, 89, 90, 91, 92, 12, 32, 33, 34, 35, 36, 37, 38, 39, 40, 41, 42, 43, 44, 45, 46, 47, 102, 53, 54, 55, 26, 27, 20, 21, 56, 57, 58, 59, 60, 61, 62, 63, 64, 65, 66, 67, 68, 69, 70, 71, 72, 73, 74, 75, 76, 77, 78, 79, 80, 103, 104, 105, 106, 107, 108, 109, 110, 111, 112, 113, 114, 115, 116, 117, 118, 119, 120, 121, 122, 123, 124, 125, 126, 127, 128, 129, 130, 131, 132, 133, 25, 28, 29, 30, 31, 8, 134, 135, 136, 137, 138, 139, 140, 141] (by decide +kernel) (by decide +kernel)) (goodIn_sub (fun _ h => List.mem_cons_of_mem _ (List.mem_append_left _ (List.mem_append_right _ h))) (by decide +kernel))) (goodIn_sub (fun _ h => List.mem_cons_of_mem _ (List.mem_append_right _ h)) (by decide +kernel))
set_option maxRecDepth 20000 in
theorem gL_goes_X1_move : GoodIn wsL_goes (wsV RL 13 RX1 yX1_move wsX1_move) := goodIn_app (goodIn_of _ (by decide +kernel)) ggL_goes_X1_move
