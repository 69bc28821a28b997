theorem goodIn_cons {big a : List Cond} {c : Cond} (hc : c ∈ big) (hg : goodWord c = true) (ha : GoodIn big a) : GoodIn big (c :: a) := fun w h => (List.mem_cons.mp h).elim (fun e => by rw [e]; exact ⟨hc, good_of_word hg⟩) (ha w)
set_option maxRecDepth 20000 in
theorem ggL_act_X1_throwShells : GoodIn wsL_act wsX1_throwShells := goodIn_ca (goodIn_ca (goodIn_r _ [8, 9, 10, 11, 12, 13, 14, 15, 16, 17, 18, 7, 19, 20, 21, 22, 23, 24, 25, 26, 27, 28, 29, 30, 31, 32, 33, 34, 35, 36, 37, 38, 39, 40, 41, 42, 43, 44, 45, 46, 47, 48, 49, 50, 51, 52, 53, 54, 55, 56, 57, 58, 59, 60, 61, 62, 63, 64, 65, 66, 67, 68, 69, 70, 71, 72, 73, 74, 75, 76, 77, 78, 79, 80, 81, 82, 83, 225, 226, 227, 228, 229, 230, 231, 232] (by decide +kernel) (by decide +kernel)) (goodIn_sub (fun _ h => List.mem_cons_of_mem _ (List.mem_append_left _ (List.mem_append_left _ (List.mem_append_right _ h)))) (by decide +kernel))) (goodIn_sub (fun _ h => List.mem_cons_of_mem _ (List.mem_append_left _ (List.mem_append_right _ h))) (by decide +kernel))
set_option maxRecDepth 20000 in
theorem gL_act_X1_throwShells : GoodIn wsL_act (wsV RL 7 RX1 yX1_throwShells wsX1_throwShells) := goodIn_app (goodIn_of _ (by decide +kernel)) ggL_act_X1_throwShells
set_option maxRecDepth 20000 in
theorem ggL_act_X1_move : GoodIn wsL_act wsX1_move := goodIn_ca (goodIn_ca (goodIn_r _ [87, 20, 21, 12, 13, 14, 88, 89, 7, 90, 91, 92, 93, 94, 95, 96, 15, 35, 36, 37, 38, 39, 40, 41, 42, 43, 44, 45, 46, 47, 48, 49, 50, 97, 56, 57, 58, 29, 30, 23, 24, 59, 60, 61, 62, 63, 64, 65, 66, 67, 68, 69, 70, 71, 72, 73, 74, 75, 76, 77, 78, 79, 80, 81, 82, 83, 98, 99, 100, 101, 102, 103, 104, 105, 106, 107, 108, 109, 110, 111, 112, 113, 114, 115, 116, 117, 118, 119, 120, 121, 122, 123, 124, 125, 126, 127, 128, 28, 31, 32, 33, 34, 11, 225, 226, 227, 228, 229, 230, 231, 232] (by decide +kernel) (by decide +kernel)) (goodIn_sub (fun _ h => List.mem_cons_of_mem _ (List.mem_append_left _ (List.mem_append_right _ h))) (by decide +kernel))) (goodIn_sub (fun _ h => List.mem_cons_of_mem _ (List.mem_append_right _ h)) (by decide +kernel))
set_option maxRecDepth 20000 in
theorem gL_act_X1_move : GoodIn wsL_act (wsV RL 13 RX1 yX1_move wsX1_move) := goodIn_app (goodIn_of _ (by decide +kernel)) ggL_act_X1_move
set_option maxRecDepth 20000 in
theorem ggL_act_X1_movable : GoodIn wsL_act wsX1_movable := goodIn_ca (goodIn_r _ [132, 12, 13, 14, 93, 94, 95, 7, 96, 20, 21, 15, 35, 36, 37, 38, 39, 40, 41, 42, 43, 44, 45, 46, 47, 48, 49, 50, 51, 52, 53, 54, 55, 56, 57, 58, 29, 30, 23, 24, 59, 60, 61, 62, 63, 64, 65, 66, 67, 68, 69, 70, 71, 72, 73, 74, 75, 76, 77, 78, 79, 80, 81, 82, 83, 225, 226, 227, 228, 229, 230, 231, 232] (by decide +kernel) (by decide +kernel)) (goodIn_sub (fun _ h => List.mem_cons_of_mem _ (List.mem_append_left _ (List.mem_append_right _ h))) (by decide +kernel))
set_option maxRecDepth 20000 in
theorem gL_act_X1_movable : GoodIn wsL_act (wsV RL 16 RX1 yX1_movable wsX1_movable) := goodIn_app (goodIn_of _ (by decide +kernel)) ggL_act_X1_movable
set_option maxRecDepth 20000 in
theorem ggL_act_X1_position : GoodIn wsL_act wsX1_position := goodIn_ca (goodIn_r _ [136, 12, 137, 138, 7, 139, 91, 92, 88, 89, 90, 140, 45, 46, 38, 47, 48, 225, 226, 227, 228, 229, 230, 231, 232] (by decide +kernel) (by decide +kernel)) (goodIn_sub (fun _ h => List.mem_cons_of_mem _ (List.mem_append_right _ h)) (by decide +kernel))
set_option maxRecDepth 20000 in
theorem gL_act_X1_position : GoodIn wsL_act (wsV RL 20 RX1 yX1_position wsX1_position) := goodIn_app (goodIn_of _ (by decide +kernel)) ggL_act_X1_position
set_option maxRecDepth 20000 in
theorem ggL_act_X1_square : GoodIn wsL_act wsX1_square := goodIn_ca (goodIn_r _ [144, 12, 137, 138, 7, 139, 91, 92, 88, 89, 90, 140, 45, 46, 38, 47, 48, 100, 68, 69, 70, 225, 226, 227, 228, 229, 230, 231, 232] (by decide +kernel) (by decide +kernel)) (goodIn_sub (fun _ h => List.mem_cons_of_mem _ (List.mem_append_right _ h)) (by decide +kernel))
set_option maxRecDepth 20000 in
theorem gL_act_X1_square : GoodIn wsL_act (wsV RL 24 RX1 yX1_square wsX1_square) := goodIn_app (goodIn_of _ (by decide +kernel)) ggL_act_X1_square
set_option maxRecDepth 20000 in
theorem ggL_act_X1_standing : GoodIn wsL_act wsX1_standing := goodIn_ca (goodIn_ca (goodIn_r _ [148, 12, 149, 150, 7, 151, 91, 92, 152, 153, 154, 9, 10, 155, 74, 75, 38, 76, 77, 225, 226, 227, 228, 229, 230, 231, 232] (by decide +kernel) (by decide +kernel)) (goodIn_sub (fun _ h => List.mem_cons_of_mem _ (List.mem_append_right _ h)) (by decide +kernel))) (goodIn_sub (fun _ h => List.mem_cons_of_mem _ (List.mem_append_left _ (List.mem_append_left _ (List.mem_append_right _ h)))) (by decide +kernel))
set_option maxRecDepth 20000 in
theorem gL_act_X1_standing : GoodIn wsL_act (wsV RL 27 RX1 yX1_standing wsX1_standing) := goodIn_app (goodIn_of _ (by decide +kernel)) ggL_act_X1_standing
set_option maxRecDepth 20000 in
theorem ggL_act_X1_isSafe : GoodIn wsL_act wsX1_isSafe := goodIn_ca (goodIn_r _ [159, 149, 150, 7, 151, 91, 92, 160, 82, 83] (by decide +kernel) (by decide +kernel)) (goodIn_sub (fun _ h => List.mem_cons_of_mem _ (List.mem_append_right _ h)) (by decide +kernel))
set_option maxRecDepth 20000 in
theorem gL_act_X1_isSafe : GoodIn wsL_act (wsV RL 30 RX1 yX1_isSafe wsX1_isSafe) := goodIn_app (goodIn_of _ (by decide +kernel)) ggL_act_X1_isSafe
set_option maxRecDepth 20000 in
theorem ggL_act_X1_home : GoodIn wsL_act wsX1_home := goodIn_ca (goodIn_r _ [164, 12, 137, 138, 7, 139, 91, 92, 165, 41, 42, 38, 43, 44, 45, 46, 47, 48, 225, 226, 227, 228, 229, 230, 231, 232] (by decide +kernel) (by decide +kernel)) (goodIn_sub (fun _ h => List.mem_cons_of_mem _ (List.mem_append_right _ h)) (by decide +kernel))
set_option maxRecDepth 20000 in
theorem gL_act_X1_home : GoodIn wsL_act (wsV RL 34 RX1 yX1_home wsX1_home) := goodIn_app (goodIn_of _ (by decide +kernel)) ggL_act_X1_home
set_option maxRecDepth 20000 in
theorem ggL_act_X1_captures : GoodIn wsL_act wsX1_captures := goodIn_ca (goodIn_r _ [169, 119, 137, 138, 7, 139, 91, 92, 225, 226, 227, 228, 229, 230] (by decide +kernel) (by decide +kernel)) (goodIn_sub (fun _ h => List.mem_cons_of_mem _ (List.mem_append_right _ h)) (by decide +kernel))
set_option maxRecDepth 20000 in
theorem gL_act_X1_captures : GoodIn wsL_act (wsV RL 37 RX1 yX1_captures wsX1_captures) := goodIn_app (goodIn_of _ (by decide +kernel)) ggL_act_X1_captures
set_option maxRecDepth 20000 in
theorem ggL_act_X1_distance : GoodIn wsL_act wsX1_distance := goodIn_ca (goodIn_r _ [173, 12, 152, 153, 7, 154, 9, 10, 174, 175, 176, 38, 177, 44, 45, 46, 47, 48, 225, 226, 227, 228, 229, 230, 231, 232] (by decide +kernel) (by decide +kernel)) (goodIn_sub (fun _ h => List.mem_cons_of_mem _ (List.mem_append_left _ (List.mem_append_left _ (List.mem_append_right _ h)))) (by decide +kernel))
set_option maxRecDepth 20000 in
theorem gL_act_X1_distance : GoodIn wsL_act (wsV RL 40 RX1 yX1_distance wsX1_distance) := goodIn_app (goodIn_of _ (by decide +kernel)) ggL_act_X1_distance
set_option maxRecDepth 20000 in
theorem ggL_act_X1_ways : GoodIn wsL_act wsX1_ways := goodIn_ca (goodIn_ca (goodIn_r _ [181, 9, 10, 12, 13, 11, 16, 17, 18, 7, 19, 20, 21, 15, 35, 36, 37, 38, 39, 40, 41, 42, 43, 44, 45, 46, 47, 48, 49, 50, 25, 26, 27, 28, 29, 30, 182, 183, 184, 185, 55, 56, 57, 58, 23, 24, 59, 60, 61, 62, 63, 64, 65, 66, 67, 68, 69, 70, 71, 72, 73, 74, 75, 76, 77, 78, 79, 80, 81, 82, 83, 186, 187, 188, 189, 190, 191, 192, 193, 225, 226, 227, 228, 229, 230, 231, 232] (by decide +kernel) (by decide +kernel)) (goodIn_sub (fun _ h => List.mem_cons_of_mem _ (List.mem_append_left _ (List.mem_append_left _ (List.mem_append_right _ h)))) (by decide +kernel))) (goodIn_sub (fun _ h => List.mem_cons_of_mem _ (List.mem_append_left _ (List.mem_append_right _ h))) (by decide +kernel))
set_option maxRecDepth 20000 in
theorem gL_act_X1_ways : GoodIn wsL_act (wsV RL 43 RX1 yX1_ways wsX1_ways) := goodIn_app (goodIn_of _ (by decide +kernel)) ggL_act_X1_ways
set_option maxRecDepth 20000 in
theorem ggL_act_X1_threat : GoodIn wsL_act wsX1_threat := goodIn_ca (goodIn_ca (goodIn_r _ [197, 9, 10, 12, 137, 138, 7, 139, 91, 92, 88, 89, 90, 198, 109, 110, 140, 45, 46, 38, 47, 48, 100, 68, 69, 70, 35, 36, 37, 39, 40, 41, 42, 43, 44, 49, 50, 199, 200, 201, 202, 55, 56, 57, 58, 29, 30, 23, 24, 59, 60, 61, 62, 63, 64, 65, 66, 67, 71, 72, 73, 74, 75, 76, 77, 78, 79, 80, 81, 82, 83, 190, 191, 192, 193, 225, 226, 227, 228, 229, 230, 231, 232] (by decide +kernel) (by decide +kernel)) (goodIn_sub (fun _ h => List.mem_cons_of_mem _ (List.mem_append_left _ (List.mem_append_left _ (List.mem_append_right _ h)))) (by decide +kernel))) (goodIn_sub (fun _ h => List.mem_cons_of_mem _ (List.mem_append_right _ h)) (by decide +kernel))
set_option maxRecDepth 20000 in
theorem gL_act_X1_threat : GoodIn wsL_act (wsV RL 46 RX1 yX1_threat wsX1_threat) := goodIn_app (goodIn_of _ (by decide +kernel)) ggL_act_X1_threat
set_option maxRecDepth 20000 in
theorem ggL_act_X1_captureChance : GoodIn wsL_act wsX1_captureChance := goodIn_ca (goodIn_ca (goodIn_r _ [206, 9, 10, 11, 16, 17, 18, 7, 19, 20, 21, 15, 207, 208, 209, 210, 190, 191, 192, 193, 211, 212, 213, 214, 12, 13, 25, 26, 27, 28, 29, 30, 35, 36, 37, 38, 39, 40, 41, 42, 43, 44, 45, 46, 47, 48, 49, 50, 182, 183, 184, 185, 55, 56, 57, 58, 23, 24, 59, 60, 61, 62, 63, 64, 65, 66, 67, 68, 69, 70, 71, 72, 73, 74, 75, 76, 77, 78, 79, 80, 81, 82, 83, 186, 187, 188, 189, 215, 216, 217, 218, 219, 220, 221, 222, 223, 224, 51, 52, 53, 54, 97, 140, 120, 106, 107, 108, 109, 110, 111, 112, 113, 114, 225, 226, 227, 228, 229, 230, 231, 232] (by decide +kernel) (by decide +kernel)) (goodIn_sub (fun _ h => List.mem_cons_of_mem _ (List.mem_append_left _ (List.mem_append_left _ (List.mem_append_right _ h)))) (by decide +kernel))) (goodIn_sub (fun _ h => List.mem_cons_of_mem _ (List.mem_append_left _ (List.mem_append_right _ h))) (by decide +kernel))
set_option maxRecDepth 20000 in
theorem gL_act_X1_captureChance : GoodIn wsL_act (wsV RL 50 RX1 yX1_captureChance wsX1_captureChance) := goodIn_app (goodIn_of _ (by decide +kernel)) ggL_act_X1_captureChance
