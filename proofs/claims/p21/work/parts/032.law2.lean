set_option maxRecDepth 20000 in
theorem ggL_act_X1_throwShells : GoodIn wsL_act wsX1_throwShells := goodIn_ca (goodIn_ca (goodIn_r _ [8, 9, 10, 11, 12, 13, 14, 15, 16, 17, 18, 7, 19, 20, 21, 22, 23, 24, 25, 26, 27, 28, 29, 30, 31, 32, 33, 34, 35, 36, 37, 38, 39, 40, 41, 42, 43, 44, 45, 46, 47, 48, 49, 50, 51, 52, 53, 54, 55, 56, 57, 58, 59, 60, 61, 62, 63, 64, 65, 66, 67, 68, 69, 70, 71, 72, 73, 74, 75, 76, 77, 78, 79, 80, 81, 82, 83, 225, 226, 227, 228, 229, 230, 231, 232] (by decide +kernel) (by decide +kernel)) (goodIn_sub (fun _ h => List.mem_cons_of_mem _ (List.mem_append_left _ (List.mem_append_left _ (List.mem_append_right _ h)))) (by decide +kernel))) (goodIn_sub (fun _ h => List.mem_cons_of_mem _ (List.mem_append_left _ (List.mem_append_right _ h))) (by decide +kernel))
set_option maxRecDepth 20000 in
theorem gL_act_X1_throwShells : GoodIn wsL_act (wsV RL 7 RX1 yX1_throwShells wsX1_throwShells) := goodIn_app (goodIn_of _ (by decide +kernel)) ggL_act_X1_throwShells
set_option maxRecDepth 20000 in
theorem ggL_act_X1_move : GoodIn wsL_act wsX1_move := goodIn_ca (goodIn_ca (goodIn_r _ [87, 20, 21, 12, 13, 14, 88, 89, 7, 90, 91, 92, 93, 94, 95, 96, 15, 35, 36, 37, 38, 39, 40, 41, 42, 43, 44, 45, 46, 47, 48, 49, 50, 97, 56, 57, 58, 29, 30, 23, 24, 59, 60, 61, 62, 63, 64, 65, 66, 67, 68, 69, 70, 71, 72, 73, 74, 75, 76, 77, 78, 79, 80, 81, 82, 83, 98, 99, 100, 101, 102, 103, 104, 105, 106, 107, 108, 109, 110, 111, 112, 113, 114, 115, 116, 117, 118, 119, 120, 121, 122, 123, 124, 125, 126, 127, 128, 28, 31, 32, 33, 34, 11, 225, 226, 227, 228, 229, 230, 231, 232] (by decide +kernel) (by decide +kernel)) (goodIn_sub (fun _ h => List.mem_cons_of_mem _ (List.mem_append_left _ (List.mem_append_right _ h))) (by decide +kernel))) (goodIn_sub (fun _ h => List.mem_cons_of_mem _ (List.mem_append_right _ h)) (by decide +kernel))
set_option maxRecDepth 20000 in
theorem gL_act_X1_move : GoodIn wsL_act (wsV RL 13 RX1 yX1_move wsX1_move) := goodIn_app (goodIn_of _ (by decide +kernel)) ggL_act_X1_move
set_option maxRecDepth 20000 in
theorem ggL_act_X1_movable : GoodIn wsL_act wsX1_movable := goodIn_ca (goodIn_r _ [132, 12, 13, 14, 93, 94, 95, 7, 96, 20, 21, 15, 35, 36, 37, 38, 39, 40, 41, 42, 43, 44, 45, 46, 47, 48, 49, 50, 51, 52, 53, 54, 55, 56, 57, 58, 29, 30, 23, 24, 59, 60, 61, 62, 63, 64, 65, 66, 67, 68, 69, 70, 71, 72, 73, 74, 75, 76, 77, 78, 79, 80, 81, 82, 83, 225, 226, 227, 228, 229, 230, 231, 232] (by decide +kernel) (by decide +kernel)) (goodIn_sub (fun _ h => List.mem_cons_of_mem _ (List.mem_append_left _ (List.mem_append_right _ h))) (by decide +kernel))
set_option maxRecDepth 20000 in
theorem gL_act_X1_movable : GoodIn wsL_act (wsV RL 16 RX1 yX1_movable wsX1_movable) := goodIn_app (goodIn_of _ (by decide +kernel)) ggL_act_X1_movable
set_option maxRecDepth 20000 in
theorem ggL_act_X1_position : GoodIn wsL_act wsX1_position := goodIn_ca (goodIn_r _ [136, 12, 137, 138, 7, 139, 91, 92, 88, 89, 90, 140, 45, 46, 38, 47, 48, 225, 226, 227, 228, 229, 230, 231, 232] (by decide +kernel) (by decide +kernel)) (goodIn_sub (fun _ h => List.mem_cons_of_mem _ (List.mem_append_right _ h)) (by decide +kernel))
set_option maxRecDepth 20000 in
theorem gL_act_X1_position : GoodIn wsL_act (wsV RL 20 RX1 yX1_position wsX1_position) := goodIn_app (goodIn_of _ (by decide +kernel)) ggL_act_X1_position
set_option maxRecDepth 20000 in
theorem ggL_act_X1_square : GoodIn wsL_act wsX1_square := goodIn_ca (goodIn_r _ [144, 12, 137, 138, 7, 139, 91, 92, 88, 89, 90, 140, 45, 46, 38, 47, 48, 100, 68, 69, 70, 225, 226, 227, 228, 229, 230, 231, 232] (by decide +kernel) (by decide +kernel)) (goodIn_sub (fun _ h => List.mem_cons_of_mem _ (List.mem_append_right _ h)) (by decide +kernel))
set_option maxRecDepth 20000 in
theorem gL_act_X1_square : GoodIn wsL_act (wsV RL 24 RX1 yX1_square wsX1_square) := goodIn_app (goodIn_of _ (by decide +kernel)) ggL_act_X1_square
set_option maxRecDepth 20000 in
theorem ggL_act_X1_standing : GoodIn wsL_act wsX1_standing := goodIn_ca (goodIn_ca (goodIn_r _ [148, 12, 149, 150, 7, 151, 91, 92, 152, 153, 154, 9, 10, 155, 74, 75, 38, 76, 77, 225, 226, 227, 228, 229, 230, 231, 232] (by decide +kernel) (by decide +kernel)) (goodIn_sub (fun _ h => List.mem_cons_of_mem _ (List.mem_append_right _ h)) (by decide +kernel))) (goodIn_sub (fun _ h => List.mem_cons_of_mem _ (List.mem_append_left _ (List.mem_append_left _ (List.mem_append_right _ h)))) (by decide +kernel))
set_option maxRecDepth 20000 in
theorem gL_act_X1_standing : GoodIn wsL_act (wsV RL 27 RX1 yX1_standing wsX1_standing) := goodIn_app (goodIn_of _ (by decide +kernel)) ggL_act_X1_standing
set_option maxRecDepth 20000 in
theorem ggL_act_X1_isSafe : GoodIn wsL_act wsX1_isSafe := goodIn_ca (goodIn_r _ [159, 149, 150, 7, 151, 91, 92, 160, 82, 83] (by decide +kernel) (by decide +kernel)) (goodIn_sub (fun _ h => List.mem_cons_of_mem _ (List.mem_append_right _ h)) (by decide +kernel))
set_option maxRecDepth 20000 in
theorem gL_act_X1_isSafe : GoodIn wsL_act (wsV RL 30 RX1 yX1_isSafe wsX1_isSafe) := goodIn_app (goodIn_of _ (by decide +kernel)) ggL_act_X1_isSafe
set_option maxRecDepth 20000 in
theorem ggL_act_X1_home : GoodIn wsL_act wsX1_home := goodIn_ca (goodIn_r _ [164, 12, 137, 138, 7, 139, 91, 92, 165, 41, 42, 38, 43, 44, 45, 46, 47, 48, 225, 226, 227, 228, 229, 230, 231, 232] (by decide +kernel) (by decide +kernel)) (goodIn_sub (fun _ h => List.mem_cons_of_mem _ (List.mem_append_right _ h)) (by decide +kernel))
set_option maxRecDepth 20000 in
theorem gL_act_X1_home : GoodIn wsL_act (wsV RL 34 RX1 yX1_home wsX1_home) := goodIn_app (goodIn_of _ (by decide +kernel)) ggL_act_X1_home
set_option maxRecDepth 20000 in
theorem ggL_act_X1_captures : GoodIn wsL_act wsX1_captures := goodIn_ca (goodIn_r _ [169, 119, 137, 138, 7, 139, 91, 92, 225, 226, 227, 228, 229, 230] (by decide +kernel) (by decide +kernel)) (goodIn_sub (fun _ h => List.mem_cons_of_mem _ (List.mem_append_right _ h)) (by decide +kernel))
set_option maxRecDepth 20000 in
theorem gL_act_X1_captures : GoodIn wsL_act (wsV RL 37 RX1 yX1_captures wsX1_captures) := goodIn_app (goodIn_of _ (by decide +kernel)) ggL_act_X1_captures
set_option maxRecDepth 20000 in
theorem ggL_act_X1_distance : GoodIn wsL_act wsX1_distance := goodIn_ca (goodIn_r _ [173, 12, 152, 153, 7, 154, 9, 10, 174, 175, 176, 38, 177, 44, 45, 46, 47, 48, 225, 226, 227, 228, 229, 230, 231, 232] (by decide +kernel) (by decide +kernel)) (goodIn_sub (fun _ h => List.mem_cons_of_mem _ (List.mem_append_left _ (List.mem_append_left _ (List.mem_append_right _ h)))) (by decide +kernel))
set_option maxRecDepth 20000 in
theorem gL_act_X1_distance : GoodIn wsL_act (wsV RL 40 RX1 yX1_distance wsX1_distance) := goodIn_app (goodIn_of _ (by decide +kernel)) ggL_act_X1_distance
set_option maxRecDepth 20000 in
theorem ggL_act_X1_ways : GoodIn wsL_act wsX1_ways := goodIn_ca (goodIn_ca (goodIn_r _ [181, 9, 10, 12, 13, 11, 16, 17, 18, 7, 19, 20, 21, 15, 35, 36, 37, 38, 39, 40, 41, 42, 43, 44, 45, 46, 47, 48, 49, 50, 25, 26, 27, 28, 29, 30, 182, 183, 184, 185, 55, 56, 57, 58, 23, 24, 59, 60, 61, 62, 63, 64, 65, 66, 67, 68, 69, 70, 71, 72, 73, 74, 75, 76, 77, 78, 79, 80, 81, 82, 83, 186, 187, 188, 189, 190, 191, 192, 193, 225, 226, 227, 228, 229, 230, 231, 232] (by decide +kernel) (by decide +kernel)) (goodIn_sub (fun _ h => List.mem_cons_of_mem _ (List.mem_append_left _ (List.mem_append_left _ (List.mem_append_right _ h)))) (by decide +kernel))) (goodIn_sub (fun _ h => List.mem_cons_of_mem _ (List.mem_append_left _ (List.mem_append_right _ h))) (by decide +kernel))
set_option maxRecDepth 20000 in
theorem gL_act_X1_ways : GoodIn wsL_act (wsV RL 43 RX1 yX1_ways wsX1_ways) := goodIn_app (goodIn_of _ (by decide +kernel)) ggL_act_X1_ways
set_option maxRecDepth 20000 in
theorem ggL_act_X1_threat : GoodIn wsL_act wsX1_threat := goodIn_ca (goodIn_ca (goodIn_r _ [197, 9, 10, 12, 137, 138, 7, 139, 91, 92, 88, 89, 90, 198, 109, 110, 140, 45, 46, 38, 47, 48, 100, 68, 69, 70, 35, 36, 37, 39, 40, 41, 42, 43, 44, 49, 50, 199, 200, 201, 202, 55, 56, 57, 58, 29, 30, 23, 24, 59, 60, 61, 62, 63, 64, 65, 66, 67, 71, 72, 73, 74, 75, 76, 77, 78, 79, 80, 81, 82, 83, 190, 191, 192, 193, 225, 226, 227, 228, 229, 230, 231, 232] (by decide +kernel) (by decide +kernel)) (goodIn_sub (fun _ h => List.mem_cons_of_mem _ (List.mem_append_left _ (List.mem_append_left _ (List.mem_append_right _ h)))) (by decide +kernel))) (goodIn_sub (fun _ h => List.mem_cons_of_mem _ (List.mem_append_right _ h)) (by decide +kernel))
set_option maxRecDepth 20000 in
theorem gL_act_X1_threat : GoodIn wsL_act (wsV RL 46 RX1 yX1_threat wsX1_threat) := goodIn_app (goodIn_of _ (by decide +kernel)) ggL_act_X1_threat
set_option maxRecDepth 20000 in
theorem ggL_act_X1_captureChance : GoodIn wsL_act wsX1_captureChance := goodIn_ca (goodIn_ca (goodIn_r _ [206, 9, 10, 11, 16, 17, 18, 7, 19, 20, 21, 15, 207, 208, 209, 210, 190, 191, 192, 193, 211, 212, 213, 214, 12, 13, 25, 26, 27, 28, 29, 30, 35, 36, 37, 38, 39, 40, 41, 42, 43, 44, 45, 46, 47, 48, 49, 50, 182, 183, 184, 185, 55, 56, 57, 58, 23, 24, 59, 60, 61, 62, 63, 64, 65, 66, 67, 68, 69, 70, 71, 72, 73, 74, 75, 76, 77, 78, 79, 80, 81, 82, 83, 186, 187, 188, 189, 215, 216, 217, 218, 219, 220, 221, 222, 223, 224, 51, 52, 53, 54, 97, 140, 120, 106, 107, 108, 109, 110, 111, 112, 113, 114, 225, 226, 227, 228, 229, 230, 231, 232] (by decide +kernel) (by decide +kernel)) (goodIn_sub (fun _ h => List.mem_cons_of_mem _ (List.mem_append_left _ (List.mem_append_left _ (List.mem_append_right _ h)))) (by decide +kernel))) (goodIn_sub (fun _ h => List.mem_cons_of_mem _ (List.mem_append_left _ (List.mem_append_right _ h))) (by decide +kernel))
set_option maxRecDepth 20000 in
theorem gL_act_X1_captureChance : GoodIn wsL_act (wsV RL 50 RX1 yX1_captureChance wsX1_captureChance) := goodIn_app (goodIn_of _ (by decide +kernel)) ggL_act_X1_captureChance
theorem dL_act_0 : decode cL_act 0 = .ok (.iload_n 1, 1) := by decide +kernel
theorem dL_act_1 : decode cL_act 1 = .ok (.ifCond .ne 11, 3) := by decide +kernel
theorem dL_act_4 : decode cL_act 4 = .ok (.aload_n 0, 1) := by decide +kernel
theorem dL_act_5 : decode cL_act 5 = .ok (.iload_n 2, 1) := by decide +kernel
theorem dL_act_6 : decode cL_act 6 = .ok (.invokevirtual 7, 3) := by decide +kernel
theorem dL_act_9 : decode cL_act 9 = .ok (.goto 170, 3) := by decide +kernel
theorem dL_act_12 : decode cL_act 12 = .ok (.iload_n 1, 1) := by decide +kernel
theorem dL_act_13 : decode cL_act 13 = .ok (.iconst 1, 1) := by decide +kernel
theorem dL_act_14 : decode cL_act 14 = .ok (.if_icmp .ne 11, 3) := by decide +kernel
theorem dL_act_17 : decode cL_act 17 = .ok (.aload_n 0, 1) := by decide +kernel
theorem dL_act_18 : decode cL_act 18 = .ok (.iload_n 2, 1) := by decide +kernel
theorem dL_act_19 : decode cL_act 19 = .ok (.invokevirtual 13, 3) := by decide +kernel
theorem dL_act_22 : decode cL_act 22 = .ok (.goto 157, 3) := by decide +kernel
theorem dL_act_25 : decode cL_act 25 = .ok (.iload_n 1, 1) := by decide +kernel
theorem dL_act_26 : decode cL_act 26 = .ok (.iconst 2, 1) := by decide +kernel
theorem dL_act_27 : decode cL_act 27 = .ok (.if_icmp .ne 10, 3) := by decide +kernel
theorem dL_act_30 : decode cL_act 30 = .ok (.aload_n 0, 1) := by decide +kernel
theorem dL_act_31 : decode cL_act 31 = .ok (.invokevirtual 16, 3) := by decide +kernel
theorem dL_act_34 : decode cL_act 34 = .ok (.goto 145, 3) := by decide +kernel
theorem dL_act_37 : decode cL_act 37 = .ok (.iload_n 1, 1) := by decide +kernel
theorem dL_act_38 : decode cL_act 38 = .ok (.iconst 3, 1) := by decide +kernel
theorem dL_act_39 : decode cL_act 39 = .ok (.if_icmp .ne 12, 3) := by decide +kernel
theorem dL_act_42 : decode cL_act 42 = .ok (.aload_n 0, 1) := by decide +kernel
theorem dL_act_43 : decode cL_act 43 = .ok (.iload_n 2, 1) := by decide +kernel
theorem dL_act_44 : decode cL_act 44 = .ok (.iload_n 3, 1) := by decide +kernel
theorem dL_act_45 : decode cL_act 45 = .ok (.invokevirtual 20, 3) := by decide +kernel
theorem dL_act_48 : decode cL_act 48 = .ok (.goto 131, 3) := by decide +kernel
theorem dL_act_51 : decode cL_act 51 = .ok (.iload_n 1, 1) := by decide +kernel
theorem dL_act_52 : decode cL_act 52 = .ok (.iconst 4, 1) := by decide +kernel
theorem dL_act_53 : decode cL_act 53 = .ok (.if_icmp .ne 12, 3) := by decide +kernel
theorem dL_act_56 : decode cL_act 56 = .ok (.aload_n 0, 1) := by decide +kernel
theorem dL_act_57 : decode cL_act 57 = .ok (.iload_n 2, 1) := by decide +kernel
theorem dL_act_58 : decode cL_act 58 = .ok (.iload_n 3, 1) := by decide +kernel
theorem dL_act_59 : decode cL_act 59 = .ok (.invokevirtual 24, 3) := by decide +kernel
theorem dL_act_62 : decode cL_act 62 = .ok (.goto 117, 3) := by decide +kernel
theorem dL_act_65 : decode cL_act 65 = .ok (.iload_n 1, 1) := by decide +kernel
theorem dL_act_66 : decode cL_act 66 = .ok (.iconst 5, 1) := by decide +kernel
theorem dL_act_67 : decode cL_act 67 = .ok (.if_icmp .ne 12, 3) := by decide +kernel
theorem dL_act_70 : decode cL_act 70 = .ok (.aload_n 0, 1) := by decide +kernel
theorem dL_act_71 : decode cL_act 71 = .ok (.iload_n 2, 1) := by decide +kernel
theorem dL_act_72 : decode cL_act 72 = .ok (.iload_n 3, 1) := by decide +kernel
theorem dL_act_73 : decode cL_act 73 = .ok (.invokevirtual 27, 3) := by decide +kernel
theorem dL_act_76 : decode cL_act 76 = .ok (.goto 103, 3) := by decide +kernel
theorem dL_act_79 : decode cL_act 79 = .ok (.iload_n 1, 1) := by decide +kernel
theorem dL_act_80 : decode cL_act 80 = .ok (.bipush 6, 2) := by decide +kernel
theorem dL_act_82 : decode cL_act 82 = .ok (.if_icmp .ne 19, 3) := by decide +kernel
theorem dL_act_85 : decode cL_act 85 = .ok (.aload_n 0, 1) := by decide +kernel
theorem dL_act_86 : decode cL_act 86 = .ok (.iload_n 2, 1) := by decide +kernel
theorem dL_act_87 : decode cL_act 87 = .ok (.invokevirtual 30, 3) := by decide +kernel
theorem dL_act_90 : decode cL_act 90 = .ok (.ifCond .eq 7, 3) := by decide +kernel
theorem dL_act_93 : decode cL_act 93 = .ok (.iconst 1, 1) := by decide +kernel
theorem dL_act_94 : decode cL_act 94 = .ok (.goto 85, 3) := by decide +kernel
theorem dL_act_97 : decode cL_act 97 = .ok (.iconst 0, 1) := by decide +kernel
theorem dL_act_98 : decode cL_act 98 = .ok (.goto 81, 3) := by decide +kernel
theorem dL_act_101 : decode cL_act 101 = .ok (.iload_n 1, 1) := by decide +kernel
theorem dL_act_102 : decode cL_act 102 = .ok (.bipush 7, 2) := by decide +kernel
theorem dL_act_104 : decode cL_act 104 = .ok (.if_icmp .ne 11, 3) := by decide +kernel
theorem dL_act_107 : decode cL_act 107 = .ok (.aload_n 0, 1) := by decide +kernel
theorem dL_act_108 : decode cL_act 108 = .ok (.iload_n 2, 1) := by decide +kernel
theorem dL_act_109 : decode cL_act 109 = .ok (.invokevirtual 34, 3) := by decide +kernel
theorem dL_act_112 : decode cL_act 112 = .ok (.goto 67, 3) := by decide +kernel
theorem dL_act_115 : decode cL_act 115 = .ok (.iload_n 1, 1) := by decide +kernel
theorem dL_act_116 : decode cL_act 116 = .ok (.bipush 8, 2) := by decide +kernel
theorem dL_act_118 : decode cL_act 118 = .ok (.if_icmp .ne 11, 3) := by decide +kernel
theorem dL_act_121 : decode cL_act 121 = .ok (.aload_n 0, 1) := by decide +kernel
theorem dL_act_122 : decode cL_act 122 = .ok (.iload_n 2, 1) := by decide +kernel
theorem dL_act_123 : decode cL_act 123 = .ok (.invokevirtual 37, 3) := by decide +kernel
theorem dL_act_126 : decode cL_act 126 = .ok (.goto 53, 3) := by decide +kernel
theorem dL_act_129 : decode cL_act 129 = .ok (.iload_n 1, 1) := by decide +kernel
theorem dL_act_130 : decode cL_act 130 = .ok (.bipush 9, 2) := by decide +kernel
theorem dL_act_132 : decode cL_act 132 = .ok (.if_icmp .ne 11, 3) := by decide +kernel
theorem dL_act_135 : decode cL_act 135 = .ok (.aload_n 0, 1) := by decide +kernel
theorem dL_act_136 : decode cL_act 136 = .ok (.iload_n 2, 1) := by decide +kernel
theorem dL_act_137 : decode cL_act 137 = .ok (.invokevirtual 40, 3) := by decide +kernel
theorem dL_act_140 : decode cL_act 140 = .ok (.goto 39, 3) := by decide +kernel
theorem dL_act_143 : decode cL_act 143 = .ok (.iload_n 1, 1) := by decide +kernel
theorem dL_act_144 : decode cL_act 144 = .ok (.bipush 10, 2) := by decide +kernel
theorem dL_act_146 : decode cL_act 146 = .ok (.if_icmp .ne 11, 3) := by decide +kernel
theorem dL_act_149 : decode cL_act 149 = .ok (.aload_n 0, 1) := by decide +kernel
theorem dL_act_150 : decode cL_act 150 = .ok (.iload_n 2, 1) := by decide +kernel
theorem dL_act_151 : decode cL_act 151 = .ok (.invokevirtual 43, 3) := by decide +kernel
theorem dL_act_154 : decode cL_act 154 = .ok (.goto 25, 3) := by decide +kernel
theorem dL_act_157 : decode cL_act 157 = .ok (.iload_n 1, 1) := by decide +kernel
theorem dL_act_158 : decode cL_act 158 = .ok (.bipush 11, 2) := by decide +kernel
theorem dL_act_160 : decode cL_act 160 = .ok (.if_icmp .ne 14, 3) := by decide +kernel
theorem dL_act_163 : decode cL_act 163 = .ok (.aload_n 0, 1) := by decide +kernel
theorem dL_act_164 : decode cL_act 164 = .ok (.iload_n 2, 1) := by decide +kernel
theorem dL_act_165 : decode cL_act 165 = .ok (.iload_n 3, 1) := by decide +kernel
theorem dL_act_166 : decode cL_act 166 = .ok (.iload 4, 2) := by decide +kernel
theorem dL_act_168 : decode cL_act 168 = .ok (.invokevirtual 46, 3) := by decide +kernel
theorem dL_act_171 : decode cL_act 171 = .ok (.goto 8, 3) := by decide +kernel
theorem dL_act_174 : decode cL_act 174 = .ok (.aload_n 0, 1) := by decide +kernel
theorem dL_act_175 : decode cL_act 175 = .ok (.iload_n 2, 1) := by decide +kernel
theorem dL_act_176 : decode cL_act 176 = .ok (.invokevirtual 50, 3) := by decide +kernel
theorem dL_act_179 : decode cL_act 179 = .ok (.ireturn, 1) := by decide +kernel
theorem dL_act_180 : decode cL_act 180 = .ok (.astore 5, 2) := by decide +kernel
theorem dL_act_182 : decode cL_act 182 = .ok (.sipush (-901), 3) := by decide +kernel
theorem dL_act_185 : decode cL_act 185 = .ok (.ireturn, 1) := by decide +kernel
theorem dL_act_186 : decode cL_act 186 = .ok (.astore 5, 2) := by decide +kernel
theorem dL_act_188 : decode cL_act 188 = .ok (.sipush (-902), 3) := by decide +kernel
theorem dL_act_191 : decode cL_act 191 = .ok (.ireturn, 1) := by decide +kernel
theorem dL_act_192 : decode cL_act 192 = .ok (.astore 5, 2) := by decide +kernel
theorem dL_act_194 : decode cL_act 194 = .ok (.sipush (-903), 3) := by decide +kernel
theorem dL_act_197 : decode cL_act 197 = .ok (.ireturn, 1) := by decide +kernel
set_option maxRecDepth 20000 in
theorem ggL_refuses_X1_phase : GoodIn wsL_refuses wsX1_phase := goodIn_r _ [6, 7, 238, 239, 240, 241, 242, 243] (by decide +kernel) (by decide +kernel)
set_option maxRecDepth 20000 in
theorem gL_refuses_X1_phase : GoodIn wsL_refuses (wsV RL 59 RX1 yX1_phase wsX1_phase) := goodIn_app (goodIn_of _ (by decide +kernel)) ggL_refuses_X1_phase
set_option maxRecDepth 20000 in
theorem ggL_refuses_X1_onTurn : GoodIn wsL_refuses wsX1_onTurn := goodIn_r _ [11, 12, 238, 239, 240, 241, 242, 243] (by decide +kernel) (by decide +kernel)
set_option maxRecDepth 20000 in
theorem gL_refuses_X1_onTurn : GoodIn wsL_refuses (wsV RL 62 RX1 yX1_onTurn wsX1_onTurn) := goodIn_app (goodIn_of _ (by decide +kernel)) ggL_refuses_X1_onTurn
set_option maxRecDepth 20000 in
theorem ggL_refuses_L_act : GoodIn wsL_refuses wsL_act := goodIn_ca (goodIn_ca (goodIn_ca (goodIn_r _ [16, 17, 18, 19, 20, 21, 22, 5, 23, 24, 25, 26, 27, 12, 28, 7, 29, 30, 31, 32, 33, 34, 35, 36, 37, 38, 39, 40, 41, 42, 43, 44, 45, 46, 47, 48, 49, 50, 51, 52, 53, 54, 55, 56, 57, 58, 59, 60, 61, 62, 63, 64, 65, 66, 67, 68, 69, 70, 71, 72, 73, 74, 75, 76, 77, 78, 79, 80, 81, 82, 83, 84, 85, 86, 87, 88, 89, 90, 91, 92, 93, 94, 95, 96, 97, 98, 99, 100, 101, 102, 103, 104, 105, 106, 107, 108, 109, 110, 111, 112, 113, 114, 115, 116, 117, 118, 119, 120, 121, 122, 123, 124, 125, 126, 127, 128, 129, 130, 131, 132, 133, 134, 135, 136, 137, 138, 139, 140, 141, 142, 143, 144, 145, 146, 147, 148, 149, 150, 151, 152, 153, 154, 155, 156, 157, 158, 159, 160, 161, 162, 163, 164, 165, 166, 167, 168, 169, 170, 171, 172, 173, 174, 175, 176, 177, 178, 179, 180, 181, 182, 183, 184, 185, 186, 187, 188, 189, 190, 191, 192, 193, 194, 195, 196, 197, 198, 199, 200, 201, 202, 203, 204, 205, 206, 207, 208, 209, 210, 211, 212, 213, 214, 215, 216, 217, 218, 219, 220, 221, 222, 223, 224, 225, 226, 227, 228, 229, 230, 231, 232, 233, 234, 235, 236, 237, 238, 239, 240, 241, 242, 243, 244, 245] (by decide +kernel) (by decide +kernel)) (goodIn_sub (fun _ h => List.mem_cons_of_mem _ (List.mem_append_left _ (List.mem_append_left _ (List.mem_append_right _ h)))) (by decide +kernel))) (goodIn_sub (fun _ h => List.mem_cons_of_mem _ (List.mem_append_left _ (List.mem_append_right _ h))) (by decide +kernel))) (goodIn_sub (fun _ h => List.mem_cons_of_mem _ (List.mem_append_right _ h)) (by decide +kernel))
set_option maxRecDepth 20000 in
theorem gL_refuses_L_act : GoodIn wsL_refuses (va_wsS RL 66 yL_act wsL_act) := goodIn_app (goodIn_of _ (by decide +kernel)) ggL_refuses_L_act
theorem dL_refuses_0 : decode cL_refuses 0 = .ok (.aload_n 0, 1) := by decide +kernel
theorem dL_refuses_1 : decode cL_refuses 1 = .ok (.invokevirtual 59, 3) := by decide +kernel
theorem dL_refuses_4 : decode cL_refuses 4 = .ok (.istore_n 1, 1) := by decide +kernel
theorem dL_refuses_5 : decode cL_refuses 5 = .ok (.aload_n 0, 1) := by decide +kernel
theorem dL_refuses_6 : decode cL_refuses 6 = .ok (.invokevirtual 62, 3) := by decide +kernel
theorem dL_refuses_9 : decode cL_refuses 9 = .ok (.istore_n 2, 1) := by decide +kernel
theorem dL_refuses_10 : decode cL_refuses 10 = .ok (.ldc 65, 2) := by decide +kernel
theorem dL_refuses_12 : decode cL_refuses 12 = .ok (.istore_n 3, 1) := by decide +kernel
theorem dL_refuses_13 : decode cL_refuses 13 = .ok (.iconst 0, 1) := by decide +kernel
theorem dL_refuses_14 : decode cL_refuses 14 = .ok (.istore 4, 2) := by decide +kernel
theorem dL_refuses_16 : decode cL_refuses 16 = .ok (.iload 4, 2) := by decide +kernel
theorem dL_refuses_18 : decode cL_refuses 18 = .ok (.iconst 4, 1) := by decide +kernel
theorem dL_refuses_19 : decode cL_refuses 19 = .ok (.if_icmp .ge 430, 3) := by decide +kernel
theorem dL_refuses_22 : decode cL_refuses 22 = .ok (.iload 4, 2) := by decide +kernel
theorem dL_refuses_24 : decode cL_refuses 24 = .ok (.ifCond .ne 7, 3) := by decide +kernel
theorem dL_refuses_27 : decode cL_refuses 27 = .ok (.iconst (-1), 1) := by decide +kernel
theorem dL_refuses_28 : decode cL_refuses 28 = .ok (.goto 17, 3) := by decide +kernel
theorem dL_refuses_31 : decode cL_refuses 31 = .ok (.iload 4, 2) := by decide +kernel
theorem dL_refuses_33 : decode cL_refuses 33 = .ok (.iconst 2, 1) := by decide +kernel
theorem dL_refuses_34 : decode cL_refuses 34 = .ok (.if_icmp .ne 7, 3) := by decide +kernel
theorem dL_refuses_37 : decode cL_refuses 37 = .ok (.iload_n 3, 1) := by decide +kernel
theorem dL_refuses_38 : decode cL_refuses 38 = .ok (.goto 7, 3) := by decide +kernel
theorem dL_refuses_41 : decode cL_refuses 41 = .ok (.iload_n 3, 1) := by decide +kernel
theorem dL_refuses_42 : decode cL_refuses 42 = .ok (.ineg, 1) := by decide +kernel
theorem dL_refuses_43 : decode cL_refuses 43 = .ok (.iconst 1, 1) := by decide +kernel
theorem dL_refuses_44 : decode cL_refuses 44 = .ok (.isub, 1) := by decide +kernel
theorem dL_refuses_45 : decode cL_refuses 45 = .ok (.istore 5, 2) := by decide +kernel
theorem dL_refuses_47 : decode cL_refuses 47 = .ok (.iload 4, 2) := by decide +kernel
theorem dL_refuses_49 : decode cL_refuses 49 = .ok (.iconst 1, 1) := by decide +kernel
theorem dL_refuses_50 : decode cL_refuses 50 = .ok (.if_icmp .ne 7, 3) := by decide +kernel
theorem dL_refuses_53 : decode cL_refuses 53 = .ok (.iconst 4, 1) := by decide +kernel
theorem dL_refuses_54 : decode cL_refuses 54 = .ok (.goto 5, 3) := by decide +kernel
theorem dL_refuses_57 : decode cL_refuses 57 = .ok (.iload 5, 2) := by decide +kernel
theorem dL_refuses_59 : decode cL_refuses 59 = .ok (.istore 6, 2) := by decide +kernel
theorem dL_refuses_61 : decode cL_refuses 61 = .ok (.iload 4, 2) := by decide +kernel
theorem dL_refuses_63 : decode cL_refuses 63 = .ok (.ifCond .ne 7, 3) := by decide +kernel
theorem dL_refuses_66 : decode cL_refuses 66 = .ok (.iconst 0, 1) := by decide +kernel
theorem dL_refuses_67 : decode cL_refuses 67 = .ok (.goto 5, 3) := by decide +kernel
theorem dL_refuses_70 : decode cL_refuses 70 = .ok (.iload 6, 2) := by decide +kernel
theorem dL_refuses_72 : decode cL_refuses 72 = .ok (.istore 7, 2) := by decide +kernel
theorem dL_refuses_74 : decode cL_refuses 74 = .ok (.aload_n 0, 1) := by decide +kernel
theorem dL_refuses_75 : decode cL_refuses 75 = .ok (.iconst 0, 1) := by decide +kernel
theorem dL_refuses_76 : decode cL_refuses 76 = .ok (.iload 4, 2) := by decide +kernel
theorem dL_refuses_78 : decode cL_refuses 78 = .ok (.iconst 1, 1) := by decide +kernel
theorem dL_refuses_79 : decode cL_refuses 79 = .ok (.if_icmp .ne 8, 3) := by decide +kernel
theorem dL_refuses_82 : decode cL_refuses 82 = .ok (.bipush 7, 2) := by decide +kernel
theorem dL_refuses_84 : decode cL_refuses 84 = .ok (.goto 5, 3) := by decide +kernel
theorem dL_refuses_87 : decode cL_refuses 87 = .ok (.iload 5, 2) := by decide +kernel
theorem dL_refuses_89 : decode cL_refuses 89 = .ok (.iconst 0, 1) := by decide +kernel
theorem dL_refuses_90 : decode cL_refuses 90 = .ok (.iconst 0, 1) := by decide +kernel
theorem dL_refuses_91 : decode cL_refuses 91 = .ok (.invokestatic 66, 3) := by decide +kernel
theorem dL_refuses_94 : decode cL_refuses 94 = .ok (.sipush (-902), 3) := by decide +kernel
theorem dL_refuses_97 : decode cL_refuses 97 = .ok (.if_icmp .ne 336, 3) := by decide +kernel
theorem dL_refuses_100 : decode cL_refuses 100 = .ok (.aload_n 0, 1) := by decide +kernel
theorem dL_refuses_101 : decode cL_refuses 101 = .ok (.iconst 1, 1) := by decide +kernel
theorem dL_refuses_102 : decode cL_refuses 102 = .ok (.iload 6, 2) := by decide +kernel
theorem dL_refuses_104 : decode cL_refuses 104 = .ok (.iconst 0, 1) := by decide +kernel
theorem dL_refuses_105 : decode cL_refuses 105 = .ok (.iconst 0, 1) := by decide +kernel
theorem dL_refuses_106 : decode cL_refuses 106 = .ok (.invokestatic 66, 3) := by decide +kernel
theorem dL_refuses_109 : decode cL_refuses 109 = .ok (.sipush (-901), 3) := by decide +kernel
theorem dL_refuses_112 : decode cL_refuses 112 = .ok (.if_icmp .ne 321, 3) := by decide +kernel
theorem dL_refuses_115 : decode cL_refuses 115 = .ok (.aload_n 0, 1) := by decide +kernel
theorem dL_refuses_116 : decode cL_refuses 116 = .ok (.iconst 3, 1) := by decide +kernel
theorem dL_refuses_117 : decode cL_refuses 117 = .ok (.iload 6, 2) := by decide +kernel
theorem dL_refuses_119 : decode cL_refuses 119 = .ok (.iconst 0, 1) := by decide +kernel
theorem dL_refuses_120 : decode cL_refuses 120 = .ok (.iconst 0, 1) := by decide +kernel
theorem dL_refuses_121 : decode cL_refuses 121 = .ok (.invokestatic 66, 3) := by decide +kernel
theorem dL_refuses_124 : decode cL_refuses 124 = .ok (.sipush (-901), 3) := by decide +kernel
theorem dL_refuses_127 : decode cL_refuses 127 = .ok (.if_icmp .ne 306, 3) := by decide +kernel
theorem dL_refuses_130 : decode cL_refuses 130 = .ok (.aload_n 0, 1) := by decide +kernel
theorem dL_refuses_131 : decode cL_refuses 131 = .ok (.iconst 3, 1) := by decide +kernel
theorem dL_refuses_132 : decode cL_refuses 132 = .ok (.iconst 0, 1) := by decide +kernel
theorem dL_refuses_133 : decode cL_refuses 133 = .ok (.iload 6, 2) := by decide +kernel
theorem dL_refuses_135 : decode cL_refuses 135 = .ok (.iconst 0, 1) := by decide +kernel
theorem dL_refuses_136 : decode cL_refuses 136 = .ok (.invokestatic 66, 3) := by decide +kernel
theorem dL_refuses_139 : decode cL_refuses 139 = .ok (.sipush (-901), 3) := by decide +kernel
theorem dL_refuses_142 : decode cL_refuses 142 = .ok (.if_icmp .ne 291, 3) := by decide +kernel
theorem dL_refuses_145 : decode cL_refuses 145 = .ok (.aload_n 0, 1) := by decide +kernel
theorem dL_refuses_146 : decode cL_refuses 146 = .ok (.iconst 4, 1) := by decide +kernel
theorem dL_refuses_147 : decode cL_refuses 147 = .ok (.iload 6, 2) := by decide +kernel
theorem dL_refuses_149 : decode cL_refuses 149 = .ok (.iconst 0, 1) := by decide +kernel
theorem dL_refuses_150 : decode cL_refuses 150 = .ok (.iconst 0, 1) := by decide +kernel
theorem dL_refuses_151 : decode cL_refuses 151 = .ok (.invokestatic 66, 3) := by decide +kernel
theorem dL_refuses_154 : decode cL_refuses 154 = .ok (.sipush (-901), 3) := by decide +kernel
theorem dL_refuses_157 : decode cL_refuses 157 = .ok (.if_icmp .ne 276, 3) := by decide +kernel
theorem dL_refuses_160 : decode cL_refuses 160 = .ok (.aload_n 0, 1) := by decide +kernel
theorem dL_refuses_161 : decode cL_refuses 161 = .ok (.iconst 4, 1) := by decide +kernel
theorem dL_refuses_162 : decode cL_refuses 162 = .ok (.iconst 0, 1) := by decide +kernel
theorem dL_refuses_163 : decode cL_refuses 163 = .ok (.iload 6, 2) := by decide +kernel
theorem dL_refuses_165 : decode cL_refuses 165 = .ok (.iconst 0, 1) := by decide +kernel
theorem dL_refuses_166 : decode cL_refuses 166 = .ok (.invokestatic 66, 3) := by decide +kernel
theorem dL_refuses_169 : decode cL_refuses 169 = .ok (.sipush (-901), 3) := by decide +kernel
theorem dL_refuses_172 : decode cL_refuses 172 = .ok (.if_icmp .ne 261, 3) := by decide +kernel
theorem dL_refuses_175 : decode cL_refuses 175 = .ok (.aload_n 0, 1) := by decide +kernel
theorem dL_refuses_176 : decode cL_refuses 176 = .ok (.iconst 5, 1) := by decide +kernel
theorem dL_refuses_177 : decode cL_refuses 177 = .ok (.iload 4, 2) := by decide +kernel
theorem dL_refuses_179 : decode cL_refuses 179 = .ok (.iconst 1, 1) := by decide +kernel
theorem dL_refuses_180 : decode cL_refuses 180 = .ok (.if_icmp .ne 8, 3) := by decide +kernel
theorem dL_refuses_183 : decode cL_refuses 183 = .ok (.bipush 68, 2) := by decide +kernel
theorem dL_refuses_185 : decode cL_refuses 185 = .ok (.goto 5, 3) := by decide +kernel
theorem dL_refuses_188 : decode cL_refuses 188 = .ok (.iload 5, 2) := by decide +kernel
theorem dL_refuses_190 : decode cL_refuses 190 = .ok (.iconst 2, 1) := by decide +kernel
theorem dL_refuses_191 : decode cL_refuses 191 = .ok (.iconst 0, 1) := by decide +kernel
theorem dL_refuses_192 : decode cL_refuses 192 = .ok (.invokestatic 66, 3) := by decide +kernel
theorem dL_refuses_195 : decode cL_refuses 195 = .ok (.sipush (-901), 3) := by decide +kernel
theorem dL_refuses_198 : decode cL_refuses 198 = .ok (.if_icmp .ne 235, 3) := by decide +kernel
theorem dL_refuses_201 : decode cL_refuses 201 = .ok (.aload_n 0, 1) := by decide +kernel
theorem dL_refuses_202 : decode cL_refuses 202 = .ok (.iconst 5, 1) := by decide +kernel
theorem dL_refuses_203 : decode cL_refuses 203 = .ok (.iconst 0, 1) := by decide +kernel
theorem dL_refuses_204 : decode cL_refuses 204 = .ok (.iload 4, 2) := by decide +kernel
theorem dL_refuses_206 : decode cL_refuses 206 = .ok (.iconst 1, 1) := by decide +kernel
theorem dL_refuses_207 : decode cL_refuses 207 = .ok (.if_icmp .ne 7, 3) := by decide +kernel
theorem dL_refuses_210 : decode cL_refuses 210 = .ok (.iconst 2, 1) := by decide +kernel
theorem dL_refuses_211 : decode cL_refuses 211 = .ok (.goto 5, 3) := by decide +kernel
theorem dL_refuses_214 : decode cL_refuses 214 = .ok (.iload 5, 2) := by decide +kernel
theorem dL_refuses_216 : decode cL_refuses 216 = .ok (.iconst 0, 1) := by decide +kernel
theorem dL_refuses_217 : decode cL_refuses 217 = .ok (.invokestatic 66, 3) := by decide +kernel
theorem dL_refuses_220 : decode cL_refuses 220 = .ok (.sipush (-902), 3) := by decide +kernel
theorem dL_refuses_223 : decode cL_refuses 223 = .ok (.if_icmp .ne 210, 3) := by decide +kernel
theorem dL_refuses_226 : decode cL_refuses 226 = .ok (.aload_n 0, 1) := by decide +kernel
theorem dL_refuses_227 : decode cL_refuses 227 = .ok (.bipush 6, 2) := by decide +kernel
theorem dL_refuses_229 : decode cL_refuses 229 = .ok (.iload 4, 2) := by decide +kernel
theorem dL_refuses_231 : decode cL_refuses 231 = .ok (.iconst 1, 1) := by decide +kernel
theorem dL_refuses_232 : decode cL_refuses 232 = .ok (.if_icmp .ne 8, 3) := by decide +kernel
theorem dL_refuses_235 : decode cL_refuses 235 = .ok (.bipush 68, 2) := by decide +kernel
theorem dL_refuses_237 : decode cL_refuses 237 = .ok (.goto 5, 3) := by decide +kernel
theorem dL_refuses_240 : decode cL_refuses 240 = .ok (.iload 5, 2) := by decide +kernel
theorem dL_refuses_242 : decode cL_refuses 242 = .ok (.iconst 0, 1) := by decide +kernel
theorem dL_refuses_243 : decode cL_refuses 243 = .ok (.iconst 0, 1) := by decide +kernel
theorem dL_refuses_244 : decode cL_refuses 244 = .ok (.invokestatic 66, 3) := by decide +kernel
theorem dL_refuses_247 : decode cL_refuses 247 = .ok (.sipush (-901), 3) := by decide +kernel
theorem dL_refuses_250 : decode cL_refuses 250 = .ok (.if_icmp .ne 183, 3) := by decide +kernel
theorem dL_refuses_253 : decode cL_refuses 253 = .ok (.aload_n 0, 1) := by decide +kernel
theorem dL_refuses_254 : decode cL_refuses 254 = .ok (.bipush 7, 2) := by decide +kernel
theorem dL_refuses_256 : decode cL_refuses 256 = .ok (.iload 6, 2) := by decide +kernel
theorem dL_refuses_258 : decode cL_refuses 258 = .ok (.iconst 0, 1) := by decide +kernel
theorem dL_refuses_259 : decode cL_refuses 259 = .ok (.iconst 0, 1) := by decide +kernel
theorem dL_refuses_260 : decode cL_refuses 260 = .ok (.invokestatic 66, 3) := by decide +kernel
theorem dL_refuses_263 : decode cL_refuses 263 = .ok (.sipush (-901), 3) := by decide +kernel
theorem dL_refuses_266 : decode cL_refuses 266 = .ok (.if_icmp .ne 167, 3) := by decide +kernel
theorem dL_refuses_269 : decode cL_refuses 269 = .ok (.aload_n 0, 1) := by decide +kernel
theorem dL_refuses_270 : decode cL_refuses 270 = .ok (.bipush 8, 2) := by decide +kernel
theorem dL_refuses_272 : decode cL_refuses 272 = .ok (.iload 6, 2) := by decide +kernel
theorem dL_refuses_274 : decode cL_refuses 274 = .ok (.iconst 0, 1) := by decide +kernel
theorem dL_refuses_275 : decode cL_refuses 275 = .ok (.iconst 0, 1) := by decide +kernel
theorem dL_refuses_276 : decode cL_refuses 276 = .ok (.invokestatic 66, 3) := by decide +kernel
theorem dL_refuses_279 : decode cL_refuses 279 = .ok (.sipush (-901), 3) := by decide +kernel
theorem dL_refuses_282 : decode cL_refuses 282 = .ok (.if_icmp .ne 151, 3) := by decide +kernel
theorem dL_refuses_285 : decode cL_refuses 285 = .ok (.aload_n 0, 1) := by decide +kernel
theorem dL_refuses_286 : decode cL_refuses 286 = .ok (.bipush 9, 2) := by decide +kernel
theorem dL_refuses_288 : decode cL_refuses 288 = .ok (.iload 4, 2) := by decide +kernel
theorem dL_refuses_290 : decode cL_refuses 290 = .ok (.iconst 1, 1) := by decide +kernel
theorem dL_refuses_291 : decode cL_refuses 291 = .ok (.if_icmp .ne 7, 3) := by decide +kernel
theorem dL_refuses_294 : decode cL_refuses 294 = .ok (.iconst 2, 1) := by decide +kernel
theorem dL_refuses_295 : decode cL_refuses 295 = .ok (.goto 5, 3) := by decide +kernel
theorem dL_refuses_298 : decode cL_refuses 298 = .ok (.iload 5, 2) := by decide +kernel
theorem dL_refuses_300 : decode cL_refuses 300 = .ok (.iconst 0, 1) := by decide +kernel
theorem dL_refuses_301 : decode cL_refuses 301 = .ok (.iconst 0, 1) := by decide +kernel
theorem dL_refuses_302 : decode cL_refuses 302 = .ok (.invokestatic 66, 3) := by decide +kernel
theorem dL_refuses_305 : decode cL_refuses 305 = .ok (.sipush (-902), 3) := by decide +kernel
theorem dL_refuses_308 : decode cL_refuses 308 = .ok (.if_icmp .ne 125, 3) := by decide +kernel
theorem dL_refuses_311 : decode cL_refuses 311 = .ok (.aload_n 0, 1) := by decide +kernel
theorem dL_refuses_312 : decode cL_refuses 312 = .ok (.bipush 10, 2) := by decide +kernel
theorem dL_refuses_314 : decode cL_refuses 314 = .ok (.iload 6, 2) := by decide +kernel
theorem dL_refuses_316 : decode cL_refuses 316 = .ok (.iconst 0, 1) := by decide +kernel
theorem dL_refuses_317 : decode cL_refuses 317 = .ok (.iconst 0, 1) := by decide +kernel
theorem dL_refuses_318 : decode cL_refuses 318 = .ok (.invokestatic 66, 3) := by decide +kernel
theorem dL_refuses_321 : decode cL_refuses 321 = .ok (.sipush (-902), 3) := by decide +kernel
theorem dL_refuses_324 : decode cL_refuses 324 = .ok (.if_icmp .ne 109, 3) := by decide +kernel
theorem dL_refuses_327 : decode cL_refuses 327 = .ok (.aload_n 0, 1) := by decide +kernel
theorem dL_refuses_328 : decode cL_refuses 328 = .ok (.bipush 11, 2) := by decide +kernel
theorem dL_refuses_330 : decode cL_refuses 330 = .ok (.iload 6, 2) := by decide +kernel
theorem dL_refuses_332 : decode cL_refuses 332 = .ok (.iconst 0, 1) := by decide +kernel
theorem dL_refuses_333 : decode cL_refuses 333 = .ok (.iconst 1, 1) := by decide +kernel
theorem dL_refuses_334 : decode cL_refuses 334 = .ok (.invokestatic 66, 3) := by decide +kernel
theorem dL_refuses_337 : decode cL_refuses 337 = .ok (.sipush (-901), 3) := by decide +kernel
theorem dL_refuses_340 : decode cL_refuses 340 = .ok (.if_icmp .ne 93, 3) := by decide +kernel
theorem dL_refuses_343 : decode cL_refuses 343 = .ok (.aload_n 0, 1) := by decide +kernel
theorem dL_refuses_344 : decode cL_refuses 344 = .ok (.bipush 11, 2) := by decide +kernel
theorem dL_refuses_346 : decode cL_refuses 346 = .ok (.iconst 0, 1) := by decide +kernel
theorem dL_refuses_347 : decode cL_refuses 347 = .ok (.iload 6, 2) := by decide +kernel
theorem dL_refuses_349 : decode cL_refuses 349 = .ok (.iconst 0, 1) := by decide +kernel
theorem dL_refuses_350 : decode cL_refuses 350 = .ok (.invokestatic 66, 3) := by decide +kernel
theorem dL_refuses_353 : decode cL_refuses 353 = .ok (.sipush (-901), 3) := by decide +kernel
theorem dL_refuses_356 : decode cL_refuses 356 = .ok (.if_icmp .ne 77, 3) := by decide +kernel
theorem dL_refuses_359 : decode cL_refuses 359 = .ok (.aload_n 0, 1) := by decide +kernel
theorem dL_refuses_360 : decode cL_refuses 360 = .ok (.bipush 11, 2) := by decide +kernel
theorem dL_refuses_362 : decode cL_refuses 362 = .ok (.iconst 0, 1) := by decide +kernel
theorem dL_refuses_363 : decode cL_refuses 363 = .ok (.iconst 0, 1) := by decide +kernel
theorem dL_refuses_364 : decode cL_refuses 364 = .ok (.iload 6, 2) := by decide +kernel
theorem dL_refuses_366 : decode cL_refuses 366 = .ok (.invokestatic 66, 3) := by decide +kernel
theorem dL_refuses_369 : decode cL_refuses 369 = .ok (.sipush (-902), 3) := by decide +kernel
theorem dL_refuses_372 : decode cL_refuses 372 = .ok (.if_icmp .ne 61, 3) := by decide +kernel
theorem dL_refuses_375 : decode cL_refuses 375 = .ok (.aload_n 0, 1) := by decide +kernel
theorem dL_refuses_376 : decode cL_refuses 376 = .ok (.bipush 11, 2) := by decide +kernel
theorem dL_refuses_378 : decode cL_refuses 378 = .ok (.iload 4, 2) := by decide +kernel
theorem dL_refuses_380 : decode cL_refuses 380 = .ok (.iconst 0, 1) := by decide +kernel
theorem dL_refuses_381 : decode cL_refuses 381 = .ok (.iload 4, 2) := by decide +kernel
theorem dL_refuses_383 : decode cL_refuses 383 = .ok (.iconst 2, 1) := by decide +kernel
theorem dL_refuses_384 : decode cL_refuses 384 = .ok (.iadd, 1) := by decide +kernel
theorem dL_refuses_385 : decode cL_refuses 385 = .ok (.iconst 4, 1) := by decide +kernel
theorem dL_refuses_386 : decode cL_refuses 386 = .ok (.irem, 1) := by decide +kernel
theorem dL_refuses_387 : decode cL_refuses 387 = .ok (.invokestatic 66, 3) := by decide +kernel
theorem dL_refuses_390 : decode cL_refuses 390 = .ok (.sipush (-902), 3) := by decide +kernel
theorem dL_refuses_393 : decode cL_refuses 393 = .ok (.if_icmp .ne 40, 3) := by decide +kernel
theorem dL_refuses_396 : decode cL_refuses 396 = .ok (.aload_n 0, 1) := by decide +kernel
theorem dL_refuses_397 : decode cL_refuses 397 = .ok (.bipush 11, 2) := by decide +kernel
theorem dL_refuses_399 : decode cL_refuses 399 = .ok (.iload 4, 2) := by decide +kernel
theorem dL_refuses_401 : decode cL_refuses 401 = .ok (.iconst 0, 1) := by decide +kernel
theorem dL_refuses_402 : decode cL_refuses 402 = .ok (.iload 4, 2) := by decide +kernel
theorem dL_refuses_404 : decode cL_refuses 404 = .ok (.invokestatic 66, 3) := by decide +kernel
theorem dL_refuses_407 : decode cL_refuses 407 = .ok (.sipush (-902), 3) := by decide +kernel
theorem dL_refuses_410 : decode cL_refuses 410 = .ok (.if_icmp .ne 23, 3) := by decide +kernel
theorem dL_refuses_413 : decode cL_refuses 413 = .ok (.aload_n 0, 1) := by decide +kernel
theorem dL_refuses_414 : decode cL_refuses 414 = .ok (.bipush 12, 2) := by decide +kernel
theorem dL_refuses_416 : decode cL_refuses 416 = .ok (.iload 7, 2) := by decide +kernel
theorem dL_refuses_418 : decode cL_refuses 418 = .ok (.iconst 0, 1) := by decide +kernel
theorem dL_refuses_419 : decode cL_refuses 419 = .ok (.iconst 0, 1) := by decide +kernel
theorem dL_refuses_420 : decode cL_refuses 420 = .ok (.invokestatic 66, 3) := by decide +kernel
theorem dL_refuses_423 : decode cL_refuses 423 = .ok (.sipush (-902), 3) := by decide +kernel
theorem dL_refuses_426 : decode cL_refuses 426 = .ok (.if_icmp .ne 7, 3) := by decide +kernel
theorem dL_refuses_429 : decode cL_refuses 429 = .ok (.iconst 1, 1) := by decide +kernel
theorem dL_refuses_430 : decode cL_refuses 430 = .ok (.goto 4, 3) := by decide +kernel
theorem dL_refuses_433 : decode cL_refuses 433 = .ok (.iconst 0, 1) := by decide +kernel
theorem dL_refuses_434 : decode cL_refuses 434 = .ok (.istore 8, 2) := by decide +kernel
theorem dL_refuses_436 : decode cL_refuses 436 = .ok (.iload 8, 2) := by decide +kernel
theorem dL_refuses_438 : decode cL_refuses 438 = .ok (.ifCond .ne 5, 3) := by decide +kernel
theorem dL_refuses_441 : decode cL_refuses 441 = .ok (.iconst 0, 1) := by decide +kernel
theorem dL_refuses_442 : decode cL_refuses 442 = .ok (.ireturn, 1) := by decide +kernel
theorem dL_refuses_443 : decode cL_refuses 443 = .ok (.iinc 4 1, 3) := by decide +kernel
theorem dL_refuses_446 : decode cL_refuses 446 = .ok (.goto (-430), 3) := by decide +kernel
theorem dL_refuses_449 : decode cL_refuses 449 = .ok (.iload_n 1, 1) := by decide +kernel
theorem dL_refuses_450 : decode cL_refuses 450 = .ok (.iconst 1, 1) := by decide +kernel
theorem dL_refuses_451 : decode cL_refuses 451 = .ok (.if_icmp .eq 31, 3) := by decide +kernel
theorem dL_refuses_454 : decode cL_refuses 454 = .ok (.aload_n 0, 1) := by decide +kernel
theorem dL_refuses_455 : decode cL_refuses 455 = .ok (.iconst 1, 1) := by decide +kernel
theorem dL_refuses_456 : decode cL_refuses 456 = .ok (.iconst 0, 1) := by decide +kernel
theorem dL_refuses_457 : decode cL_refuses 457 = .ok (.iconst 0, 1) := by decide +kernel
theorem dL_refuses_458 : decode cL_refuses 458 = .ok (.iconst 0, 1) := by decide +kernel
theorem dL_refuses_459 : decode cL_refuses 459 = .ok (.invokestatic 66, 3) := by decide +kernel
theorem dL_refuses_462 : decode cL_refuses 462 = .ok (.sipush (-903), 3) := by decide +kernel
theorem dL_refuses_465 : decode cL_refuses 465 = .ok (.if_icmp .ne 69, 3) := by decide +kernel
theorem dL_refuses_468 : decode cL_refuses 468 = .ok (.aload_n 0, 1) := by decide +kernel
theorem dL_refuses_469 : decode cL_refuses 469 = .ok (.iconst 2, 1) := by decide +kernel
theorem dL_refuses_470 : decode cL_refuses 470 = .ok (.iconst 0, 1) := by decide +kernel
theorem dL_refuses_471 : decode cL_refuses 471 = .ok (.iconst 0, 1) := by decide +kernel
theorem dL_refuses_472 : decode cL_refuses 472 = .ok (.iconst 0, 1) := by decide +kernel
theorem dL_refuses_473 : decode cL_refuses 473 = .ok (.invokestatic 66, 3) := by decide +kernel
theorem dL_refuses_476 : decode cL_refuses 476 = .ok (.sipush (-903), 3) := by decide +kernel
theorem dL_refuses_479 : decode cL_refuses 479 = .ok (.if_icmp .ne 55, 3) := by decide +kernel
theorem dL_refuses_482 : decode cL_refuses 482 = .ok (.iload_n 1, 1) := by decide +kernel
theorem dL_refuses_483 : decode cL_refuses 483 = .ok (.ifCond .eq 47, 3) := by decide +kernel
theorem dL_refuses_486 : decode cL_refuses 486 = .ok (.aload_n 0, 1) := by decide +kernel
theorem dL_refuses_487 : decode cL_refuses 487 = .ok (.iconst 0, 1) := by decide +kernel
theorem dL_refuses_488 : decode cL_refuses 488 = .ok (.iconst 3, 1) := by decide +kernel
theorem dL_refuses_489 : decode cL_refuses 489 = .ok (.iconst 0, 1) := by decide +kernel
theorem dL_refuses_490 : decode cL_refuses 490 = .ok (.iconst 0, 1) := by decide +kernel
theorem dL_refuses_491 : decode cL_refuses 491 = .ok (.invokestatic 66, 3) := by decide +kernel
theorem dL_refuses_494 : decode cL_refuses 494 = .ok (.sipush (-903), 3) := by decide +kernel
theorem dL_refuses_497 : decode cL_refuses 497 = .ok (.if_icmp .ne 37, 3) := by decide +kernel
theorem dL_refuses_500 : decode cL_refuses 500 = .ok (.aload_n 0, 1) := by decide +kernel
theorem dL_refuses_501 : decode cL_refuses 501 = .ok (.bipush 10, 2) := by decide +kernel
theorem dL_refuses_503 : decode cL_refuses 503 = .ok (.iconst 0, 1) := by decide +kernel
theorem dL_refuses_504 : decode cL_refuses 504 = .ok (.iconst 0, 1) := by decide +kernel
theorem dL_refuses_505 : decode cL_refuses 505 = .ok (.iconst 0, 1) := by decide +kernel
theorem dL_refuses_506 : decode cL_refuses 506 = .ok (.invokestatic 66, 3) := by decide +kernel
theorem dL_refuses_509 : decode cL_refuses 509 = .ok (.sipush (-903), 3) := by decide +kernel
theorem dL_refuses_512 : decode cL_refuses 512 = .ok (.if_icmp .ne 22, 3) := by decide +kernel
theorem dL_refuses_515 : decode cL_refuses 515 = .ok (.aload_n 0, 1) := by decide +kernel
theorem dL_refuses_516 : decode cL_refuses 516 = .ok (.bipush 12, 2) := by decide +kernel
theorem dL_refuses_518 : decode cL_refuses 518 = .ok (.iconst 3, 1) := by decide +kernel
theorem dL_refuses_519 : decode cL_refuses 519 = .ok (.iconst 0, 1) := by decide +kernel
theorem dL_refuses_520 : decode cL_refuses 520 = .ok (.iconst 0, 1) := by decide +kernel
theorem dL_refuses_521 : decode cL_refuses 521 = .ok (.invokestatic 66, 3) := by decide +kernel
theorem dL_refuses_524 : decode cL_refuses 524 = .ok (.sipush (-903), 3) := by decide +kernel
theorem dL_refuses_527 : decode cL_refuses 527 = .ok (.if_icmp .ne 7, 3) := by decide +kernel
theorem dL_refuses_530 : decode cL_refuses 530 = .ok (.iconst 1, 1) := by decide +kernel
theorem dL_refuses_531 : decode cL_refuses 531 = .ok (.goto 4, 3) := by decide +kernel
theorem dL_refuses_534 : decode cL_refuses 534 = .ok (.iconst 0, 1) := by decide +kernel
theorem dL_refuses_535 : decode cL_refuses 535 = .ok (.istore 4, 2) := by decide +kernel
theorem dL_refuses_537 : decode cL_refuses 537 = .ok (.iload 4, 2) := by decide +kernel
theorem dL_refuses_539 : decode cL_refuses 539 = .ok (.ifCond .eq 23, 3) := by decide +kernel
theorem dL_refuses_542 : decode cL_refuses 542 = .ok (.aload_n 0, 1) := by decide +kernel
theorem dL_refuses_543 : decode cL_refuses 543 = .ok (.invokevirtual 59, 3) := by decide +kernel
theorem dL_refuses_546 : decode cL_refuses 546 = .ok (.iload_n 1, 1) := by decide +kernel
theorem dL_refuses_547 : decode cL_refuses 547 = .ok (.if_icmp .ne 15, 3) := by decide +kernel
theorem dL_refuses_550 : decode cL_refuses 550 = .ok (.aload_n 0, 1) := by decide +kernel
theorem dL_refuses_551 : decode cL_refuses 551 = .ok (.invokevirtual 62, 3) := by decide +kernel
theorem dL_refuses_554 : decode cL_refuses 554 = .ok (.iload_n 2, 1) := by decide +kernel
theorem dL_refuses_555 : decode cL_refuses 555 = .ok (.if_icmp .ne 7, 3) := by decide +kernel
theorem dL_refuses_558 : decode cL_refuses 558 = .ok (.iconst 1, 1) := by decide +kernel
theorem dL_refuses_559 : decode cL_refuses 559 = .ok (.goto 4, 3) := by decide +kernel
theorem dL_refuses_562 : decode cL_refuses 562 = .ok (.iconst 0, 1) := by decide +kernel
theorem dL_refuses_563 : decode cL_refuses 563 = .ok (.ireturn, 1) := by decide +kernel
set_option maxRecDepth 20000 in
theorem ggL_goes_X1_throwShells : GoodIn wsL_goes wsX1_throwShells := goodIn_ca (goodIn_ca (goodIn_r _ [5, 6, 7, 8, 9, 10, 11, 12, 13, 14, 15, 4, 16, 17, 18, 19, 20, 21, 22, 23, 24, 25, 26, 27, 28, 29, 30, 31, 32, 33, 34, 35, 36, 37, 38, 39, 40, 41, 42, 43, 44, 45, 46, 47, 48, 49, 50, 51, 52, 53, 54, 55, 56, 57, 58, 59, 60, 61, 62, 63, 64, 65, 66, 67, 68, 69, 70, 71, 72, 73, 74, 75, 76, 77, 78, 79, 80, 134, 135, 136, 137, 138, 139, 140, 141] (by decide +kernel) (by decide +kernel)) (goodIn_sub (fun _ h => List.mem_cons_of_mem _ (List.mem_append_left _ (List.mem_append_left _ (List.mem_append_right _ h)))) (by decide +kernel))) (goodIn_sub (fun _ h => List.mem_cons_of_mem _ (List.mem_append_left _ (List.mem_append_right _ h))) (by decide +kernel))
set_option maxRecDepth 20000 in
theorem gL_goes_X1_throwShells : GoodIn wsL_goes (wsV RL 7 RX1 yX1_throwShells wsX1_throwShells) := goodIn_app (goodIn_of _ (by decide +kernel)) ggL_goes_X1_throwShells
set_option maxRecDepth 20000 in
theorem ggL_goes_X1_phase : GoodIn wsL_goes wsX1_phase := goodIn_r _ [84, 12, 134, 135, 136, 137, 138, 139] (by decide +kernel) (by decide +kernel)
set_option maxRecDepth 20000 in
theorem gL_goes_X1_phase : GoodIn wsL_goes (wsV RL 59 RX1 yX1_phase wsX1_phase) := goodIn_app (goodIn_of _ (by decide +kernel)) ggL_goes_X1_phase
set_option maxRecDepth 20000 in
theorem ggL_goes_X1_movable : GoodIn wsL_goes wsX1_movable := goodIn_ca (goodIn_r _ [88, 9, 10, 11, 89, 90, 91, 4, 92, 17, 18, 12, 32, 33, 34, 35, 36, 37, 38, 39, 40, 41, 42, 43, 44, 45, 46, 47, 48, 49, 50, 51, 52, 53, 54, 55, 26, 27, 20, 21, 56, 57, 58, 59, 60, 61, 62, 63, 64, 65, 66, 67, 68, 69, 70, 71, 72, 73, 74, 75, 76, 77, 78, 79, 80, 134, 135, 136, 137, 138, 139, 140, 141] (by decide +kernel) (by decide +kernel)) (goodIn_sub (fun _ h => List.mem_cons_of_mem _ (List.mem_append_left _ (List.mem_append_right _ h))) (by decide +kernel))
set_option maxRecDepth 20000 in
theorem gL_goes_X1_movable : GoodIn wsL_goes (wsV RL 16 RX1 yX1_movable wsX1_movable) := goodIn_app (goodIn_of _ (by decide +kernel)) ggL_goes_X1_movable
set_option maxRecDepth 20000 in
theorem ggL_goes_X1_move : GoodIn wsL_goes wsX1_move := goodIn_ca (goodIn_ca (goodIn_r _ [96, 17, 18, 9, 10, 11, 97, 98, 4, 99, 100, 101, 89, 90, 91, 92, 12, 32, 33, 34, 35, 36, 37, 38, 39, 40, 41, 42, 43, 44, 45, 46, 47, 102, 53, 54, 55, 26, 27, 20, 21, 56, 57, 58, 59, 60, 61, 62, 63, 64, 65, 66, 67, 68, 69, 70, 71, 72, 73, 74, 75, 76, 77, 78, 79, 80, 103, 104, 105, 106, 107, 108, 109, 110, 111, 112, 113, 114, 115, 116, 117, 118, 119, 120, 121, 122, 123, 124, 125, 126, 127, 128, 129, 130, 131, 132, 133, 25, 28, 29, 30, 31, 8, 134, 135, 136, 137, 138, 139, 140, 141] (by decide +kernel) (by decide +kernel)) (goodIn_sub (fun _ h => List.mem_cons_of_mem _ (List.mem_append_left _ (List.mem_append_right _ h))) (by decide +kernel))) (goodIn_sub (fun _ h => List.mem_cons_of_mem _ (List.mem_append_right _ h)) (by decide +kernel))
set_option maxRecDepth 20000 in
theorem gL_goes_X1_move : GoodIn wsL_goes (wsV RL 13 RX1 yX1_move wsX1_move) := goodIn_app (goodIn_of _ (by decide +kernel)) ggL_goes_X1_move
theorem dL_goes_0 : decode cL_goes 0 = .ok (.iload_n 1, 1) := by decide +kernel
theorem dL_goes_1 : decode cL_goes 1 = .ok (.ifCond .ne 8, 3) := by decide +kernel
theorem dL_goes_4 : decode cL_goes 4 = .ok (.bipush 25, 2) := by decide +kernel
theorem dL_goes_6 : decode cL_goes 6 = .ok (.goto 14, 3) := by decide +kernel
theorem dL_goes_9 : decode cL_goes 9 = .ok (.iload_n 1, 1) := by decide +kernel
theorem dL_goes_10 : decode cL_goes 10 = .ok (.iconst 1, 1) := by decide +kernel
theorem dL_goes_11 : decode cL_goes 11 = .ok (.if_icmp .ne 8, 3) := by decide +kernel
theorem dL_goes_14 : decode cL_goes 14 = .ok (.bipush 10, 2) := by decide +kernel
theorem dL_goes_16 : decode cL_goes 16 = .ok (.goto 4, 3) := by decide +kernel
theorem dL_goes_19 : decode cL_goes 19 = .ok (.iload_n 1, 1) := by decide +kernel
theorem dL_goes_20 : decode cL_goes 20 = .ok (.istore 5, 2) := by decide +kernel
theorem dL_goes_22 : decode cL_goes 22 = .ok (.aload_n 0, 1) := by decide +kernel
theorem dL_goes_23 : decode cL_goes 23 = .ok (.iload_n 1, 1) := by decide +kernel
theorem dL_goes_24 : decode cL_goes 24 = .ok (.invokevirtual 7, 3) := by decide +kernel
theorem dL_goes_27 : decode cL_goes 27 = .ok (.iload 5, 2) := by decide +kernel
theorem dL_goes_29 : decode cL_goes 29 = .ok (.if_icmp .ne 33, 3) := by decide +kernel
theorem dL_goes_32 : decode cL_goes 32 = .ok (.aload_n 0, 1) := by decide +kernel
theorem dL_goes_33 : decode cL_goes 33 = .ok (.invokevirtual 59, 3) := by decide +kernel
theorem dL_goes_36 : decode cL_goes 36 = .ok (.iconst 1, 1) := by decide +kernel
theorem dL_goes_37 : decode cL_goes 37 = .ok (.if_icmp .ne 25, 3) := by decide +kernel
theorem dL_goes_40 : decode cL_goes 40 = .ok (.aload_n 0, 1) := by decide +kernel
theorem dL_goes_41 : decode cL_goes 41 = .ok (.invokevirtual 16, 3) := by decide +kernel
theorem dL_goes_44 : decode cL_goes 44 = .ok (.iload_n 2, 1) := by decide +kernel
theorem dL_goes_45 : decode cL_goes 45 = .ok (.if_icmp .ne 17, 3) := by decide +kernel
theorem dL_goes_48 : decode cL_goes 48 = .ok (.aload_n 0, 1) := by decide +kernel
theorem dL_goes_49 : decode cL_goes 49 = .ok (.iload_n 3, 1) := by decide +kernel
theorem dL_goes_50 : decode cL_goes 50 = .ok (.invokevirtual 13, 3) := by decide +kernel
theorem dL_goes_53 : decode cL_goes 53 = .ok (.iload 4, 2) := by decide +kernel
theorem dL_goes_55 : decode cL_goes 55 = .ok (.if_icmp .ne 7, 3) := by decide +kernel
theorem dL_goes_58 : decode cL_goes 58 = .ok (.iconst 1, 1) := by decide +kernel
theorem dL_goes_59 : decode cL_goes 59 = .ok (.goto 4, 3) := by decide +kernel
theorem dL_goes_62 : decode cL_goes 62 = .ok (.iconst 0, 1) := by decide +kernel
theorem dL_goes_63 : decode cL_goes 63 = .ok (.ireturn, 1) := by decide +kernel
set_option maxRecDepth 20000 in
theorem ggL_loses_X1_onTurn : GoodIn wsL_loses wsX1_onTurn := goodIn_r _ [5, 6, 85, 86, 87, 88, 89, 90] (by decide +kernel) (by decide +kernel)
set_option maxRecDepth 20000 in
theorem gL_loses_X1_onTurn : GoodIn wsL_loses (wsV RL 62 RX1 yX1_onTurn wsX1_onTurn) := goodIn_app (goodIn_of _ (by decide +kernel)) ggL_loses_X1_onTurn
set_option maxRecDepth 20000 in
theorem ggL_loses_X1_throwShells : GoodIn wsL_loses wsX1_throwShells := goodIn_ca (goodIn_ca (goodIn_r _ [10, 11, 12, 13, 14, 6, 15, 16, 17, 18, 19, 4, 20, 21, 22, 23, 24, 25, 26, 27, 28, 29, 30, 31, 32, 33, 34, 35, 36, 37, 38, 39, 40, 41, 42, 43, 44, 45, 46, 47, 48, 49, 50, 51, 52, 53, 54, 55, 56, 57, 58, 59, 60, 61, 62, 63, 64, 65, 66, 67, 68, 69, 70, 71, 72, 73, 74, 75, 76, 77, 78, 79, 80, 81, 82, 83, 84, 85, 86, 87, 88, 89, 90, 91, 92] (by decide +kernel) (by decide +kernel)) (goodIn_sub (fun _ h => List.mem_cons_of_mem _ (List.mem_append_left _ (List.mem_append_right _ h))) (by decide +kernel))) (goodIn_sub (fun _ h => List.mem_cons_of_mem _ (List.mem_append_right _ h)) (by decide +kernel))
set_option maxRecDepth 20000 in
theorem gL_loses_X1_throwShells : GoodIn wsL_loses (wsV RL 7 RX1 yX1_throwShells wsX1_throwShells) := goodIn_app (goodIn_of _ (by decide +kernel)) ggL_loses_X1_throwShells
theorem dL_loses_0 : decode cL_loses 0 = .ok (.aload_n 0, 1) := by decide +kernel
theorem dL_loses_1 : decode cL_loses 1 = .ok (.invokevirtual 62, 3) := by decide +kernel
theorem dL_loses_4 : decode cL_loses 4 = .ok (.iload_n 1, 1) := by decide +kernel
theorem dL_loses_5 : decode cL_loses 5 = .ok (.if_icmp .ne 29, 3) := by decide +kernel
theorem dL_loses_8 : decode cL_loses 8 = .ok (.aload_n 0, 1) := by decide +kernel
theorem dL_loses_9 : decode cL_loses 9 = .ok (.iconst 2, 1) := by decide +kernel
theorem dL_loses_10 : decode cL_loses 10 = .ok (.invokevirtual 7, 3) := by decide +kernel
theorem dL_loses_13 : decode cL_loses 13 = .ok (.bipush (-2), 2) := by decide +kernel
theorem dL_loses_15 : decode cL_loses 15 = .ok (.if_icmp .ne 19, 3) := by decide +kernel
theorem dL_loses_18 : decode cL_loses 18 = .ok (.aload_n 0, 1) := by decide +kernel
theorem dL_loses_19 : decode cL_loses 19 = .ok (.invokevirtual 62, 3) := by decide +kernel
theorem dL_loses_22 : decode cL_loses 22 = .ok (.iload_n 1, 1) := by decide +kernel
theorem dL_loses_23 : decode cL_loses 23 = .ok (.iconst 1, 1) := by decide +kernel
theorem dL_loses_24 : decode cL_loses 24 = .ok (.iadd, 1) := by decide +kernel
theorem dL_loses_25 : decode cL_loses 25 = .ok (.iconst 4, 1) := by decide +kernel
theorem dL_loses_26 : decode cL_loses 26 = .ok (.irem, 1) := by decide +kernel
theorem dL_loses_27 : decode cL_loses 27 = .ok (.if_icmp .ne 7, 3) := by decide +kernel
theorem dL_loses_30 : decode cL_loses 30 = .ok (.iconst 1, 1) := by decide +kernel
theorem dL_loses_31 : decode cL_loses 31 = .ok (.goto 4, 3) := by decide +kernel
theorem dL_loses_34 : decode cL_loses 34 = .ok (.iconst 0, 1) := by decide +kernel
theorem dL_loses_35 : decode cL_loses 35 = .ok (.ireturn, 1) := by decide +kernel
set_option maxRecDepth 20000 in
theorem ggL_captures_X1_init : GoodIn wsL_captures wsX1_init := goodIn_r _ [6, 7, 8, 9, 10, 11, 12, 13, 14, 15, 16, 17, 18, 19, 20, 21, 22, 23, 24, 25, 280, 281, 274, 275, 276, 277, 278, 279] (by decide +kernel) (by decide +kernel)
set_option maxRecDepth 20000 in
theorem gL_captures_X1_init : GoodIn wsL_captures (wsX1_init) := ggL_captures_X1_init
set_option maxRecDepth 20000 in
theorem ggL_captures_X1_phase : GoodIn wsL_captures wsX1_phase := goodIn_r _ [29, 18, 274, 275, 276, 277, 278, 279] (by decide +kernel) (by decide +kernel)
set_option maxRecDepth 20000 in
theorem gL_captures_X1_phase : GoodIn wsL_captures (wsV RL 59 RX1 yX1_phase wsX1_phase) := goodIn_app (goodIn_of _ (by decide +kernel)) ggL_captures_X1_phase
set_option maxRecDepth 20000 in
theorem ggL_captures_X1_onTurn : GoodIn wsL_captures wsX1_onTurn := goodIn_r _ [33, 16, 274, 275, 276, 277, 278, 279] (by decide +kernel) (by decide +kernel)
set_option maxRecDepth 20000 in
theorem gL_captures_X1_onTurn : GoodIn wsL_captures (wsV RL 62 RX1 yX1_onTurn wsX1_onTurn) := goodIn_app (goodIn_of _ (by decide +kernel)) ggL_captures_X1_onTurn
set_option maxRecDepth 20000 in
theorem ggL_captures_X1_mover : GoodIn wsL_captures wsX1_mover := goodIn_r _ [37, 13, 16, 38, 39, 40, 12, 41, 42, 43, 44, 45, 46, 47, 48, 49, 24, 50, 3, 51, 274, 275, 276, 277, 278, 279, 280, 281] (by decide +kernel) (by decide +kernel)
set_option maxRecDepth 20000 in
theorem gL_captures_X1_mover : GoodIn wsL_captures (wsV RL 73 RX1 yX1_mover wsX1_mover) := goodIn_app (goodIn_of _ (by decide +kernel)) ggL_captures_X1_mover
set_option maxRecDepth 20000 in
theorem ggL_captures_X1_graces : GoodIn wsL_captures wsX1_graces := goodIn_r _ [55, 17, 274, 275, 276, 277, 278, 279] (by decide +kernel) (by decide +kernel)
set_option maxRecDepth 20000 in
theorem gL_captures_X1_graces : GoodIn wsL_captures (wsV RL 76 RX1 yX1_graces wsX1_graces) := goodIn_app (goodIn_of _ (by decide +kernel)) ggL_captures_X1_graces
set_option maxRecDepth 20000 in
theorem ggL_captures_X1_winner : GoodIn wsL_captures wsX1_winner := goodIn_r _ [59, 18, 16, 60, 61, 3, 62, 274, 275, 276, 277, 278, 279] (by decide +kernel) (by decide +kernel)
set_option maxRecDepth 20000 in
theorem gL_captures_X1_winner : GoodIn wsL_captures (wsV RL 79 RX1 yX1_winner wsX1_winner) := goodIn_app (goodIn_of _ (by decide +kernel)) ggL_captures_X1_winner
set_option maxRecDepth 20000 in
theorem ggL_captures_X1_distance : GoodIn wsL_captures wsX1_distance := goodIn_ca (goodIn_r _ [66, 13, 67, 68, 3, 69, 70, 71, 72, 73, 74, 12, 75, 46, 47, 48, 49, 24, 274, 275, 276, 277, 278, 279, 280, 281] (by decide +kernel) (by decide +kernel)) (goodIn_sub (fun _ h => List.mem_cons_of_mem _ (List.mem_append_left _ (List.mem_append_left _ (List.mem_append_right _ h)))) (by decide +kernel))
set_option maxRecDepth 20000 in
theorem gL_captures_X1_distance : GoodIn wsL_captures (wsV RL 40 RX1 yX1_distance wsX1_distance) := goodIn_app (goodIn_of _ (by decide +kernel)) ggL_captures_X1_distance
set_option maxRecDepth 20000 in
theorem ggL_captures_X1_square : GoodIn wsL_captures wsX1_square := goodIn_ca (goodIn_r _ [79, 13, 80, 81, 3, 82, 83, 84, 85, 86, 87, 88, 47, 48, 12, 49, 24, 89, 90, 91, 92, 274, 275, 276, 277, 278, 279, 280, 281] (by decide +kernel) (by decide +kernel)) (goodIn_sub (fun _ h => List.mem_cons_of_mem _ (List.mem_append_left _ (List.mem_append_right _ h))) (by decide +kernel))
set_option maxRecDepth 20000 in
theorem gL_captures_X1_square : GoodIn wsL_captures (wsV RL 24 RX1 yX1_square wsX1_square) := goodIn_app (goodIn_of _ (by decide +kernel)) ggL_captures_X1_square
set_option maxRecDepth 20000 in
theorem ggL_captures_X1_ways : GoodIn wsL_captures wsX1_ways := goodIn_ca (goodIn_ca (goodIn_r _ [96, 70, 71, 13, 16, 17, 97, 98, 99, 3, 100, 101, 102, 18, 38, 39, 40, 12, 41, 42, 43, 44, 45, 46, 47, 48, 49, 24, 50, 51, 103, 104, 105, 106, 107, 108, 109, 110, 111, 112, 113, 114, 115, 116, 117, 118, 119, 120, 121, 122, 123, 124, 125, 126, 127, 90, 91, 92, 128, 129, 130, 131, 132, 133, 25, 134, 135, 136, 137, 138, 139, 140, 141, 142, 143, 144, 145, 146, 147, 274, 275, 276, 277, 278, 279, 280, 281] (by decide +kernel) (by decide +kernel)) (goodIn_sub (fun _ h => List.mem_cons_of_mem _ (List.mem_append_left _ (List.mem_append_left _ (List.mem_append_right _ h)))) (by decide +kernel))) (goodIn_sub (fun _ h => List.mem_cons_of_mem _ (List.mem_append_right _ h)) (by decide +kernel))
set_option maxRecDepth 20000 in
theorem gL_captures_X1_ways : GoodIn wsL_captures (wsV RL 43 RX1 yX1_ways wsX1_ways) := goodIn_app (goodIn_of _ (by decide +kernel)) ggL_captures_X1_ways
set_option maxRecDepth 20000 in
theorem ggL_captures_X1_captureChance : GoodIn wsL_captures wsX1_captureChance := goodIn_ca (goodIn_ca (goodIn_r _ [151, 70, 71, 17, 97, 98, 99, 3, 100, 101, 102, 18, 152, 153, 154, 155, 144, 145, 146, 147, 156, 157, 158, 159, 13, 16, 103, 104, 105, 106, 107, 108, 38, 39, 40, 12, 41, 42, 43, 44, 45, 46, 47, 48, 49, 24, 50, 51, 109, 110, 111, 112, 113, 114, 115, 116, 117, 118, 119, 120, 121, 122, 123, 124, 125, 126, 127, 90, 91, 92, 128, 129, 130, 131, 132, 133, 25, 134, 135, 136, 137, 138, 139, 140, 141, 142, 143, 160, 161, 162, 163, 164, 165, 166, 167, 168, 169, 170, 171, 172, 173, 174, 88, 175, 176, 177, 178, 61, 62, 179, 180, 181, 182, 274, 275, 276, 277, 278, 279, 280, 281] (by decide +kernel) (by decide +kernel)) (goodIn_sub (fun _ h => List.mem_cons_of_mem _ (List.mem_append_left _ (List.mem_append_left _ (List.mem_append_right _ h)))) (by decide +kernel))) (goodIn_sub (fun _ h => List.mem_cons_of_mem _ (List.mem_append_right _ h)) (by decide +kernel))
set_option maxRecDepth 20000 in
theorem gL_captures_X1_captureChance : GoodIn wsL_captures (wsV RL 50 RX1 yX1_captureChance wsX1_captureChance) := goodIn_app (goodIn_of _ (by decide +kernel)) ggL_captures_X1_captureChance
set_option maxRecDepth 20000 in
theorem ggL_captures_L_refuses : GoodIn wsL_captures wsL_refuses := goodIn_ca (goodIn_ca (goodIn_ca (goodIn_r _ [186, 187, 26, 27, 28, 3, 29, 18, 30, 31, 32, 33, 16, 188, 189, 185, 190, 191, 192, 193, 194, 195, 196, 197, 70, 71, 17, 13, 19, 97, 98, 99, 100, 101, 102, 198, 117, 118, 103, 104, 105, 106, 107, 108, 199, 200, 201, 202, 38, 39, 40, 12, 41, 42, 43, 44, 45, 46, 47, 48, 49, 24, 50, 51, 170, 171, 172, 173, 113, 114, 115, 116, 119, 120, 121, 122, 123, 124, 125, 126, 127, 90, 91, 92, 128, 129, 130, 131, 132, 133, 25, 134, 135, 136, 137, 138, 139, 203, 204, 205, 206, 85, 86, 87, 83, 84, 207, 208, 209, 210, 174, 211, 212, 89, 213, 214, 215, 216, 217, 176, 177, 178, 61, 62, 179, 180, 181, 182, 218, 219, 220, 221, 15, 175, 222, 223, 224, 225, 226, 227, 228, 229, 230, 231, 232, 233, 234, 235, 236, 237, 80, 81, 82, 88, 76, 77, 78, 79, 238, 239, 240, 241, 242, 243, 244, 67, 68, 69, 245, 246, 247, 248, 249, 250, 251, 252, 253, 254, 255, 256, 257, 258, 259, 63, 64, 65, 66, 72, 73, 74, 75, 93, 94, 95, 96, 109, 110, 111, 112, 140, 141, 142, 143, 144, 145, 146, 147, 260, 261, 262, 263, 60, 264, 265, 266, 267, 148, 149, 150, 151, 152, 153, 154, 155, 156, 157, 158, 159, 160, 161, 162, 163, 164, 165, 166, 167, 168, 169, 274, 275, 276, 277, 278, 279, 280, 281] (by decide +kernel) (by decide +kernel)) (goodIn_sub (fun _ h => List.mem_cons_of_mem _ (List.mem_append_left _ (List.mem_append_left _ (List.mem_append_right _ h)))) (by decide +kernel))) (goodIn_sub (fun _ h => List.mem_cons_of_mem _ (List.mem_append_right _ h)) (by decide +kernel))) (goodIn_sub (fun _ h => List.mem_cons_of_mem _ (List.mem_append_left _ (List.mem_append_right _ h))) (by decide +kernel))
set_option maxRecDepth 20000 in
theorem gL_captures_L_refuses : GoodIn wsL_captures (va_wsS RL 82 yL_refuses wsL_refuses) := goodIn_app (goodIn_of _ (by decide +kernel)) ggL_captures_L_refuses
set_option maxRecDepth 20000 in
theorem ggL_captures_X1_throwShells : GoodIn wsL_captures wsX1_throwShells := goodIn_ca (goodIn_ca (goodIn_r _ [197, 70, 71, 17, 13, 16, 19, 18, 97, 98, 99, 3, 100, 101, 102, 198, 117, 118, 103, 104, 105, 106, 107, 108, 199, 200, 201, 202, 38, 39, 40, 12, 41, 42, 43, 44, 45, 46, 47, 48, 49, 24, 50, 51, 170, 171, 172, 173, 113, 114, 115, 116, 119, 120, 121, 122, 123, 124, 125, 126, 127, 90, 91, 92, 128, 129, 130, 131, 132, 133, 25, 134, 135, 136, 137, 138, 139, 274, 275, 276, 277, 278, 279, 280, 281] (by decide +kernel) (by decide +kernel)) (goodIn_sub (fun _ h => List.mem_cons_of_mem _ (List.mem_append_left _ (List.mem_append_left _ (List.mem_append_right _ h)))) (by decide +kernel))) (goodIn_sub (fun _ h => List.mem_cons_of_mem _ (List.mem_append_right _ h)) (by decide +kernel))
set_option maxRecDepth 20000 in
theorem gL_captures_X1_throwShells : GoodIn wsL_captures (wsV RL 7 RX1 yX1_throwShells wsX1_throwShells) := goodIn_app (goodIn_of _ (by decide +kernel)) ggL_captures_X1_throwShells
set_option maxRecDepth 20000 in
theorem ggL_captures_X1_movable : GoodIn wsL_captures wsX1_movable := goodIn_ca (goodIn_r _ [233, 13, 16, 19, 207, 208, 209, 3, 210, 101, 102, 18, 38, 39, 40, 12, 41, 42, 43, 44, 45, 46, 47, 48, 49, 24, 50, 51, 170, 171, 172, 173, 113, 114, 115, 116, 107, 108, 117, 118, 119, 120, 121, 122, 123, 124, 125, 126, 127, 90, 91, 92, 128, 129, 130, 131, 132, 133, 25, 134, 135, 136, 137, 138, 139, 274, 275, 276, 277, 278, 279, 280, 281] (by decide +kernel) (by decide +kernel)) (goodIn_sub (fun _ h => List.mem_cons_of_mem _ (List.mem_append_right _ h)) (by decide +kernel))
set_option maxRecDepth 20000 in
theorem gL_captures_X1_movable : GoodIn wsL_captures (wsV RL 16 RX1 yX1_movable wsX1_movable) := goodIn_app (goodIn_of _ (by decide +kernel)) ggL_captures_X1_movable
set_option maxRecDepth 20000 in
theorem ggL_captures_X1_move : GoodIn wsL_captures wsX1_move := goodIn_ca (goodIn_ca (goodIn_r _ [206, 101, 102, 13, 16, 19, 85, 86, 3, 87, 83, 84, 207, 208, 209, 210, 18, 38, 39, 40, 12, 41, 42, 43, 44, 45, 46, 47, 48, 49, 24, 50, 51, 174, 114, 115, 116, 107, 108, 117, 118, 119, 120, 121, 122, 123, 124, 125, 126, 127, 90, 91, 92, 128, 129, 130, 131, 132, 133, 25, 134, 135, 136, 137, 138, 139, 211, 212, 89, 213, 214, 215, 216, 217, 176, 177, 178, 61, 62, 179, 180, 181, 182, 218, 219, 220, 221, 15, 175, 222, 223, 224, 225, 226, 227, 228, 229, 106, 199, 200, 201, 202, 17, 274, 275, 276, 277, 278, 279, 280, 281] (by decide +kernel) (by decide +kernel)) (goodIn_sub (fun _ h => List.mem_cons_of_mem _ (List.mem_append_right _ h)) (by decide +kernel))) (goodIn_sub (fun _ h => List.mem_cons_of_mem _ (List.mem_append_left _ (List.mem_append_right _ h))) (by decide +kernel))
set_option maxRecDepth 20000 in
theorem gL_captures_X1_move : GoodIn wsL_captures (wsV RL 13 RX1 yX1_move wsX1_move) := goodIn_app (goodIn_of _ (by decide +kernel)) ggL_captures_X1_move
set_option maxRecDepth 20000 in
theorem ggL_captures_X1_isSafe : GoodIn wsL_captures wsX1_isSafe := goodIn_ca (goodIn_r _ [249, 242, 243, 3, 244, 83, 84, 250, 138, 139] (by decide +kernel) (by decide +kernel)) (goodIn_sub (fun _ h => List.mem_cons_of_mem _ (List.mem_append_left _ (List.mem_append_right _ h))) (by decide +kernel))
set_option maxRecDepth 20000 in
theorem gL_captures_X1_isSafe : GoodIn wsL_captures (wsV RL 30 RX1 yX1_isSafe wsX1_isSafe) := goodIn_app (goodIn_of _ (by decide +kernel)) ggL_captures_X1_isSafe
set_option maxRecDepth 20000 in
theorem ggL_captures_X1_standing : GoodIn wsL_captures wsX1_standing := goodIn_ca (goodIn_ca (goodIn_r _ [241, 13, 242, 243, 3, 244, 83, 84, 67, 68, 69, 70, 71, 245, 131, 132, 12, 133, 25, 274, 275, 276, 277, 278, 279, 280, 281] (by decide +kernel) (by decide +kernel)) (goodIn_sub (fun _ h => List.mem_cons_of_mem _ (List.mem_append_left _ (List.mem_append_right _ h))) (by decide +kernel))) (goodIn_sub (fun _ h => List.mem_cons_of_mem _ (List.mem_append_left _ (List.mem_append_left _ (List.mem_append_right _ h)))) (by decide +kernel))
set_option maxRecDepth 20000 in
theorem gL_captures_X1_standing : GoodIn wsL_captures (wsV RL 27 RX1 yX1_standing wsX1_standing) := goodIn_app (goodIn_of _ (by decide +kernel)) ggL_captures_X1_standing
set_option maxRecDepth 20000 in
theorem ggL_captures_L_goes : GoodIn wsL_captures wsL_goes := goodIn_ca (goodIn_ca (goodIn_ca (goodIn_r _ [270, 194, 195, 196, 3, 197, 70, 71, 17, 13, 16, 19, 18, 97, 98, 99, 100, 101, 102, 198, 117, 118, 103, 104, 105, 106, 107, 108, 199, 200, 201, 202, 38, 39, 40, 12, 41, 42, 43, 44, 45, 46, 47, 48, 49, 24, 50, 51, 170, 171, 172, 173, 113, 114, 115, 116, 119, 120, 121, 122, 123, 124, 125, 126, 127, 90, 91, 92, 128, 129, 130, 131, 132, 133, 25, 134, 135, 136, 137, 138, 139, 26, 27, 28, 29, 230, 231, 232, 233, 207, 208, 209, 210, 203, 204, 205, 206, 85, 86, 87, 83, 84, 174, 211, 212, 89, 213, 214, 215, 216, 217, 176, 177, 178, 61, 62, 179, 180, 181, 182, 218, 219, 220, 221, 15, 175, 222, 223, 224, 225, 226, 227, 228, 229, 274, 275, 276, 277, 278, 279, 280, 281] (by decide +kernel) (by decide +kernel)) (goodIn_sub (fun _ h => List.mem_cons_of_mem _ (List.mem_append_left _ (List.mem_append_left _ (List.mem_append_right _ h)))) (by decide +kernel))) (goodIn_sub (fun _ h => List.mem_cons_of_mem _ (List.mem_append_right _ h)) (by decide +kernel))) (goodIn_sub (fun _ h => List.mem_cons_of_mem _ (List.mem_append_left _ (List.mem_append_right _ h))) (by decide +kernel))
set_option maxRecDepth 20000 in
theorem gL_captures_L_goes : GoodIn wsL_captures (va_wsS RL 86 yL_goes wsL_goes) := goodIn_app (goodIn_of _ (by decide +kernel)) ggL_captures_L_goes
set_option maxRecDepth 20000 in
theorem ggL_captures_L_loses : GoodIn wsL_captures wsL_loses := goodIn_ca (goodIn_ca (goodIn_r _ [273, 30, 31, 32, 3, 33, 16, 194, 195, 196, 197, 70, 71, 17, 13, 19, 18, 97, 98, 99, 100, 101, 102, 198, 117, 118, 103, 104, 105, 106, 107, 108, 199, 200, 201, 202, 38, 39, 40, 12, 41, 42, 43, 44, 45, 46, 47, 48, 49, 24, 50, 51, 170, 171, 172, 173, 113, 114, 115, 116, 119, 120, 121, 122, 123, 124, 125, 126, 127, 90, 91, 92, 128, 129, 130, 131, 132, 133, 25, 134, 135, 136, 137, 138, 139, 274, 275, 276, 277, 278, 279, 280, 281] (by decide +kernel) (by decide +kernel)) (goodIn_sub (fun _ h => List.mem_cons_of_mem _ (List.mem_append_left _ (List.mem_append_left _ (List.mem_append_right _ h)))) (by decide +kernel))) (goodIn_sub (fun _ h => List.mem_cons_of_mem _ (List.mem_append_right _ h)) (by decide +kernel))
set_option maxRecDepth 20000 in
theorem gL_captures_L_loses : GoodIn wsL_captures (va_wsS RL 90 yL_loses wsL_loses) := goodIn_app (goodIn_of _ (by decide +kernel)) ggL_captures_L_loses
set_option maxRecDepth 20000 in
theorem ggL_captures_X1_threat : GoodIn wsL_captures wsX1_threat := goodIn_ca (goodIn_ca (goodIn_r _ [263, 70, 71, 13, 80, 81, 3, 82, 83, 84, 85, 86, 87, 60, 61, 62, 88, 47, 48, 12, 49, 24, 89, 90, 91, 92, 38, 39, 40, 41, 42, 43, 44, 45, 46, 50, 51, 264, 265, 266, 267, 113, 114, 115, 116, 107, 108, 117, 118, 119, 120, 121, 122, 123, 124, 125, 126, 127, 128, 129, 130, 131, 132, 133, 25, 134, 135, 136, 137, 138, 139, 144, 145, 146, 147, 274, 275, 276, 277, 278, 279, 280, 281] (by decide +kernel) (by decide +kernel)) (goodIn_sub (fun _ h => List.mem_cons_of_mem _ (List.mem_append_left _ (List.mem_append_left _ (List.mem_append_right _ h)))) (by decide +kernel))) (goodIn_sub (fun _ h => List.mem_cons_of_mem _ (List.mem_append_left _ (List.mem_append_right _ h))) (by decide +kernel))
set_option maxRecDepth 20000 in
theorem gL_captures_X1_threat : GoodIn wsL_captures (wsV RL 46 RX1 yX1_threat wsX1_threat) := goodIn_app (goodIn_of _ (by decide +kernel)) ggL_captures_X1_threat
set_option maxRecDepth 20000 in
theorem ggL_captures_X1_position : GoodIn wsL_captures wsX1_position := goodIn_ca (goodIn_r _ [237, 13, 80, 81, 3, 82, 83, 84, 85, 86, 87, 88, 47, 48, 12, 49, 24, 274, 275, 276, 277, 278, 279, 280, 281] (by decide +kernel) (by decide +kernel)) (goodIn_sub (fun _ h => List.mem_cons_of_mem _ (List.mem_append_left _ (List.mem_append_right _ h))) (by decide +kernel))
set_option maxRecDepth 20000 in
theorem gL_captures_X1_position : GoodIn wsL_captures (wsV RL 20 RX1 yX1_position wsX1_position) := goodIn_app (goodIn_of _ (by decide +kernel)) ggL_captures_X1_position
set_option maxRecDepth 20000 in
theorem ggL_captures_X1_captures : GoodIn wsL_captures wsX1_captures := goodIn_ca (goodIn_r _ [259, 15, 80, 81, 3, 82, 83, 84, 274, 275, 276, 277, 278, 279] (by decide +kernel) (by decide +kernel)) (goodIn_sub (fun _ h => List.mem_cons_of_mem _ (List.mem_append_left _ (List.mem_append_right _ h))) (by decide +kernel))
set_option maxRecDepth 20000 in
theorem gL_captures_X1_captures : GoodIn wsL_captures (wsV RL 37 RX1 yX1_captures wsX1_captures) := goodIn_app (goodIn_of _ (by decide +kernel)) ggL_captures_X1_captures
theorem dL_captures_0 : decode cL_captures 0 = .ok (.new 8, 3) := by decide +kernel
theorem dL_captures_3 : decode cL_captures 3 = .ok (.dup, 1) := by decide +kernel
theorem dL_captures_4 : decode cL_captures 4 = .ok (.invokespecial 72, 3) := by decide +kernel
theorem dL_captures_7 : decode cL_captures 7 = .ok (.astore_n 0, 1) := by decide +kernel
theorem dL_captures_8 : decode cL_captures 8 = .ok (.aload_n 0, 1) := by decide +kernel
theorem dL_captures_9 : decode cL_captures 9 = .ok (.invokevirtual 59, 3) := by decide +kernel
theorem dL_captures_12 : decode cL_captures 12 = .ok (.ifCond .ne 229, 3) := by decide +kernel
theorem dL_captures_15 : decode cL_captures 15 = .ok (.aload_n 0, 1) := by decide +kernel
theorem dL_captures_16 : decode cL_captures 16 = .ok (.invokevirtual 62, 3) := by decide +kernel
theorem dL_captures_19 : decode cL_captures 19 = .ok (.ifCond .ne 222, 3) := by decide +kernel
theorem dL_captures_22 : decode cL_captures 22 = .ok (.aload_n 0, 1) := by decide +kernel
theorem dL_captures_23 : decode cL_captures 23 = .ok (.invokevirtual 73, 3) := by decide +kernel
theorem dL_captures_26 : decode cL_captures 26 = .ok (.ifCond .ne 215, 3) := by decide +kernel
theorem dL_captures_29 : decode cL_captures 29 = .ok (.aload_n 0, 1) := by decide +kernel
theorem dL_captures_30 : decode cL_captures 30 = .ok (.invokevirtual 76, 3) := by decide +kernel
theorem dL_captures_33 : decode cL_captures 33 = .ok (.ifCond .ne 208, 3) := by decide +kernel
theorem dL_captures_36 : decode cL_captures 36 = .ok (.aload_n 0, 1) := by decide +kernel
theorem dL_captures_37 : decode cL_captures 37 = .ok (.invokevirtual 79, 3) := by decide +kernel
theorem dL_captures_40 : decode cL_captures 40 = .ok (.iconst (-1), 1) := by decide +kernel
theorem dL_captures_41 : decode cL_captures 41 = .ok (.if_icmp .ne 200, 3) := by decide +kernel
theorem dL_captures_44 : decode cL_captures 44 = .ok (.aload_n 0, 1) := by decide +kernel
theorem dL_captures_45 : decode cL_captures 45 = .ok (.iconst 0, 1) := by decide +kernel
theorem dL_captures_46 : decode cL_captures 46 = .ok (.invokevirtual 40, 3) := by decide +kernel
theorem dL_captures_49 : decode cL_captures 49 = .ok (.sipush 576, 3) := by decide +kernel
theorem dL_captures_52 : decode cL_captures 52 = .ok (.if_icmp .ne 189, 3) := by decide +kernel
theorem dL_captures_55 : decode cL_captures 55 = .ok (.aload_n 0, 1) := by decide +kernel
theorem dL_captures_56 : decode cL_captures 56 = .ok (.iconst 0, 1) := by decide +kernel
theorem dL_captures_57 : decode cL_captures 57 = .ok (.iconst 0, 1) := by decide +kernel
theorem dL_captures_58 : decode cL_captures 58 = .ok (.invokevirtual 24, 3) := by decide +kernel
theorem dL_captures_61 : decode cL_captures 61 = .ok (.iconst (-1), 1) := by decide +kernel
theorem dL_captures_62 : decode cL_captures 62 = .ok (.if_icmp .ne 179, 3) := by decide +kernel
theorem dL_captures_65 : decode cL_captures 65 = .ok (.aload_n 0, 1) := by decide +kernel
theorem dL_captures_66 : decode cL_captures 66 = .ok (.iconst 0, 1) := by decide +kernel
theorem dL_captures_67 : decode cL_captures 67 = .ok (.invokevirtual 43, 3) := by decide +kernel
theorem dL_captures_70 : decode cL_captures 70 = .ok (.bipush 8, 2) := by decide +kernel
theorem dL_captures_72 : decode cL_captures 72 = .ok (.if_icmp .ne 169, 3) := by decide +kernel
theorem dL_captures_75 : decode cL_captures 75 = .ok (.aload_n 0, 1) := by decide +kernel
theorem dL_captures_76 : decode cL_captures 76 = .ok (.iconst 1, 1) := by decide +kernel
theorem dL_captures_77 : decode cL_captures 77 = .ok (.invokevirtual 43, 3) := by decide +kernel
theorem dL_captures_80 : decode cL_captures 80 = .ok (.ifCond .ne 161, 3) := by decide +kernel
theorem dL_captures_83 : decode cL_captures 83 = .ok (.aload_n 0, 1) := by decide +kernel
theorem dL_captures_84 : decode cL_captures 84 = .ok (.iconst 2, 1) := by decide +kernel
theorem dL_captures_85 : decode cL_captures 85 = .ok (.invokevirtual 43, 3) := by decide +kernel
theorem dL_captures_88 : decode cL_captures 88 = .ok (.ifCond .ne 153, 3) := by decide +kernel
theorem dL_captures_91 : decode cL_captures 91 = .ok (.aload_n 0, 1) := by decide +kernel
theorem dL_captures_92 : decode cL_captures 92 = .ok (.iconst 3, 1) := by decide +kernel
theorem dL_captures_93 : decode cL_captures 93 = .ok (.invokevirtual 43, 3) := by decide +kernel
theorem dL_captures_96 : decode cL_captures 96 = .ok (.bipush 8, 2) := by decide +kernel
theorem dL_captures_98 : decode cL_captures 98 = .ok (.if_icmp .ne 143, 3) := by decide +kernel
theorem dL_captures_101 : decode cL_captures 101 = .ok (.aload_n 0, 1) := by decide +kernel
theorem dL_captures_102 : decode cL_captures 102 = .ok (.iconst 3, 1) := by decide +kernel
theorem dL_captures_103 : decode cL_captures 103 = .ok (.invokevirtual 50, 3) := by decide +kernel
theorem dL_captures_106 : decode cL_captures 106 = .ok (.ifCond .ne 135, 3) := by decide +kernel
theorem dL_captures_109 : decode cL_captures 109 = .ok (.aload_n 0, 1) := by decide +kernel
theorem dL_captures_110 : decode cL_captures 110 = .ok (.invokestatic 82, 3) := by decide +kernel
theorem dL_captures_113 : decode cL_captures 113 = .ok (.ifCond .eq 128, 3) := by decide +kernel
theorem dL_captures_116 : decode cL_captures 116 = .ok (.aload_n 0, 1) := by decide +kernel
theorem dL_captures_117 : decode cL_captures 117 = .ok (.iconst 3, 1) := by decide +kernel
theorem dL_captures_118 : decode cL_captures 118 = .ok (.invokevirtual 7, 3) := by decide +kernel
theorem dL_captures_121 : decode cL_captures 121 = .ok (.bipush (-3), 2) := by decide +kernel
theorem dL_captures_123 : decode cL_captures 123 = .ok (.if_icmp .ne 118, 3) := by decide +kernel
theorem dL_captures_126 : decode cL_captures 126 = .ok (.aload_n 0, 1) := by decide +kernel
theorem dL_captures_127 : decode cL_captures 127 = .ok (.invokevirtual 62, 3) := by decide +kernel
theorem dL_captures_130 : decode cL_captures 130 = .ok (.iconst 1, 1) := by decide +kernel
theorem dL_captures_131 : decode cL_captures 131 = .ok (.if_icmp .ne 110, 3) := by decide +kernel
theorem dL_captures_134 : decode cL_captures 134 = .ok (.aload_n 0, 1) := by decide +kernel
theorem dL_captures_135 : decode cL_captures 135 = .ok (.iconst 1, 1) := by decide +kernel
theorem dL_captures_136 : decode cL_captures 136 = .ok (.invokevirtual 7, 3) := by decide +kernel
theorem dL_captures_139 : decode cL_captures 139 = .ok (.bipush 10, 2) := by decide +kernel
theorem dL_captures_141 : decode cL_captures 141 = .ok (.if_icmp .ne 100, 3) := by decide +kernel
theorem dL_captures_144 : decode cL_captures 144 = .ok (.aload_n 0, 1) := by decide +kernel
theorem dL_captures_145 : decode cL_captures 145 = .ok (.invokevirtual 59, 3) := by decide +kernel
theorem dL_captures_148 : decode cL_captures 148 = .ok (.iconst 1, 1) := by decide +kernel
theorem dL_captures_149 : decode cL_captures 149 = .ok (.if_icmp .ne 92, 3) := by decide +kernel
theorem dL_captures_152 : decode cL_captures 152 = .ok (.aload_n 0, 1) := by decide +kernel
theorem dL_captures_153 : decode cL_captures 153 = .ok (.invokevirtual 16, 3) := by decide +kernel
theorem dL_captures_156 : decode cL_captures 156 = .ok (.bipush 15, 2) := by decide +kernel
theorem dL_captures_158 : decode cL_captures 158 = .ok (.if_icmp .ne 83, 3) := by decide +kernel
theorem dL_captures_161 : decode cL_captures 161 = .ok (.aload_n 0, 1) := by decide +kernel
theorem dL_captures_162 : decode cL_captures 162 = .ok (.invokestatic 82, 3) := by decide +kernel
theorem dL_captures_165 : decode cL_captures 165 = .ok (.ifCond .eq 76, 3) := by decide +kernel
theorem dL_captures_168 : decode cL_captures 168 = .ok (.aload_n 0, 1) := by decide +kernel
theorem dL_captures_169 : decode cL_captures 169 = .ok (.iconst 2, 1) := by decide +kernel
theorem dL_captures_170 : decode cL_captures 170 = .ok (.invokevirtual 13, 3) := by decide +kernel
theorem dL_captures_173 : decode cL_captures 173 = .ok (.iconst 1, 1) := by decide +kernel
theorem dL_captures_174 : decode cL_captures 174 = .ok (.if_icmp .ne 67, 3) := by decide +kernel
theorem dL_captures_177 : decode cL_captures 177 = .ok (.aload_n 0, 1) := by decide +kernel
theorem dL_captures_178 : decode cL_captures 178 = .ok (.iconst 1, 1) := by decide +kernel
theorem dL_captures_179 : decode cL_captures 179 = .ok (.iconst 2, 1) := by decide +kernel
theorem dL_captures_180 : decode cL_captures 180 = .ok (.invokevirtual 24, 3) := by decide +kernel
theorem dL_captures_183 : decode cL_captures 183 = .ok (.bipush 21, 2) := by decide +kernel
theorem dL_captures_185 : decode cL_captures 185 = .ok (.if_icmp .ne 56, 3) := by decide +kernel
theorem dL_captures_188 : decode cL_captures 188 = .ok (.aload_n 0, 1) := by decide +kernel
theorem dL_captures_189 : decode cL_captures 189 = .ok (.bipush 21, 2) := by decide +kernel
theorem dL_captures_191 : decode cL_captures 191 = .ok (.invokevirtual 30, 3) := by decide +kernel
theorem dL_captures_194 : decode cL_captures 194 = .ok (.ifCond .eq 47, 3) := by decide +kernel
theorem dL_captures_197 : decode cL_captures 197 = .ok (.aload_n 0, 1) := by decide +kernel
theorem dL_captures_198 : decode cL_captures 198 = .ok (.bipush 21, 2) := by decide +kernel
theorem dL_captures_200 : decode cL_captures 200 = .ok (.iconst 1, 1) := by decide +kernel
theorem dL_captures_201 : decode cL_captures 201 = .ok (.invokevirtual 27, 3) := by decide +kernel
theorem dL_captures_204 : decode cL_captures 204 = .ok (.iconst 1, 1) := by decide +kernel
theorem dL_captures_205 : decode cL_captures 205 = .ok (.if_icmp .ne 36, 3) := by decide +kernel
theorem dL_captures_208 : decode cL_captures 208 = .ok (.aload_n 0, 1) := by decide +kernel
theorem dL_captures_209 : decode cL_captures 209 = .ok (.bipush 21, 2) := by decide +kernel
theorem dL_captures_211 : decode cL_captures 211 = .ok (.iconst 0, 1) := by decide +kernel
theorem dL_captures_212 : decode cL_captures 212 = .ok (.invokevirtual 27, 3) := by decide +kernel
theorem dL_captures_215 : decode cL_captures 215 = .ok (.ifCond .ne 26, 3) := by decide +kernel
theorem dL_captures_218 : decode cL_captures 218 = .ok (.aload_n 0, 1) := by decide +kernel
theorem dL_captures_219 : decode cL_captures 219 = .ok (.invokevirtual 62, 3) := by decide +kernel
theorem dL_captures_222 : decode cL_captures 222 = .ok (.iconst 1, 1) := by decide +kernel
theorem dL_captures_223 : decode cL_captures 223 = .ok (.if_icmp .ne 18, 3) := by decide +kernel
theorem dL_captures_226 : decode cL_captures 226 = .ok (.aload_n 0, 1) := by decide +kernel
theorem dL_captures_227 : decode cL_captures 227 = .ok (.invokevirtual 76, 3) := by decide +kernel
theorem dL_captures_230 : decode cL_captures 230 = .ok (.iconst 1, 1) := by decide +kernel
theorem dL_captures_231 : decode cL_captures 231 = .ok (.if_icmp .ne 10, 3) := by decide +kernel
theorem dL_captures_234 : decode cL_captures 234 = .ok (.aload_n 0, 1) := by decide +kernel
theorem dL_captures_235 : decode cL_captures 235 = .ok (.invokevirtual 59, 3) := by decide +kernel
theorem dL_captures_238 : decode cL_captures 238 = .ok (.ifCond .eq 5, 3) := by decide +kernel
theorem dL_captures_241 : decode cL_captures 241 = .ok (.iconst 0, 1) := by decide +kernel
theorem dL_captures_242 : decode cL_captures 242 = .ok (.ireturn, 1) := by decide +kernel
theorem dL_captures_243 : decode cL_captures 243 = .ok (.aload_n 0, 1) := by decide +kernel
theorem dL_captures_244 : decode cL_captures 244 = .ok (.bipush 6, 2) := by decide +kernel
theorem dL_captures_246 : decode cL_captures 246 = .ok (.bipush 15, 2) := by decide +kernel
theorem dL_captures_248 : decode cL_captures 248 = .ok (.iconst 2, 1) := by decide +kernel
theorem dL_captures_249 : decode cL_captures 249 = .ok (.bipush 7, 2) := by decide +kernel
theorem dL_captures_251 : decode cL_captures 251 = .ok (.invokestatic 86, 3) := by decide +kernel
theorem dL_captures_254 : decode cL_captures 254 = .ok (.ifCond .eq 147, 3) := by decide +kernel
theorem dL_captures_257 : decode cL_captures 257 = .ok (.aload_n 0, 1) := by decide +kernel
theorem dL_captures_258 : decode cL_captures 258 = .ok (.iconst 1, 1) := by decide +kernel
theorem dL_captures_259 : decode cL_captures 259 = .ok (.iconst 2, 1) := by decide +kernel
theorem dL_captures_260 : decode cL_captures 260 = .ok (.invokevirtual 24, 3) := by decide +kernel
theorem dL_captures_263 : decode cL_captures 263 = .ok (.bipush 27, 2) := by decide +kernel
theorem dL_captures_265 : decode cL_captures 265 = .ok (.if_icmp .ne 136, 3) := by decide +kernel
theorem dL_captures_268 : decode cL_captures 268 = .ok (.aload_n 0, 1) := by decide +kernel
theorem dL_captures_269 : decode cL_captures 269 = .ok (.invokevirtual 76, 3) := by decide +kernel
theorem dL_captures_272 : decode cL_captures 272 = .ok (.iconst 2, 1) := by decide +kernel
theorem dL_captures_273 : decode cL_captures 273 = .ok (.if_icmp .ne 128, 3) := by decide +kernel
theorem dL_captures_276 : decode cL_captures 276 = .ok (.aload_n 0, 1) := by decide +kernel
theorem dL_captures_277 : decode cL_captures 277 = .ok (.iconst 0, 1) := by decide +kernel
theorem dL_captures_278 : decode cL_captures 278 = .ok (.invokevirtual 43, 3) := by decide +kernel
theorem dL_captures_281 : decode cL_captures 281 = .ok (.bipush 56, 2) := by decide +kernel
theorem dL_captures_283 : decode cL_captures 283 = .ok (.if_icmp .ne 118, 3) := by decide +kernel
theorem dL_captures_286 : decode cL_captures 286 = .ok (.aload_n 0, 1) := by decide +kernel
theorem dL_captures_287 : decode cL_captures 287 = .ok (.iconst 3, 1) := by decide +kernel
theorem dL_captures_288 : decode cL_captures 288 = .ok (.invokevirtual 43, 3) := by decide +kernel
theorem dL_captures_291 : decode cL_captures 291 = .ok (.ifCond .ne 110, 3) := by decide +kernel
theorem dL_captures_294 : decode cL_captures 294 = .ok (.aload_n 0, 1) := by decide +kernel
theorem dL_captures_295 : decode cL_captures 295 = .ok (.iconst 0, 1) := by decide +kernel
theorem dL_captures_296 : decode cL_captures 296 = .ok (.invokevirtual 7, 3) := by decide +kernel
theorem dL_captures_299 : decode cL_captures 299 = .ok (.bipush (-25), 2) := by decide +kernel
theorem dL_captures_301 : decode cL_captures 301 = .ok (.if_icmp .ne 100, 3) := by decide +kernel
theorem dL_captures_304 : decode cL_captures 304 = .ok (.aload_n 0, 1) := by decide +kernel
theorem dL_captures_305 : decode cL_captures 305 = .ok (.invokevirtual 62, 3) := by decide +kernel
theorem dL_captures_308 : decode cL_captures 308 = .ok (.iconst 2, 1) := by decide +kernel
theorem dL_captures_309 : decode cL_captures 309 = .ok (.if_icmp .ne 92, 3) := by decide +kernel
theorem dL_captures_312 : decode cL_captures 312 = .ok (.aload_n 0, 1) := by decide +kernel
theorem dL_captures_313 : decode cL_captures 313 = .ok (.invokevirtual 76, 3) := by decide +kernel
theorem dL_captures_316 : decode cL_captures 316 = .ok (.ifCond .ne 85, 3) := by decide +kernel
theorem dL_captures_319 : decode cL_captures 319 = .ok (.aload_n 0, 1) := by decide +kernel
theorem dL_captures_320 : decode cL_captures 320 = .ok (.iconst 2, 1) := by decide +kernel
theorem dL_captures_321 : decode cL_captures 321 = .ok (.invokestatic 90, 3) := by decide +kernel
theorem dL_captures_324 : decode cL_captures 324 = .ok (.ifCond .eq 77, 3) := by decide +kernel
theorem dL_captures_327 : decode cL_captures 327 = .ok (.aload_n 0, 1) := by decide +kernel
theorem dL_captures_328 : decode cL_captures 328 = .ok (.bipush 6, 2) := by decide +kernel
theorem dL_captures_330 : decode cL_captures 330 = .ok (.bipush 15, 2) := by decide +kernel
theorem dL_captures_332 : decode cL_captures 332 = .ok (.iconst 0, 1) := by decide +kernel
theorem dL_captures_333 : decode cL_captures 333 = .ok (.iconst 1, 1) := by decide +kernel
theorem dL_captures_334 : decode cL_captures 334 = .ok (.invokestatic 86, 3) := by decide +kernel
theorem dL_captures_337 : decode cL_captures 337 = .ok (.ifCond .eq 64, 3) := by decide +kernel
theorem dL_captures_340 : decode cL_captures 340 = .ok (.aload_n 0, 1) := by decide +kernel
theorem dL_captures_341 : decode cL_captures 341 = .ok (.iconst 4, 1) := by decide +kernel
theorem dL_captures_342 : decode cL_captures 342 = .ok (.iconst 1, 1) := by decide +kernel
theorem dL_captures_343 : decode cL_captures 343 = .ok (.iconst 0, 1) := by decide +kernel
theorem dL_captures_344 : decode cL_captures 344 = .ok (.iconst 5, 1) := by decide +kernel
theorem dL_captures_345 : decode cL_captures 345 = .ok (.invokestatic 86, 3) := by decide +kernel
theorem dL_captures_348 : decode cL_captures 348 = .ok (.ifCond .eq 53, 3) := by decide +kernel
theorem dL_captures_351 : decode cL_captures 351 = .ok (.aload_n 0, 1) := by decide +kernel
theorem dL_captures_352 : decode cL_captures 352 = .ok (.iconst 3, 1) := by decide +kernel
theorem dL_captures_353 : decode cL_captures 353 = .ok (.iconst 0, 1) := by decide +kernel
theorem dL_captures_354 : decode cL_captures 354 = .ok (.invokevirtual 24, 3) := by decide +kernel
theorem dL_captures_357 : decode cL_captures 357 = .ok (.bipush 59, 2) := by decide +kernel
theorem dL_captures_359 : decode cL_captures 359 = .ok (.if_icmp .ne 42, 3) := by decide +kernel
theorem dL_captures_362 : decode cL_captures 362 = .ok (.aload_n 0, 1) := by decide +kernel
theorem dL_captures_363 : decode cL_captures 363 = .ok (.invokevirtual 62, 3) := by decide +kernel
theorem dL_captures_366 : decode cL_captures 366 = .ok (.ifCond .ne 35, 3) := by decide +kernel
theorem dL_captures_369 : decode cL_captures 369 = .ok (.aload_n 0, 1) := by decide +kernel
theorem dL_captures_370 : decode cL_captures 370 = .ok (.iconst 1, 1) := by decide +kernel
theorem dL_captures_371 : decode cL_captures 371 = .ok (.bipush 15, 2) := by decide +kernel
theorem dL_captures_373 : decode cL_captures 373 = .ok (.iconst 0, 1) := by decide +kernel
theorem dL_captures_374 : decode cL_captures 374 = .ok (.iconst 1, 1) := by decide +kernel
theorem dL_captures_375 : decode cL_captures 375 = .ok (.invokestatic 86, 3) := by decide +kernel
theorem dL_captures_378 : decode cL_captures 378 = .ok (.ifCond .eq 23, 3) := by decide +kernel
theorem dL_captures_381 : decode cL_captures 381 = .ok (.aload_n 0, 1) := by decide +kernel
theorem dL_captures_382 : decode cL_captures 382 = .ok (.iconst 5, 1) := by decide +kernel
theorem dL_captures_383 : decode cL_captures 383 = .ok (.iconst 1, 1) := by decide +kernel
theorem dL_captures_384 : decode cL_captures 384 = .ok (.iconst 0, 1) := by decide +kernel
theorem dL_captures_385 : decode cL_captures 385 = .ok (.bipush 6, 2) := by decide +kernel
theorem dL_captures_387 : decode cL_captures 387 = .ok (.invokestatic 86, 3) := by decide +kernel
theorem dL_captures_390 : decode cL_captures 390 = .ok (.ifCond .eq 11, 3) := by decide +kernel
theorem dL_captures_393 : decode cL_captures 393 = .ok (.aload_n 0, 1) := by decide +kernel
theorem dL_captures_394 : decode cL_captures 394 = .ok (.invokevirtual 62, 3) := by decide +kernel
theorem dL_captures_397 : decode cL_captures 397 = .ok (.iconst 1, 1) := by decide +kernel
theorem dL_captures_398 : decode cL_captures 398 = .ok (.if_icmp .eq 5, 3) := by decide +kernel
theorem dL_captures_401 : decode cL_captures 401 = .ok (.iconst 0, 1) := by decide +kernel
theorem dL_captures_402 : decode cL_captures 402 = .ok (.ireturn, 1) := by decide +kernel
theorem dL_captures_403 : decode cL_captures 403 = .ok (.aload_n 0, 1) := by decide +kernel
theorem dL_captures_404 : decode cL_captures 404 = .ok (.iconst 0, 1) := by decide +kernel
theorem dL_captures_405 : decode cL_captures 405 = .ok (.bipush 15, 2) := by decide +kernel
theorem dL_captures_407 : decode cL_captures 407 = .ok (.iconst 2, 1) := by decide +kernel
theorem dL_captures_408 : decode cL_captures 408 = .ok (.bipush 32, 2) := by decide +kernel
theorem dL_captures_410 : decode cL_captures 410 = .ok (.invokestatic 86, 3) := by decide +kernel
theorem dL_captures_413 : decode cL_captures 413 = .ok (.ifCond .eq 197, 3) := by decide +kernel
theorem dL_captures_416 : decode cL_captures 416 = .ok (.aload_n 0, 1) := by decide +kernel
theorem dL_captures_417 : decode cL_captures 417 = .ok (.iconst 2, 1) := by decide +kernel
theorem dL_captures_418 : decode cL_captures 418 = .ok (.iconst 4, 1) := by decide +kernel
theorem dL_captures_419 : decode cL_captures 419 = .ok (.iconst 2, 1) := by decide +kernel
theorem dL_captures_420 : decode cL_captures 420 = .ok (.bipush 34, 2) := by decide +kernel
theorem dL_captures_422 : decode cL_captures 422 = .ok (.invokestatic 86, 3) := by decide +kernel
theorem dL_captures_425 : decode cL_captures 425 = .ok (.ifCond .eq 185, 3) := by decide +kernel
theorem dL_captures_428 : decode cL_captures 428 = .ok (.aload_n 0, 1) := by decide +kernel
theorem dL_captures_429 : decode cL_captures 429 = .ok (.iconst 1, 1) := by decide +kernel
theorem dL_captures_430 : decode cL_captures 430 = .ok (.iconst 2, 1) := by decide +kernel
theorem dL_captures_431 : decode cL_captures 431 = .ok (.invokevirtual 24, 3) := by decide +kernel
theorem dL_captures_434 : decode cL_captures 434 = .ok (.bipush 54, 2) := by decide +kernel
theorem dL_captures_436 : decode cL_captures 436 = .ok (.if_icmp .ne 174, 3) := by decide +kernel
theorem dL_captures_439 : decode cL_captures 439 = .ok (.aload_n 0, 1) := by decide +kernel
theorem dL_captures_440 : decode cL_captures 440 = .ok (.iconst 2, 1) := by decide +kernel
theorem dL_captures_441 : decode cL_captures 441 = .ok (.invokestatic 90, 3) := by decide +kernel
theorem dL_captures_444 : decode cL_captures 444 = .ok (.ifCond .eq 166, 3) := by decide +kernel
theorem dL_captures_447 : decode cL_captures 447 = .ok (.aload_n 0, 1) := by decide +kernel
theorem dL_captures_448 : decode cL_captures 448 = .ok (.iconst 2, 1) := by decide +kernel
theorem dL_captures_449 : decode cL_captures 449 = .ok (.iconst 1, 1) := by decide +kernel
theorem dL_captures_450 : decode cL_captures 450 = .ok (.iconst 0, 1) := by decide +kernel
theorem dL_captures_451 : decode cL_captures 451 = .ok (.bipush 7, 2) := by decide +kernel
theorem dL_captures_453 : decode cL_captures 453 = .ok (.invokestatic 86, 3) := by decide +kernel
theorem dL_captures_456 : decode cL_captures 456 = .ok (.ifCond .eq 154, 3) := by decide +kernel
theorem dL_captures_459 : decode cL_captures 459 = .ok (.aload_n 0, 1) := by decide +kernel
theorem dL_captures_460 : decode cL_captures 460 = .ok (.iconst 2, 1) := by decide +kernel
theorem dL_captures_461 : decode cL_captures 461 = .ok (.iconst 1, 1) := by decide +kernel
theorem dL_captures_462 : decode cL_captures 462 = .ok (.iconst 0, 1) := by decide +kernel
theorem dL_captures_463 : decode cL_captures 463 = .ok (.bipush 8, 2) := by decide +kernel
theorem dL_captures_465 : decode cL_captures 465 = .ok (.invokestatic 86, 3) := by decide +kernel
theorem dL_captures_468 : decode cL_captures 468 = .ok (.ifCond .eq 142, 3) := by decide +kernel
theorem dL_captures_471 : decode cL_captures 471 = .ok (.aload_n 0, 1) := by decide +kernel
theorem dL_captures_472 : decode cL_captures 472 = .ok (.iconst 0, 1) := by decide +kernel
theorem dL_captures_473 : decode cL_captures 473 = .ok (.iconst 0, 1) := by decide +kernel
theorem dL_captures_474 : decode cL_captures 474 = .ok (.invokevirtual 24, 3) := by decide +kernel
theorem dL_captures_477 : decode cL_captures 477 = .ok (.bipush 11, 2) := by decide +kernel
theorem dL_captures_479 : decode cL_captures 479 = .ok (.if_icmp .ne 131, 3) := by decide +kernel
theorem dL_captures_482 : decode cL_captures 482 = .ok (.aload_n 0, 1) := by decide +kernel
theorem dL_captures_483 : decode cL_captures 483 = .ok (.bipush 11, 2) := by decide +kernel
theorem dL_captures_485 : decode cL_captures 485 = .ok (.invokevirtual 30, 3) := by decide +kernel
theorem dL_captures_488 : decode cL_captures 488 = .ok (.ifCond .eq 122, 3) := by decide +kernel
theorem dL_captures_491 : decode cL_captures 491 = .ok (.aload_n 0, 1) := by decide +kernel
theorem dL_captures_492 : decode cL_captures 492 = .ok (.iconst 2, 1) := by decide +kernel
theorem dL_captures_493 : decode cL_captures 493 = .ok (.iconst 4, 1) := by decide +kernel
theorem dL_captures_494 : decode cL_captures 494 = .ok (.iconst 2, 1) := by decide +kernel
theorem dL_captures_495 : decode cL_captures 495 = .ok (.bipush 36, 2) := by decide +kernel
theorem dL_captures_497 : decode cL_captures 497 = .ok (.invokestatic 86, 3) := by decide +kernel
theorem dL_captures_500 : decode cL_captures 500 = .ok (.ifCond .eq 110, 3) := by decide +kernel
theorem dL_captures_503 : decode cL_captures 503 = .ok (.aload_n 0, 1) := by decide +kernel
theorem dL_captures_504 : decode cL_captures 504 = .ok (.invokevirtual 62, 3) := by decide +kernel
theorem dL_captures_507 : decode cL_captures 507 = .ok (.iconst 2, 1) := by decide +kernel
theorem dL_captures_508 : decode cL_captures 508 = .ok (.if_icmp .ne 102, 3) := by decide +kernel
theorem dL_captures_511 : decode cL_captures 511 = .ok (.aload_n 0, 1) := by decide +kernel
theorem dL_captures_512 : decode cL_captures 512 = .ok (.iconst 1, 1) := by decide +kernel
theorem dL_captures_513 : decode cL_captures 513 = .ok (.bipush 15, 2) := by decide +kernel
theorem dL_captures_515 : decode cL_captures 515 = .ok (.iconst 0, 1) := by decide +kernel
theorem dL_captures_516 : decode cL_captures 516 = .ok (.iconst 1, 1) := by decide +kernel
theorem dL_captures_517 : decode cL_captures 517 = .ok (.invokestatic 86, 3) := by decide +kernel
theorem dL_captures_520 : decode cL_captures 520 = .ok (.ifCond .eq 90, 3) := by decide +kernel
theorem dL_captures_523 : decode cL_captures 523 = .ok (.aload_n 0, 1) := by decide +kernel
theorem dL_captures_524 : decode cL_captures 524 = .ok (.iconst 2, 1) := by decide +kernel
theorem dL_captures_525 : decode cL_captures 525 = .ok (.iconst 0, 1) := by decide +kernel
theorem dL_captures_526 : decode cL_captures 526 = .ok (.invokevirtual 24, 3) := by decide +kernel
theorem dL_captures_529 : decode cL_captures 529 = .ok (.bipush 38, 2) := by decide +kernel
theorem dL_captures_531 : decode cL_captures 531 = .ok (.if_icmp .ne 79, 3) := by decide +kernel
theorem dL_captures_534 : decode cL_captures 534 = .ok (.aload_n 0, 1) := by decide +kernel
theorem dL_captures_535 : decode cL_captures 535 = .ok (.iconst 1, 1) := by decide +kernel
theorem dL_captures_536 : decode cL_captures 536 = .ok (.bipush 15, 2) := by decide +kernel
theorem dL_captures_538 : decode cL_captures 538 = .ok (.iconst 0, 1) := by decide +kernel
theorem dL_captures_539 : decode cL_captures 539 = .ok (.bipush 11, 2) := by decide +kernel
theorem dL_captures_541 : decode cL_captures 541 = .ok (.invokestatic 86, 3) := by decide +kernel
theorem dL_captures_544 : decode cL_captures 544 = .ok (.ifCond .eq 66, 3) := by decide +kernel
theorem dL_captures_547 : decode cL_captures 547 = .ok (.aload_n 0, 1) := by decide +kernel
theorem dL_captures_548 : decode cL_captures 548 = .ok (.iconst 4, 1) := by decide +kernel
theorem dL_captures_549 : decode cL_captures 549 = .ok (.iconst 1, 1) := by decide +kernel
theorem dL_captures_550 : decode cL_captures 550 = .ok (.iconst 0, 1) := by decide +kernel
theorem dL_captures_551 : decode cL_captures 551 = .ok (.bipush 15, 2) := by decide +kernel
theorem dL_captures_553 : decode cL_captures 553 = .ok (.invokestatic 86, 3) := by decide +kernel
theorem dL_captures_556 : decode cL_captures 556 = .ok (.ifCond .eq 54, 3) := by decide +kernel
theorem dL_captures_559 : decode cL_captures 559 = .ok (.aload_n 0, 1) := by decide +kernel
theorem dL_captures_560 : decode cL_captures 560 = .ok (.iconst 2, 1) := by decide +kernel
theorem dL_captures_561 : decode cL_captures 561 = .ok (.iconst 0, 1) := by decide +kernel
theorem dL_captures_562 : decode cL_captures 562 = .ok (.invokevirtual 24, 3) := by decide +kernel
theorem dL_captures_565 : decode cL_captures 565 = .ok (.bipush 52, 2) := by decide +kernel
theorem dL_captures_567 : decode cL_captures 567 = .ok (.if_icmp .ne 43, 3) := by decide +kernel
theorem dL_captures_570 : decode cL_captures 570 = .ok (.aload_n 0, 1) := by decide +kernel
theorem dL_captures_571 : decode cL_captures 571 = .ok (.iconst 1, 1) := by decide +kernel
theorem dL_captures_572 : decode cL_captures 572 = .ok (.iconst 2, 1) := by decide +kernel
theorem dL_captures_573 : decode cL_captures 573 = .ok (.iconst 2, 1) := by decide +kernel
theorem dL_captures_574 : decode cL_captures 574 = .ok (.invokevirtual 46, 3) := by decide +kernel
theorem dL_captures_577 : decode cL_captures 577 = .ok (.bipush 15, 2) := by decide +kernel
theorem dL_captures_579 : decode cL_captures 579 = .ok (.if_icmp .ne 31, 3) := by decide +kernel
theorem dL_captures_582 : decode cL_captures 582 = .ok (.aload_n 0, 1) := by decide +kernel
theorem dL_captures_583 : decode cL_captures 583 = .ok (.iconst 1, 1) := by decide +kernel
theorem dL_captures_584 : decode cL_captures 584 = .ok (.iconst 2, 1) := by decide +kernel
theorem dL_captures_585 : decode cL_captures 585 = .ok (.iconst 0, 1) := by decide +kernel
theorem dL_captures_586 : decode cL_captures 586 = .ok (.invokevirtual 46, 3) := by decide +kernel
theorem dL_captures_589 : decode cL_captures 589 = .ok (.ifCond .ne 21, 3) := by decide +kernel
theorem dL_captures_592 : decode cL_captures 592 = .ok (.aload_n 0, 1) := by decide +kernel
theorem dL_captures_593 : decode cL_captures 593 = .ok (.iconst 2, 1) := by decide +kernel
theorem dL_captures_594 : decode cL_captures 594 = .ok (.iconst 0, 1) := by decide +kernel
theorem dL_captures_595 : decode cL_captures 595 = .ok (.iconst 1, 1) := by decide +kernel
theorem dL_captures_596 : decode cL_captures 596 = .ok (.invokevirtual 46, 3) := by decide +kernel
theorem dL_captures_599 : decode cL_captures 599 = .ok (.ifCond .ne 11, 3) := by decide +kernel
theorem dL_captures_602 : decode cL_captures 602 = .ok (.aload_n 0, 1) := by decide +kernel
theorem dL_captures_603 : decode cL_captures 603 = .ok (.invokevirtual 62, 3) := by decide +kernel
theorem dL_captures_606 : decode cL_captures 606 = .ok (.iconst 3, 1) := by decide +kernel
theorem dL_captures_607 : decode cL_captures 607 = .ok (.if_icmp .eq 5, 3) := by decide +kernel
theorem dL_captures_610 : decode cL_captures 610 = .ok (.iconst 0, 1) := by decide +kernel
theorem dL_captures_611 : decode cL_captures 611 = .ok (.ireturn, 1) := by decide +kernel
theorem dL_captures_612 : decode cL_captures 612 = .ok (.aload_n 0, 1) := by decide +kernel
theorem dL_captures_613 : decode cL_captures 613 = .ok (.iconst 3, 1) := by decide +kernel
theorem dL_captures_614 : decode cL_captures 614 = .ok (.iconst 1, 1) := by decide +kernel
theorem dL_captures_615 : decode cL_captures 615 = .ok (.iconst 0, 1) := by decide +kernel
theorem dL_captures_616 : decode cL_captures 616 = .ok (.bipush 10, 2) := by decide +kernel
theorem dL_captures_618 : decode cL_captures 618 = .ok (.invokestatic 86, 3) := by decide +kernel
theorem dL_captures_621 : decode cL_captures 621 = .ok (.ifCond .eq 124, 3) := by decide +kernel
theorem dL_captures_624 : decode cL_captures 624 = .ok (.aload_n 0, 1) := by decide +kernel
theorem dL_captures_625 : decode cL_captures 625 = .ok (.iconst 3, 1) := by decide +kernel
theorem dL_captures_626 : decode cL_captures 626 = .ok (.iconst 0, 1) := by decide +kernel
theorem dL_captures_627 : decode cL_captures 627 = .ok (.invokevirtual 24, 3) := by decide +kernel
theorem dL_captures_630 : decode cL_captures 630 = .ok (.bipush 64, 2) := by decide +kernel
theorem dL_captures_632 : decode cL_captures 632 = .ok (.if_icmp .ne 113, 3) := by decide +kernel
theorem dL_captures_635 : decode cL_captures 635 = .ok (.aload_n 0, 1) := by decide +kernel
theorem dL_captures_636 : decode cL_captures 636 = .ok (.iconst 3, 1) := by decide +kernel
theorem dL_captures_637 : decode cL_captures 637 = .ok (.iconst 1, 1) := by decide +kernel
theorem dL_captures_638 : decode cL_captures 638 = .ok (.iconst 0, 1) := by decide +kernel
theorem dL_captures_639 : decode cL_captures 639 = .ok (.bipush 11, 2) := by decide +kernel
theorem dL_captures_641 : decode cL_captures 641 = .ok (.invokestatic 86, 3) := by decide +kernel
theorem dL_captures_644 : decode cL_captures 644 = .ok (.ifCond .eq 101, 3) := by decide +kernel
theorem dL_captures_647 : decode cL_captures 647 = .ok (.aload_n 0, 1) := by decide +kernel
theorem dL_captures_648 : decode cL_captures 648 = .ok (.iconst 2, 1) := by decide +kernel
theorem dL_captures_649 : decode cL_captures 649 = .ok (.iconst 4, 1) := by decide +kernel
theorem dL_captures_650 : decode cL_captures 650 = .ok (.iconst 2, 1) := by decide +kernel
theorem dL_captures_651 : decode cL_captures 651 = .ok (.bipush 38, 2) := by decide +kernel
theorem dL_captures_653 : decode cL_captures 653 = .ok (.invokestatic 86, 3) := by decide +kernel
theorem dL_captures_656 : decode cL_captures 656 = .ok (.ifCond .eq 89, 3) := by decide +kernel
theorem dL_captures_659 : decode cL_captures 659 = .ok (.aload_n 0, 1) := by decide +kernel
theorem dL_captures_660 : decode cL_captures 660 = .ok (.iconst 1, 1) := by decide +kernel
theorem dL_captures_661 : decode cL_captures 661 = .ok (.iconst 2, 1) := by decide +kernel
theorem dL_captures_662 : decode cL_captures 662 = .ok (.invokevirtual 24, 3) := by decide +kernel
theorem dL_captures_665 : decode cL_captures 665 = .ok (.bipush 58, 2) := by decide +kernel
theorem dL_captures_667 : decode cL_captures 667 = .ok (.if_icmp .ne 78, 3) := by decide +kernel
theorem dL_captures_670 : decode cL_captures 670 = .ok (.aload_n 0, 1) := by decide +kernel
theorem dL_captures_671 : decode cL_captures 671 = .ok (.invokevirtual 62, 3) := by decide +kernel
theorem dL_captures_674 : decode cL_captures 674 = .ok (.iconst 2, 1) := by decide +kernel
theorem dL_captures_675 : decode cL_captures 675 = .ok (.if_icmp .ne 70, 3) := by decide +kernel
theorem dL_captures_678 : decode cL_captures 678 = .ok (.aload_n 0, 1) := by decide +kernel
theorem dL_captures_679 : decode cL_captures 679 = .ok (.iconst 0, 1) := by decide +kernel
theorem dL_captures_680 : decode cL_captures 680 = .ok (.invokevirtual 43, 3) := by decide +kernel
theorem dL_captures_683 : decode cL_captures 683 = .ok (.bipush 64, 2) := by decide +kernel
theorem dL_captures_685 : decode cL_captures 685 = .ok (.if_icmp .ne 60, 3) := by decide +kernel
theorem dL_captures_688 : decode cL_captures 688 = .ok (.aload_n 0, 1) := by decide +kernel
theorem dL_captures_689 : decode cL_captures 689 = .ok (.iconst 1, 1) := by decide +kernel
theorem dL_captures_690 : decode cL_captures 690 = .ok (.invokevirtual 43, 3) := by decide +kernel
theorem dL_captures_693 : decode cL_captures 693 = .ok (.iconst 1, 1) := by decide +kernel
theorem dL_captures_694 : decode cL_captures 694 = .ok (.if_icmp .ne 51, 3) := by decide +kernel
theorem dL_captures_697 : decode cL_captures 697 = .ok (.aload_n 0, 1) := by decide +kernel
theorem dL_captures_698 : decode cL_captures 698 = .ok (.iconst 3, 1) := by decide +kernel
theorem dL_captures_699 : decode cL_captures 699 = .ok (.invokevirtual 43, 3) := by decide +kernel
theorem dL_captures_702 : decode cL_captures 702 = .ok (.bipush 8, 2) := by decide +kernel
theorem dL_captures_704 : decode cL_captures 704 = .ok (.if_icmp .ne 41, 3) := by decide +kernel
theorem dL_captures_707 : decode cL_captures 707 = .ok (.aload_n 0, 1) := by decide +kernel
theorem dL_captures_708 : decode cL_captures 708 = .ok (.iconst 1, 1) := by decide +kernel
theorem dL_captures_709 : decode cL_captures 709 = .ok (.invokevirtual 50, 3) := by decide +kernel
theorem dL_captures_712 : decode cL_captures 712 = .ok (.iconst 1, 1) := by decide +kernel
theorem dL_captures_713 : decode cL_captures 713 = .ok (.if_icmp .ne 32, 3) := by decide +kernel
theorem dL_captures_716 : decode cL_captures 716 = .ok (.aload_n 0, 1) := by decide +kernel
theorem dL_captures_717 : decode cL_captures 717 = .ok (.iconst 2, 1) := by decide +kernel
theorem dL_captures_718 : decode cL_captures 718 = .ok (.invokevirtual 50, 3) := by decide +kernel
theorem dL_captures_721 : decode cL_captures 721 = .ok (.sipush 155, 3) := by decide +kernel
theorem dL_captures_724 : decode cL_captures 724 = .ok (.if_icmp .ne 21, 3) := by decide +kernel
theorem dL_captures_727 : decode cL_captures 727 = .ok (.aload_n 0, 1) := by decide +kernel
theorem dL_captures_728 : decode cL_captures 728 = .ok (.iconst 1, 1) := by decide +kernel
theorem dL_captures_729 : decode cL_captures 729 = .ok (.iconst 2, 1) := by decide +kernel
theorem dL_captures_730 : decode cL_captures 730 = .ok (.iconst 2, 1) := by decide +kernel
theorem dL_captures_731 : decode cL_captures 731 = .ok (.invokevirtual 46, 3) := by decide +kernel
theorem dL_captures_734 : decode cL_captures 734 = .ok (.iconst 1, 1) := by decide +kernel
theorem dL_captures_735 : decode cL_captures 735 = .ok (.if_icmp .ne 10, 3) := by decide +kernel
theorem dL_captures_738 : decode cL_captures 738 = .ok (.aload_n 0, 1) := by decide +kernel
theorem dL_captures_739 : decode cL_captures 739 = .ok (.invokestatic 82, 3) := by decide +kernel
theorem dL_captures_742 : decode cL_captures 742 = .ok (.ifCond .ne 5, 3) := by decide +kernel
theorem dL_captures_745 : decode cL_captures 745 = .ok (.iconst 0, 1) := by decide +kernel
theorem dL_captures_746 : decode cL_captures 746 = .ok (.ireturn, 1) := by decide +kernel
theorem dL_captures_747 : decode cL_captures 747 = .ok (.aload_n 0, 1) := by decide +kernel
theorem dL_captures_748 : decode cL_captures 748 = .ok (.bipush 6, 2) := by decide +kernel
theorem dL_captures_750 : decode cL_captures 750 = .ok (.invokevirtual 7, 3) := by decide +kernel
theorem dL_captures_753 : decode cL_captures 753 = .ok (.bipush 6, 2) := by decide +kernel
theorem dL_captures_755 : decode cL_captures 755 = .ok (.if_icmp .ne 101, 3) := by decide +kernel
theorem dL_captures_758 : decode cL_captures 758 = .ok (.aload_n 0, 1) := by decide +kernel
theorem dL_captures_759 : decode cL_captures 759 = .ok (.invokevirtual 16, 3) := by decide +kernel
theorem dL_captures_762 : decode cL_captures 762 = .ok (.bipush 15, 2) := by decide +kernel
theorem dL_captures_764 : decode cL_captures 764 = .ok (.if_icmp .ne 92, 3) := by decide +kernel
theorem dL_captures_767 : decode cL_captures 767 = .ok (.aload_n 0, 1) := by decide +kernel
theorem dL_captures_768 : decode cL_captures 768 = .ok (.iconst 0, 1) := by decide +kernel
theorem dL_captures_769 : decode cL_captures 769 = .ok (.invokevirtual 13, 3) := by decide +kernel
theorem dL_captures_772 : decode cL_captures 772 = .ok (.bipush 121, 2) := by decide +kernel
theorem dL_captures_774 : decode cL_captures 774 = .ok (.if_icmp .ne 82, 3) := by decide +kernel
theorem dL_captures_777 : decode cL_captures 777 = .ok (.aload_n 0, 1) := by decide +kernel
theorem dL_captures_778 : decode cL_captures 778 = .ok (.iconst 1, 1) := by decide +kernel
theorem dL_captures_779 : decode cL_captures 779 = .ok (.iconst 2, 1) := by decide +kernel
theorem dL_captures_780 : decode cL_captures 780 = .ok (.invokevirtual 20, 3) := by decide +kernel
theorem dL_captures_783 : decode cL_captures 783 = .ok (.ifCond .ne 73, 3) := by decide +kernel
theorem dL_captures_786 : decode cL_captures 786 = .ok (.aload_n 0, 1) := by decide +kernel
theorem dL_captures_787 : decode cL_captures 787 = .ok (.iconst 2, 1) := by decide +kernel
theorem dL_captures_788 : decode cL_captures 788 = .ok (.invokevirtual 37, 3) := by decide +kernel
theorem dL_captures_791 : decode cL_captures 791 = .ok (.iconst 1, 1) := by decide +kernel
theorem dL_captures_792 : decode cL_captures 792 = .ok (.if_icmp .ne 64, 3) := by decide +kernel
theorem dL_captures_795 : decode cL_captures 795 = .ok (.aload_n 0, 1) := by decide +kernel
theorem dL_captures_796 : decode cL_captures 796 = .ok (.iconst 0, 1) := by decide +kernel
theorem dL_captures_797 : decode cL_captures 797 = .ok (.invokevirtual 37, 3) := by decide +kernel
theorem dL_captures_800 : decode cL_captures 800 = .ok (.ifCond .ne 56, 3) := by decide +kernel
theorem dL_captures_803 : decode cL_captures 803 = .ok (.aload_n 0, 1) := by decide +kernel
theorem dL_captures_804 : decode cL_captures 804 = .ok (.invokevirtual 62, 3) := by decide +kernel
theorem dL_captures_807 : decode cL_captures 807 = .ok (.iconst 2, 1) := by decide +kernel
theorem dL_captures_808 : decode cL_captures 808 = .ok (.if_icmp .ne 48, 3) := by decide +kernel
theorem dL_captures_811 : decode cL_captures 811 = .ok (.aload_n 0, 1) := by decide +kernel
theorem dL_captures_812 : decode cL_captures 812 = .ok (.invokevirtual 76, 3) := by decide +kernel
theorem dL_captures_815 : decode cL_captures 815 = .ok (.iconst 1, 1) := by decide +kernel
theorem dL_captures_816 : decode cL_captures 816 = .ok (.if_icmp .ne 40, 3) := by decide +kernel
theorem dL_captures_819 : decode cL_captures 819 = .ok (.aload_n 0, 1) := by decide +kernel
theorem dL_captures_820 : decode cL_captures 820 = .ok (.iconst 2, 1) := by decide +kernel
theorem dL_captures_821 : decode cL_captures 821 = .ok (.iconst 0, 1) := by decide +kernel
theorem dL_captures_822 : decode cL_captures 822 = .ok (.invokevirtual 24, 3) := by decide +kernel
theorem dL_captures_825 : decode cL_captures 825 = .ok (.bipush 58, 2) := by decide +kernel
theorem dL_captures_827 : decode cL_captures 827 = .ok (.if_icmp .ne 29, 3) := by decide +kernel
theorem dL_captures_830 : decode cL_captures 830 = .ok (.aload_n 0, 1) := by decide +kernel
theorem dL_captures_831 : decode cL_captures 831 = .ok (.iconst 1, 1) := by decide +kernel
theorem dL_captures_832 : decode cL_captures 832 = .ok (.invokevirtual 40, 3) := by decide +kernel
theorem dL_captures_835 : decode cL_captures 835 = .ok (.sipush 566, 3) := by decide +kernel
theorem dL_captures_838 : decode cL_captures 838 = .ok (.if_icmp .ne 18, 3) := by decide +kernel
theorem dL_captures_841 : decode cL_captures 841 = .ok (.aload_n 0, 1) := by decide +kernel
theorem dL_captures_842 : decode cL_captures 842 = .ok (.iconst 0, 1) := by decide +kernel
theorem dL_captures_843 : decode cL_captures 843 = .ok (.invokevirtual 40, 3) := by decide +kernel
theorem dL_captures_846 : decode cL_captures 846 = .ok (.sipush 544, 3) := by decide +kernel
theorem dL_captures_849 : decode cL_captures 849 = .ok (.if_icmp .ne 7, 3) := by decide +kernel
theorem dL_captures_852 : decode cL_captures 852 = .ok (.iconst 1, 1) := by decide +kernel
theorem dL_captures_853 : decode cL_captures 853 = .ok (.goto 4, 3) := by decide +kernel
theorem dL_captures_856 : decode cL_captures 856 = .ok (.iconst 0, 1) := by decide +kernel
theorem dL_captures_857 : decode cL_captures 857 = .ok (.ireturn, 1) := by decide +kernel
set_option maxRecDepth 20000 in
theorem ggL_castles_X1_init : GoodIn wsL_castles wsX1_init := goodIn_r _ [6, 7, 8, 9, 10, 11, 12, 13, 14, 15, 16, 17, 18, 19, 20, 21, 22, 23, 24, 25, 210, 211, 204, 205, 206, 207, 208, 209] (by decide +kernel) (by decide +kernel)
set_option maxRecDepth 20000 in
theorem gL_castles_X1_init : GoodIn wsL_castles (wsX1_init) := ggL_castles_X1_init
set_option maxRecDepth 20000 in
theorem ggL_castles_L_goes : GoodIn wsL_castles wsL_goes := goodIn_ca (goodIn_ca (goodIn_ca (goodIn_r _ [29, 30, 31, 32, 3, 33, 34, 35, 17, 13, 16, 19, 18, 36, 37, 38, 39, 40, 41, 42, 43, 44, 45, 46, 47, 48, 49, 50, 51, 52, 53, 54, 55, 56, 57, 12, 58, 59, 60, 61, 62, 63, 64, 65, 66, 24, 67, 68, 69, 70, 71, 72, 73, 74, 75, 76, 77, 78, 79, 80, 81, 82, 83, 84, 85, 86, 87, 88, 89, 90, 91, 92, 93, 94, 25, 95, 96, 97, 98, 99, 100, 101, 102, 103, 104, 105, 106, 107, 108, 109, 110, 111, 112, 113, 114, 115, 116, 117, 118, 119, 120, 121, 122, 123, 124, 125, 126, 127, 128, 129, 130, 131, 132, 133, 134, 135, 136, 137, 138, 139, 140, 141, 142, 143, 15, 144, 145, 146, 147, 148, 149, 150, 151, 152, 204, 205, 206, 207, 208, 209, 210, 211] (by decide +kernel) (by decide +kernel)) (goodIn_sub (fun _ h => List.mem_cons_of_mem _ (List.mem_append_left _ (List.mem_append_left _ (List.mem_append_right _ h)))) (by decide +kernel))) (goodIn_sub (fun _ h => List.mem_cons_of_mem _ (List.mem_append_left _ (List.mem_append_right _ h))) (by decide +kernel))) (goodIn_sub (fun _ h => List.mem_cons_of_mem _ (List.mem_append_right _ h)) (by decide +kernel))
set_option maxRecDepth 20000 in
theorem gL_castles_L_goes : GoodIn wsL_castles (va_wsS RL 86 yL_goes wsL_goes) := goodIn_app (goodIn_of _ (by decide +kernel)) ggL_castles_L_goes
set_option maxRecDepth 20000 in
theorem ggL_castles_X1_standing : GoodIn wsL_castles wsX1_standing := goodIn_ca (goodIn_ca (goodIn_r _ [156, 13, 157, 158, 3, 159, 120, 121, 160, 161, 162, 34, 35, 163, 92, 93, 12, 94, 25, 204, 205, 206, 207, 208, 209, 210, 211] (by decide +kernel) (by decide +kernel)) (goodIn_sub (fun _ h => List.mem_cons_of_mem _ (List.mem_append_right _ h)) (by decide +kernel))) (goodIn_sub (fun _ h => List.mem_cons_of_mem _ (List.mem_append_left _ (List.mem_append_left _ (List.mem_append_right _ h)))) (by decide +kernel))
set_option maxRecDepth 20000 in
theorem gL_castles_X1_standing : GoodIn wsL_castles (wsV RL 27 RX1 yX1_standing wsX1_standing) := goodIn_app (goodIn_of _ (by decide +kernel)) ggL_castles_X1_standing
set_option maxRecDepth 20000 in
theorem ggL_castles_X1_throwShells : GoodIn wsL_castles wsX1_throwShells := goodIn_ca (goodIn_ca (goodIn_r _ [33, 34, 35, 17, 13, 16, 19, 18, 36, 37, 38, 3, 39, 40, 41, 42, 43, 44, 45, 46, 47, 48, 49, 50, 51, 52, 53, 54, 55, 56, 57, 12, 58, 59, 60, 61, 62, 63, 64, 65, 66, 24, 67, 68, 69, 70, 71, 72, 73, 74, 75, 76, 77, 78, 79, 80, 81, 82, 83, 84, 85, 86, 87, 88, 89, 90, 91, 92, 93, 94, 25, 95, 96, 97, 98, 99, 100, 204, 205, 206, 207, 208, 209, 210, 211] (by decide +kernel) (by decide +kernel)) (goodIn_sub (fun _ h => List.mem_cons_of_mem _ (List.mem_append_left _ (List.mem_append_left _ (List.mem_append_right _ h)))) (by decide +kernel))) (goodIn_sub (fun _ h => List.mem_cons_of_mem _ (List.mem_append_left _ (List.mem_append_right _ h))) (by decide +kernel))
set_option maxRecDepth 20000 in
theorem gL_castles_X1_throwShells : GoodIn wsL_castles (wsV RL 7 RX1 yX1_throwShells wsX1_throwShells) := goodIn_app (goodIn_of _ (by decide +kernel)) ggL_castles_X1_throwShells
set_option maxRecDepth 20000 in
theorem ggL_castles_X1_onTurn : GoodIn wsL_castles wsX1_onTurn := goodIn_r _ [167, 16, 204, 205, 206, 207, 208, 209] (by decide +kernel) (by decide +kernel)
set_option maxRecDepth 20000 in
theorem gL_castles_X1_onTurn : GoodIn wsL_castles (wsV RL 62 RX1 yX1_onTurn wsX1_onTurn) := goodIn_app (goodIn_of _ (by decide +kernel)) ggL_castles_X1_onTurn
set_option maxRecDepth 20000 in
theorem ggL_castles_L_loses : GoodIn wsL_castles wsL_loses := goodIn_ca (goodIn_ca (goodIn_r _ [170, 164, 165, 166, 3, 167, 16, 30, 31, 32, 33, 34, 35, 17, 13, 19, 18, 36, 37, 38, 39, 40, 41, 42, 43, 44, 45, 46, 47, 48, 49, 50, 51, 52, 53, 54, 55, 56, 57, 12, 58, 59, 60, 61, 62, 63, 64, 65, 66, 24, 67, 68, 69, 70, 71, 72, 73, 74, 75, 76, 77, 78, 79, 80, 81, 82, 83, 84, 85, 86, 87, 88, 89, 90, 91, 92, 93, 94, 25, 95, 96, 97, 98, 99, 100, 204, 205, 206, 207, 208, 209, 210, 211] (by decide +kernel) (by decide +kernel)) (goodIn_sub (fun _ h => List.mem_cons_of_mem _ (List.mem_append_left _ (List.mem_append_left _ (List.mem_append_right _ h)))) (by decide +kernel))) (goodIn_sub (fun _ h => List.mem_cons_of_mem _ (List.mem_append_left _ (List.mem_append_right _ h))) (by decide +kernel))
set_option maxRecDepth 20000 in
theorem gL_castles_L_loses : GoodIn wsL_castles (va_wsS RL 90 yL_loses wsL_loses) := goodIn_app (goodIn_of _ (by decide +kernel)) ggL_castles_L_loses
set_option maxRecDepth 20000 in
theorem ggL_castles_X1_square : GoodIn wsL_castles wsX1_square := goodIn_ca (goodIn_r _ [174, 13, 175, 176, 3, 177, 120, 121, 117, 118, 119, 178, 64, 65, 12, 66, 24, 125, 86, 87, 88, 204, 205, 206, 207, 208, 209, 210, 211] (by decide +kernel) (by decide +kernel)) (goodIn_sub (fun _ h => List.mem_cons_of_mem _ (List.mem_append_right _ h)) (by decide +kernel))
set_option maxRecDepth 20000 in
theorem gL_castles_X1_square : GoodIn wsL_castles (wsV RL 24 RX1 yX1_square wsX1_square) := goodIn_app (goodIn_of _ (by decide +kernel)) ggL_castles_X1_square
set_option maxRecDepth 20000 in
theorem ggL_castles_X1_ways : GoodIn wsL_castles wsX1_ways := goodIn_ca (goodIn_ca (goodIn_r _ [182, 34, 35, 13, 16, 17, 36, 37, 38, 3, 39, 40, 41, 18, 55, 56, 57, 12, 58, 59, 60, 61, 62, 63, 64, 65, 66, 24, 67, 68, 45, 46, 47, 48, 49, 50, 183, 184, 185, 186, 73, 74, 75, 76, 43, 44, 77, 78, 79, 80, 81, 82, 83, 84, 85, 86, 87, 88, 89, 90, 91, 92, 93, 94, 25, 95, 96, 97, 98, 99, 100, 187, 188, 189, 190, 191, 192, 193, 194, 204, 205, 206, 207, 208, 209, 210, 211] (by decide +kernel) (by decide +kernel)) (goodIn_sub (fun _ h => List.mem_cons_of_mem _ (List.mem_append_left _ (List.mem_append_left _ (List.mem_append_right _ h)))) (by decide +kernel))) (goodIn_sub (fun _ h => List.mem_cons_of_mem _ (List.mem_append_left _ (List.mem_append_right _ h))) (by decide +kernel))
set_option maxRecDepth 20000 in
theorem gL_castles_X1_ways : GoodIn wsL_castles (wsV RL 43 RX1 yX1_ways wsX1_ways) := goodIn_app (goodIn_of _ (by decide +kernel)) ggL_castles_X1_ways
set_option maxRecDepth 20000 in
theorem ggL_castles_X1_movable : GoodIn wsL_castles wsX1_movable := goodIn_ca (goodIn_r _ [108, 13, 16, 19, 109, 110, 111, 3, 112, 40, 41, 18, 55, 56, 57, 12, 58, 59, 60, 61, 62, 63, 64, 65, 66, 24, 67, 68, 69, 70, 71, 72, 73, 74, 75, 76, 49, 50, 43, 44, 77, 78, 79, 80, 81, 82, 83, 84, 85, 86, 87, 88, 89, 90, 91, 92, 93, 94, 25, 95, 96, 97, 98, 99, 100, 204, 205, 206, 207, 208, 209, 210, 211] (by decide +kernel) (by decide +kernel)) (goodIn_sub (fun _ h => List.mem_cons_of_mem _ (List.mem_append_left _ (List.mem_append_right _ h))) (by decide +kernel))
set_option maxRecDepth 20000 in
theorem gL_castles_X1_movable : GoodIn wsL_castles (wsV RL 16 RX1 yX1_movable wsX1_movable) := goodIn_app (goodIn_of _ (by decide +kernel)) ggL_castles_X1_movable
set_option maxRecDepth 20000 in
theorem ggL_castles_X1_move : GoodIn wsL_castles wsX1_move := goodIn_ca (goodIn_ca (goodIn_r _ [116, 40, 41, 13, 16, 19, 117, 118, 3, 119, 120, 121, 109, 110, 111, 112, 18, 55, 56, 57, 12, 58, 59, 60, 61, 62, 63, 64, 65, 66, 24, 67, 68, 122, 74, 75, 76, 49, 50, 43, 44, 77, 78, 79, 80, 81, 82, 83, 84, 85, 86, 87, 88, 89, 90, 91, 92, 93, 94, 25, 95, 96, 97, 98, 99, 100, 123, 124, 125, 126, 127, 128, 129, 130, 131, 132, 133, 134, 135, 136, 137, 138, 139, 140, 141, 142, 143, 15, 144, 145, 146, 147, 148, 149, 150, 151, 152, 48, 51, 52, 53, 54, 17, 204, 205, 206, 207, 208, 209, 210, 211] (by decide +kernel) (by decide +kernel)) (goodIn_sub (fun _ h => List.mem_cons_of_mem _ (List.mem_append_left _ (List.mem_append_right _ h))) (by decide +kernel))) (goodIn_sub (fun _ h => List.mem_cons_of_mem _ (List.mem_append_right _ h)) (by decide +kernel))
set_option maxRecDepth 20000 in
theorem gL_castles_X1_move : GoodIn wsL_castles (wsV RL 13 RX1 yX1_move wsX1_move) := goodIn_app (goodIn_of _ (by decide +kernel)) ggL_castles_X1_move
set_option maxRecDepth 20000 in
theorem ggL_castles_X1_threat : GoodIn wsL_castles wsX1_threat := goodIn_ca (goodIn_ca (goodIn_r _ [198, 34, 35, 13, 175, 176, 3, 177, 120, 121, 117, 118, 119, 199, 134, 135, 178, 64, 65, 12, 66, 24, 125, 86, 87, 88, 55, 56, 57, 58, 59, 60, 61, 62, 63, 67, 68, 200, 201, 202, 203, 73, 74, 75, 76, 49, 50, 43, 44, 77, 78, 79, 80, 81, 82, 83, 84, 85, 89, 90, 91, 92, 93, 94, 25, 95, 96, 97, 98, 99, 100, 191, 192, 193, 194, 204, 205, 206, 207, 208, 209, 210, 211] (by decide +kernel) (by decide +kernel)) (goodIn_sub (fun _ h => List.mem_cons_of_mem _ (List.mem_append_left _ (List.mem_append_left _ (List.mem_append_right _ h)))) (by decide +kernel))) (goodIn_sub (fun _ h => List.mem_cons_of_mem _ (List.mem_append_right _ h)) (by decide +kernel))
set_option maxRecDepth 20000 in
theorem gL_castles_X1_threat : GoodIn wsL_castles (wsV RL 46 RX1 yX1_threat wsX1_threat) := goodIn_app (goodIn_of _ (by decide +kernel)) ggL_castles_X1_threat
theorem dL_castles_0 : decode cL_castles 0 = .ok (.new 8, 3) := by decide +kernel
theorem dL_castles_3 : decode cL_castles 3 = .ok (.dup, 1) := by decide +kernel
theorem dL_castles_4 : decode cL_castles 4 = .ok (.invokespecial 72, 3) := by decide +kernel
theorem dL_castles_7 : decode cL_castles 7 = .ok (.astore_n 0, 1) := by decide +kernel
theorem dL_castles_8 : decode cL_castles 8 = .ok (.aload_n 0, 1) := by decide +kernel
theorem dL_castles_9 : decode cL_castles 9 = .ok (.iconst 1, 1) := by decide +kernel
theorem dL_castles_10 : decode cL_castles 10 = .ok (.bipush 15, 2) := by decide +kernel
theorem dL_castles_12 : decode cL_castles 12 = .ok (.iconst 0, 1) := by decide +kernel
theorem dL_castles_13 : decode cL_castles 13 = .ok (.iconst 1, 1) := by decide +kernel
theorem dL_castles_14 : decode cL_castles 14 = .ok (.invokestatic 86, 3) := by decide +kernel
theorem dL_castles_17 : decode cL_castles 17 = .ok (.ifCond .eq 108, 3) := by decide +kernel
theorem dL_castles_20 : decode cL_castles 20 = .ok (.aload_n 0, 1) := by decide +kernel
theorem dL_castles_21 : decode cL_castles 21 = .ok (.iconst 1, 1) := by decide +kernel
theorem dL_castles_22 : decode cL_castles 22 = .ok (.bipush 15, 2) := by decide +kernel
theorem dL_castles_24 : decode cL_castles 24 = .ok (.iconst 1, 1) := by decide +kernel
theorem dL_castles_25 : decode cL_castles 25 = .ok (.iconst 1, 1) := by decide +kernel
theorem dL_castles_26 : decode cL_castles 26 = .ok (.invokestatic 86, 3) := by decide +kernel
theorem dL_castles_29 : decode cL_castles 29 = .ok (.ifCond .eq 96, 3) := by decide +kernel
theorem dL_castles_32 : decode cL_castles 32 = .ok (.aload_n 0, 1) := by decide +kernel
theorem dL_castles_33 : decode cL_castles 33 = .ok (.iconst 4, 1) := by decide +kernel
theorem dL_castles_34 : decode cL_castles 34 = .ok (.iconst 0, 1) := by decide +kernel
theorem dL_castles_35 : decode cL_castles 35 = .ok (.invokevirtual 27, 3) := by decide +kernel
theorem dL_castles_38 : decode cL_castles 38 = .ok (.iconst 2, 1) := by decide +kernel
theorem dL_castles_39 : decode cL_castles 39 = .ok (.if_icmp .ne 86, 3) := by decide +kernel
theorem dL_castles_42 : decode cL_castles 42 = .ok (.aload_n 0, 1) := by decide +kernel
theorem dL_castles_43 : decode cL_castles 43 = .ok (.bipush 6, 2) := by decide +kernel
theorem dL_castles_45 : decode cL_castles 45 = .ok (.invokevirtual 7, 3) := by decide +kernel
theorem dL_castles_48 : decode cL_castles 48 = .ok (.bipush (-6), 2) := by decide +kernel
theorem dL_castles_50 : decode cL_castles 50 = .ok (.if_icmp .ne 75, 3) := by decide +kernel
theorem dL_castles_53 : decode cL_castles 53 = .ok (.aload_n 0, 1) := by decide +kernel
theorem dL_castles_54 : decode cL_castles 54 = .ok (.invokevirtual 62, 3) := by decide +kernel
theorem dL_castles_57 : decode cL_castles 57 = .ok (.iconst 1, 1) := by decide +kernel
theorem dL_castles_58 : decode cL_castles 58 = .ok (.if_icmp .ne 67, 3) := by decide +kernel
theorem dL_castles_61 : decode cL_castles 61 = .ok (.aload_n 0, 1) := by decide +kernel
theorem dL_castles_62 : decode cL_castles 62 = .ok (.iconst 1, 1) := by decide +kernel
theorem dL_castles_63 : decode cL_castles 63 = .ok (.invokestatic 90, 3) := by decide +kernel
theorem dL_castles_66 : decode cL_castles 66 = .ok (.ifCond .eq 59, 3) := by decide +kernel
theorem dL_castles_69 : decode cL_castles 69 = .ok (.aload_n 0, 1) := by decide +kernel
theorem dL_castles_70 : decode cL_castles 70 = .ok (.iconst 2, 1) := by decide +kernel
theorem dL_castles_71 : decode cL_castles 71 = .ok (.invokestatic 90, 3) := by decide +kernel
theorem dL_castles_74 : decode cL_castles 74 = .ok (.ifCond .eq 51, 3) := by decide +kernel
theorem dL_castles_77 : decode cL_castles 77 = .ok (.aload_n 0, 1) := by decide +kernel
theorem dL_castles_78 : decode cL_castles 78 = .ok (.bipush 6, 2) := by decide +kernel
theorem dL_castles_80 : decode cL_castles 80 = .ok (.bipush 15, 2) := by decide +kernel
theorem dL_castles_82 : decode cL_castles 82 = .ok (.iconst 3, 1) := by decide +kernel
theorem dL_castles_83 : decode cL_castles 83 = .ok (.iconst 1, 1) := by decide +kernel
theorem dL_castles_84 : decode cL_castles 84 = .ok (.invokestatic 86, 3) := by decide +kernel
theorem dL_castles_87 : decode cL_castles 87 = .ok (.ifCond .eq 38, 3) := by decide +kernel
theorem dL_castles_90 : decode cL_castles 90 = .ok (.aload_n 0, 1) := by decide +kernel
theorem dL_castles_91 : decode cL_castles 91 = .ok (.iconst 0, 1) := by decide +kernel
theorem dL_castles_92 : decode cL_castles 92 = .ok (.bipush 7, 2) := by decide +kernel
theorem dL_castles_94 : decode cL_castles 94 = .ok (.iconst 1, 1) := by decide +kernel
theorem dL_castles_95 : decode cL_castles 95 = .ok (.iconst 1, 1) := by decide +kernel
theorem dL_castles_96 : decode cL_castles 96 = .ok (.invokestatic 86, 3) := by decide +kernel
theorem dL_castles_99 : decode cL_castles 99 = .ok (.ifCond .eq 26, 3) := by decide +kernel
theorem dL_castles_102 : decode cL_castles 102 = .ok (.aload_n 0, 1) := by decide +kernel
theorem dL_castles_103 : decode cL_castles 103 = .ok (.iconst 2, 1) := by decide +kernel
theorem dL_castles_104 : decode cL_castles 104 = .ok (.bipush 10, 2) := by decide +kernel
theorem dL_castles_106 : decode cL_castles 106 = .ok (.iconst 3, 1) := by decide +kernel
theorem dL_castles_107 : decode cL_castles 107 = .ok (.iconst 3, 1) := by decide +kernel
theorem dL_castles_108 : decode cL_castles 108 = .ok (.invokestatic 86, 3) := by decide +kernel
theorem dL_castles_111 : decode cL_castles 111 = .ok (.ifCond .eq 14, 3) := by decide +kernel
theorem dL_castles_114 : decode cL_castles 114 = .ok (.aload_n 0, 1) := by decide +kernel
theorem dL_castles_115 : decode cL_castles 115 = .ok (.iconst 3, 1) := by decide +kernel
theorem dL_castles_116 : decode cL_castles 116 = .ok (.iconst 3, 1) := by decide +kernel
theorem dL_castles_117 : decode cL_castles 117 = .ok (.invokevirtual 24, 3) := by decide +kernel
theorem dL_castles_120 : decode cL_castles 120 = .ok (.bipush 57, 2) := by decide +kernel
theorem dL_castles_122 : decode cL_castles 122 = .ok (.if_icmp .eq 5, 3) := by decide +kernel
theorem dL_castles_125 : decode cL_castles 125 = .ok (.iconst 0, 1) := by decide +kernel
theorem dL_castles_126 : decode cL_castles 126 = .ok (.ireturn, 1) := by decide +kernel
theorem dL_castles_127 : decode cL_castles 127 = .ok (.aload_n 0, 1) := by decide +kernel
theorem dL_castles_128 : decode cL_castles 128 = .ok (.iconst 0, 1) := by decide +kernel
theorem dL_castles_129 : decode cL_castles 129 = .ok (.bipush 15, 2) := by decide +kernel
theorem dL_castles_131 : decode cL_castles 131 = .ok (.iconst 0, 1) := by decide +kernel
theorem dL_castles_132 : decode cL_castles 132 = .ok (.bipush 26, 2) := by decide +kernel
theorem dL_castles_134 : decode cL_castles 134 = .ok (.invokestatic 86, 3) := by decide +kernel
theorem dL_castles_137 : decode cL_castles 137 = .ok (.ifCond .eq 204, 3) := by decide +kernel
theorem dL_castles_140 : decode cL_castles 140 = .ok (.aload_n 0, 1) := by decide +kernel
theorem dL_castles_141 : decode cL_castles 141 = .ok (.bipush 6, 2) := by decide +kernel
theorem dL_castles_143 : decode cL_castles 143 = .ok (.bipush 15, 2) := by decide +kernel
theorem dL_castles_145 : decode cL_castles 145 = .ok (.iconst 2, 1) := by decide +kernel
theorem dL_castles_146 : decode cL_castles 146 = .ok (.iconst 1, 1) := by decide +kernel
theorem dL_castles_147 : decode cL_castles 147 = .ok (.invokestatic 86, 3) := by decide +kernel
theorem dL_castles_150 : decode cL_castles 150 = .ok (.ifCond .eq 191, 3) := by decide +kernel
theorem dL_castles_153 : decode cL_castles 153 = .ok (.aload_n 0, 1) := by decide +kernel
theorem dL_castles_154 : decode cL_castles 154 = .ok (.iconst 4, 1) := by decide +kernel
theorem dL_castles_155 : decode cL_castles 155 = .ok (.iconst 0, 1) := by decide +kernel
theorem dL_castles_156 : decode cL_castles 156 = .ok (.invokevirtual 27, 3) := by decide +kernel
theorem dL_castles_159 : decode cL_castles 159 = .ok (.iconst 2, 1) := by decide +kernel
theorem dL_castles_160 : decode cL_castles 160 = .ok (.if_icmp .ne 181, 3) := by decide +kernel
theorem dL_castles_163 : decode cL_castles 163 = .ok (.aload_n 0, 1) := by decide +kernel
theorem dL_castles_164 : decode cL_castles 164 = .ok (.iconst 3, 1) := by decide +kernel
theorem dL_castles_165 : decode cL_castles 165 = .ok (.bipush 7, 2) := by decide +kernel
theorem dL_castles_167 : decode cL_castles 167 = .ok (.iconst 0, 1) := by decide +kernel
theorem dL_castles_168 : decode cL_castles 168 = .ok (.bipush 29, 2) := by decide +kernel
theorem dL_castles_170 : decode cL_castles 170 = .ok (.invokestatic 86, 3) := by decide +kernel
theorem dL_castles_173 : decode cL_castles 173 = .ok (.ifCond .eq 168, 3) := by decide +kernel
theorem dL_castles_176 : decode cL_castles 176 = .ok (.aload_n 0, 1) := by decide +kernel
theorem dL_castles_177 : decode cL_castles 177 = .ok (.iconst 1, 1) := by decide +kernel
theorem dL_castles_178 : decode cL_castles 178 = .ok (.invokestatic 90, 3) := by decide +kernel
theorem dL_castles_181 : decode cL_castles 181 = .ok (.ifCond .eq 160, 3) := by decide +kernel
theorem dL_castles_184 : decode cL_castles 184 = .ok (.aload_n 0, 1) := by decide +kernel
theorem dL_castles_185 : decode cL_castles 185 = .ok (.iconst 2, 1) := by decide +kernel
theorem dL_castles_186 : decode cL_castles 186 = .ok (.invokestatic 90, 3) := by decide +kernel
theorem dL_castles_189 : decode cL_castles 189 = .ok (.ifCond .eq 152, 3) := by decide +kernel
theorem dL_castles_192 : decode cL_castles 192 = .ok (.aload_n 0, 1) := by decide +kernel
theorem dL_castles_193 : decode cL_castles 193 = .ok (.iconst 1, 1) := by decide +kernel
theorem dL_castles_194 : decode cL_castles 194 = .ok (.bipush 15, 2) := by decide +kernel
theorem dL_castles_196 : decode cL_castles 196 = .ok (.iconst 3, 1) := by decide +kernel
theorem dL_castles_197 : decode cL_castles 197 = .ok (.bipush 13, 2) := by decide +kernel
theorem dL_castles_199 : decode cL_castles 199 = .ok (.invokestatic 86, 3) := by decide +kernel
theorem dL_castles_202 : decode cL_castles 202 = .ok (.ifCond .eq 139, 3) := by decide +kernel
theorem dL_castles_205 : decode cL_castles 205 = .ok (.aload_n 0, 1) := by decide +kernel
theorem dL_castles_206 : decode cL_castles 206 = .ok (.iconst 4, 1) := by decide +kernel
theorem dL_castles_207 : decode cL_castles 207 = .ok (.bipush 10, 2) := by decide +kernel
theorem dL_castles_209 : decode cL_castles 209 = .ok (.iconst 3, 1) := by decide +kernel
theorem dL_castles_210 : decode cL_castles 210 = .ok (.bipush 17, 2) := by decide +kernel
theorem dL_castles_212 : decode cL_castles 212 = .ok (.invokestatic 86, 3) := by decide +kernel
theorem dL_castles_215 : decode cL_castles 215 = .ok (.ifCond .eq 126, 3) := by decide +kernel
theorem dL_castles_218 : decode cL_castles 218 = .ok (.aload_n 0, 1) := by decide +kernel
theorem dL_castles_219 : decode cL_castles 219 = .ok (.iconst 3, 1) := by decide +kernel
theorem dL_castles_220 : decode cL_castles 220 = .ok (.iconst 3, 1) := by decide +kernel
theorem dL_castles_221 : decode cL_castles 221 = .ok (.invokevirtual 24, 3) := by decide +kernel
theorem dL_castles_224 : decode cL_castles 224 = .ok (.iconst 3, 1) := by decide +kernel
theorem dL_castles_225 : decode cL_castles 225 = .ok (.if_icmp .ne 116, 3) := by decide +kernel
theorem dL_castles_228 : decode cL_castles 228 = .ok (.aload_n 0, 1) := by decide +kernel
theorem dL_castles_229 : decode cL_castles 229 = .ok (.iconst 2, 1) := by decide +kernel
theorem dL_castles_230 : decode cL_castles 230 = .ok (.bipush 7, 2) := by decide +kernel
theorem dL_castles_232 : decode cL_castles 232 = .ok (.iconst 0, 1) := by decide +kernel
theorem dL_castles_233 : decode cL_castles 233 = .ok (.bipush 31, 2) := by decide +kernel
theorem dL_castles_235 : decode cL_castles 235 = .ok (.invokestatic 86, 3) := by decide +kernel
theorem dL_castles_238 : decode cL_castles 238 = .ok (.ifCond .eq 103, 3) := by decide +kernel
theorem dL_castles_241 : decode cL_castles 241 = .ok (.aload_n 0, 1) := by decide +kernel
theorem dL_castles_242 : decode cL_castles 242 = .ok (.iconst 1, 1) := by decide +kernel
theorem dL_castles_243 : decode cL_castles 243 = .ok (.invokestatic 90, 3) := by decide +kernel
theorem dL_castles_246 : decode cL_castles 246 = .ok (.ifCond .eq 95, 3) := by decide +kernel
theorem dL_castles_249 : decode cL_castles 249 = .ok (.aload_n 0, 1) := by decide +kernel
theorem dL_castles_250 : decode cL_castles 250 = .ok (.iconst 2, 1) := by decide +kernel
theorem dL_castles_251 : decode cL_castles 251 = .ok (.invokestatic 90, 3) := by decide +kernel
theorem dL_castles_254 : decode cL_castles 254 = .ok (.ifCond .eq 87, 3) := by decide +kernel
theorem dL_castles_257 : decode cL_castles 257 = .ok (.aload_n 0, 1) := by decide +kernel
theorem dL_castles_258 : decode cL_castles 258 = .ok (.iconst 0, 1) := by decide +kernel
theorem dL_castles_259 : decode cL_castles 259 = .ok (.invokevirtual 43, 3) := by decide +kernel
theorem dL_castles_262 : decode cL_castles 262 = .ok (.bipush 64, 2) := by decide +kernel
theorem dL_castles_264 : decode cL_castles 264 = .ok (.if_icmp .ne 77, 3) := by decide +kernel
theorem dL_castles_267 : decode cL_castles 267 = .ok (.aload_n 0, 1) := by decide +kernel
theorem dL_castles_268 : decode cL_castles 268 = .ok (.iconst 1, 1) := by decide +kernel
theorem dL_castles_269 : decode cL_castles 269 = .ok (.invokevirtual 7, 3) := by decide +kernel
theorem dL_castles_272 : decode cL_castles 272 = .ok (.bipush 10, 2) := by decide +kernel
theorem dL_castles_274 : decode cL_castles 274 = .ok (.if_icmp .ne 67, 3) := by decide +kernel
theorem dL_castles_277 : decode cL_castles 277 = .ok (.aload_n 0, 1) := by decide +kernel
theorem dL_castles_278 : decode cL_castles 278 = .ok (.invokevirtual 16, 3) := by decide +kernel
theorem dL_castles_281 : decode cL_castles 281 = .ok (.bipush 7, 2) := by decide +kernel
theorem dL_castles_283 : decode cL_castles 283 = .ok (.if_icmp .ne 58, 3) := by decide +kernel
theorem dL_castles_286 : decode cL_castles 286 = .ok (.aload_n 0, 1) := by decide +kernel
theorem dL_castles_287 : decode cL_castles 287 = .ok (.iconst 1, 1) := by decide +kernel
theorem dL_castles_288 : decode cL_castles 288 = .ok (.invokevirtual 13, 3) := by decide +kernel
theorem dL_castles_291 : decode cL_castles 291 = .ok (.bipush 11, 2) := by decide +kernel
theorem dL_castles_293 : decode cL_castles 293 = .ok (.if_icmp .ne 48, 3) := by decide +kernel
theorem dL_castles_296 : decode cL_castles 296 = .ok (.aload_n 0, 1) := by decide +kernel
theorem dL_castles_297 : decode cL_castles 297 = .ok (.invokevirtual 62, 3) := by decide +kernel
theorem dL_castles_300 : decode cL_castles 300 = .ok (.iconst 3, 1) := by decide +kernel
theorem dL_castles_301 : decode cL_castles 301 = .ok (.if_icmp .ne 40, 3) := by decide +kernel
theorem dL_castles_304 : decode cL_castles 304 = .ok (.aload_n 0, 1) := by decide +kernel
theorem dL_castles_305 : decode cL_castles 305 = .ok (.iconst 5, 1) := by decide +kernel
theorem dL_castles_306 : decode cL_castles 306 = .ok (.invokevirtual 7, 3) := by decide +kernel
theorem dL_castles_309 : decode cL_castles 309 = .ok (.iconst 5, 1) := by decide +kernel
theorem dL_castles_310 : decode cL_castles 310 = .ok (.if_icmp .ne 31, 3) := by decide +kernel
theorem dL_castles_313 : decode cL_castles 313 = .ok (.aload_n 0, 1) := by decide +kernel
theorem dL_castles_314 : decode cL_castles 314 = .ok (.invokevirtual 16, 3) := by decide +kernel
theorem dL_castles_317 : decode cL_castles 317 = .ok (.iconst 2, 1) := by decide +kernel
theorem dL_castles_318 : decode cL_castles 318 = .ok (.if_icmp .ne 23, 3) := by decide +kernel
theorem dL_castles_321 : decode cL_castles 321 = .ok (.aload_n 0, 1) := by decide +kernel
theorem dL_castles_322 : decode cL_castles 322 = .ok (.iconst 1, 1) := by decide +kernel
theorem dL_castles_323 : decode cL_castles 323 = .ok (.invokevirtual 13, 3) := by decide +kernel
theorem dL_castles_326 : decode cL_castles 326 = .ok (.bipush 16, 2) := by decide +kernel
theorem dL_castles_328 : decode cL_castles 328 = .ok (.if_icmp .ne 13, 3) := by decide +kernel
theorem dL_castles_331 : decode cL_castles 331 = .ok (.aload_n 0, 1) := by decide +kernel
theorem dL_castles_332 : decode cL_castles 332 = .ok (.iconst 3, 1) := by decide +kernel
theorem dL_castles_333 : decode cL_castles 333 = .ok (.iconst 1, 1) := by decide +kernel
theorem dL_castles_334 : decode cL_castles 334 = .ok (.invokevirtual 24, 3) := by decide +kernel
theorem dL_castles_337 : decode cL_castles 337 = .ok (.iconst 2, 1) := by decide +kernel
theorem dL_castles_338 : decode cL_castles 338 = .ok (.if_icmp .eq 5, 3) := by decide +kernel
theorem dL_castles_341 : decode cL_castles 341 = .ok (.iconst 0, 1) := by decide +kernel
theorem dL_castles_342 : decode cL_castles 342 = .ok (.ireturn, 1) := by decide +kernel
theorem dL_castles_343 : decode cL_castles 343 = .ok (.aload_n 0, 1) := by decide +kernel
theorem dL_castles_344 : decode cL_castles 344 = .ok (.iconst 3, 1) := by decide +kernel
theorem dL_castles_345 : decode cL_castles 345 = .ok (.bipush 7, 2) := by decide +kernel
theorem dL_castles_347 : decode cL_castles 347 = .ok (.iconst 1, 1) := by decide +kernel
theorem dL_castles_348 : decode cL_castles 348 = .ok (.iconst 4, 1) := by decide +kernel
theorem dL_castles_349 : decode cL_castles 349 = .ok (.invokestatic 86, 3) := by decide +kernel
theorem dL_castles_352 : decode cL_castles 352 = .ok (.ifCond .eq 29, 3) := by decide +kernel
theorem dL_castles_355 : decode cL_castles 355 = .ok (.aload_n 0, 1) := by decide +kernel
theorem dL_castles_356 : decode cL_castles 356 = .ok (.iconst 4, 1) := by decide +kernel
theorem dL_castles_357 : decode cL_castles 357 = .ok (.iconst 0, 1) := by decide +kernel
theorem dL_castles_358 : decode cL_castles 358 = .ok (.invokevirtual 27, 3) := by decide +kernel
theorem dL_castles_361 : decode cL_castles 361 = .ok (.iconst 1, 1) := by decide +kernel
theorem dL_castles_362 : decode cL_castles 362 = .ok (.if_icmp .ne 19, 3) := by decide +kernel
theorem dL_castles_365 : decode cL_castles 365 = .ok (.aload_n 0, 1) := by decide +kernel
theorem dL_castles_366 : decode cL_castles 366 = .ok (.iconst 1, 1) := by decide +kernel
theorem dL_castles_367 : decode cL_castles 367 = .ok (.invokestatic 90, 3) := by decide +kernel
theorem dL_castles_370 : decode cL_castles 370 = .ok (.ifCond .eq 11, 3) := by decide +kernel
theorem dL_castles_373 : decode cL_castles 373 = .ok (.aload_n 0, 1) := by decide +kernel
theorem dL_castles_374 : decode cL_castles 374 = .ok (.iconst 2, 1) := by decide +kernel
theorem dL_castles_375 : decode cL_castles 375 = .ok (.invokestatic 90, 3) := by decide +kernel
theorem dL_castles_378 : decode cL_castles 378 = .ok (.ifCond .ne 5, 3) := by decide +kernel
theorem dL_castles_381 : decode cL_castles 381 = .ok (.iconst 0, 1) := by decide +kernel
theorem dL_castles_382 : decode cL_castles 382 = .ok (.ireturn, 1) := by decide +kernel
theorem dL_castles_383 : decode cL_castles 383 = .ok (.aload_n 0, 1) := by decide +kernel
theorem dL_castles_384 : decode cL_castles 384 = .ok (.iconst 0, 1) := by decide +kernel
theorem dL_castles_385 : decode cL_castles 385 = .ok (.iconst 2, 1) := by decide +kernel
theorem dL_castles_386 : decode cL_castles 386 = .ok (.iconst 3, 1) := by decide +kernel
theorem dL_castles_387 : decode cL_castles 387 = .ok (.invokevirtual 46, 3) := by decide +kernel
theorem dL_castles_390 : decode cL_castles 390 = .ok (.ifCond .ne 54, 3) := by decide +kernel
theorem dL_castles_393 : decode cL_castles 393 = .ok (.aload_n 0, 1) := by decide +kernel
theorem dL_castles_394 : decode cL_castles 394 = .ok (.iconst 0, 1) := by decide +kernel
theorem dL_castles_395 : decode cL_castles 395 = .ok (.iconst 1, 1) := by decide +kernel
theorem dL_castles_396 : decode cL_castles 396 = .ok (.iconst 3, 1) := by decide +kernel
theorem dL_castles_397 : decode cL_castles 397 = .ok (.invokevirtual 46, 3) := by decide +kernel
theorem dL_castles_400 : decode cL_castles 400 = .ok (.bipush 21, 2) := by decide +kernel
theorem dL_castles_402 : decode cL_castles 402 = .ok (.if_icmp .ne 42, 3) := by decide +kernel
theorem dL_castles_405 : decode cL_castles 405 = .ok (.aload_n 0, 1) := by decide +kernel
theorem dL_castles_406 : decode cL_castles 406 = .ok (.iconst 2, 1) := by decide +kernel
theorem dL_castles_407 : decode cL_castles 407 = .ok (.invokevirtual 7, 3) := by decide +kernel
theorem dL_castles_410 : decode cL_castles 410 = .ok (.iconst 2, 1) := by decide +kernel
theorem dL_castles_411 : decode cL_castles 411 = .ok (.if_icmp .ne 33, 3) := by decide +kernel
theorem dL_castles_414 : decode cL_castles 414 = .ok (.aload_n 0, 1) := by decide +kernel
theorem dL_castles_415 : decode cL_castles 415 = .ok (.invokevirtual 16, 3) := by decide +kernel
theorem dL_castles_418 : decode cL_castles 418 = .ok (.bipush 8, 2) := by decide +kernel
theorem dL_castles_420 : decode cL_castles 420 = .ok (.if_icmp .ne 24, 3) := by decide +kernel
theorem dL_castles_423 : decode cL_castles 423 = .ok (.aload_n 0, 1) := by decide +kernel
theorem dL_castles_424 : decode cL_castles 424 = .ok (.iconst 3, 1) := by decide +kernel
theorem dL_castles_425 : decode cL_castles 425 = .ok (.invokevirtual 13, 3) := by decide +kernel
theorem dL_castles_428 : decode cL_castles 428 = .ok (.bipush 19, 2) := by decide +kernel
theorem dL_castles_430 : decode cL_castles 430 = .ok (.if_icmp .ne 14, 3) := by decide +kernel
theorem dL_castles_433 : decode cL_castles 433 = .ok (.aload_n 0, 1) := by decide +kernel
theorem dL_castles_434 : decode cL_castles 434 = .ok (.invokevirtual 62, 3) := by decide +kernel
theorem dL_castles_437 : decode cL_castles 437 = .ok (.ifCond .ne 7, 3) := by decide +kernel
theorem dL_castles_440 : decode cL_castles 440 = .ok (.iconst 1, 1) := by decide +kernel
theorem dL_castles_441 : decode cL_castles 441 = .ok (.goto 4, 3) := by decide +kernel
theorem dL_castles_444 : decode cL_castles 444 = .ok (.iconst 0, 1) := by decide +kernel
theorem dL_castles_445 : decode cL_castles 445 = .ok (.ireturn, 1) := by decide +kernel
set_option maxRecDepth 20000 in
theorem ggL_ends_X1_init : GoodIn wsL_ends wsX1_init := goodIn_r _ [6, 7, 8, 9, 10, 11, 12, 13, 14, 15, 16, 17, 18, 19, 20, 21, 22, 23, 24, 25, 276, 277, 270, 271, 272, 273, 274, 275] (by decide +kernel) (by decide +kernel)
set_option maxRecDepth 20000 in
theorem gL_ends_X1_init : GoodIn wsL_ends (wsX1_init) := ggL_ends_X1_init
set_option maxRecDepth 20000 in
theorem ggL_ends_X1_onTurn : GoodIn wsL_ends wsX1_onTurn := goodIn_r _ [29, 16, 270, 271, 272, 273, 274, 275] (by decide +kernel) (by decide +kernel)
set_option maxRecDepth 20000 in
theorem gL_ends_X1_onTurn : GoodIn wsL_ends (wsV RL 62 RX1 yX1_onTurn wsX1_onTurn) := goodIn_app (goodIn_of _ (by decide +kernel)) ggL_ends_X1_onTurn
set_option maxRecDepth 20000 in
theorem ggL_ends_X1_mover : GoodIn wsL_ends wsX1_mover := goodIn_r _ [33, 13, 16, 34, 35, 36, 12, 37, 38, 39, 40, 41, 42, 43, 44, 45, 24, 46, 3, 47, 270, 271, 272, 273, 274, 275, 276, 277] (by decide +kernel) (by decide +kernel)
set_option maxRecDepth 20000 in
theorem gL_ends_X1_mover : GoodIn wsL_ends (wsV RL 73 RX1 yX1_mover wsX1_mover) := goodIn_app (goodIn_of _ (by decide +kernel)) ggL_ends_X1_mover
set_option maxRecDepth 20000 in
theorem ggL_ends_X1_home : GoodIn wsL_ends wsX1_home := goodIn_ca (goodIn_r _ [51, 13, 52, 53, 3, 54, 55, 56, 57, 39, 40, 12, 41, 42, 43, 44, 45, 24, 270, 271, 272, 273, 274, 275, 276, 277] (by decide +kernel) (by decide +kernel)) (goodIn_sub (fun _ h => List.mem_cons_of_mem _ (List.mem_append_left _ (List.mem_append_left _ (List.mem_append_right _ h)))) (by decide +kernel))
set_option maxRecDepth 20000 in
theorem gL_ends_X1_home : GoodIn wsL_ends (wsV RL 34 RX1 yX1_home wsX1_home) := goodIn_app (goodIn_of _ (by decide +kernel)) ggL_ends_X1_home
set_option maxRecDepth 20000 in
theorem ggL_ends_L_goes : GoodIn wsL_ends wsL_goes := goodIn_ca (goodIn_ca (goodIn_ca (goodIn_r _ [61, 62, 63, 64, 3, 65, 66, 67, 17, 13, 16, 19, 18, 68, 69, 70, 71, 72, 73, 74, 75, 76, 77, 78, 79, 80, 81, 82, 83, 84, 85, 86, 34, 35, 36, 12, 37, 38, 39, 40, 41, 42, 43, 44, 45, 24, 46, 47, 87, 88, 89, 90, 91, 92, 93, 94, 95, 96, 97, 98, 99, 100, 101, 102, 103, 104, 105, 106, 107, 108, 109, 110, 111, 112, 25, 113, 114, 115, 116, 117, 118, 119, 120, 121, 122, 123, 124, 125, 126, 127, 128, 129, 130, 131, 132, 133, 134, 135, 136, 137, 55, 56, 138, 139, 140, 141, 142, 143, 144, 145, 146, 147, 148, 149, 150, 151, 152, 153, 154, 155, 156, 157, 158, 159, 15, 160, 161, 162, 163, 164, 165, 166, 167, 168, 270, 271, 272, 273, 274, 275, 276, 277] (by decide +kernel) (by decide +kernel)) (goodIn_sub (fun _ h => List.mem_cons_of_mem _ (List.mem_append_left _ (List.mem_append_right _ h))) (by decide +kernel))) (goodIn_sub (fun _ h => List.mem_cons_of_mem _ (List.mem_append_right _ h)) (by decide +kernel))) (goodIn_sub (fun _ h => List.mem_cons_of_mem _ (List.mem_append_left _ (List.mem_append_left _ (List.mem_append_right _ h)))) (by decide +kernel))
set_option maxRecDepth 20000 in
theorem gL_ends_L_goes : GoodIn wsL_ends (va_wsS RL 86 yL_goes wsL_goes) := goodIn_app (goodIn_of _ (by decide +kernel)) ggL_ends_L_goes
set_option maxRecDepth 20000 in
theorem ggL_ends_X1_ways : GoodIn wsL_ends wsX1_ways := goodIn_ca (goodIn_ca (goodIn_r _ [172, 66, 67, 13, 16, 17, 68, 69, 70, 3, 71, 72, 73, 18, 34, 35, 36, 12, 37, 38, 39, 40, 41, 42, 43, 44, 45, 24, 46, 47, 77, 78, 79, 80, 81, 82, 173, 174, 175, 176, 91, 92, 93, 94, 75, 76, 95, 96, 97, 98, 99, 100, 101, 102, 103, 104, 105, 106, 107, 108, 109, 110, 111, 112, 25, 113, 114, 115, 116, 117, 118, 177, 178, 179, 180, 181, 182, 183, 184, 270, 271, 272, 273, 274, 275, 276, 277] (by decide +kernel) (by decide +kernel)) (goodIn_sub (fun _ h => List.mem_cons_of_mem _ (List.mem_append_left _ (List.mem_append_right _ h))) (by decide +kernel))) (goodIn_sub (fun _ h => List.mem_cons_of_mem _ (List.mem_append_right _ h)) (by decide +kernel))
set_option maxRecDepth 20000 in
theorem gL_ends_X1_ways : GoodIn wsL_ends (wsV RL 43 RX1 yX1_ways wsX1_ways) := goodIn_app (goodIn_of _ (by decide +kernel)) ggL_ends_X1_ways
set_option maxRecDepth 20000 in
theorem ggL_ends_L_loses : GoodIn wsL_ends wsL_loses := goodIn_ca (goodIn_ca (goodIn_r _ [187, 26, 27, 28, 3, 29, 16, 62, 63, 64, 65, 66, 67, 17, 13, 19, 18, 68, 69, 70, 71, 72, 73, 74, 75, 76, 77, 78, 79, 80, 81, 82, 83, 84, 85, 86, 34, 35, 36, 12, 37, 38, 39, 40, 41, 42, 43, 44, 45, 24, 46, 47, 87, 88, 89, 90, 91, 92, 93, 94, 95, 96, 97, 98, 99, 100, 101, 102, 103, 104, 105, 106, 107, 108, 109, 110, 111, 112, 25, 113, 114, 115, 116, 117, 118, 270, 271, 272, 273, 274, 275, 276, 277] (by decide +kernel) (by decide +kernel)) (goodIn_sub (fun _ h => List.mem_cons_of_mem _ (List.mem_append_left _ (List.mem_append_right _ h))) (by decide +kernel))) (goodIn_sub (fun _ h => List.mem_cons_of_mem _ (List.mem_append_right _ h)) (by decide +kernel))
set_option maxRecDepth 20000 in
theorem gL_ends_L_loses : GoodIn wsL_ends (va_wsS RL 90 yL_loses wsL_loses) := goodIn_app (goodIn_of _ (by decide +kernel)) ggL_ends_L_loses
set_option maxRecDepth 20000 in
theorem ggL_ends_X1_phase : GoodIn wsL_ends wsX1_phase := goodIn_r _ [122, 18, 270, 271, 272, 273, 274, 275] (by decide +kernel) (by decide +kernel)
set_option maxRecDepth 20000 in
theorem gL_ends_X1_phase : GoodIn wsL_ends (wsV RL 59 RX1 yX1_phase wsX1_phase) := goodIn_app (goodIn_of _ (by decide +kernel)) ggL_ends_X1_phase
set_option maxRecDepth 20000 in
theorem ggL_ends_X1_winner : GoodIn wsL_ends wsX1_winner := goodIn_r _ [191, 18, 16, 192, 150, 3, 151, 270, 271, 272, 273, 274, 275] (by decide +kernel) (by decide +kernel)
set_option maxRecDepth 20000 in
theorem gL_ends_X1_winner : GoodIn wsL_ends (wsV RL 79 RX1 yX1_winner wsX1_winner) := goodIn_app (goodIn_of _ (by decide +kernel)) ggL_ends_X1_winner
set_option maxRecDepth 20000 in
theorem ggL_ends_X1_distance : GoodIn wsL_ends wsX1_distance := goodIn_ca (goodIn_r _ [196, 13, 197, 198, 3, 199, 66, 67, 200, 201, 202, 12, 203, 42, 43, 44, 45, 24, 270, 271, 272, 273, 274, 275, 276, 277] (by decide +kernel) (by decide +kernel)) (goodIn_sub (fun _ h => List.mem_cons_of_mem _ (List.mem_append_left _ (List.mem_append_right _ h))) (by decide +kernel))
set_option maxRecDepth 20000 in
theorem gL_ends_X1_distance : GoodIn wsL_ends (wsV RL 40 RX1 yX1_distance wsX1_distance) := goodIn_app (goodIn_of _ (by decide +kernel)) ggL_ends_X1_distance
set_option maxRecDepth 20000 in
theorem ggL_ends_X1_square : GoodIn wsL_ends wsX1_square := goodIn_ca (goodIn_r _ [207, 13, 52, 53, 3, 54, 55, 56, 135, 136, 137, 208, 43, 44, 12, 45, 24, 141, 104, 105, 106, 270, 271, 272, 273, 274, 275, 276, 277] (by decide +kernel) (by decide +kernel)) (goodIn_sub (fun _ h => List.mem_cons_of_mem _ (List.mem_append_left _ (List.mem_append_left _ (List.mem_append_right _ h)))) (by decide +kernel))
set_option maxRecDepth 20000 in
theorem gL_ends_X1_square : GoodIn wsL_ends (wsV RL 24 RX1 yX1_square wsX1_square) := goodIn_app (goodIn_of _ (by decide +kernel)) ggL_ends_X1_square
set_option maxRecDepth 20000 in
theorem ggL_ends_X1_threat : GoodIn wsL_ends wsX1_threat := goodIn_ca (goodIn_ca (goodIn_r _ [212, 66, 67, 13, 52, 53, 3, 54, 55, 56, 135, 136, 137, 192, 150, 151, 208, 43, 44, 12, 45, 24, 141, 104, 105, 106, 34, 35, 36, 37, 38, 39, 40, 41, 42, 46, 47, 213, 214, 215, 216, 91, 92, 93, 94, 81, 82, 75, 76, 95, 96, 97, 98, 99, 100, 101, 102, 103, 107, 108, 109, 110, 111, 112, 25, 113, 114, 115, 116, 117, 118, 181, 182, 183, 184, 270, 271, 272, 273, 274, 275, 276, 277] (by decide +kernel) (by decide +kernel)) (goodIn_sub (fun _ h => List.mem_cons_of_mem _ (List.mem_append_left _ (List.mem_append_right _ h))) (by decide +kernel))) (goodIn_sub (fun _ h => List.mem_cons_of_mem _ (List.mem_append_left _ (List.mem_append_left _ (List.mem_append_right _ h)))) (by decide +kernel))
set_option maxRecDepth 20000 in
theorem gL_ends_X1_threat : GoodIn wsL_ends (wsV RL 46 RX1 yX1_threat wsX1_threat) := goodIn_app (goodIn_of _ (by decide +kernel)) ggL_ends_X1_threat
set_option maxRecDepth 20000 in
theorem ggL_ends_L_refuses : GoodIn wsL_ends wsL_refuses := goodIn_ca (goodIn_ca (goodIn_ca (goodIn_r _ [219, 220, 119, 120, 121, 3, 122, 18, 26, 27, 28, 29, 16, 221, 222, 60, 223, 224, 225, 226, 62, 63, 64, 65, 66, 67, 17, 13, 19, 68, 69, 70, 71, 72, 73, 74, 75, 76, 77, 78, 79, 80, 81, 82, 83, 84, 85, 86, 34, 35, 36, 12, 37, 38, 39, 40, 41, 42, 43, 44, 45, 24, 46, 47, 87, 88, 89, 90, 91, 92, 93, 94, 95, 96, 97, 98, 99, 100, 101, 102, 103, 104, 105, 106, 107, 108, 109, 110, 111, 112, 25, 113, 114, 115, 116, 117, 118, 131, 132, 133, 134, 135, 136, 137, 55, 56, 127, 128, 129, 130, 138, 139, 140, 141, 142, 143, 144, 145, 146, 147, 148, 149, 150, 151, 152, 153, 154, 155, 156, 157, 158, 159, 15, 160, 161, 162, 163, 164, 165, 166, 167, 168, 123, 124, 125, 126, 227, 228, 229, 230, 52, 53, 54, 208, 204, 205, 206, 207, 231, 232, 233, 234, 235, 236, 237, 197, 198, 199, 238, 239, 240, 241, 242, 243, 48, 49, 50, 51, 57, 244, 245, 246, 247, 193, 194, 195, 196, 200, 201, 202, 203, 169, 170, 171, 172, 173, 174, 175, 176, 177, 178, 179, 180, 181, 182, 183, 184, 209, 210, 211, 212, 192, 213, 214, 215, 216, 248, 249, 250, 251, 252, 253, 254, 255, 256, 257, 258, 259, 260, 261, 262, 263, 264, 265, 266, 267, 268, 269, 270, 271, 272, 273, 274, 275, 276, 277] (by decide +kernel) (by decide +kernel)) (goodIn_sub (fun _ h => List.mem_cons_of_mem _ (List.mem_append_left _ (List.mem_append_right _ h))) (by decide +kernel))) (goodIn_sub (fun _ h => List.mem_cons_of_mem _ (List.mem_append_right _ h)) (by decide +kernel))) (goodIn_sub (fun _ h => List.mem_cons_of_mem _ (List.mem_append_left _ (List.mem_append_left _ (List.mem_append_right _ h)))) (by decide +kernel))
set_option maxRecDepth 20000 in
theorem gL_ends_L_refuses : GoodIn wsL_ends (va_wsS RL 82 yL_refuses wsL_refuses) := goodIn_app (goodIn_of _ (by decide +kernel)) ggL_ends_L_refuses
theorem dL_ends_0 : decode cL_ends 0 = .ok (.new 8, 3) := by decide +kernel
theorem dL_ends_3 : decode cL_ends 3 = .ok (.dup, 1) := by decide +kernel
theorem dL_ends_4 : decode cL_ends 4 = .ok (.invokespecial 72, 3) := by decide +kernel
theorem dL_ends_7 : decode cL_ends 7 = .ok (.astore_n 0, 1) := by decide +kernel
theorem dL_ends_8 : decode cL_ends 8 = .ok (.iconst 0, 1) := by decide +kernel
theorem dL_ends_9 : decode cL_ends 9 = .ok (.istore_n 1, 1) := by decide +kernel
theorem dL_ends_10 : decode cL_ends 10 = .ok (.iload_n 1, 1) := by decide +kernel
theorem dL_ends_11 : decode cL_ends 11 = .ok (.bipush 24, 2) := by decide +kernel
theorem dL_ends_13 : decode cL_ends 13 = .ok (.if_icmp .ge 294, 3) := by decide +kernel
theorem dL_ends_16 : decode cL_ends 16 = .ok (.iload_n 1, 1) := by decide +kernel
theorem dL_ends_17 : decode cL_ends 17 = .ok (.iconst 3, 1) := by decide +kernel
theorem dL_ends_18 : decode cL_ends 18 = .ok (.idiv, 1) := by decide +kernel
theorem dL_ends_19 : decode cL_ends 19 = .ok (.iconst 4, 1) := by decide +kernel
theorem dL_ends_20 : decode cL_ends 20 = .ok (.irem, 1) := by decide +kernel
theorem dL_ends_21 : decode cL_ends 21 = .ok (.istore_n 2, 1) := by decide +kernel
theorem dL_ends_22 : decode cL_ends 22 = .ok (.iload_n 1, 1) := by decide +kernel
theorem dL_ends_23 : decode cL_ends 23 = .ok (.bipush 12, 2) := by decide +kernel
theorem dL_ends_25 : decode cL_ends 25 = .ok (.if_icmp .ge 7, 3) := by decide +kernel
theorem dL_ends_28 : decode cL_ends 28 = .ok (.iconst 0, 1) := by decide +kernel
theorem dL_ends_29 : decode cL_ends 29 = .ok (.goto 8, 3) := by decide +kernel
theorem dL_ends_32 : decode cL_ends 32 = .ok (.iload_n 1, 1) := by decide +kernel
theorem dL_ends_33 : decode cL_ends 33 = .ok (.iconst 2, 1) := by decide +kernel
theorem dL_ends_34 : decode cL_ends 34 = .ok (.irem, 1) := by decide +kernel
theorem dL_ends_35 : decode cL_ends 35 = .ok (.iconst 2, 1) := by decide +kernel
theorem dL_ends_36 : decode cL_ends 36 = .ok (.imul, 1) := by decide +kernel
theorem dL_ends_37 : decode cL_ends 37 = .ok (.istore_n 3, 1) := by decide +kernel
theorem dL_ends_38 : decode cL_ends 38 = .ok (.aload_n 0, 1) := by decide +kernel
theorem dL_ends_39 : decode cL_ends 39 = .ok (.invokevirtual 62, 3) := by decide +kernel
theorem dL_ends_42 : decode cL_ends 42 = .ok (.iload_n 3, 1) := by decide +kernel
theorem dL_ends_43 : decode cL_ends 43 = .ok (.if_icmp .ne 44, 3) := by decide +kernel
theorem dL_ends_46 : decode cL_ends 46 = .ok (.aload_n 0, 1) := by decide +kernel
theorem dL_ends_47 : decode cL_ends 47 = .ok (.invokevirtual 73, 3) := by decide +kernel
theorem dL_ends_50 : decode cL_ends 50 = .ok (.iload_n 1, 1) := by decide +kernel
theorem dL_ends_51 : decode cL_ends 51 = .ok (.bipush 12, 2) := by decide +kernel
theorem dL_ends_53 : decode cL_ends 53 = .ok (.if_icmp .ge 7, 3) := by decide +kernel
theorem dL_ends_56 : decode cL_ends 56 = .ok (.iconst 0, 1) := by decide +kernel
theorem dL_ends_57 : decode cL_ends 57 = .ok (.goto 4, 3) := by decide +kernel
theorem dL_ends_60 : decode cL_ends 60 = .ok (.iconst 2, 1) := by decide +kernel
theorem dL_ends_61 : decode cL_ends 61 = .ok (.if_icmp .ne 26, 3) := by decide +kernel
theorem dL_ends_64 : decode cL_ends 64 = .ok (.aload_n 0, 1) := by decide +kernel
theorem dL_ends_65 : decode cL_ends 65 = .ok (.iload_n 1, 1) := by decide +kernel
theorem dL_ends_66 : decode cL_ends 66 = .ok (.bipush 12, 2) := by decide +kernel
theorem dL_ends_68 : decode cL_ends 68 = .ok (.if_icmp .ge 7, 3) := by decide +kernel
theorem dL_ends_71 : decode cL_ends 71 = .ok (.iconst 0, 1) := by decide +kernel
theorem dL_ends_72 : decode cL_ends 72 = .ok (.goto 4, 3) := by decide +kernel
theorem dL_ends_75 : decode cL_ends 75 = .ok (.iconst 2, 1) := by decide +kernel
theorem dL_ends_76 : decode cL_ends 76 = .ok (.invokevirtual 34, 3) := by decide +kernel
theorem dL_ends_79 : decode cL_ends 79 = .ok (.iload_n 2, 1) := by decide +kernel
theorem dL_ends_80 : decode cL_ends 80 = .ok (.if_icmp .ne 7, 3) := by decide +kernel
theorem dL_ends_83 : decode cL_ends 83 = .ok (.iconst 1, 1) := by decide +kernel
theorem dL_ends_84 : decode cL_ends 84 = .ok (.goto 4, 3) := by decide +kernel
theorem dL_ends_87 : decode cL_ends 87 = .ok (.iconst 0, 1) := by decide +kernel
theorem dL_ends_88 : decode cL_ends 88 = .ok (.istore 4, 2) := by decide +kernel
theorem dL_ends_90 : decode cL_ends 90 = .ok (.bipush 15, 2) := by decide +kernel
theorem dL_ends_92 : decode cL_ends 92 = .ok (.iconst 1, 1) := by decide +kernel
theorem dL_ends_93 : decode cL_ends 93 = .ok (.iload_n 2, 1) := by decide +kernel
theorem dL_ends_94 : decode cL_ends 94 = .ok (.ishl, 1) := by decide +kernel
theorem dL_ends_95 : decode cL_ends 95 = .ok (.isub, 1) := by decide +kernel
theorem dL_ends_96 : decode cL_ends 96 = .ok (.iconst 1, 1) := by decide +kernel
theorem dL_ends_97 : decode cL_ends 97 = .ok (.iadd, 1) := by decide +kernel
theorem dL_ends_98 : decode cL_ends 98 = .ok (.istore 5, 2) := by decide +kernel
theorem dL_ends_100 : decode cL_ends 100 = .ok (.iload_n 1, 1) := by decide +kernel
theorem dL_ends_101 : decode cL_ends 101 = .ok (.iconst 3, 1) := by decide +kernel
theorem dL_ends_102 : decode cL_ends 102 = .ok (.irem, 1) := by decide +kernel
theorem dL_ends_103 : decode cL_ends 103 = .ok (.ifCond .ne 51, 3) := by decide +kernel
theorem dL_ends_106 : decode cL_ends 106 = .ok (.aload_n 0, 1) := by decide +kernel
theorem dL_ends_107 : decode cL_ends 107 = .ok (.bipush 6, 2) := by decide +kernel
theorem dL_ends_109 : decode cL_ends 109 = .ok (.iload 5, 2) := by decide +kernel
theorem dL_ends_111 : decode cL_ends 111 = .ok (.iload_n 2, 1) := by decide +kernel
theorem dL_ends_112 : decode cL_ends 112 = .ok (.iconst 1, 1) := by decide +kernel
theorem dL_ends_113 : decode cL_ends 113 = .ok (.invokestatic 86, 3) := by decide +kernel
theorem dL_ends_116 : decode cL_ends 116 = .ok (.ifCond .eq 34, 3) := by decide +kernel
theorem dL_ends_119 : decode cL_ends 119 = .ok (.aload_n 0, 1) := by decide +kernel
theorem dL_ends_120 : decode cL_ends 120 = .ok (.iconst 0, 1) := by decide +kernel
theorem dL_ends_121 : decode cL_ends 121 = .ok (.iload 5, 2) := by decide +kernel
theorem dL_ends_123 : decode cL_ends 123 = .ok (.iload_n 2, 1) := by decide +kernel
theorem dL_ends_124 : decode cL_ends 124 = .ok (.bipush 26, 2) := by decide +kernel
theorem dL_ends_126 : decode cL_ends 126 = .ok (.invokestatic 86, 3) := by decide +kernel
theorem dL_ends_129 : decode cL_ends 129 = .ok (.ifCond .eq 21, 3) := by decide +kernel
theorem dL_ends_132 : decode cL_ends 132 = .ok (.aload_n 0, 1) := by decide +kernel
theorem dL_ends_133 : decode cL_ends 133 = .ok (.iconst 3, 1) := by decide +kernel
theorem dL_ends_134 : decode cL_ends 134 = .ok (.iconst 1, 1) := by decide +kernel
theorem dL_ends_135 : decode cL_ends 135 = .ok (.iload_n 2, 1) := by decide +kernel
theorem dL_ends_136 : decode cL_ends 136 = .ok (.ishl, 1) := by decide +kernel
theorem dL_ends_137 : decode cL_ends 137 = .ok (.iload_n 2, 1) := by decide +kernel
theorem dL_ends_138 : decode cL_ends 138 = .ok (.bipush 29, 2) := by decide +kernel
theorem dL_ends_140 : decode cL_ends 140 = .ok (.invokestatic 86, 3) := by decide +kernel
theorem dL_ends_143 : decode cL_ends 143 = .ok (.ifCond .eq 7, 3) := by decide +kernel
theorem dL_ends_146 : decode cL_ends 146 = .ok (.iconst 1, 1) := by decide +kernel
theorem dL_ends_147 : decode cL_ends 147 = .ok (.goto 91, 3) := by decide +kernel
theorem dL_ends_150 : decode cL_ends 150 = .ok (.iconst 0, 1) := by decide +kernel
theorem dL_ends_151 : decode cL_ends 151 = .ok (.goto 87, 3) := by decide +kernel
theorem dL_ends_154 : decode cL_ends 154 = .ok (.iload_n 1, 1) := by decide +kernel
theorem dL_ends_155 : decode cL_ends 155 = .ok (.iconst 3, 1) := by decide +kernel
theorem dL_ends_156 : decode cL_ends 156 = .ok (.irem, 1) := by decide +kernel
theorem dL_ends_157 : decode cL_ends 157 = .ok (.iconst 1, 1) := by decide +kernel
theorem dL_ends_158 : decode cL_ends 158 = .ok (.if_icmp .ne 51, 3) := by decide +kernel
theorem dL_ends_161 : decode cL_ends 161 = .ok (.aload_n 0, 1) := by decide +kernel
theorem dL_ends_162 : decode cL_ends 162 = .ok (.iconst 0, 1) := by decide +kernel
theorem dL_ends_163 : decode cL_ends 163 = .ok (.iload 5, 2) := by decide +kernel
theorem dL_ends_165 : decode cL_ends 165 = .ok (.iload_n 2, 1) := by decide +kernel
theorem dL_ends_166 : decode cL_ends 166 = .ok (.bipush 54, 2) := by decide +kernel
theorem dL_ends_168 : decode cL_ends 168 = .ok (.invokestatic 86, 3) := by decide +kernel
theorem dL_ends_171 : decode cL_ends 171 = .ok (.ifCond .eq 34, 3) := by decide +kernel
theorem dL_ends_174 : decode cL_ends 174 = .ok (.aload_n 0, 1) := by decide +kernel
theorem dL_ends_175 : decode cL_ends 175 = .ok (.iconst 1, 1) := by decide +kernel
theorem dL_ends_176 : decode cL_ends 176 = .ok (.iload 5, 2) := by decide +kernel
theorem dL_ends_178 : decode cL_ends 178 = .ok (.iload_n 2, 1) := by decide +kernel
theorem dL_ends_179 : decode cL_ends 179 = .ok (.bipush 64, 2) := by decide +kernel
theorem dL_ends_181 : decode cL_ends 181 = .ok (.invokestatic 86, 3) := by decide +kernel
theorem dL_ends_184 : decode cL_ends 184 = .ok (.ifCond .eq 21, 3) := by decide +kernel
theorem dL_ends_187 : decode cL_ends 187 = .ok (.aload_n 0, 1) := by decide +kernel
theorem dL_ends_188 : decode cL_ends 188 = .ok (.iconst 4, 1) := by decide +kernel
theorem dL_ends_189 : decode cL_ends 189 = .ok (.iconst 1, 1) := by decide +kernel
theorem dL_ends_190 : decode cL_ends 190 = .ok (.iload_n 2, 1) := by decide +kernel
theorem dL_ends_191 : decode cL_ends 191 = .ok (.ishl, 1) := by decide +kernel
theorem dL_ends_192 : decode cL_ends 192 = .ok (.iload_n 2, 1) := by decide +kernel
theorem dL_ends_193 : decode cL_ends 193 = .ok (.bipush 68, 2) := by decide +kernel
theorem dL_ends_195 : decode cL_ends 195 = .ok (.invokestatic 86, 3) := by decide +kernel
theorem dL_ends_198 : decode cL_ends 198 = .ok (.ifCond .eq 7, 3) := by decide +kernel
theorem dL_ends_201 : decode cL_ends 201 = .ok (.iconst 1, 1) := by decide +kernel
theorem dL_ends_202 : decode cL_ends 202 = .ok (.goto 36, 3) := by decide +kernel
theorem dL_ends_205 : decode cL_ends 205 = .ok (.iconst 0, 1) := by decide +kernel
theorem dL_ends_206 : decode cL_ends 206 = .ok (.goto 32, 3) := by decide +kernel
theorem dL_ends_209 : decode cL_ends 209 = .ok (.aload_n 0, 1) := by decide +kernel
theorem dL_ends_210 : decode cL_ends 210 = .ok (.iconst 2, 1) := by decide +kernel
theorem dL_ends_211 : decode cL_ends 211 = .ok (.invokevirtual 43, 3) := by decide +kernel
theorem dL_ends_214 : decode cL_ends 214 = .ok (.bipush 15, 2) := by decide +kernel
theorem dL_ends_216 : decode cL_ends 216 = .ok (.if_icmp .ne 21, 3) := by decide +kernel
theorem dL_ends_219 : decode cL_ends 219 = .ok (.aload_n 0, 1) := by decide +kernel
theorem dL_ends_220 : decode cL_ends 220 = .ok (.iconst 4, 1) := by decide +kernel
theorem dL_ends_221 : decode cL_ends 221 = .ok (.iconst 1, 1) := by decide +kernel
theorem dL_ends_222 : decode cL_ends 222 = .ok (.iload_n 2, 1) := by decide +kernel
theorem dL_ends_223 : decode cL_ends 223 = .ok (.ishl, 1) := by decide +kernel
theorem dL_ends_224 : decode cL_ends 224 = .ok (.iload_n 2, 1) := by decide +kernel
theorem dL_ends_225 : decode cL_ends 225 = .ok (.bipush 72, 2) := by decide +kernel
theorem dL_ends_227 : decode cL_ends 227 = .ok (.invokestatic 86, 3) := by decide +kernel
theorem dL_ends_230 : decode cL_ends 230 = .ok (.ifCond .eq 7, 3) := by decide +kernel
theorem dL_ends_233 : decode cL_ends 233 = .ok (.iconst 1, 1) := by decide +kernel
theorem dL_ends_234 : decode cL_ends 234 = .ok (.goto 4, 3) := by decide +kernel
theorem dL_ends_237 : decode cL_ends 237 = .ok (.iconst 0, 1) := by decide +kernel
theorem dL_ends_238 : decode cL_ends 238 = .ok (.istore 6, 2) := by decide +kernel
theorem dL_ends_240 : decode cL_ends 240 = .ok (.iload 4, 2) := by decide +kernel
theorem dL_ends_242 : decode cL_ends 242 = .ok (.ifCond .eq 8, 3) := by decide +kernel
theorem dL_ends_245 : decode cL_ends 245 = .ok (.iload 6, 2) := by decide +kernel
theorem dL_ends_247 : decode cL_ends 247 = .ok (.ifCond .ne 5, 3) := by decide +kernel
theorem dL_ends_250 : decode cL_ends 250 = .ok (.iconst 0, 1) := by decide +kernel
theorem dL_ends_251 : decode cL_ends 251 = .ok (.ireturn, 1) := by decide +kernel
theorem dL_ends_252 : decode cL_ends 252 = .ok (.iload_n 1, 1) := by decide +kernel
theorem dL_ends_253 : decode cL_ends 253 = .ok (.bipush 23, 2) := by decide +kernel
theorem dL_ends_255 : decode cL_ends 255 = .ok (.if_icmp .ne 6, 3) := by decide +kernel
theorem dL_ends_258 : decode cL_ends 258 = .ok (.goto 43, 3) := by decide +kernel
theorem dL_ends_261 : decode cL_ends 261 = .ok (.iconst 1, 1) := by decide +kernel
theorem dL_ends_262 : decode cL_ends 262 = .ok (.istore 7, 2) := by decide +kernel
theorem dL_ends_264 : decode cL_ends 264 = .ok (.iload 7, 2) := by decide +kernel
theorem dL_ends_266 : decode cL_ends 266 = .ok (.iload_n 1, 1) := by decide +kernel
theorem dL_ends_267 : decode cL_ends 267 = .ok (.bipush 12, 2) := by decide +kernel
theorem dL_ends_269 : decode cL_ends 269 = .ok (.if_icmp .ge 7, 3) := by decide +kernel
theorem dL_ends_272 : decode cL_ends 272 = .ok (.iconst 4, 1) := by decide +kernel
theorem dL_ends_273 : decode cL_ends 273 = .ok (.goto 4, 3) := by decide +kernel
theorem dL_ends_276 : decode cL_ends 276 = .ok (.iconst 2, 1) := by decide +kernel
theorem dL_ends_277 : decode cL_ends 277 = .ok (.if_icmp .ge 24, 3) := by decide +kernel
theorem dL_ends_280 : decode cL_ends 280 = .ok (.aload_n 0, 1) := by decide +kernel
theorem dL_ends_281 : decode cL_ends 281 = .ok (.iload_n 3, 1) := by decide +kernel
theorem dL_ends_282 : decode cL_ends 282 = .ok (.iload 7, 2) := by decide +kernel
theorem dL_ends_284 : decode cL_ends 284 = .ok (.iadd, 1) := by decide +kernel
theorem dL_ends_285 : decode cL_ends 285 = .ok (.iconst 4, 1) := by decide +kernel
theorem dL_ends_286 : decode cL_ends 286 = .ok (.irem, 1) := by decide +kernel
theorem dL_ends_287 : decode cL_ends 287 = .ok (.invokestatic 90, 3) := by decide +kernel
theorem dL_ends_290 : decode cL_ends 290 = .ok (.ifCond .ne 5, 3) := by decide +kernel
theorem dL_ends_293 : decode cL_ends 293 = .ok (.iconst 0, 1) := by decide +kernel
theorem dL_ends_294 : decode cL_ends 294 = .ok (.ireturn, 1) := by decide +kernel
theorem dL_ends_295 : decode cL_ends 295 = .ok (.iinc 7 1, 3) := by decide +kernel
theorem dL_ends_298 : decode cL_ends 298 = .ok (.goto (-34), 3) := by decide +kernel
theorem dL_ends_301 : decode cL_ends 301 = .ok (.iinc 1 1, 3) := by decide +kernel
theorem dL_ends_304 : decode cL_ends 304 = .ok (.goto (-294), 3) := by decide +kernel
theorem dL_ends_307 : decode cL_ends 307 = .ok (.aload_n 0, 1) := by decide +kernel
theorem dL_ends_308 : decode cL_ends 308 = .ok (.invokevirtual 59, 3) := by decide +kernel
theorem dL_ends_311 : decode cL_ends 311 = .ok (.iconst 2, 1) := by decide +kernel
theorem dL_ends_312 : decode cL_ends 312 = .ok (.if_icmp .ne 77, 3) := by decide +kernel
theorem dL_ends_315 : decode cL_ends 315 = .ok (.aload_n 0, 1) := by decide +kernel
theorem dL_ends_316 : decode cL_ends 316 = .ok (.invokevirtual 79, 3) := by decide +kernel
theorem dL_ends_319 : decode cL_ends 319 = .ok (.ifCond .ne 70, 3) := by decide +kernel
theorem dL_ends_322 : decode cL_ends 322 = .ok (.aload_n 0, 1) := by decide +kernel
theorem dL_ends_323 : decode cL_ends 323 = .ok (.invokevirtual 62, 3) := by decide +kernel
theorem dL_ends_326 : decode cL_ends 326 = .ok (.iconst 2, 1) := by decide +kernel
theorem dL_ends_327 : decode cL_ends 327 = .ok (.if_icmp .ne 62, 3) := by decide +kernel
theorem dL_ends_330 : decode cL_ends 330 = .ok (.aload_n 0, 1) := by decide +kernel
theorem dL_ends_331 : decode cL_ends 331 = .ok (.iconst 0, 1) := by decide +kernel
theorem dL_ends_332 : decode cL_ends 332 = .ok (.invokevirtual 40, 3) := by decide +kernel
theorem dL_ends_335 : decode cL_ends 335 = .ok (.ifCond .ne 54, 3) := by decide +kernel
theorem dL_ends_338 : decode cL_ends 338 = .ok (.aload_n 0, 1) := by decide +kernel
theorem dL_ends_339 : decode cL_ends 339 = .ok (.iconst 1, 1) := by decide +kernel
theorem dL_ends_340 : decode cL_ends 340 = .ok (.invokevirtual 40, 3) := by decide +kernel
theorem dL_ends_343 : decode cL_ends 343 = .ok (.sipush 576, 3) := by decide +kernel
theorem dL_ends_346 : decode cL_ends 346 = .ok (.if_icmp .ne 43, 3) := by decide +kernel
theorem dL_ends_349 : decode cL_ends 349 = .ok (.aload_n 0, 1) := by decide +kernel
theorem dL_ends_350 : decode cL_ends 350 = .ok (.iconst 0, 1) := by decide +kernel
theorem dL_ends_351 : decode cL_ends 351 = .ok (.invokevirtual 34, 3) := by decide +kernel
theorem dL_ends_354 : decode cL_ends 354 = .ok (.iconst 4, 1) := by decide +kernel
theorem dL_ends_355 : decode cL_ends 355 = .ok (.if_icmp .ne 34, 3) := by decide +kernel
theorem dL_ends_358 : decode cL_ends 358 = .ok (.aload_n 0, 1) := by decide +kernel
theorem dL_ends_359 : decode cL_ends 359 = .ok (.iconst 2, 1) := by decide +kernel
theorem dL_ends_360 : decode cL_ends 360 = .ok (.iconst 3, 1) := by decide +kernel
theorem dL_ends_361 : decode cL_ends 361 = .ok (.invokevirtual 24, 3) := by decide +kernel
theorem dL_ends_364 : decode cL_ends 364 = .ok (.iconst (-1), 1) := by decide +kernel
theorem dL_ends_365 : decode cL_ends 365 = .ok (.if_icmp .ne 24, 3) := by decide +kernel
theorem dL_ends_368 : decode cL_ends 368 = .ok (.aload_n 0, 1) := by decide +kernel
theorem dL_ends_369 : decode cL_ends 369 = .ok (.iconst 1, 1) := by decide +kernel
theorem dL_ends_370 : decode cL_ends 370 = .ok (.iconst 0, 1) := by decide +kernel
theorem dL_ends_371 : decode cL_ends 371 = .ok (.iconst 0, 1) := by decide +kernel
theorem dL_ends_372 : decode cL_ends 372 = .ok (.invokevirtual 46, 3) := by decide +kernel
theorem dL_ends_375 : decode cL_ends 375 = .ok (.ifCond .ne 14, 3) := by decide +kernel
theorem dL_ends_378 : decode cL_ends 378 = .ok (.aload_n 0, 1) := by decide +kernel
theorem dL_ends_379 : decode cL_ends 379 = .ok (.invokestatic 82, 3) := by decide +kernel
theorem dL_ends_382 : decode cL_ends 382 = .ok (.ifCond .eq 7, 3) := by decide +kernel
theorem dL_ends_385 : decode cL_ends 385 = .ok (.iconst 1, 1) := by decide +kernel
theorem dL_ends_386 : decode cL_ends 386 = .ok (.goto 4, 3) := by decide +kernel
theorem dL_ends_389 : decode cL_ends 389 = .ok (.iconst 0, 1) := by decide +kernel
theorem dL_ends_390 : decode cL_ends 390 = .ok (.ireturn, 1) := by decide +kernel
set_option maxRecDepth 20000 in
theorem ggL_law_L_captures : GoodIn wsL_law wsL_captures := goodIn_ca (goodIn_ca (goodIn_ca (goodIn_r _ [6, 0, 1, 2, 7, 8, 9, 10, 11, 12, 13, 14, 15, 16, 17, 18, 19, 20, 21, 22, 23, 24, 25, 26, 27, 28, 29, 30, 31, 32, 33, 34, 35, 36, 37, 38, 39, 40, 41, 42, 43, 44, 45, 46, 47, 48, 49, 50, 51, 52, 53, 54, 55, 56, 57, 58, 59, 60, 61, 62, 63, 64, 65, 66, 67, 68, 69, 70, 71, 72, 73, 74, 75, 76, 77, 78, 79, 80, 81, 82, 83, 84, 85, 86, 87, 88, 89, 90, 91, 92, 93, 94, 95, 96, 97, 98, 99, 100, 101, 102, 103, 104, 105, 106, 107, 108, 109, 110, 111, 112, 113, 114, 115, 116, 117, 118, 119, 120, 121, 122, 123, 124, 125, 126, 127, 128, 129, 130, 131, 132, 133, 134, 135, 136, 137, 138, 139, 140, 141, 142, 143, 144, 145, 146, 147, 148, 149, 150, 151, 152, 153, 154, 155, 156, 157, 158, 159, 160, 161, 162, 163, 164, 165, 166, 167, 168, 169, 170, 171, 172, 173, 174, 175, 176, 177, 178, 179, 180, 181, 182, 183, 184, 185, 186, 187, 5, 188, 189, 190, 191, 192, 193, 194, 195, 196, 197, 198, 199, 200, 201, 202, 203, 204, 205, 206, 207, 208, 209, 210, 211, 212, 213, 214, 215, 216, 217, 218, 219, 220, 221, 222, 223, 224, 225, 226, 227, 228, 229, 230, 231, 232, 233, 234, 235, 236, 237, 238, 239, 240, 241, 242, 243, 244, 245, 246, 247, 248, 249, 250, 251, 252, 253, 254, 255, 256, 257, 258, 259, 260, 261, 262, 263, 264, 265, 266, 267, 268, 269, 270, 271, 272, 273, 274, 275, 282, 283, 284, 285, 286, 287, 288, 289] (by decide +kernel) (by decide +kernel)) (goodIn_sub (fun _ h => List.mem_append_left _ (List.mem_append_left _ (List.mem_append_right _ h))) (by decide +kernel))) (goodIn_sub (fun _ h => List.mem_append_left _ (List.mem_append_right _ h)) (by decide +kernel))) (goodIn_sub (fun _ h => List.mem_append_right _ h) (by decide +kernel))
set_option maxRecDepth 20000 in
theorem gL_law_L_captures : GoodIn wsL_law (va_wsS RL 94 yL_captures wsL_captures) := goodIn_app (goodIn_of _ (by decide +kernel)) ggL_law_L_captures
set_option maxRecDepth 20000 in
theorem ggL_law_L_castles : GoodIn wsL_law wsL_castles := goodIn_ca (goodIn_ca (goodIn_ca (goodIn_r _ [278, 0, 1, 2, 7, 8, 9, 10, 11, 12, 13, 14, 15, 16, 17, 18, 19, 20, 21, 22, 23, 24, 25, 26, 27, 28, 270, 271, 5, 272, 196, 197, 198, 199, 73, 74, 100, 101, 102, 103, 104, 105, 200, 120, 121, 106, 107, 108, 109, 110, 111, 201, 202, 203, 204, 41, 42, 43, 44, 45, 46, 47, 48, 49, 50, 51, 52, 53, 54, 173, 174, 175, 176, 116, 117, 118, 119, 122, 123, 124, 125, 126, 127, 128, 129, 130, 93, 94, 95, 131, 132, 133, 134, 135, 136, 137, 138, 139, 140, 141, 142, 29, 30, 31, 32, 232, 233, 234, 235, 209, 210, 211, 212, 205, 206, 207, 208, 88, 89, 90, 86, 87, 177, 213, 214, 92, 215, 216, 217, 218, 219, 179, 180, 181, 64, 65, 182, 183, 184, 185, 220, 221, 222, 223, 178, 224, 225, 226, 227, 228, 229, 230, 231, 240, 241, 242, 243, 244, 245, 246, 70, 71, 72, 247, 33, 34, 35, 36, 273, 274, 275, 79, 80, 81, 82, 83, 84, 85, 91, 96, 97, 98, 99, 112, 113, 114, 115, 143, 144, 145, 146, 147, 148, 149, 150, 262, 263, 264, 265, 63, 266, 267, 268, 269, 282, 283, 284, 285, 286, 287, 288, 289] (by decide +kernel) (by decide +kernel)) (goodIn_sub (fun _ h => List.mem_append_left _ (List.mem_append_left _ (List.mem_append_right _ h))) (by decide +kernel))) (goodIn_sub (fun _ h => List.mem_append_right _ h) (by decide +kernel))) (goodIn_sub (fun _ h => List.mem_append_left _ (List.mem_append_right _ h)) (by decide +kernel))
set_option maxRecDepth 20000 in
theorem gL_law_L_castles : GoodIn wsL_law (va_wsS RL 97 yL_castles wsL_castles) := goodIn_app (goodIn_of _ (by decide +kernel)) ggL_law_L_castles
set_option maxRecDepth 20000 in
theorem ggL_law_L_ends : GoodIn wsL_law wsL_ends := goodIn_ca (goodIn_ca (goodIn_ca (goodIn_r _ [281, 0, 1, 2, 7, 8, 9, 10, 11, 12, 13, 14, 15, 16, 17, 18, 19, 20, 21, 22, 23, 24, 25, 26, 27, 28, 33, 34, 35, 36, 37, 38, 39, 40, 41, 42, 43, 44, 45, 46, 47, 48, 49, 50, 51, 52, 53, 54, 253, 254, 255, 256, 83, 84, 85, 86, 87, 257, 270, 271, 5, 272, 196, 197, 198, 199, 73, 74, 100, 101, 102, 103, 104, 105, 200, 120, 121, 106, 107, 108, 109, 110, 111, 201, 202, 203, 204, 173, 174, 175, 176, 116, 117, 118, 119, 122, 123, 124, 125, 126, 127, 128, 129, 130, 93, 94, 95, 131, 132, 133, 134, 135, 136, 137, 138, 139, 140, 141, 142, 29, 30, 31, 32, 232, 233, 234, 235, 209, 210, 211, 212, 205, 206, 207, 208, 88, 89, 90, 177, 213, 214, 92, 215, 216, 217, 218, 219, 179, 180, 181, 64, 65, 182, 183, 184, 185, 220, 221, 222, 223, 178, 224, 225, 226, 227, 228, 229, 230, 231, 96, 97, 98, 99, 112, 113, 114, 115, 143, 144, 145, 146, 147, 148, 149, 150, 273, 274, 275, 59, 60, 61, 62, 63, 66, 67, 68, 69, 70, 71, 72, 75, 76, 77, 78, 79, 80, 81, 82, 91, 262, 263, 264, 265, 266, 267, 268, 269, 186, 187, 188, 189, 190, 191, 192, 193, 194, 195, 236, 237, 238, 239, 240, 241, 242, 243, 244, 245, 246, 247, 248, 249, 250, 251, 252, 258, 259, 260, 261, 151, 152, 153, 154, 155, 156, 157, 158, 159, 160, 161, 162, 163, 164, 165, 166, 167, 168, 169, 170, 171, 172, 282, 283, 284, 285, 286, 287, 288, 289] (by decide +kernel) (by decide +kernel)) (goodIn_sub (fun _ h => List.mem_append_left _ (List.mem_append_right _ h)) (by decide +kernel))) (goodIn_sub (fun _ h => List.mem_append_left _ (List.mem_append_left _ (List.mem_append_right _ h))) (by decide +kernel))) (goodIn_sub (fun _ h => List.mem_append_right _ h) (by decide +kernel))
set_option maxRecDepth 20000 in
theorem gL_law_L_ends : GoodIn wsL_law (va_wsS RL 100 yL_ends wsL_ends) := goodIn_app (goodIn_of _ (by decide +kernel)) ggL_law_L_ends
set_option maxRecDepth 20000 in
theorem ggL_law_X1_init : GoodIn wsL_law wsX1_init := goodIn_r _ [9, 10, 11, 12, 13, 14, 15, 16, 17, 18, 19, 20, 21, 22, 23, 24, 25, 26, 27, 28, 288, 289, 282, 283, 284, 285, 286, 287] (by decide +kernel) (by decide +kernel)
set_option maxRecDepth 20000 in
theorem gL_law_X1_init : GoodIn wsL_law (wsX1_init) := ggL_law_X1_init
set_option maxRecDepth 20000 in
theorem ggL_law_L_act : GoodIn wsL_law wsL_act := goodIn_ca (goodIn_ca (goodIn_ca (goodIn_r _ [192, 193, 194, 195, 196, 197, 198, 2, 199, 73, 74, 20, 16, 19, 22, 21, 100, 101, 102, 103, 104, 105, 200, 120, 121, 106, 107, 108, 109, 110, 111, 201, 202, 203, 204, 41, 42, 43, 15, 44, 45, 46, 47, 48, 49, 50, 51, 52, 27, 53, 54, 173, 174, 175, 176, 116, 117, 118, 119, 122, 123, 124, 125, 126, 127, 128, 129, 130, 93, 94, 95, 131, 132, 133, 134, 135, 136, 28, 137, 138, 139, 140, 141, 142, 205, 206, 207, 208, 88, 89, 90, 86, 87, 209, 210, 211, 212, 177, 213, 214, 92, 215, 216, 217, 218, 219, 179, 180, 181, 64, 65, 182, 183, 184, 185, 220, 221, 222, 223, 18, 178, 224, 225, 226, 227, 228, 229, 230, 231, 232, 233, 234, 235, 236, 237, 238, 239, 83, 84, 85, 91, 79, 80, 81, 82, 240, 241, 242, 243, 244, 245, 246, 70, 71, 72, 247, 248, 249, 250, 251, 252, 253, 254, 255, 256, 257, 258, 259, 260, 261, 66, 67, 68, 69, 75, 76, 77, 78, 96, 97, 98, 99, 112, 113, 114, 115, 143, 144, 145, 146, 147, 148, 149, 150, 262, 263, 264, 265, 63, 266, 267, 268, 269, 151, 152, 153, 154, 155, 156, 157, 158, 159, 160, 161, 162, 163, 164, 165, 166, 167, 168, 169, 170, 171, 172, 282, 283, 284, 285, 286, 287, 288, 289] (by decide +kernel) (by decide +kernel)) (goodIn_sub (fun _ h => List.mem_append_left _ (List.mem_append_left _ (List.mem_append_right _ h))) (by decide +kernel))) (goodIn_sub (fun _ h => List.mem_append_right _ h) (by decide +kernel))) (goodIn_sub (fun _ h => List.mem_append_left _ (List.mem_append_right _ h)) (by decide +kernel))
set_option maxRecDepth 20000 in
theorem gL_law_L_act : GoodIn wsL_law (va_wsS RL 66 yL_act wsL_act) := goodIn_app (goodIn_of _ (by decide +kernel)) ggL_law_L_act
set_option maxRecDepth 20000 in
theorem ggL_law_L_refuses : GoodIn wsL_law wsL_refuses := goodIn_ca (goodIn_ca (goodIn_ca (goodIn_r _ [188, 189, 29, 30, 31, 2, 32, 21, 33, 34, 35, 36, 19, 190, 191, 5, 192, 193, 194, 195, 196, 197, 198, 199, 73, 74, 20, 16, 22, 100, 101, 102, 103, 104, 105, 200, 120, 121, 106, 107, 108, 109, 110, 111, 201, 202, 203, 204, 41, 42, 43, 15, 44, 45, 46, 47, 48, 49, 50, 51, 52, 27, 53, 54, 173, 174, 175, 176, 116, 117, 118, 119, 122, 123, 124, 125, 126, 127, 128, 129, 130, 93, 94, 95, 131, 132, 133, 134, 135, 136, 28, 137, 138, 139, 140, 141, 142, 205, 206, 207, 208, 88, 89, 90, 86, 87, 209, 210, 211, 212, 177, 213, 214, 92, 215, 216, 217, 218, 219, 179, 180, 181, 64, 65, 182, 183, 184, 185, 220, 221, 222, 223, 18, 178, 224, 225, 226, 227, 228, 229, 230, 231, 232, 233, 234, 235, 236, 237, 238, 239, 83, 84, 85, 91, 79, 80, 81, 82, 240, 241, 242, 243, 244, 245, 246, 70, 71, 72, 247, 248, 249, 250, 251, 252, 253, 254, 255, 256, 257, 258, 259, 260, 261, 66, 67, 68, 69, 75, 76, 77, 78, 96, 97, 98, 99, 112, 113, 114, 115, 143, 144, 145, 146, 147, 148, 149, 150, 262, 263, 264, 265, 63, 266, 267, 268, 269, 151, 152, 153, 154, 155, 156, 157, 158, 159, 160, 161, 162, 163, 164, 165, 166, 167, 168, 169, 170, 171, 172, 282, 283, 284, 285, 286, 287, 288, 289] (by decide +kernel) (by decide +kernel)) (goodIn_sub (fun _ h => List.mem_append_left _ (List.mem_append_left _ (List.mem_append_right _ h))) (by decide +kernel))) (goodIn_sub (fun _ h => List.mem_append_right _ h) (by decide +kernel))) (goodIn_sub (fun _ h => List.mem_append_left _ (List.mem_append_right _ h)) (by decide +kernel))
set_option maxRecDepth 20000 in
theorem gL_law_L_refuses : GoodIn wsL_law (va_wsS RL 82 yL_refuses wsL_refuses) := goodIn_app (goodIn_of _ (by decide +kernel)) ggL_law_L_refuses
set_option maxRecDepth 20000 in
theorem ggL_law_X1_phase : GoodIn wsL_law wsX1_phase := goodIn_r _ [32, 21, 282, 283, 284, 285, 286, 287] (by decide +kernel) (by decide +kernel)
set_option maxRecDepth 20000 in
theorem gL_law_X1_phase : GoodIn wsL_law (wsV RL 59 RX1 yX1_phase wsX1_phase) := goodIn_app (goodIn_of _ (by decide +kernel)) ggL_law_X1_phase
set_option maxRecDepth 20000 in
theorem ggL_law_X1_movable : GoodIn wsL_law wsX1_movable := goodIn_ca (goodIn_r _ [235, 16, 19, 22, 209, 210, 211, 2, 212, 104, 105, 21, 41, 42, 43, 15, 44, 45, 46, 47, 48, 49, 50, 51, 52, 27, 53, 54, 173, 174, 175, 176, 116, 117, 118, 119, 110, 111, 120, 121, 122, 123, 124, 125, 126, 127, 128, 129, 130, 93, 94, 95, 131, 132, 133, 134, 135, 136, 28, 137, 138, 139, 140, 141, 142, 282, 283, 284, 285, 286, 287, 288, 289] (by decide +kernel) (by decide +kernel)) (goodIn_sub (fun _ h => List.mem_append_right _ h) (by decide +kernel))
set_option maxRecDepth 20000 in
theorem gL_law_X1_movable : GoodIn wsL_law (wsV RL 16 RX1 yX1_movable wsX1_movable) := goodIn_app (goodIn_of _ (by decide +kernel)) ggL_law_X1_movable
theorem dL_law_0 : decode cL_law 0 = .ok (.invokestatic 94, 3) := by decide +kernel
theorem dL_law_3 : decode cL_law 3 = .ok (.ifCond .eq 15, 3) := by decide +kernel
theorem dL_law_6 : decode cL_law 6 = .ok (.invokestatic 97, 3) := by decide +kernel
theorem dL_law_9 : decode cL_law 9 = .ok (.ifCond .eq 9, 3) := by decide +kernel
theorem dL_law_12 : decode cL_law 12 = .ok (.invokestatic 100, 3) := by decide +kernel
theorem dL_law_15 : decode cL_law 15 = .ok (.ifCond .ne 5, 3) := by decide +kernel
theorem dL_law_18 : decode cL_law 18 = .ok (.iconst 0, 1) := by decide +kernel
theorem dL_law_19 : decode cL_law 19 = .ok (.ireturn, 1) := by decide +kernel
theorem dL_law_20 : decode cL_law 20 = .ok (.new 8, 3) := by decide +kernel
theorem dL_law_23 : decode cL_law 23 = .ok (.dup, 1) := by decide +kernel
theorem dL_law_24 : decode cL_law 24 = .ok (.invokespecial 72, 3) := by decide +kernel
theorem dL_law_27 : decode cL_law 27 = .ok (.astore_n 1, 1) := by decide +kernel
theorem dL_law_28 : decode cL_law 28 = .ok (.iconst 0, 1) := by decide +kernel
theorem dL_law_29 : decode cL_law 29 = .ok (.istore_n 2, 1) := by decide +kernel
theorem dL_law_30 : decode cL_law 30 = .ok (.iload_n 2, 1) := by decide +kernel
theorem dL_law_31 : decode cL_law 31 = .ok (.bipush 40, 2) := by decide +kernel
theorem dL_law_33 : decode cL_law 33 = .ok (.if_icmp .ge 140, 3) := by decide +kernel
theorem dL_law_36 : decode cL_law 36 = .ok (.aload_n 0, 1) := by decide +kernel
theorem dL_law_37 : decode cL_law 37 = .ok (.arraylength, 1) := by decide +kernel
theorem dL_law_38 : decode cL_law 38 = .ok (.ifCond .ne 9, 3) := by decide +kernel
theorem dL_law_41 : decode cL_law 41 = .ok (.iconst 5, 1) := by decide +kernel
theorem dL_law_42 : decode cL_law 42 = .ok (.iload_n 2, 1) := by decide +kernel
theorem dL_law_43 : decode cL_law 43 = .ok (.imul, 1) := by decide +kernel
theorem dL_law_44 : decode cL_law 44 = .ok (.goto 12, 3) := by decide +kernel
theorem dL_law_47 : decode cL_law 47 = .ok (.aload_n 0, 1) := by decide +kernel
theorem dL_law_48 : decode cL_law 48 = .ok (.iload_n 2, 1) := by decide +kernel
theorem dL_law_49 : decode cL_law 49 = .ok (.aload_n 0, 1) := by decide +kernel
theorem dL_law_50 : decode cL_law 50 = .ok (.arraylength, 1) := by decide +kernel
theorem dL_law_51 : decode cL_law 51 = .ok (.irem, 1) := by decide +kernel
theorem dL_law_52 : decode cL_law 52 = .ok (.iaload, 1) := by decide +kernel
theorem dL_law_53 : decode cL_law 53 = .ok (.bipush 9, 2) := by decide +kernel
theorem dL_law_55 : decode cL_law 55 = .ok (.iushr, 1) := by decide +kernel
theorem dL_law_56 : decode cL_law 56 = .ok (.istore_n 3, 1) := by decide +kernel
theorem dL_law_57 : decode cL_law 57 = .ok (.aload_n 1, 1) := by decide +kernel
theorem dL_law_58 : decode cL_law 58 = .ok (.iconst 0, 1) := by decide +kernel
theorem dL_law_59 : decode cL_law 59 = .ok (.iload_n 3, 1) := by decide +kernel
theorem dL_law_60 : decode cL_law 60 = .ok (.bipush 7, 2) := by decide +kernel
theorem dL_law_62 : decode cL_law 62 = .ok (.irem, 1) := by decide +kernel
theorem dL_law_63 : decode cL_law 63 = .ok (.iconst 0, 1) := by decide +kernel
theorem dL_law_64 : decode cL_law 64 = .ok (.iconst 0, 1) := by decide +kernel
theorem dL_law_65 : decode cL_law 65 = .ok (.invokestatic 66, 3) := by decide +kernel
theorem dL_law_68 : decode cL_law 68 = .ok (.istore 4, 2) := by decide +kernel
theorem dL_law_70 : decode cL_law 70 = .ok (.iload 4, 2) := by decide +kernel
theorem dL_law_72 : decode cL_law 72 = .ok (.sipush (-903), 3) := by decide +kernel
theorem dL_law_75 : decode cL_law 75 = .ok (.if_icmp .eq 15, 3) := by decide +kernel
theorem dL_law_78 : decode cL_law 78 = .ok (.iload 4, 2) := by decide +kernel
theorem dL_law_80 : decode cL_law 80 = .ok (.ifCond .eq 10, 3) := by decide +kernel
theorem dL_law_83 : decode cL_law 83 = .ok (.aload_n 1, 1) := by decide +kernel
theorem dL_law_84 : decode cL_law 84 = .ok (.invokestatic 82, 3) := by decide +kernel
theorem dL_law_87 : decode cL_law 87 = .ok (.ifCond .ne 5, 3) := by decide +kernel
theorem dL_law_90 : decode cL_law 90 = .ok (.iconst 0, 1) := by decide +kernel
theorem dL_law_91 : decode cL_law 91 = .ok (.ireturn, 1) := by decide +kernel
theorem dL_law_92 : decode cL_law 92 = .ok (.iconst 0, 1) := by decide +kernel
theorem dL_law_93 : decode cL_law 93 = .ok (.istore 5, 2) := by decide +kernel
theorem dL_law_95 : decode cL_law 95 = .ok (.iload 5, 2) := by decide +kernel
theorem dL_law_97 : decode cL_law 97 = .ok (.iconst 4, 1) := by decide +kernel
theorem dL_law_98 : decode cL_law 98 = .ok (.if_icmp .ge 69, 3) := by decide +kernel
theorem dL_law_101 : decode cL_law 101 = .ok (.aload_n 1, 1) := by decide +kernel
theorem dL_law_102 : decode cL_law 102 = .ok (.invokevirtual 59, 3) := by decide +kernel
theorem dL_law_105 : decode cL_law 105 = .ok (.iconst 1, 1) := by decide +kernel
theorem dL_law_106 : decode cL_law 106 = .ok (.if_icmp .ne 61, 3) := by decide +kernel
theorem dL_law_109 : decode cL_law 109 = .ok (.iload 5, 2) := by decide +kernel
theorem dL_law_111 : decode cL_law 111 = .ok (.iload_n 3, 1) := by decide +kernel
theorem dL_law_112 : decode cL_law 112 = .ok (.iadd, 1) := by decide +kernel
theorem dL_law_113 : decode cL_law 113 = .ok (.iconst 4, 1) := by decide +kernel
theorem dL_law_114 : decode cL_law 114 = .ok (.irem, 1) := by decide +kernel
theorem dL_law_115 : decode cL_law 115 = .ok (.istore 6, 2) := by decide +kernel
theorem dL_law_117 : decode cL_law 117 = .ok (.aload_n 1, 1) := by decide +kernel
theorem dL_law_118 : decode cL_law 118 = .ok (.invokevirtual 16, 3) := by decide +kernel
theorem dL_law_121 : decode cL_law 121 = .ok (.iload 6, 2) := by decide +kernel
theorem dL_law_123 : decode cL_law 123 = .ok (.ishr, 1) := by decide +kernel
theorem dL_law_124 : decode cL_law 124 = .ok (.iconst 1, 1) := by decide +kernel
theorem dL_law_125 : decode cL_law 125 = .ok (.iand, 1) := by decide +kernel
theorem dL_law_126 : decode cL_law 126 = .ok (.iconst 1, 1) := by decide +kernel
theorem dL_law_127 : decode cL_law 127 = .ok (.if_icmp .ne 7, 3) := by decide +kernel
theorem dL_law_130 : decode cL_law 130 = .ok (.iconst 1, 1) := by decide +kernel
theorem dL_law_131 : decode cL_law 131 = .ok (.goto 4, 3) := by decide +kernel
theorem dL_law_134 : decode cL_law 134 = .ok (.iconst 0, 1) := by decide +kernel
theorem dL_law_135 : decode cL_law 135 = .ok (.istore 7, 2) := by decide +kernel
theorem dL_law_137 : decode cL_law 137 = .ok (.aload_n 1, 1) := by decide +kernel
theorem dL_law_138 : decode cL_law 138 = .ok (.iconst 1, 1) := by decide +kernel
theorem dL_law_139 : decode cL_law 139 = .ok (.iload 6, 2) := by decide +kernel
theorem dL_law_141 : decode cL_law 141 = .ok (.iconst 0, 1) := by decide +kernel
theorem dL_law_142 : decode cL_law 142 = .ok (.iconst 0, 1) := by decide +kernel
theorem dL_law_143 : decode cL_law 143 = .ok (.invokestatic 66, 3) := by decide +kernel
theorem dL_law_146 : decode cL_law 146 = .ok (.ifCond .le 7, 3) := by decide +kernel
theorem dL_law_149 : decode cL_law 149 = .ok (.iconst 1, 1) := by decide +kernel
theorem dL_law_150 : decode cL_law 150 = .ok (.goto 4, 3) := by decide +kernel
theorem dL_law_153 : decode cL_law 153 = .ok (.iconst 0, 1) := by decide +kernel
theorem dL_law_154 : decode cL_law 154 = .ok (.iload 7, 2) := by decide +kernel
theorem dL_law_156 : decode cL_law 156 = .ok (.if_icmp .eq 5, 3) := by decide +kernel
theorem dL_law_159 : decode cL_law 159 = .ok (.iconst 0, 1) := by decide +kernel
theorem dL_law_160 : decode cL_law 160 = .ok (.ireturn, 1) := by decide +kernel
theorem dL_law_161 : decode cL_law 161 = .ok (.iinc 5 1, 3) := by decide +kernel
theorem dL_law_164 : decode cL_law 164 = .ok (.goto (-69), 3) := by decide +kernel
theorem dL_law_167 : decode cL_law 167 = .ok (.iinc 2 1, 3) := by decide +kernel
theorem dL_law_170 : decode cL_law 170 = .ok (.goto (-140), 3) := by decide +kernel
theorem dL_law_173 : decode cL_law 173 = .ok (.iconst 1, 1) := by decide +kernel
theorem dL_law_174 : decode cL_law 174 = .ok (.ireturn, 1) := by decide +kernel
