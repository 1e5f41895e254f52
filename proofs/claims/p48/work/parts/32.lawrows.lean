set_option maxRecDepth 20000 in
theorem ggL_pick_L_cell : GoodIn wsL_pick wsL_cell := goodIn_ca (goodIn_r _ [4, 5, 6] (by decide +kernel) (by decide +kernel)) (goodIn_sub (fun _ h => List.mem_cons_of_mem _ (List.mem_append_right _ h)) (by decide +kernel))
set_option maxRecDepth 20000 in
theorem gL_pick_L_cell : GoodIn wsL_pick (va_wsS RL 9 yL_cell wsL_cell) := goodIn_app (goodIn_of _ (by decide +kernel)) ggL_pick_L_cell
theorem dL_pick_0 : decode cL_pick 0 = .ok (.aload_n 0, 1) := by decide +kernel
theorem dL_pick_1 : decode cL_pick 1 = .ok (.iload_n 1, 1) := by decide +kernel
theorem dL_pick_2 : decode cL_pick 2 = .ok (.invokestatic 9, 3) := by decide +kernel
theorem dL_pick_5 : decode cL_pick 5 = .ok (.bipush 8, 2) := by decide +kernel
theorem dL_pick_7 : decode cL_pick 7 = .ok (.iushr, 1) := by decide +kernel
theorem dL_pick_8 : decode cL_pick 8 = .ok (.iload_n 2, 1) := by decide +kernel
theorem dL_pick_9 : decode cL_pick 9 = .ok (.irem, 1) := by decide +kernel
theorem dL_pick_10 : decode cL_pick 10 = .ok (.ireturn, 1) := by decide +kernel
theorem dL_told_0 : decode cL_told 0 = .ok (.iload_n 0, 1) := by decide +kernel
theorem dL_told_1 : decode cL_told 1 = .ok (.ifCond .eq 7, 3) := by decide +kernel
theorem dL_told_4 : decode cL_told 4 = .ok (.iconst 1, 1) := by decide +kernel
theorem dL_told_5 : decode cL_told 5 = .ok (.goto 4, 3) := by decide +kernel
theorem dL_told_8 : decode cL_told 8 = .ok (.iconst 0, 1) := by decide +kernel
theorem dL_told_9 : decode cL_told 9 = .ok (.ireturn, 1) := by decide +kernel
set_option maxRecDepth 20000 in
theorem ggL_plain_X10_setStone : GoodIn wsL_plain wsX10_setStone := goodIn_ca (goodIn_ca (goodIn_ca (goodIn_ca (goodIn_ca (goodIn_ca (goodIn_r _ [5, 6, 7, 8, 9, 10, 11, 12, 13, 14, 15, 16, 17, 18, 19, 20, 21, 22, 23, 24, 25, 26, 27, 28, 29, 4, 30, 31, 32, 33, 34, 35, 36, 37, 38, 39, 40, 41, 42, 43, 44, 45, 46, 47, 48, 49, 50, 51, 52, 53, 54, 55, 56, 57, 58, 59, 60, 61, 62, 63, 64, 65, 66, 67, 68, 69, 70, 71, 72, 73, 74, 75, 76, 77, 78, 79, 80, 81, 82, 83, 84, 85, 86, 87, 88, 89, 90, 91, 92, 93, 94, 95, 96, 97, 98, 99, 100, 474, 475, 476, 477, 478, 479, 480, 481, 482, 483, 484, 485, 486, 487, 488, 489, 490, 491, 492, 493, 494, 495, 496, 497, 498, 499, 500] (by decide +kernel) (by decide +kernel)) (goodIn_sub (fun _ h => List.mem_cons_of_mem _ (List.mem_append_left _ (List.mem_append_left _ (List.mem_append_left _ (List.mem_append_left _ (List.mem_append_left _ (List.mem_append_right _ h))))))) (by decide +kernel))) (goodIn_sub (fun _ h => List.mem_cons_of_mem _ (List.mem_append_left _ (List.mem_append_left _ (List.mem_append_left _ (List.mem_append_left _ (List.mem_append_right _ h)))))) (by decide +kernel))) (goodIn_sub (fun _ h => List.mem_cons_of_mem _ (List.mem_append_left _ (List.mem_append_left _ (List.mem_append_left _ (List.mem_append_right _ h))))) (by decide +kernel))) (goodIn_sub (fun _ h => List.mem_cons_of_mem _ (List.mem_append_left _ (List.mem_append_left _ (List.mem_append_right _ h)))) (by decide +kernel))) (goodIn_sub (fun _ h => List.mem_cons_of_mem _ (List.mem_append_left _ (List.mem_append_right _ h))) (by decide +kernel))) (goodIn_sub (fun _ h => List.mem_cons_of_mem _ (List.mem_append_right _ h)) (by decide +kernel))
set_option maxRecDepth 20000 in
theorem gL_plain_X10_setStone : GoodIn wsL_plain (wsV RL 15 RX10 yX10_setStone wsX10_setStone) := goodIn_app (goodIn_of _ (by decide +kernel)) ggL_plain_X10_setStone
set_option maxRecDepth 20000 in
theorem ggL_plain_X10_cut : GoodIn wsL_plain wsX10_cut := goodIn_ca (goodIn_ca (goodIn_ca (goodIn_ca (goodIn_ca (goodIn_ca (goodIn_r _ [104, 6, 7, 105, 106, 107, 11, 108, 13, 14, 73, 70, 74, 109, 80, 110, 16, 17, 18, 19, 20, 21, 22, 23, 24, 98, 99, 100, 111, 112, 113, 114, 115, 116, 61, 117, 118, 119, 120, 121, 122, 123, 28, 29, 4, 30, 31, 32, 33, 34, 35, 36, 37, 38, 39, 40, 41, 42, 43, 44, 45, 46, 47, 48, 49, 50, 51, 52, 53, 54, 55, 56, 57, 58, 59, 60, 62, 63, 64, 65, 66, 67, 68, 69, 71, 72, 75, 76, 77, 78, 79, 81, 82, 83, 84, 85, 86, 87, 88, 89, 90, 91, 92, 93, 124, 125, 126, 127, 474, 475, 476, 477, 478, 479, 480, 481, 482, 486, 487, 488, 489, 490, 491, 492, 493, 494, 495, 496, 497, 498, 499, 500, 483, 484, 485] (by decide +kernel) (by decide +kernel)) (goodIn_sub (fun _ h => List.mem_cons_of_mem _ (List.mem_append_left _ (List.mem_append_left _ (List.mem_append_left _ (List.mem_append_left _ (List.mem_append_left _ (List.mem_append_right _ h))))))) (by decide +kernel))) (goodIn_sub (fun _ h => List.mem_cons_of_mem _ (List.mem_append_left _ (List.mem_append_left _ (List.mem_append_left _ (List.mem_append_left _ (List.mem_append_right _ h)))))) (by decide +kernel))) (goodIn_sub (fun _ h => List.mem_cons_of_mem _ (List.mem_append_left _ (List.mem_append_left _ (List.mem_append_left _ (List.mem_append_right _ h))))) (by decide +kernel))) (goodIn_sub (fun _ h => List.mem_cons_of_mem _ (List.mem_append_left _ (List.mem_append_left _ (List.mem_append_right _ h)))) (by decide +kernel))) (goodIn_sub (fun _ h => List.mem_cons_of_mem _ (List.mem_append_left _ (List.mem_append_right _ h))) (by decide +kernel))) (goodIn_sub (fun _ h => List.mem_cons_of_mem _ (List.mem_append_right _ h)) (by decide +kernel))
set_option maxRecDepth 20000 in
theorem gL_plain_X10_cut : GoodIn wsL_plain (wsV RL 21 RX10 yX10_cut wsX10_cut) := goodIn_app (goodIn_of _ (by decide +kernel)) ggL_plain_X10_cut
set_option maxRecDepth 20000 in
theorem ggL_plain_X10_fill : GoodIn wsL_plain wsX10_fill := goodIn_ca (goodIn_ca (goodIn_ca (goodIn_ca (goodIn_ca (goodIn_ca (goodIn_r _ [131, 6, 7, 132, 133, 134, 11, 135, 13, 14, 73, 70, 74, 81, 109, 80, 110, 16, 17, 18, 19, 20, 21, 22, 23, 24, 98, 99, 100, 111, 112, 113, 114, 115, 116, 61, 117, 118, 119, 120, 121, 122, 123, 28, 29, 4, 30, 31, 32, 33, 34, 35, 36, 37, 38, 39, 40, 41, 42, 43, 44, 45, 46, 47, 48, 49, 50, 51, 52, 53, 54, 55, 56, 57, 58, 59, 60, 62, 63, 64, 65, 66, 67, 68, 69, 71, 72, 75, 76, 77, 78, 79, 82, 83, 84, 85, 86, 87, 88, 89, 90, 91, 92, 93, 136, 137, 138, 139, 474, 475, 476, 477, 478, 479, 480, 481, 482, 486, 487, 488, 489, 490, 491, 492, 493, 494, 495, 496, 497, 498, 499, 500, 483, 484, 485] (by decide +kernel) (by decide +kernel)) (goodIn_sub (fun _ h => List.mem_cons_of_mem _ (List.mem_append_left _ (List.mem_append_left _ (List.mem_append_left _ (List.mem_append_left _ (List.mem_append_left _ (List.mem_append_right _ h))))))) (by decide +kernel))) (goodIn_sub (fun _ h => List.mem_cons_of_mem _ (List.mem_append_left _ (List.mem_append_left _ (List.mem_append_left _ (List.mem_append_left _ (List.mem_append_right _ h)))))) (by decide +kernel))) (goodIn_sub (fun _ h => List.mem_cons_of_mem _ (List.mem_append_left _ (List.mem_append_left _ (List.mem_append_left _ (List.mem_append_right _ h))))) (by decide +kernel))) (goodIn_sub (fun _ h => List.mem_cons_of_mem _ (List.mem_append_left _ (List.mem_append_left _ (List.mem_append_right _ h)))) (by decide +kernel))) (goodIn_sub (fun _ h => List.mem_cons_of_mem _ (List.mem_append_left _ (List.mem_append_right _ h))) (by decide +kernel))) (goodIn_sub (fun _ h => List.mem_cons_of_mem _ (List.mem_append_right _ h)) (by decide +kernel))
set_option maxRecDepth 20000 in
theorem gL_plain_X10_fill : GoodIn wsL_plain (wsV RL 25 RX10 yX10_fill wsX10_fill) := goodIn_app (goodIn_of _ (by decide +kernel)) ggL_plain_X10_fill
set_option maxRecDepth 20000 in
theorem ggL_plain_X10_toggleLedge : GoodIn wsL_plain wsX10_toggleLedge := goodIn_ca (goodIn_ca (goodIn_ca (goodIn_ca (goodIn_ca (goodIn_ca (goodIn_r _ [143, 7, 6, 144, 17, 18, 19, 20, 21, 22, 23, 24, 28, 29, 4, 30, 31, 32, 33, 34, 35, 36, 37, 38, 39, 40, 41, 42, 43, 44, 45, 46, 47, 48, 49, 50, 51, 52, 53, 54, 55, 56, 57, 11, 58, 59, 60, 61, 62, 63, 64, 65, 66, 67, 68, 69, 70, 71, 72, 73, 74, 75, 76, 77, 78, 79, 80, 81, 82, 83, 84, 85, 86, 87, 88, 89, 90, 91, 92, 93, 145, 146, 147, 148, 98, 99, 100, 474, 475, 476, 477, 478, 479, 480, 481, 482, 483, 484, 485, 486, 487, 488, 489, 490, 491, 492, 493, 494, 495, 496, 497, 498, 499, 500] (by decide +kernel) (by decide +kernel)) (goodIn_sub (fun _ h => List.mem_cons_of_mem _ (List.mem_append_left _ (List.mem_append_left _ (List.mem_append_left _ (List.mem_append_left _ (List.mem_append_left _ (List.mem_append_right _ h))))))) (by decide +kernel))) (goodIn_sub (fun _ h => List.mem_cons_of_mem _ (List.mem_append_left _ (List.mem_append_left _ (List.mem_append_left _ (List.mem_append_left _ (List.mem_append_right _ h)))))) (by decide +kernel))) (goodIn_sub (fun _ h => List.mem_cons_of_mem _ (List.mem_append_left _ (List.mem_append_left _ (List.mem_append_left _ (List.mem_append_right _ h))))) (by decide +kernel))) (goodIn_sub (fun _ h => List.mem_cons_of_mem _ (List.mem_append_left _ (List.mem_append_left _ (List.mem_append_right _ h)))) (by decide +kernel))) (goodIn_sub (fun _ h => List.mem_cons_of_mem _ (List.mem_append_left _ (List.mem_append_right _ h))) (by decide +kernel))) (goodIn_sub (fun _ h => List.mem_cons_of_mem _ (List.mem_append_right _ h)) (by decide +kernel))
set_option maxRecDepth 20000 in
theorem gL_plain_X10_toggleLedge : GoodIn wsL_plain (wsV RL 28 RX10 yX10_toggleLedge wsX10_toggleLedge) := goodIn_app (goodIn_of _ (by decide +kernel)) ggL_plain_X10_toggleLedge
set_option maxRecDepth 20000 in
theorem ggL_plain_L_told : GoodIn wsL_plain wsL_told := goodIn_r _ [152] (by decide +kernel) (by decide +kernel)
set_option maxRecDepth 20000 in
theorem gL_plain_L_told : GoodIn wsL_plain (va_wsS RL 32 yL_told wsL_told) := goodIn_app (goodIn_of _ (by decide +kernel)) ggL_plain_L_told
set_option maxRecDepth 20000 in
theorem ggL_plain_X10_setStepLimit : GoodIn wsL_plain wsX10_setStepLimit := goodIn_ca (goodIn_ca (goodIn_ca (goodIn_ca (goodIn_ca (goodIn_ca (goodIn_r _ [156, 6, 7, 157, 158, 159, 11, 160, 15, 13, 110, 161, 162, 163, 164, 70, 111, 112, 113, 114, 115, 116, 61, 117, 118, 119, 120, 121, 122, 18, 123, 28, 29, 4, 30, 31, 32, 33, 34, 35, 36, 37, 38, 39, 40, 41, 42, 43, 44, 45, 46, 47, 48, 49, 50, 51, 52, 53, 54, 55, 56, 57, 58, 59, 60, 62, 63, 64, 65, 66, 67, 68, 69, 71, 72, 73, 74, 75, 76, 77, 78, 79, 80, 81, 82, 83, 84, 85, 86, 87, 88, 89, 90, 91, 92, 93, 165, 166, 167, 168, 474, 475, 476, 477, 478, 479, 480, 481, 482, 486, 487, 488, 489, 490, 491, 492, 493, 494, 495, 496, 497, 498, 499, 500, 483, 484, 485] (by decide +kernel) (by decide +kernel)) (goodIn_sub (fun _ h => List.mem_cons_of_mem _ (List.mem_append_left _ (List.mem_append_left _ (List.mem_append_left _ (List.mem_append_left _ (List.mem_append_left _ (List.mem_append_right _ h))))))) (by decide +kernel))) (goodIn_sub (fun _ h => List.mem_cons_of_mem _ (List.mem_append_left _ (List.mem_append_left _ (List.mem_append_left _ (List.mem_append_left _ (List.mem_append_right _ h)))))) (by decide +kernel))) (goodIn_sub (fun _ h => List.mem_cons_of_mem _ (List.mem_append_left _ (List.mem_append_left _ (List.mem_append_left _ (List.mem_append_right _ h))))) (by decide +kernel))) (goodIn_sub (fun _ h => List.mem_cons_of_mem _ (List.mem_append_left _ (List.mem_append_left _ (List.mem_append_right _ h)))) (by decide +kernel))) (goodIn_sub (fun _ h => List.mem_cons_of_mem _ (List.mem_append_left _ (List.mem_append_right _ h))) (by decide +kernel))) (goodIn_sub (fun _ h => List.mem_cons_of_mem _ (List.mem_append_right _ h)) (by decide +kernel))
set_option maxRecDepth 20000 in
theorem gL_plain_X10_setStepLimit : GoodIn wsL_plain (wsV RL 36 RX10 yX10_setStepLimit wsX10_setStepLimit) := goodIn_app (goodIn_of _ (by decide +kernel)) ggL_plain_X10_setStepLimit
set_option maxRecDepth 20000 in
theorem ggL_plain_X10_addWinch : GoodIn wsL_plain wsX10_addWinch := goodIn_ca (goodIn_ca (goodIn_ca (goodIn_ca (goodIn_ca (goodIn_ca (goodIn_r _ [172, 6, 7, 173, 174, 175, 11, 176, 13, 14, 15, 90, 109, 16, 17, 18, 19, 20, 21, 22, 23, 24, 98, 99, 100, 177, 178, 179, 180, 76, 28, 29, 4, 30, 31, 32, 33, 34, 35, 36, 37, 38, 39, 40, 41, 42, 43, 44, 45, 46, 47, 48, 49, 50, 51, 52, 53, 54, 55, 56, 57, 58, 59, 60, 61, 62, 63, 64, 65, 66, 67, 68, 69, 70, 71, 72, 73, 74, 75, 77, 78, 79, 80, 81, 82, 83, 84, 85, 86, 87, 88, 89, 91, 92, 93, 181, 182, 183, 184, 474, 475, 476, 477, 478, 479, 480, 481, 482, 486, 487, 488, 489, 490, 491, 492, 493, 494, 495, 496, 497, 498, 499, 500, 483, 484, 485] (by decide +kernel) (by decide +kernel)) (goodIn_sub (fun _ h => List.mem_cons_of_mem _ (List.mem_append_left _ (List.mem_append_left _ (List.mem_append_left _ (List.mem_append_left _ (List.mem_append_left _ (List.mem_append_right _ h))))))) (by decide +kernel))) (goodIn_sub (fun _ h => List.mem_cons_of_mem _ (List.mem_append_left _ (List.mem_append_left _ (List.mem_append_left _ (List.mem_append_left _ (List.mem_append_right _ h)))))) (by decide +kernel))) (goodIn_sub (fun _ h => List.mem_cons_of_mem _ (List.mem_append_left _ (List.mem_append_left _ (List.mem_append_left _ (List.mem_append_right _ h))))) (by decide +kernel))) (goodIn_sub (fun _ h => List.mem_cons_of_mem _ (List.mem_append_left _ (List.mem_append_left _ (List.mem_append_right _ h)))) (by decide +kernel))) (goodIn_sub (fun _ h => List.mem_cons_of_mem _ (List.mem_append_left _ (List.mem_append_right _ h))) (by decide +kernel))) (goodIn_sub (fun _ h => List.mem_cons_of_mem _ (List.mem_append_right _ h)) (by decide +kernel))
set_option maxRecDepth 20000 in
theorem gL_plain_X10_addWinch : GoodIn wsL_plain (wsV RL 40 RX10 yX10_addWinch wsX10_addWinch) := goodIn_app (goodIn_of _ (by decide +kernel)) ggL_plain_X10_addWinch
set_option maxRecDepth 20000 in
theorem ggL_plain_X10_lift : GoodIn wsL_plain wsX10_lift := goodIn_ca (goodIn_ca (goodIn_ca (goodIn_ca (goodIn_ca (goodIn_ca (goodIn_r _ [188, 6, 7, 189, 190, 191, 11, 192, 14, 13, 73, 109, 76, 78, 77, 110, 193, 194, 195, 196, 90, 197, 198, 199, 200, 74, 201, 16, 17, 18, 19, 20, 21, 22, 23, 24, 98, 99, 100, 202, 203, 204, 205, 116, 61, 117, 206, 207, 208, 209, 210, 211, 212, 213, 214, 215, 75, 216, 217, 218, 28, 29, 4, 30, 31, 32, 33, 34, 35, 36, 37, 38, 39, 40, 41, 42, 43, 44, 45, 46, 47, 48, 49, 50, 51, 52, 53, 54, 55, 56, 57, 58, 59, 60, 62, 63, 64, 65, 66, 67, 68, 69, 70, 71, 72, 79, 80, 81, 82, 83, 84, 85, 86, 87, 88, 89, 91, 92, 93, 219, 220, 221, 222, 474, 475, 476, 477, 478, 479, 480, 481, 482, 486, 487, 488, 489, 490, 491, 492, 493, 494, 495, 496, 497, 498, 499, 500, 483, 484, 485] (by decide +kernel) (by decide +kernel)) (goodIn_sub (fun _ h => List.mem_cons_of_mem _ (List.mem_append_left _ (List.mem_append_left _ (List.mem_append_left _ (List.mem_append_left _ (List.mem_append_left _ (List.mem_append_right _ h))))))) (by decide +kernel))) (goodIn_sub (fun _ h => List.mem_cons_of_mem _ (List.mem_append_left _ (List.mem_append_left _ (List.mem_append_left _ (List.mem_append_left _ (List.mem_append_right _ h)))))) (by decide +kernel))) (goodIn_sub (fun _ h => List.mem_cons_of_mem _ (List.mem_append_left _ (List.mem_append_left _ (List.mem_append_left _ (List.mem_append_right _ h))))) (by decide +kernel))) (goodIn_sub (fun _ h => List.mem_cons_of_mem _ (List.mem_append_left _ (List.mem_append_left _ (List.mem_append_right _ h)))) (by decide +kernel))) (goodIn_sub (fun _ h => List.mem_cons_of_mem _ (List.mem_append_left _ (List.mem_append_right _ h))) (by decide +kernel))) (goodIn_sub (fun _ h => List.mem_cons_of_mem _ (List.mem_append_right _ h)) (by decide +kernel))
set_option maxRecDepth 20000 in
theorem gL_plain_X10_lift : GoodIn wsL_plain (wsV RL 44 RX10 yX10_lift wsX10_lift) := goodIn_app (goodIn_of _ (by decide +kernel)) ggL_plain_X10_lift
set_option maxRecDepth 20000 in
theorem ggL_plain_X10_crush : GoodIn wsL_plain wsX10_crush := goodIn_ca (goodIn_ca (goodIn_ca (goodIn_ca (goodIn_ca (goodIn_ca (goodIn_r _ [226, 6, 7, 227, 228, 229, 11, 230, 15, 79, 13, 109, 25, 26, 27, 28, 29, 4, 30, 31, 32, 33, 34, 35, 36, 37, 38, 39, 40, 41, 42, 43, 44, 45, 46, 47, 48, 49, 50, 51, 52, 53, 54, 55, 56, 57, 58, 59, 60, 61, 62, 63, 64, 65, 66, 67, 68, 69, 70, 71, 72, 73, 74, 75, 76, 77, 78, 80, 81, 82, 83, 84, 85, 86, 87, 88, 89, 90, 91, 92, 93, 231, 232, 233, 234, 474, 475, 476, 477, 478, 479, 480, 481, 482, 486, 487, 488, 489, 490, 491, 492, 493, 494, 495, 496, 497, 498, 499, 500, 483, 484, 485] (by decide +kernel) (by decide +kernel)) (goodIn_sub (fun _ h => List.mem_cons_of_mem _ (List.mem_append_left _ (List.mem_append_left _ (List.mem_append_left _ (List.mem_append_left _ (List.mem_append_left _ (List.mem_append_right _ h))))))) (by decide +kernel))) (goodIn_sub (fun _ h => List.mem_cons_of_mem _ (List.mem_append_left _ (List.mem_append_left _ (List.mem_append_left _ (List.mem_append_left _ (List.mem_append_right _ h)))))) (by decide +kernel))) (goodIn_sub (fun _ h => List.mem_cons_of_mem _ (List.mem_append_left _ (List.mem_append_left _ (List.mem_append_left _ (List.mem_append_right _ h))))) (by decide +kernel))) (goodIn_sub (fun _ h => List.mem_cons_of_mem _ (List.mem_append_left _ (List.mem_append_left _ (List.mem_append_right _ h)))) (by decide +kernel))) (goodIn_sub (fun _ h => List.mem_cons_of_mem _ (List.mem_append_left _ (List.mem_append_right _ h))) (by decide +kernel))) (goodIn_sub (fun _ h => List.mem_cons_of_mem _ (List.mem_append_right _ h)) (by decide +kernel))
set_option maxRecDepth 20000 in
theorem gL_plain_X10_crush : GoodIn wsL_plain (wsV RL 47 RX10 yX10_crush wsX10_crush) := goodIn_app (goodIn_of _ (by decide +kernel)) ggL_plain_X10_crush
set_option maxRecDepth 20000 in
theorem ggL_plain_X10_run : GoodIn wsL_plain wsX10_run := goodIn_ca (goodIn_ca (goodIn_ca (goodIn_r _ [238, 33, 34, 39, 40, 239, 240, 241, 6, 242, 7, 243, 244, 245, 246, 247, 248, 249, 250, 251, 252, 253, 254, 255, 256, 257, 258, 259, 260, 261, 262, 263, 264, 265, 266, 267, 268, 269, 270, 271, 272, 273, 274, 275, 276, 277, 278, 279, 280, 281, 282, 283, 284, 285, 286, 287, 288, 289, 290, 291, 292, 293, 294, 295, 296, 297, 298, 299, 300, 301, 302, 303, 304, 305, 306, 307, 308, 309, 310, 311, 312, 313, 314, 315, 316, 317, 318, 319, 320, 321, 322, 323, 324, 325, 326, 327, 328, 329, 330, 331, 332, 333, 334, 335, 336, 337, 338, 339, 340, 341, 342, 343, 344, 345, 119, 61, 120, 346, 347, 348, 349, 350, 351, 352, 353, 354, 355, 356, 357, 67, 68, 358, 69, 359, 360, 361, 362, 363, 364, 365, 366, 367, 368, 369, 370, 371, 372, 373, 374, 375, 376, 377, 378, 379, 380, 381, 382, 383, 384, 385, 386, 387, 388, 389, 390, 391, 392, 393, 394, 395, 396, 397, 398, 399, 400, 401, 402, 60, 62, 403, 87, 88, 89, 404, 405, 406, 407, 408, 409, 410, 411, 412, 413, 414, 415, 416, 417, 418, 83, 84, 11, 85, 70, 86, 71, 74, 75, 76, 77, 78, 79, 73, 90, 80, 81, 91, 92, 93, 419, 420, 421, 422, 423, 424, 425, 426, 427, 428, 429, 430, 431, 432, 433, 434, 435, 436, 437, 438, 439, 440, 441, 442, 443, 444, 445, 446, 447, 448, 449, 45, 46, 47, 48, 450, 9, 10, 12, 13, 14, 15, 16, 17, 18, 19, 20, 21, 22, 23, 24, 25, 26, 27, 451, 106, 107, 108, 109, 110, 98, 99, 100, 111, 112, 113, 114, 115, 116, 117, 118, 121, 122, 123, 452, 133, 134, 135, 453, 454, 158, 159, 160, 161, 162, 163, 164, 455, 174, 175, 176, 177, 178, 179, 180, 456, 190, 191, 192, 193, 194, 195, 196, 197, 198, 199, 200, 201, 202, 203, 204, 205, 206, 207, 208, 209, 210, 211, 212, 213, 214, 215, 216, 217, 218, 457, 228, 229, 230, 458, 459, 460, 461, 462, 95, 96, 97, 463, 125, 126, 127, 464, 137, 138, 139, 465, 146, 147, 148, 466, 166, 167, 168, 467, 182, 183, 184, 468, 220, 221, 222, 469, 232, 233, 234, 49, 50, 51, 52, 53, 54, 55, 56, 57, 58, 59, 63, 64, 65, 66, 72, 82, 470, 471, 472, 473, 474, 475, 476, 477, 478, 479, 480, 481, 482, 501, 502, 503, 504, 505, 506, 507, 508, 509, 510, 511, 486, 487, 488, 489, 490, 491, 492, 493, 494, 495, 496, 497, 498, 499, 500, 483, 484, 485] (by decide +kernel) (by decide +kernel)) (goodIn_sub (fun _ h => List.mem_cons_of_mem _ (List.mem_append_left _ (List.mem_append_left _ (List.mem_append_left _ (List.mem_append_right _ h))))) (by decide +kernel))) (goodIn_sub (fun _ h => List.mem_cons_of_mem _ (List.mem_append_right _ h)) (by decide +kernel))) (goodIn_sub (fun _ h => List.mem_cons_of_mem _ (List.mem_append_left _ (List.mem_append_left _ (List.mem_append_left _ (List.mem_append_left _ (List.mem_append_left _ (List.mem_append_right _ h))))))) (by decide +kernel))
set_option maxRecDepth 20000 in
theorem gL_plain_X10_run : GoodIn wsL_plain (wsV RL 50 RX10 yX10_run wsX10_run) := goodIn_app (goodIn_of _ (by decide +kernel)) ggL_plain_X10_run
theorem dL_plain_0 : decode cL_plain 0 = .ok (.iload_n 1, 1) := by decide +kernel
theorem dL_plain_1 : decode cL_plain 1 = .ok (.tableswitch 113 0 7 #[47, 56, 63, 70, 80, 86, 97, 106], 47) := by decide +kernel
theorem dL_plain_48 : decode cL_plain 48 = .ok (.aload_n 0, 1) := by decide +kernel
theorem dL_plain_49 : decode cL_plain 49 = .ok (.iload_n 2, 1) := by decide +kernel
theorem dL_plain_50 : decode cL_plain 50 = .ok (.iload_n 3, 1) := by decide +kernel
theorem dL_plain_51 : decode cL_plain 51 = .ok (.iload 4, 2) := by decide +kernel
theorem dL_plain_53 : decode cL_plain 53 = .ok (.invokevirtual 15, 3) := by decide +kernel
theorem dL_plain_56 : decode cL_plain 56 = .ok (.ireturn, 1) := by decide +kernel
theorem dL_plain_57 : decode cL_plain 57 = .ok (.aload_n 0, 1) := by decide +kernel
theorem dL_plain_58 : decode cL_plain 58 = .ok (.iload_n 2, 1) := by decide +kernel
theorem dL_plain_59 : decode cL_plain 59 = .ok (.iload_n 3, 1) := by decide +kernel
theorem dL_plain_60 : decode cL_plain 60 = .ok (.invokevirtual 21, 3) := by decide +kernel
theorem dL_plain_63 : decode cL_plain 63 = .ok (.ireturn, 1) := by decide +kernel
theorem dL_plain_64 : decode cL_plain 64 = .ok (.aload_n 0, 1) := by decide +kernel
theorem dL_plain_65 : decode cL_plain 65 = .ok (.iload_n 2, 1) := by decide +kernel
theorem dL_plain_66 : decode cL_plain 66 = .ok (.iload_n 3, 1) := by decide +kernel
theorem dL_plain_67 : decode cL_plain 67 = .ok (.invokevirtual 25, 3) := by decide +kernel
theorem dL_plain_70 : decode cL_plain 70 = .ok (.ireturn, 1) := by decide +kernel
theorem dL_plain_71 : decode cL_plain 71 = .ok (.aload_n 0, 1) := by decide +kernel
theorem dL_plain_72 : decode cL_plain 72 = .ok (.iload_n 2, 1) := by decide +kernel
theorem dL_plain_73 : decode cL_plain 73 = .ok (.iload_n 3, 1) := by decide +kernel
theorem dL_plain_74 : decode cL_plain 74 = .ok (.invokevirtual 28, 3) := by decide +kernel
theorem dL_plain_77 : decode cL_plain 77 = .ok (.invokestatic 32, 3) := by decide +kernel
theorem dL_plain_80 : decode cL_plain 80 = .ok (.ireturn, 1) := by decide +kernel
theorem dL_plain_81 : decode cL_plain 81 = .ok (.aload_n 0, 1) := by decide +kernel
theorem dL_plain_82 : decode cL_plain 82 = .ok (.iload_n 2, 1) := by decide +kernel
theorem dL_plain_83 : decode cL_plain 83 = .ok (.invokevirtual 36, 3) := by decide +kernel
theorem dL_plain_86 : decode cL_plain 86 = .ok (.ireturn, 1) := by decide +kernel
theorem dL_plain_87 : decode cL_plain 87 = .ok (.aload_n 0, 1) := by decide +kernel
theorem dL_plain_88 : decode cL_plain 88 = .ok (.iload_n 2, 1) := by decide +kernel
theorem dL_plain_89 : decode cL_plain 89 = .ok (.iload_n 3, 1) := by decide +kernel
theorem dL_plain_90 : decode cL_plain 90 = .ok (.iload 4, 2) := by decide +kernel
theorem dL_plain_92 : decode cL_plain 92 = .ok (.iload 5, 2) := by decide +kernel
theorem dL_plain_94 : decode cL_plain 94 = .ok (.invokevirtual 40, 3) := by decide +kernel
theorem dL_plain_97 : decode cL_plain 97 = .ok (.ireturn, 1) := by decide +kernel
theorem dL_plain_98 : decode cL_plain 98 = .ok (.aload_n 0, 1) := by decide +kernel
theorem dL_plain_99 : decode cL_plain 99 = .ok (.iload 4, 2) := by decide +kernel
theorem dL_plain_101 : decode cL_plain 101 = .ok (.iload_n 2, 1) := by decide +kernel
theorem dL_plain_102 : decode cL_plain 102 = .ok (.iload_n 3, 1) := by decide +kernel
theorem dL_plain_103 : decode cL_plain 103 = .ok (.invokevirtual 44, 3) := by decide +kernel
theorem dL_plain_106 : decode cL_plain 106 = .ok (.ireturn, 1) := by decide +kernel
theorem dL_plain_107 : decode cL_plain 107 = .ok (.aload_n 0, 1) := by decide +kernel
theorem dL_plain_108 : decode cL_plain 108 = .ok (.iload_n 2, 1) := by decide +kernel
theorem dL_plain_109 : decode cL_plain 109 = .ok (.iload_n 3, 1) := by decide +kernel
theorem dL_plain_110 : decode cL_plain 110 = .ok (.invokevirtual 47, 3) := by decide +kernel
theorem dL_plain_113 : decode cL_plain 113 = .ok (.ireturn, 1) := by decide +kernel
theorem dL_plain_114 : decode cL_plain 114 = .ok (.aload_n 0, 1) := by decide +kernel
theorem dL_plain_115 : decode cL_plain 115 = .ok (.invokevirtual 50, 3) := by decide +kernel
theorem dL_plain_118 : decode cL_plain 118 = .ok (.ireturn, 1) := by decide +kernel
set_option maxRecDepth 20000 in
theorem ggL_deed_L_plain : GoodIn wsL_deed wsL_plain := goodIn_ca (goodIn_ca (goodIn_ca (goodIn_ca (goodIn_ca (goodIn_ca (goodIn_r _ [9, 10, 11, 12, 13, 14, 15, 16, 17, 18, 19, 20, 21, 22, 23, 24, 25, 26, 27, 28, 29, 30, 31, 32, 33, 34, 35, 36, 37, 38, 39, 40, 41, 42, 43, 44, 45, 46, 47, 48, 49, 50, 51, 52, 53, 54, 55, 56, 57, 58, 59, 60, 61, 62, 63, 64, 65, 66, 67, 68, 69, 70, 71, 72, 73, 74, 75, 76, 77, 78, 79, 80, 81, 82, 83, 84, 85, 86, 87, 88, 89, 90, 91, 92, 93, 94, 95, 96, 97, 98, 99, 100, 101, 102, 103, 104, 105, 106, 107, 108, 109, 110, 111, 112, 113, 114, 115, 116, 117, 118, 119, 120, 121, 122, 123, 124, 125, 126, 127, 128, 129, 130, 131, 132, 133, 134, 135, 136, 137, 138, 139, 140, 141, 142, 143, 144, 145, 146, 147, 148, 149, 150, 151, 152, 153, 154, 155, 156, 157, 158, 159, 8, 160, 161, 162, 163, 164, 165, 166, 167, 168, 169, 170, 171, 172, 173, 174, 175, 176, 177, 178, 179, 180, 181, 182, 183, 184, 185, 186, 187, 188, 189, 190, 191, 192, 193, 194, 195, 196, 197, 198, 199, 200, 201, 202, 203, 204, 205, 206, 207, 208, 209, 210, 211, 212, 213, 214, 215, 216, 217, 218, 219, 220, 221, 222, 223, 224, 225, 226, 227, 228, 229, 230, 231, 232, 233, 234, 235, 236, 237, 238, 239, 240, 241, 242, 243, 244, 245, 246, 247, 248, 249, 250, 251, 252, 253, 254, 255, 256, 257, 258, 259, 260, 261, 262, 263, 264, 265, 266, 267, 268, 269, 270, 271, 272, 273, 274, 275, 276, 277, 278, 279, 280, 281, 282, 283, 284, 285, 286, 287, 288, 289, 290, 291, 292, 293, 294, 295, 296, 297, 298, 299, 300, 301, 302, 303, 304, 305, 306, 307, 308, 309, 310, 311, 312, 313, 314, 315, 316, 317, 318, 319, 320, 321, 322, 323, 324, 325, 326, 327, 328, 329, 330, 331, 332, 333, 334, 335, 336, 337, 338, 339, 340, 341, 342, 343, 344, 345, 346, 347, 348, 349, 350, 351, 352, 353, 354, 355, 356, 357, 358, 359, 360, 361, 362, 363, 364, 365, 366, 367, 368, 369, 370, 371, 372, 373, 374, 375, 376, 377, 378, 379, 380, 381, 382, 383, 384, 385, 386, 387, 388, 389, 390, 391, 392, 393, 394, 395, 396, 397, 398, 399, 400, 401, 402, 403, 404, 405, 406, 407, 408, 409, 410, 411, 412, 413, 414, 415, 416, 417, 418, 419, 420, 421, 422, 423, 424, 425, 426, 427, 428, 429, 430, 431, 432, 433, 434, 435, 436, 437, 438, 439, 440, 441, 442, 443, 444, 445, 446, 447, 448, 449, 450, 451, 452, 453, 454, 455, 456, 457, 458, 459, 460, 461, 462, 463, 464, 465, 466, 467, 468, 469, 470, 471, 472, 473, 474, 475, 476, 477, 478, 479, 480, 481, 482, 483, 484, 485, 486, 487, 488, 489, 490, 491, 492, 493, 494, 495, 496, 497, 498, 499, 500, 501, 502, 503, 504, 505, 506, 507, 508, 509, 510, 511, 512, 513, 514, 515, 516, 517, 518, 519] (by decide +kernel) (by decide +kernel)) (goodIn_sub (fun _ h => List.mem_cons_of_mem _ (List.mem_append_left _ (List.mem_append_left _ (List.mem_append_left _ (List.mem_append_left _ (List.mem_append_left _ (List.mem_append_right _ h))))))) (by decide +kernel))) (goodIn_sub (fun _ h => List.mem_cons_of_mem _ (List.mem_append_left _ (List.mem_append_left _ (List.mem_append_left _ (List.mem_append_left _ (List.mem_append_right _ h)))))) (by decide +kernel))) (goodIn_sub (fun _ h => List.mem_cons_of_mem _ (List.mem_append_left _ (List.mem_append_left _ (List.mem_append_left _ (List.mem_append_right _ h))))) (by decide +kernel))) (goodIn_sub (fun _ h => List.mem_cons_of_mem _ (List.mem_append_left _ (List.mem_append_left _ (List.mem_append_right _ h)))) (by decide +kernel))) (goodIn_sub (fun _ h => List.mem_cons_of_mem _ (List.mem_append_left _ (List.mem_append_right _ h))) (by decide +kernel))) (goodIn_sub (fun _ h => List.mem_cons_of_mem _ (List.mem_append_right _ h)) (by decide +kernel))
set_option maxRecDepth 20000 in
theorem gL_deed_L_plain : GoodIn wsL_deed (va_wsS RL 54 yL_plain wsL_plain) := goodIn_app (goodIn_of _ (by decide +kernel)) ggL_deed_L_plain
theorem dL_deed_0 : decode cL_deed 0 = .ok (.aload_n 0, 1) := by decide +kernel
theorem dL_deed_1 : decode cL_deed 1 = .ok (.iload_n 1, 1) := by decide +kernel
theorem dL_deed_2 : decode cL_deed 2 = .ok (.iload_n 2, 1) := by decide +kernel
theorem dL_deed_3 : decode cL_deed 3 = .ok (.iload_n 3, 1) := by decide +kernel
theorem dL_deed_4 : decode cL_deed 4 = .ok (.iload 4, 2) := by decide +kernel
theorem dL_deed_6 : decode cL_deed 6 = .ok (.iload 5, 2) := by decide +kernel
theorem dL_deed_8 : decode cL_deed 8 = .ok (.invokestatic 54, 3) := by decide +kernel
theorem dL_deed_11 : decode cL_deed 11 = .ok (.ireturn, 1) := by decide +kernel
theorem dL_deed_12 : decode cL_deed 12 = .ok (.astore 6, 2) := by decide +kernel
theorem dL_deed_14 : decode cL_deed 14 = .ok (.sipush (-2002), 3) := by decide +kernel
theorem dL_deed_17 : decode cL_deed 17 = .ok (.ireturn, 1) := by decide +kernel
theorem dL_deed_18 : decode cL_deed 18 = .ok (.astore 6, 2) := by decide +kernel
theorem dL_deed_20 : decode cL_deed 20 = .ok (.sipush (-2003), 3) := by decide +kernel
theorem dL_deed_23 : decode cL_deed 23 = .ok (.ireturn, 1) := by decide +kernel
theorem dL_deed_24 : decode cL_deed 24 = .ok (.astore 6, 2) := by decide +kernel
theorem dL_deed_26 : decode cL_deed 26 = .ok (.sipush (-2005), 3) := by decide +kernel
theorem dL_deed_29 : decode cL_deed 29 = .ok (.ireturn, 1) := by decide +kernel
theorem dL_deed_30 : decode cL_deed 30 = .ok (.astore 6, 2) := by decide +kernel
theorem dL_deed_32 : decode cL_deed 32 = .ok (.sipush (-2001), 3) := by decide +kernel
theorem dL_deed_35 : decode cL_deed 35 = .ok (.ireturn, 1) := by decide +kernel
theorem dL_deed_36 : decode cL_deed 36 = .ok (.astore 6, 2) := by decide +kernel
theorem dL_deed_38 : decode cL_deed 38 = .ok (.sipush (-2004), 3) := by decide +kernel
theorem dL_deed_41 : decode cL_deed 41 = .ok (.ireturn, 1) := by decide +kernel
set_option maxRecDepth 20000 in
theorem ggL_asked_X10_height : GoodIn wsL_asked wsX10_height := goodIn_ca (goodIn_ca (goodIn_ca (goodIn_ca (goodIn_ca (goodIn_ca (goodIn_r _ [5, 6, 7, 8, 9, 10, 11, 12, 13, 14, 15, 16, 17, 4, 18, 19, 20, 21, 22, 23, 24, 25, 26, 27, 28, 29, 30, 31, 32, 33, 34, 35, 36, 37, 38, 39, 40, 41, 42, 43, 44, 45, 208, 209, 210, 211, 212, 213, 214, 215, 216, 217, 218, 219, 220, 221, 222, 223, 224, 225, 226, 227, 228, 229, 230, 231] (by decide +kernel) (by decide +kernel)) (goodIn_sub (fun _ h => List.mem_cons_of_mem _ (List.mem_append_left _ (List.mem_append_left _ (List.mem_append_left _ (List.mem_append_left _ (List.mem_append_left _ (List.mem_append_right _ h))))))) (by decide +kernel))) (goodIn_sub (fun _ h => List.mem_cons_of_mem _ (List.mem_append_left _ (List.mem_append_left _ (List.mem_append_left _ (List.mem_append_left _ (List.mem_append_right _ h)))))) (by decide +kernel))) (goodIn_sub (fun _ h => List.mem_cons_of_mem _ (List.mem_append_left _ (List.mem_append_left _ (List.mem_append_left _ (List.mem_append_right _ h))))) (by decide +kernel))) (goodIn_sub (fun _ h => List.mem_cons_of_mem _ (List.mem_append_left _ (List.mem_append_left _ (List.mem_append_right _ h)))) (by decide +kernel))) (goodIn_sub (fun _ h => List.mem_cons_of_mem _ (List.mem_append_left _ (List.mem_append_right _ h))) (by decide +kernel))) (goodIn_sub (fun _ h => List.mem_cons_of_mem _ (List.mem_append_right _ h)) (by decide +kernel))
set_option maxRecDepth 20000 in
theorem gL_asked_X10_height : GoodIn wsL_asked (wsV RL 68 RX10 yX10_height wsX10_height) := goodIn_app (goodIn_of _ (by decide +kernel)) ggL_asked_X10_height
set_option maxRecDepth 20000 in
theorem ggL_asked_X10_topBlock : GoodIn wsL_asked wsX10_topBlock := goodIn_ca (goodIn_ca (goodIn_ca (goodIn_ca (goodIn_ca (goodIn_ca (goodIn_r _ [49, 6, 50, 51, 52, 43, 53, 54, 55, 56, 57, 58, 8, 9, 10, 11, 12, 13, 14, 15, 59, 38, 39, 16, 17, 4, 18, 19, 20, 21, 22, 23, 24, 25, 26, 27, 28, 29, 30, 31, 32, 33, 34, 35, 36, 37, 60, 61, 62, 63, 64, 208, 209, 210, 211, 212, 213, 214, 215, 216, 217, 218, 219, 220, 221, 222, 223, 224, 225, 226, 227, 228, 229, 230, 231] (by decide +kernel) (by decide +kernel)) (goodIn_sub (fun _ h => List.mem_cons_of_mem _ (List.mem_append_left _ (List.mem_append_left _ (List.mem_append_left _ (List.mem_append_left _ (List.mem_append_left _ (List.mem_append_right _ h))))))) (by decide +kernel))) (goodIn_sub (fun _ h => List.mem_cons_of_mem _ (List.mem_append_left _ (List.mem_append_left _ (List.mem_append_left _ (List.mem_append_left _ (List.mem_append_right _ h)))))) (by decide +kernel))) (goodIn_sub (fun _ h => List.mem_cons_of_mem _ (List.mem_append_left _ (List.mem_append_left _ (List.mem_append_left _ (List.mem_append_right _ h))))) (by decide +kernel))) (goodIn_sub (fun _ h => List.mem_cons_of_mem _ (List.mem_append_left _ (List.mem_append_left _ (List.mem_append_right _ h)))) (by decide +kernel))) (goodIn_sub (fun _ h => List.mem_cons_of_mem _ (List.mem_append_left _ (List.mem_append_right _ h))) (by decide +kernel))) (goodIn_sub (fun _ h => List.mem_cons_of_mem _ (List.mem_append_right _ h)) (by decide +kernel))
set_option maxRecDepth 20000 in
theorem gL_asked_X10_topBlock : GoodIn wsL_asked (wsV RL 71 RX10 yX10_topBlock wsX10_topBlock) := goodIn_app (goodIn_of _ (by decide +kernel)) ggL_asked_X10_topBlock
set_option maxRecDepth 20000 in
theorem ggL_asked_X10_cellsAt : GoodIn wsL_asked wsX10_cellsAt := goodIn_ca (goodIn_ca (goodIn_ca (goodIn_ca (goodIn_ca (goodIn_ca (goodIn_r _ [68, 6, 69, 70, 43, 71, 54, 72, 16, 17, 4, 18, 19, 20, 21, 22, 23, 24, 25, 26, 27, 28, 29, 30, 31, 32, 33, 34, 35, 36, 73, 74, 75, 76, 45, 208, 209, 210, 211, 212, 213, 214, 215, 216, 217, 218, 219, 220, 221, 222, 223, 224, 225, 226, 227, 228, 229, 230, 231] (by decide +kernel) (by decide +kernel)) (goodIn_sub (fun _ h => List.mem_cons_of_mem _ (List.mem_append_left _ (List.mem_append_left _ (List.mem_append_left _ (List.mem_append_left _ (List.mem_append_left _ (List.mem_append_right _ h))))))) (by decide +kernel))) (goodIn_sub (fun _ h => List.mem_cons_of_mem _ (List.mem_append_left _ (List.mem_append_left _ (List.mem_append_left _ (List.mem_append_left _ (List.mem_append_right _ h)))))) (by decide +kernel))) (goodIn_sub (fun _ h => List.mem_cons_of_mem _ (List.mem_append_left _ (List.mem_append_left _ (List.mem_append_left _ (List.mem_append_right _ h))))) (by decide +kernel))) (goodIn_sub (fun _ h => List.mem_cons_of_mem _ (List.mem_append_left _ (List.mem_append_left _ (List.mem_append_right _ h)))) (by decide +kernel))) (goodIn_sub (fun _ h => List.mem_cons_of_mem _ (List.mem_append_left _ (List.mem_append_right _ h))) (by decide +kernel))) (goodIn_sub (fun _ h => List.mem_cons_of_mem _ (List.mem_append_right _ h)) (by decide +kernel))
set_option maxRecDepth 20000 in
theorem gL_asked_X10_cellsAt : GoodIn wsL_asked (wsV RL 74 RX10 yX10_cellsAt wsX10_cellsAt) := goodIn_app (goodIn_of _ (by decide +kernel)) ggL_asked_X10_cellsAt
set_option maxRecDepth 20000 in
theorem ggL_asked_X10_cutsToLower : GoodIn wsL_asked wsX10_cutsToLower := goodIn_ca (goodIn_ca (goodIn_ca (goodIn_ca (goodIn_ca (goodIn_ca (goodIn_r _ [80, 6, 81, 82, 83, 43, 84, 54, 55, 45, 72, 58, 8, 9, 10, 11, 12, 13, 14, 15, 59, 38, 39, 16, 17, 4, 18, 19, 20, 21, 22, 23, 24, 25, 26, 27, 28, 29, 30, 31, 32, 33, 34, 35, 36, 37, 85, 86, 87, 88, 89, 90, 91, 92, 93, 94, 95, 96, 97, 98, 99, 100, 101, 102, 103, 104, 105, 208, 209, 210, 211, 212, 213, 214, 215, 216, 217, 218, 219, 220, 221, 222, 223, 224, 225, 226, 227, 228, 229, 230, 231] (by decide +kernel) (by decide +kernel)) (goodIn_sub (fun _ h => List.mem_cons_of_mem _ (List.mem_append_left _ (List.mem_append_left _ (List.mem_append_left _ (List.mem_append_left _ (List.mem_append_left _ (List.mem_append_right _ h))))))) (by decide +kernel))) (goodIn_sub (fun _ h => List.mem_cons_of_mem _ (List.mem_append_left _ (List.mem_append_left _ (List.mem_append_left _ (List.mem_append_left _ (List.mem_append_right _ h)))))) (by decide +kernel))) (goodIn_sub (fun _ h => List.mem_cons_of_mem _ (List.mem_append_left _ (List.mem_append_left _ (List.mem_append_left _ (List.mem_append_right _ h))))) (by decide +kernel))) (goodIn_sub (fun _ h => List.mem_cons_of_mem _ (List.mem_append_left _ (List.mem_append_left _ (List.mem_append_right _ h)))) (by decide +kernel))) (goodIn_sub (fun _ h => List.mem_cons_of_mem _ (List.mem_append_left _ (List.mem_append_right _ h))) (by decide +kernel))) (goodIn_sub (fun _ h => List.mem_cons_of_mem _ (List.mem_append_right _ h)) (by decide +kernel))
set_option maxRecDepth 20000 in
theorem gL_asked_X10_cutsToLower : GoodIn wsL_asked (wsV RL 77 RX10 yX10_cutsToLower wsX10_cutsToLower) := goodIn_app (goodIn_of _ (by decide +kernel)) ggL_asked_X10_cutsToLower
set_option maxRecDepth 20000 in
theorem ggL_asked_X10_cutsToLowerBySpreading : GoodIn wsL_asked wsX10_cutsToLowerBySpreading := goodIn_ca (goodIn_ca (goodIn_ca (goodIn_ca (goodIn_ca (goodIn_ca (goodIn_r _ [109, 6, 110, 81, 82, 83, 43, 84, 54, 55, 45, 72, 58, 8, 9, 10, 11, 12, 13, 14, 15, 59, 38, 39, 16, 17, 4, 18, 19, 20, 21, 22, 23, 24, 25, 26, 27, 28, 29, 30, 31, 32, 33, 34, 35, 36, 37, 111, 112, 113, 114, 115, 116, 117, 118, 41, 42, 44, 119, 120, 121, 122, 123, 124, 125, 89, 126, 127, 128, 129, 208, 209, 210, 211, 212, 213, 214, 215, 216, 217, 218, 219, 220, 221, 222, 223, 224, 225, 226, 227, 228, 229, 230, 231, 232, 233, 234, 235, 236] (by decide +kernel) (by decide +kernel)) (goodIn_sub (fun _ h => List.mem_cons_of_mem _ (List.mem_append_left _ (List.mem_append_left _ (List.mem_append_left _ (List.mem_append_left _ (List.mem_append_left _ (List.mem_append_right _ h))))))) (by decide +kernel))) (goodIn_sub (fun _ h => List.mem_cons_of_mem _ (List.mem_append_left _ (List.mem_append_left _ (List.mem_append_left _ (List.mem_append_left _ (List.mem_append_right _ h)))))) (by decide +kernel))) (goodIn_sub (fun _ h => List.mem_cons_of_mem _ (List.mem_append_left _ (List.mem_append_left _ (List.mem_append_left _ (List.mem_append_right _ h))))) (by decide +kernel))) (goodIn_sub (fun _ h => List.mem_cons_of_mem _ (List.mem_append_left _ (List.mem_append_left _ (List.mem_append_right _ h)))) (by decide +kernel))) (goodIn_sub (fun _ h => List.mem_cons_of_mem _ (List.mem_append_left _ (List.mem_append_right _ h))) (by decide +kernel))) (goodIn_sub (fun _ h => List.mem_cons_of_mem _ (List.mem_append_right _ h)) (by decide +kernel))
set_option maxRecDepth 20000 in
theorem gL_asked_X10_cutsToLowerBySpreading : GoodIn wsL_asked (wsV RL 80 RX10 yX10_cutsToLowerBySpreading wsX10_cutsToLowerBySpreading) := goodIn_app (goodIn_of _ (by decide +kernel)) ggL_asked_X10_cutsToLowerBySpreading
set_option maxRecDepth 20000 in
theorem ggL_asked_X10_footpath : GoodIn wsL_asked wsX10_footpath := goodIn_ca (goodIn_ca (goodIn_ca (goodIn_ca (goodIn_ca (goodIn_ca (goodIn_r _ [133, 23, 24, 110, 6, 7, 8, 9, 10, 11, 12, 13, 14, 15, 16, 17, 4, 18, 19, 20, 21, 22, 25, 26, 27, 28, 29, 30, 31, 32, 33, 34, 35, 36, 37, 38, 39, 134, 135, 136, 114, 137, 138, 117, 139, 140, 141, 43, 142, 143, 119, 120, 121, 144, 145, 146, 147, 98, 92, 99, 118, 41, 42, 44, 45, 208, 209, 210, 211, 212, 213, 214, 215, 216, 232, 233, 234, 235, 236, 217, 218, 219, 220, 221, 222, 223, 224, 225, 226, 227, 228, 229, 230, 231] (by decide +kernel) (by decide +kernel)) (goodIn_sub (fun _ h => List.mem_cons_of_mem _ (List.mem_append_left _ (List.mem_append_left _ (List.mem_append_right _ h)))) (by decide +kernel))) (goodIn_sub (fun _ h => List.mem_cons_of_mem _ (List.mem_append_left _ (List.mem_append_left _ (List.mem_append_left _ (List.mem_append_left _ (List.mem_append_left _ (List.mem_append_right _ h))))))) (by decide +kernel))) (goodIn_sub (fun _ h => List.mem_cons_of_mem _ (List.mem_append_left _ (List.mem_append_left _ (List.mem_append_left _ (List.mem_append_left _ (List.mem_append_right _ h)))))) (by decide +kernel))) (goodIn_sub (fun _ h => List.mem_cons_of_mem _ (List.mem_append_left _ (List.mem_append_left _ (List.mem_append_left _ (List.mem_append_right _ h))))) (by decide +kernel))) (goodIn_sub (fun _ h => List.mem_cons_of_mem _ (List.mem_append_left _ (List.mem_append_right _ h))) (by decide +kernel))) (goodIn_sub (fun _ h => List.mem_cons_of_mem _ (List.mem_append_right _ h)) (by decide +kernel))
set_option maxRecDepth 20000 in
theorem gL_asked_X10_footpath : GoodIn wsL_asked (wsV RL 83 RX10 yX10_footpath wsX10_footpath) := goodIn_app (goodIn_of _ (by decide +kernel)) ggL_asked_X10_footpath
set_option maxRecDepth 20000 in
theorem ggL_asked_X10_liftableCells : GoodIn wsL_asked wsX10_liftableCells := goodIn_ca (goodIn_ca (goodIn_r _ [151, 19, 20, 6, 152, 153, 154, 43, 155, 156, 157, 158, 159, 160, 54, 161, 101, 9, 102, 162, 104, 105, 163, 164, 165, 166, 55, 143, 167, 168, 169, 170, 171, 172, 173, 51, 52, 53, 56, 57, 58, 8, 10, 11, 12, 13, 14, 15, 59, 38, 39, 94, 95, 96, 97, 98, 92, 99, 100, 103, 174, 61, 62, 63, 64, 175, 176, 177, 208, 209, 210, 211, 212, 213, 214, 215, 216, 217, 218, 219, 220, 221, 222, 223, 224, 225, 226, 227, 228, 229, 230, 231] (by decide +kernel) (by decide +kernel)) (goodIn_sub (fun _ h => List.mem_cons_of_mem _ (List.mem_append_left _ (List.mem_append_left _ (List.mem_append_left _ (List.mem_append_left _ (List.mem_append_right _ h)))))) (by decide +kernel))) (goodIn_sub (fun _ h => List.mem_cons_of_mem _ (List.mem_append_left _ (List.mem_append_left _ (List.mem_append_left _ (List.mem_append_left _ (List.mem_append_left _ (List.mem_append_right _ h))))))) (by decide +kernel))
set_option maxRecDepth 20000 in
theorem gL_asked_X10_liftableCells : GoodIn wsL_asked (wsV RL 86 RX10 yX10_liftableCells wsX10_liftableCells) := goodIn_app (goodIn_of _ (by decide +kernel)) ggL_asked_X10_liftableCells
set_option maxRecDepth 20000 in
theorem ggL_asked_X10_bestWinch : GoodIn wsL_asked wsX10_bestWinch := goodIn_ca (goodIn_ca (goodIn_ca (goodIn_ca (goodIn_ca (goodIn_ca (goodIn_r _ [181, 23, 24, 6, 7, 8, 9, 10, 11, 12, 13, 14, 15, 16, 17, 4, 18, 19, 20, 21, 22, 25, 26, 27, 28, 29, 30, 31, 32, 33, 34, 35, 36, 182, 183, 184, 43, 185, 156, 54, 170, 163, 164, 165, 166, 55, 143, 167, 168, 169, 171, 172, 153, 154, 155, 173, 51, 52, 53, 56, 57, 58, 59, 38, 39, 94, 95, 96, 97, 98, 92, 99, 100, 101, 102, 103, 104, 105, 174, 61, 62, 63, 64, 175, 176, 177, 208, 209, 210, 211, 212, 213, 214, 215, 216, 217, 218, 219, 220, 221, 222, 223, 224, 225, 226, 227, 228, 229, 230, 231] (by decide +kernel) (by decide +kernel)) (goodIn_sub (fun _ h => List.mem_cons_of_mem _ (List.mem_append_left _ (List.mem_append_left _ (List.mem_append_right _ h)))) (by decide +kernel))) (goodIn_sub (fun _ h => List.mem_cons_of_mem _ (List.mem_append_left _ (List.mem_append_left _ (List.mem_append_left _ (List.mem_append_left _ (List.mem_append_left _ (List.mem_append_right _ h))))))) (by decide +kernel))) (goodIn_sub (fun _ h => List.mem_cons_of_mem _ (List.mem_append_left _ (List.mem_append_left _ (List.mem_append_left _ (List.mem_append_left _ (List.mem_append_right _ h)))))) (by decide +kernel))) (goodIn_sub (fun _ h => List.mem_cons_of_mem _ (List.mem_append_left _ (List.mem_append_left _ (List.mem_append_left _ (List.mem_append_right _ h))))) (by decide +kernel))) (goodIn_sub (fun _ h => List.mem_cons_of_mem _ (List.mem_append_left _ (List.mem_append_right _ h))) (by decide +kernel))) (goodIn_sub (fun _ h => List.mem_cons_of_mem _ (List.mem_append_right _ h)) (by decide +kernel))
set_option maxRecDepth 20000 in
theorem gL_asked_X10_bestWinch : GoodIn wsL_asked (wsV RL 89 RX10 yX10_bestWinch wsX10_bestWinch) := goodIn_app (goodIn_of _ (by decide +kernel)) ggL_asked_X10_bestWinch
set_option maxRecDepth 20000 in
theorem ggL_asked_X10_inYard : GoodIn wsL_asked wsX10_inYard := goodIn_ca (goodIn_ca (goodIn_r _ [189, 21, 22, 6, 190, 191, 43, 192, 193, 194, 195, 196, 197, 208, 209, 210, 211, 212, 213, 214, 215, 216, 217, 218, 219, 220, 221, 222, 223, 224, 225, 226, 227, 228, 229, 230, 231] (by decide +kernel) (by decide +kernel)) (goodIn_sub (fun _ h => List.mem_cons_of_mem _ (List.mem_append_left _ (List.mem_append_left _ (List.mem_append_left _ (List.mem_append_right _ h))))) (by decide +kernel))) (goodIn_sub (fun _ h => List.mem_cons_of_mem _ (List.mem_append_left _ (List.mem_append_left _ (List.mem_append_left _ (List.mem_append_left _ (List.mem_append_left _ (List.mem_append_right _ h))))))) (by decide +kernel))
set_option maxRecDepth 20000 in
theorem gL_asked_X10_inYard : GoodIn wsL_asked (wsV RL 92 RX10 yX10_inYard wsX10_inYard) := goodIn_app (goodIn_of _ (by decide +kernel)) ggL_asked_X10_inYard
set_option maxRecDepth 20000 in
theorem ggL_asked_X10_errorPosition : GoodIn wsL_asked wsX10_errorPosition := goodIn_ca (goodIn_r _ [201, 23, 24, 202, 208, 209, 210, 211, 212, 213, 214, 215, 216] (by decide +kernel) (by decide +kernel)) (goodIn_sub (fun _ h => List.mem_cons_of_mem _ (List.mem_append_left _ (List.mem_append_left _ (List.mem_append_right _ h)))) (by decide +kernel))
set_option maxRecDepth 20000 in
theorem gL_asked_X10_errorPosition : GoodIn wsL_asked (wsV RL 95 RX10 yX10_errorPosition wsX10_errorPosition) := goodIn_app (goodIn_of _ (by decide +kernel)) ggL_asked_X10_errorPosition
set_option maxRecDepth 20000 in
theorem ggL_asked_X10_failedCommand : GoodIn wsL_asked wsX10_failedCommand := goodIn_ca (goodIn_r _ [206, 23, 24, 207, 208, 209, 210, 211, 212, 213, 214, 215, 216] (by decide +kernel) (by decide +kernel)) (goodIn_sub (fun _ h => List.mem_cons_of_mem _ (List.mem_append_left _ (List.mem_append_left _ (List.mem_append_right _ h)))) (by decide +kernel))
set_option maxRecDepth 20000 in
theorem gL_asked_X10_failedCommand : GoodIn wsL_asked (wsV RL 98 RX10 yX10_failedCommand wsX10_failedCommand) := goodIn_app (goodIn_of _ (by decide +kernel)) ggL_asked_X10_failedCommand
theorem dL_asked_0 : decode cL_asked 0 = .ok (.iload_n 1, 1) := by decide +kernel
theorem dL_asked_1 : decode cL_asked 1 = .ok (.tableswitch 128 0 9 #[55, 62, 69, 75, 84, 93, 104, 110, 117, 123], 55) := by decide +kernel
theorem dL_asked_56 : decode cL_asked 56 = .ok (.aload_n 0, 1) := by decide +kernel
theorem dL_asked_57 : decode cL_asked 57 = .ok (.iload_n 2, 1) := by decide +kernel
theorem dL_asked_58 : decode cL_asked 58 = .ok (.iload_n 3, 1) := by decide +kernel
theorem dL_asked_59 : decode cL_asked 59 = .ok (.invokevirtual 68, 3) := by decide +kernel
theorem dL_asked_62 : decode cL_asked 62 = .ok (.ireturn, 1) := by decide +kernel
theorem dL_asked_63 : decode cL_asked 63 = .ok (.aload_n 0, 1) := by decide +kernel
theorem dL_asked_64 : decode cL_asked 64 = .ok (.iload_n 2, 1) := by decide +kernel
theorem dL_asked_65 : decode cL_asked 65 = .ok (.iload_n 3, 1) := by decide +kernel
theorem dL_asked_66 : decode cL_asked 66 = .ok (.invokevirtual 71, 3) := by decide +kernel
theorem dL_asked_69 : decode cL_asked 69 = .ok (.ireturn, 1) := by decide +kernel
theorem dL_asked_70 : decode cL_asked 70 = .ok (.aload_n 0, 1) := by decide +kernel
theorem dL_asked_71 : decode cL_asked 71 = .ok (.iload_n 2, 1) := by decide +kernel
theorem dL_asked_72 : decode cL_asked 72 = .ok (.invokevirtual 74, 3) := by decide +kernel
theorem dL_asked_75 : decode cL_asked 75 = .ok (.ireturn, 1) := by decide +kernel
theorem dL_asked_76 : decode cL_asked 76 = .ok (.aload_n 0, 1) := by decide +kernel
theorem dL_asked_77 : decode cL_asked 77 = .ok (.iload_n 2, 1) := by decide +kernel
theorem dL_asked_78 : decode cL_asked 78 = .ok (.iload_n 3, 1) := by decide +kernel
theorem dL_asked_79 : decode cL_asked 79 = .ok (.iload 4, 2) := by decide +kernel
theorem dL_asked_81 : decode cL_asked 81 = .ok (.invokevirtual 77, 3) := by decide +kernel
theorem dL_asked_84 : decode cL_asked 84 = .ok (.ireturn, 1) := by decide +kernel
theorem dL_asked_85 : decode cL_asked 85 = .ok (.aload_n 0, 1) := by decide +kernel
theorem dL_asked_86 : decode cL_asked 86 = .ok (.iload_n 2, 1) := by decide +kernel
theorem dL_asked_87 : decode cL_asked 87 = .ok (.iload_n 3, 1) := by decide +kernel
theorem dL_asked_88 : decode cL_asked 88 = .ok (.iload 4, 2) := by decide +kernel
theorem dL_asked_90 : decode cL_asked 90 = .ok (.invokevirtual 80, 3) := by decide +kernel
theorem dL_asked_93 : decode cL_asked 93 = .ok (.ireturn, 1) := by decide +kernel
theorem dL_asked_94 : decode cL_asked 94 = .ok (.aload_n 0, 1) := by decide +kernel
theorem dL_asked_95 : decode cL_asked 95 = .ok (.iload_n 2, 1) := by decide +kernel
theorem dL_asked_96 : decode cL_asked 96 = .ok (.iload_n 3, 1) := by decide +kernel
theorem dL_asked_97 : decode cL_asked 97 = .ok (.iload 4, 2) := by decide +kernel
theorem dL_asked_99 : decode cL_asked 99 = .ok (.iload 5, 2) := by decide +kernel
theorem dL_asked_101 : decode cL_asked 101 = .ok (.invokevirtual 83, 3) := by decide +kernel
theorem dL_asked_104 : decode cL_asked 104 = .ok (.ireturn, 1) := by decide +kernel
theorem dL_asked_105 : decode cL_asked 105 = .ok (.aload_n 0, 1) := by decide +kernel
theorem dL_asked_106 : decode cL_asked 106 = .ok (.iload_n 2, 1) := by decide +kernel
theorem dL_asked_107 : decode cL_asked 107 = .ok (.invokevirtual 86, 3) := by decide +kernel
theorem dL_asked_110 : decode cL_asked 110 = .ok (.ireturn, 1) := by decide +kernel
theorem dL_asked_111 : decode cL_asked 111 = .ok (.aload_n 0, 1) := by decide +kernel
theorem dL_asked_112 : decode cL_asked 112 = .ok (.iload_n 2, 1) := by decide +kernel
theorem dL_asked_113 : decode cL_asked 113 = .ok (.iload_n 3, 1) := by decide +kernel
theorem dL_asked_114 : decode cL_asked 114 = .ok (.invokevirtual 89, 3) := by decide +kernel
theorem dL_asked_117 : decode cL_asked 117 = .ok (.ireturn, 1) := by decide +kernel
theorem dL_asked_118 : decode cL_asked 118 = .ok (.aload_n 0, 1) := by decide +kernel
theorem dL_asked_119 : decode cL_asked 119 = .ok (.iload_n 2, 1) := by decide +kernel
theorem dL_asked_120 : decode cL_asked 120 = .ok (.invokevirtual 92, 3) := by decide +kernel
theorem dL_asked_123 : decode cL_asked 123 = .ok (.ireturn, 1) := by decide +kernel
theorem dL_asked_124 : decode cL_asked 124 = .ok (.aload_n 0, 1) := by decide +kernel
theorem dL_asked_125 : decode cL_asked 125 = .ok (.invokevirtual 95, 3) := by decide +kernel
theorem dL_asked_128 : decode cL_asked 128 = .ok (.ireturn, 1) := by decide +kernel
theorem dL_asked_129 : decode cL_asked 129 = .ok (.aload_n 0, 1) := by decide +kernel
theorem dL_asked_130 : decode cL_asked 130 = .ok (.invokevirtual 98, 3) := by decide +kernel
theorem dL_asked_133 : decode cL_asked 133 = .ok (.ireturn, 1) := by decide +kernel
set_option maxRecDepth 20000 in
theorem ggL_ask_L_asked : GoodIn wsL_ask wsL_asked := goodIn_ca (goodIn_ca (goodIn_ca (goodIn_ca (goodIn_ca (goodIn_ca (goodIn_r _ [7, 8, 9, 10, 11, 12, 13, 14, 15, 16, 17, 18, 19, 20, 21, 22, 23, 24, 25, 26, 27, 28, 29, 30, 31, 32, 33, 34, 35, 36, 37, 38, 39, 40, 41, 42, 43, 44, 45, 46, 47, 48, 49, 50, 51, 52, 53, 54, 55, 56, 57, 58, 59, 60, 61, 62, 63, 64, 65, 66, 67, 68, 69, 70, 71, 72, 73, 74, 75, 76, 77, 78, 79, 80, 81, 82, 83, 84, 85, 86, 87, 88, 89, 90, 91, 92, 93, 94, 95, 96, 97, 98, 99, 100, 101, 102, 103, 104, 105, 106, 107, 108, 109, 110, 111, 112, 113, 114, 115, 116, 117, 118, 119, 120, 121, 122, 123, 124, 125, 126, 127, 128, 129, 130, 131, 132, 133, 134, 135, 136, 137, 138, 139, 140, 141, 142, 143, 144, 145, 146, 147, 148, 149, 150, 151, 152, 153, 154, 155, 156, 157, 158, 159, 160, 161, 162, 163, 164, 165, 166, 167, 168, 169, 170, 171, 172, 173, 174, 175, 176, 177, 178, 179, 180, 181, 182, 183, 184, 185, 186, 187, 188, 189, 190, 191, 192, 193, 194, 195, 196, 197, 198, 199, 200, 201, 202, 203, 204, 205, 206, 207, 208, 209, 210, 211, 212, 213, 214, 215, 216, 217, 218, 219, 220, 221, 222, 223, 224, 225, 226, 227, 228, 229, 230, 231, 232, 233, 234, 235, 236, 237, 238, 239, 240, 241, 242, 243] (by decide +kernel) (by decide +kernel)) (goodIn_sub (fun _ h => List.mem_cons_of_mem _ (List.mem_append_left _ (List.mem_append_left _ (List.mem_append_left _ (List.mem_append_left _ (List.mem_append_left _ (List.mem_append_right _ h))))))) (by decide +kernel))) (goodIn_sub (fun _ h => List.mem_cons_of_mem _ (List.mem_append_left _ (List.mem_append_left _ (List.mem_append_left _ (List.mem_append_left _ (List.mem_append_right _ h)))))) (by decide +kernel))) (goodIn_sub (fun _ h => List.mem_cons_of_mem _ (List.mem_append_left _ (List.mem_append_left _ (List.mem_append_left _ (List.mem_append_right _ h))))) (by decide +kernel))) (goodIn_sub (fun _ h => List.mem_cons_of_mem _ (List.mem_append_left _ (List.mem_append_left _ (List.mem_append_right _ h)))) (by decide +kernel))) (goodIn_sub (fun _ h => List.mem_cons_of_mem _ (List.mem_append_left _ (List.mem_append_right _ h))) (by decide +kernel))) (goodIn_sub (fun _ h => List.mem_cons_of_mem _ (List.mem_append_right _ h)) (by decide +kernel))
set_option maxRecDepth 20000 in
theorem gL_ask_L_asked : GoodIn wsL_ask (va_wsS RL 101 yL_asked wsL_asked) := goodIn_app (goodIn_of _ (by decide +kernel)) ggL_ask_L_asked
theorem dL_ask_0 : decode cL_ask 0 = .ok (.aload_n 0, 1) := by decide +kernel
theorem dL_ask_1 : decode cL_ask 1 = .ok (.iload_n 1, 1) := by decide +kernel
theorem dL_ask_2 : decode cL_ask 2 = .ok (.iload_n 2, 1) := by decide +kernel
theorem dL_ask_3 : decode cL_ask 3 = .ok (.iload_n 3, 1) := by decide +kernel
theorem dL_ask_4 : decode cL_ask 4 = .ok (.iload 4, 2) := by decide +kernel
theorem dL_ask_6 : decode cL_ask 6 = .ok (.iload 5, 2) := by decide +kernel
theorem dL_ask_8 : decode cL_ask 8 = .ok (.invokestatic 101, 3) := by decide +kernel
theorem dL_ask_11 : decode cL_ask 11 = .ok (.ireturn, 1) := by decide +kernel
theorem dL_ask_12 : decode cL_ask 12 = .ok (.astore 6, 2) := by decide +kernel
theorem dL_ask_14 : decode cL_ask 14 = .ok (.sipush (-2002), 3) := by decide +kernel
theorem dL_ask_17 : decode cL_ask 17 = .ok (.ireturn, 1) := by decide +kernel
theorem dL_ask_18 : decode cL_ask 18 = .ok (.astore 6, 2) := by decide +kernel
theorem dL_ask_20 : decode cL_ask 20 = .ok (.sipush (-2003), 3) := by decide +kernel
theorem dL_ask_23 : decode cL_ask 23 = .ok (.ireturn, 1) := by decide +kernel
theorem dL_ask_24 : decode cL_ask 24 = .ok (.astore 6, 2) := by decide +kernel
theorem dL_ask_26 : decode cL_ask 26 = .ok (.sipush (-2004), 3) := by decide +kernel
theorem dL_ask_29 : decode cL_ask 29 = .ok (.ireturn, 1) := by decide +kernel
set_option maxRecDepth 20000 in
theorem ggL_lay_L_pick : GoodIn wsL_lay wsL_pick := goodIn_ca (goodIn_ca (goodIn_r _ [4, 5, 6, 3, 7, 8, 9] (by decide +kernel) (by decide +kernel)) (goodIn_sub (fun _ h => List.mem_cons_of_mem _ (List.mem_append_left _ (List.mem_append_left _ (List.mem_append_left _ (List.mem_append_left _ (List.mem_append_left _ (List.mem_append_left _ (List.mem_append_right _ h)))))))) (by decide +kernel))) (goodIn_sub (fun _ h => List.mem_cons_of_mem _ (List.mem_append_left _ (List.mem_append_left _ (List.mem_append_left _ (List.mem_append_left _ (List.mem_append_left _ (List.mem_append_right _ h))))))) (by decide +kernel))
set_option maxRecDepth 20000 in
theorem gL_lay_L_pick : GoodIn wsL_lay (va_wsS RL 104 yL_pick wsL_pick) := goodIn_app (goodIn_of _ (by decide +kernel)) ggL_lay_L_pick
set_option maxRecDepth 20000 in
theorem ggL_lay_L_deed : GoodIn wsL_lay wsL_deed := goodIn_ca (goodIn_ca (goodIn_ca (goodIn_ca (goodIn_ca (goodIn_ca (goodIn_r _ [12, 13, 14, 15, 16, 17, 18, 19, 3, 20, 21, 22, 23, 24, 25, 26, 27, 28, 29, 30, 31, 32, 33, 34, 35, 36, 37, 38, 39, 40, 41, 42, 43, 44, 45, 46, 47, 48, 49, 50, 51, 52, 53, 54, 55, 56, 57, 58, 59, 60, 61, 62, 63, 64, 65, 66, 67, 68, 69, 70, 71, 72, 73, 74, 75, 76, 77, 78, 79, 80, 81, 82, 83, 84, 85, 86, 87, 88, 89, 90, 91, 92, 93, 94, 95, 96, 97, 98, 99, 100, 101, 102, 103, 104, 105, 106, 107, 108, 109, 110, 111, 112, 113, 114, 115, 116, 117, 118, 119, 120, 121, 122, 123, 124, 125, 126, 127, 128, 129, 130, 131, 132, 133, 134, 135, 136, 137, 138, 139, 140, 141, 142, 143, 144, 145, 146, 147, 148, 149, 150, 151, 152, 153, 154, 155, 156, 157, 158, 159, 160, 161, 162, 163, 164, 165, 166, 167, 168, 169, 170, 171, 172, 173, 174, 175, 176, 177, 178, 179, 180, 181, 182, 183, 184, 185, 186, 187, 188, 189, 190, 191, 192, 193, 194, 195, 196, 197, 198, 199, 200, 201, 202, 203, 204, 205, 206, 207, 208, 209, 210, 211, 212, 213, 214, 215, 216, 217, 218, 219, 220, 221, 222, 223, 224, 225, 226, 227, 228, 229, 230, 231, 232, 233, 234, 235, 236, 237, 238, 239, 240, 241, 242, 243, 244, 245, 246, 247, 248, 249, 250, 251, 252, 253, 254, 255, 256, 257, 258, 259, 260, 261, 262, 263, 264, 265, 266, 267, 268, 269, 270, 271, 272, 273, 274, 275, 276, 277, 278, 279, 280, 281, 282, 283, 284, 285, 286, 287, 288, 289, 290, 291, 292, 293, 294, 295, 296, 297, 298, 299, 300, 301, 302, 303, 304, 305, 306, 307, 308, 309, 310, 311, 312, 313, 314, 315, 316, 317, 318, 319, 320, 321, 322, 323, 324, 325, 326, 327, 328, 329, 330, 331, 332, 333, 334, 335, 336, 337, 338, 339, 340, 341, 342, 343, 344, 345, 346, 347, 348, 349, 350, 351, 352, 353, 354, 355, 356, 357, 358, 359, 360, 361, 362, 363, 364, 365, 366, 367, 368, 369, 370, 371, 372, 373, 374, 375, 376, 377, 378, 379, 380, 381, 382, 383, 384, 385, 386, 387, 388, 389, 390, 391, 392, 393, 394, 395, 396, 397, 398, 399, 400, 401, 402, 403, 404, 405, 406, 407, 408, 409, 410, 411, 412, 413, 414, 415, 416, 417, 418, 419, 420, 421, 422, 423, 424, 425, 426, 427, 428, 429, 430, 431, 432, 433, 434, 435, 436, 437, 438, 439, 440, 441, 442, 443, 444, 445, 446, 447, 448, 449, 450, 451, 452, 453, 454, 455, 456, 457, 458, 459, 460, 461, 462, 463, 464, 465, 466, 467, 468, 469, 470, 471, 472, 473, 474, 475, 476, 477, 478, 479, 480, 481, 482, 483, 484, 485, 486, 487, 488, 489, 490, 491, 492, 493, 494, 495, 496, 497, 498, 499, 500, 501, 502, 503, 504, 505, 506, 507, 508, 509, 510, 511, 512, 513, 514, 515, 516, 517, 518, 519, 520, 521, 522, 523, 524, 525, 526, 527, 528, 529, 530] (by decide +kernel) (by decide +kernel)) (goodIn_sub (fun _ h => List.mem_cons_of_mem _ (List.mem_append_left _ (List.mem_append_left _ (List.mem_append_left _ (List.mem_append_left _ (List.mem_append_left _ (List.mem_append_right _ h))))))) (by decide +kernel))) (goodIn_sub (fun _ h => List.mem_cons_of_mem _ (List.mem_append_left _ (List.mem_append_left _ (List.mem_append_left _ (List.mem_append_left _ (List.mem_append_right _ h)))))) (by decide +kernel))) (goodIn_sub (fun _ h => List.mem_cons_of_mem _ (List.mem_append_left _ (List.mem_append_left _ (List.mem_append_left _ (List.mem_append_right _ h))))) (by decide +kernel))) (goodIn_sub (fun _ h => List.mem_cons_of_mem _ (List.mem_append_left _ (List.mem_append_left _ (List.mem_append_right _ h)))) (by decide +kernel))) (goodIn_sub (fun _ h => List.mem_cons_of_mem _ (List.mem_append_left _ (List.mem_append_right _ h))) (by decide +kernel))) (goodIn_sub (fun _ h => List.mem_cons_of_mem _ (List.mem_append_right _ h)) (by decide +kernel))
set_option maxRecDepth 20000 in
theorem gL_lay_L_deed : GoodIn wsL_lay (va_wsS RL 108 yL_deed wsL_deed) := goodIn_app (goodIn_of _ (by decide +kernel)) ggL_lay_L_deed
theorem dL_lay_0 : decode cL_lay 0 = .ok (.aload_n 0, 1) := by decide +kernel
theorem dL_lay_1 : decode cL_lay 1 = .ok (.iconst 4, 1) := by decide +kernel
theorem dL_lay_2 : decode cL_lay 2 = .ok (.iconst 1, 1) := by decide +kernel
theorem dL_lay_3 : decode cL_lay 3 = .ok (.aload_n 1, 1) := by decide +kernel
theorem dL_lay_4 : decode cL_lay 4 = .ok (.iconst 0, 1) := by decide +kernel
theorem dL_lay_5 : decode cL_lay 5 = .ok (.iconst 4, 1) := by decide +kernel
theorem dL_lay_6 : decode cL_lay 6 = .ok (.invokestatic 104, 3) := by decide +kernel
theorem dL_lay_9 : decode cL_lay 9 = .ok (.iadd, 1) := by decide +kernel
theorem dL_lay_10 : decode cL_lay 10 = .ok (.iconst 0, 1) := by decide +kernel
theorem dL_lay_11 : decode cL_lay 11 = .ok (.iconst 0, 1) := by decide +kernel
theorem dL_lay_12 : decode cL_lay 12 = .ok (.iconst 0, 1) := by decide +kernel
theorem dL_lay_13 : decode cL_lay 13 = .ok (.invokestatic 108, 3) := by decide +kernel
theorem dL_lay_16 : decode cL_lay 16 = .ok (.istore_n 2, 1) := by decide +kernel
theorem dL_lay_17 : decode cL_lay 17 = .ok (.iconst 0, 1) := by decide +kernel
theorem dL_lay_18 : decode cL_lay 18 = .ok (.istore_n 3, 1) := by decide +kernel
theorem dL_lay_19 : decode cL_lay 19 = .ok (.iload_n 3, 1) := by decide +kernel
theorem dL_lay_20 : decode cL_lay 20 = .ok (.bipush 30, 2) := by decide +kernel
theorem dL_lay_22 : decode cL_lay 22 = .ok (.if_icmp .ge 45, 3) := by decide +kernel
theorem dL_lay_25 : decode cL_lay 25 = .ok (.iload_n 2, 1) := by decide +kernel
theorem dL_lay_26 : decode cL_lay 26 = .ok (.aload_n 1, 1) := by decide +kernel
theorem dL_lay_27 : decode cL_lay 27 = .ok (.bipush 11, 2) := by decide +kernel
theorem dL_lay_29 : decode cL_lay 29 = .ok (.iload_n 3, 1) := by decide +kernel
theorem dL_lay_30 : decode cL_lay 30 = .ok (.iadd, 1) := by decide +kernel
theorem dL_lay_31 : decode cL_lay 31 = .ok (.iconst 2, 1) := by decide +kernel
theorem dL_lay_32 : decode cL_lay 32 = .ok (.invokestatic 104, 3) := by decide +kernel
theorem dL_lay_35 : decode cL_lay 35 = .ok (.aload_n 0, 1) := by decide +kernel
theorem dL_lay_36 : decode cL_lay 36 = .ok (.iconst 0, 1) := by decide +kernel
theorem dL_lay_37 : decode cL_lay 37 = .ok (.iload_n 3, 1) := by decide +kernel
theorem dL_lay_38 : decode cL_lay 38 = .ok (.bipush 6, 2) := by decide +kernel
theorem dL_lay_40 : decode cL_lay 40 = .ok (.idiv, 1) := by decide +kernel
theorem dL_lay_41 : decode cL_lay 41 = .ok (.iload_n 3, 1) := by decide +kernel
theorem dL_lay_42 : decode cL_lay 42 = .ok (.bipush 6, 2) := by decide +kernel
theorem dL_lay_44 : decode cL_lay 44 = .ok (.irem, 1) := by decide +kernel
theorem dL_lay_45 : decode cL_lay 45 = .ok (.aload_n 1, 1) := by decide +kernel
theorem dL_lay_46 : decode cL_lay 46 = .ok (.bipush 51, 2) := by decide +kernel
theorem dL_lay_48 : decode cL_lay 48 = .ok (.iload_n 3, 1) := by decide +kernel
theorem dL_lay_49 : decode cL_lay 49 = .ok (.iadd, 1) := by decide +kernel
theorem dL_lay_50 : decode cL_lay 50 = .ok (.iconst 4, 1) := by decide +kernel
theorem dL_lay_51 : decode cL_lay 51 = .ok (.invokestatic 104, 3) := by decide +kernel
theorem dL_lay_54 : decode cL_lay 54 = .ok (.iconst 0, 1) := by decide +kernel
theorem dL_lay_55 : decode cL_lay 55 = .ok (.invokestatic 108, 3) := by decide +kernel
theorem dL_lay_58 : decode cL_lay 58 = .ok (.imul, 1) := by decide +kernel
theorem dL_lay_59 : decode cL_lay 59 = .ok (.iadd, 1) := by decide +kernel
theorem dL_lay_60 : decode cL_lay 60 = .ok (.istore_n 2, 1) := by decide +kernel
theorem dL_lay_61 : decode cL_lay 61 = .ok (.iinc 3 1, 3) := by decide +kernel
theorem dL_lay_64 : decode cL_lay 64 = .ok (.goto (-45), 3) := by decide +kernel
theorem dL_lay_67 : decode cL_lay 67 = .ok (.iconst 0, 1) := by decide +kernel
theorem dL_lay_68 : decode cL_lay 68 = .ok (.istore_n 3, 1) := by decide +kernel
theorem dL_lay_69 : decode cL_lay 69 = .ok (.iload_n 3, 1) := by decide +kernel
theorem dL_lay_70 : decode cL_lay 70 = .ok (.aload_n 1, 1) := by decide +kernel
theorem dL_lay_71 : decode cL_lay 71 = .ok (.iconst 1, 1) := by decide +kernel
theorem dL_lay_72 : decode cL_lay 72 = .ok (.bipush 40, 2) := by decide +kernel
theorem dL_lay_74 : decode cL_lay 74 = .ok (.invokestatic 104, 3) := by decide +kernel
theorem dL_lay_77 : decode cL_lay 77 = .ok (.if_icmp .ge 39, 3) := by decide +kernel
theorem dL_lay_80 : decode cL_lay 80 = .ok (.iload_n 2, 1) := by decide +kernel
theorem dL_lay_81 : decode cL_lay 81 = .ok (.aload_n 0, 1) := by decide +kernel
theorem dL_lay_82 : decode cL_lay 82 = .ok (.iconst 1, 1) := by decide +kernel
theorem dL_lay_83 : decode cL_lay 83 = .ok (.aload_n 1, 1) := by decide +kernel
theorem dL_lay_84 : decode cL_lay 84 = .ok (.bipush 91, 2) := by decide +kernel
theorem dL_lay_86 : decode cL_lay 86 = .ok (.iload_n 3, 1) := by decide +kernel
theorem dL_lay_87 : decode cL_lay 87 = .ok (.iadd, 1) := by decide +kernel
theorem dL_lay_88 : decode cL_lay 88 = .ok (.iconst 5, 1) := by decide +kernel
theorem dL_lay_89 : decode cL_lay 89 = .ok (.invokestatic 104, 3) := by decide +kernel
theorem dL_lay_92 : decode cL_lay 92 = .ok (.aload_n 1, 1) := by decide +kernel
theorem dL_lay_93 : decode cL_lay 93 = .ok (.sipush 141, 3) := by decide +kernel
theorem dL_lay_96 : decode cL_lay 96 = .ok (.iload_n 3, 1) := by decide +kernel
theorem dL_lay_97 : decode cL_lay 97 = .ok (.iadd, 1) := by decide +kernel
theorem dL_lay_98 : decode cL_lay 98 = .ok (.bipush 6, 2) := by decide +kernel
theorem dL_lay_100 : decode cL_lay 100 = .ok (.invokestatic 104, 3) := by decide +kernel
theorem dL_lay_103 : decode cL_lay 103 = .ok (.iconst 0, 1) := by decide +kernel
theorem dL_lay_104 : decode cL_lay 104 = .ok (.iconst 0, 1) := by decide +kernel
theorem dL_lay_105 : decode cL_lay 105 = .ok (.invokestatic 108, 3) := by decide +kernel
theorem dL_lay_108 : decode cL_lay 108 = .ok (.iadd, 1) := by decide +kernel
theorem dL_lay_109 : decode cL_lay 109 = .ok (.istore_n 2, 1) := by decide +kernel
theorem dL_lay_110 : decode cL_lay 110 = .ok (.iinc 3 1, 3) := by decide +kernel
theorem dL_lay_113 : decode cL_lay 113 = .ok (.goto (-44), 3) := by decide +kernel
theorem dL_lay_116 : decode cL_lay 116 = .ok (.iconst 0, 1) := by decide +kernel
theorem dL_lay_117 : decode cL_lay 117 = .ok (.istore_n 3, 1) := by decide +kernel
theorem dL_lay_118 : decode cL_lay 118 = .ok (.iload_n 3, 1) := by decide +kernel
theorem dL_lay_119 : decode cL_lay 119 = .ok (.aload_n 1, 1) := by decide +kernel
theorem dL_lay_120 : decode cL_lay 120 = .ok (.iconst 2, 1) := by decide +kernel
theorem dL_lay_121 : decode cL_lay 121 = .ok (.iconst 5, 1) := by decide +kernel
theorem dL_lay_122 : decode cL_lay 122 = .ok (.invokestatic 104, 3) := by decide +kernel
theorem dL_lay_125 : decode cL_lay 125 = .ok (.if_icmp .ge 106, 3) := by decide +kernel
theorem dL_lay_128 : decode cL_lay 128 = .ok (.iload_n 2, 1) := by decide +kernel
theorem dL_lay_129 : decode cL_lay 129 = .ok (.aload_n 0, 1) := by decide +kernel
theorem dL_lay_130 : decode cL_lay 130 = .ok (.iconst 5, 1) := by decide +kernel
theorem dL_lay_131 : decode cL_lay 131 = .ok (.aload_n 1, 1) := by decide +kernel
theorem dL_lay_132 : decode cL_lay 132 = .ok (.sipush 191, 3) := by decide +kernel
theorem dL_lay_135 : decode cL_lay 135 = .ok (.iload_n 3, 1) := by decide +kernel
theorem dL_lay_136 : decode cL_lay 136 = .ok (.iadd, 1) := by decide +kernel
theorem dL_lay_137 : decode cL_lay 137 = .ok (.iconst 5, 1) := by decide +kernel
theorem dL_lay_138 : decode cL_lay 138 = .ok (.invokestatic 104, 3) := by decide +kernel
theorem dL_lay_141 : decode cL_lay 141 = .ok (.aload_n 1, 1) := by decide +kernel
theorem dL_lay_142 : decode cL_lay 142 = .ok (.sipush 196, 3) := by decide +kernel
theorem dL_lay_145 : decode cL_lay 145 = .ok (.iload_n 3, 1) := by decide +kernel
theorem dL_lay_146 : decode cL_lay 146 = .ok (.iadd, 1) := by decide +kernel
theorem dL_lay_147 : decode cL_lay 147 = .ok (.bipush 6, 2) := by decide +kernel
theorem dL_lay_149 : decode cL_lay 149 = .ok (.invokestatic 104, 3) := by decide +kernel
theorem dL_lay_152 : decode cL_lay 152 = .ok (.iconst 2, 1) := by decide +kernel
theorem dL_lay_153 : decode cL_lay 153 = .ok (.aload_n 1, 1) := by decide +kernel
theorem dL_lay_154 : decode cL_lay 154 = .ok (.sipush 201, 3) := by decide +kernel
theorem dL_lay_157 : decode cL_lay 157 = .ok (.iload_n 3, 1) := by decide +kernel
theorem dL_lay_158 : decode cL_lay 158 = .ok (.iadd, 1) := by decide +kernel
theorem dL_lay_159 : decode cL_lay 159 = .ok (.bipush 8, 2) := by decide +kernel
theorem dL_lay_161 : decode cL_lay 161 = .ok (.invokestatic 104, 3) := by decide +kernel
theorem dL_lay_164 : decode cL_lay 164 = .ok (.iadd, 1) := by decide +kernel
theorem dL_lay_165 : decode cL_lay 165 = .ok (.iconst 1, 1) := by decide +kernel
theorem dL_lay_166 : decode cL_lay 166 = .ok (.aload_n 1, 1) := by decide +kernel
theorem dL_lay_167 : decode cL_lay 167 = .ok (.sipush 206, 3) := by decide +kernel
theorem dL_lay_170 : decode cL_lay 170 = .ok (.iload_n 3, 1) := by decide +kernel
theorem dL_lay_171 : decode cL_lay 171 = .ok (.iadd, 1) := by decide +kernel
theorem dL_lay_172 : decode cL_lay 172 = .ok (.bipush 6, 2) := by decide +kernel
theorem dL_lay_174 : decode cL_lay 174 = .ok (.invokestatic 104, 3) := by decide +kernel
theorem dL_lay_177 : decode cL_lay 177 = .ok (.iadd, 1) := by decide +kernel
theorem dL_lay_178 : decode cL_lay 178 = .ok (.invokestatic 108, 3) := by decide +kernel
theorem dL_lay_181 : decode cL_lay 181 = .ok (.iadd, 1) := by decide +kernel
theorem dL_lay_182 : decode cL_lay 182 = .ok (.istore_n 2, 1) := by decide +kernel
theorem dL_lay_183 : decode cL_lay 183 = .ok (.iload_n 2, 1) := by decide +kernel
theorem dL_lay_184 : decode cL_lay 184 = .ok (.aload_n 1, 1) := by decide +kernel
theorem dL_lay_185 : decode cL_lay 185 = .ok (.sipush 211, 3) := by decide +kernel
theorem dL_lay_188 : decode cL_lay 188 = .ok (.iload_n 3, 1) := by decide +kernel
theorem dL_lay_189 : decode cL_lay 189 = .ok (.iadd, 1) := by decide +kernel
theorem dL_lay_190 : decode cL_lay 190 = .ok (.iconst 2, 1) := by decide +kernel
theorem dL_lay_191 : decode cL_lay 191 = .ok (.invokestatic 104, 3) := by decide +kernel
theorem dL_lay_194 : decode cL_lay 194 = .ok (.aload_n 0, 1) := by decide +kernel
theorem dL_lay_195 : decode cL_lay 195 = .ok (.iconst 3, 1) := by decide +kernel
theorem dL_lay_196 : decode cL_lay 196 = .ok (.aload_n 1, 1) := by decide +kernel
theorem dL_lay_197 : decode cL_lay 197 = .ok (.sipush 216, 3) := by decide +kernel
theorem dL_lay_200 : decode cL_lay 200 = .ok (.iload_n 3, 1) := by decide +kernel
theorem dL_lay_201 : decode cL_lay 201 = .ok (.iadd, 1) := by decide +kernel
theorem dL_lay_202 : decode cL_lay 202 = .ok (.iconst 5, 1) := by decide +kernel
theorem dL_lay_203 : decode cL_lay 203 = .ok (.invokestatic 104, 3) := by decide +kernel
theorem dL_lay_206 : decode cL_lay 206 = .ok (.aload_n 1, 1) := by decide +kernel
theorem dL_lay_207 : decode cL_lay 207 = .ok (.sipush 221, 3) := by decide +kernel
theorem dL_lay_210 : decode cL_lay 210 = .ok (.iload_n 3, 1) := by decide +kernel
theorem dL_lay_211 : decode cL_lay 211 = .ok (.iadd, 1) := by decide +kernel
theorem dL_lay_212 : decode cL_lay 212 = .ok (.bipush 6, 2) := by decide +kernel
theorem dL_lay_214 : decode cL_lay 214 = .ok (.invokestatic 104, 3) := by decide +kernel
theorem dL_lay_217 : decode cL_lay 217 = .ok (.iconst 0, 1) := by decide +kernel
theorem dL_lay_218 : decode cL_lay 218 = .ok (.iconst 0, 1) := by decide +kernel
theorem dL_lay_219 : decode cL_lay 219 = .ok (.invokestatic 108, 3) := by decide +kernel
theorem dL_lay_222 : decode cL_lay 222 = .ok (.imul, 1) := by decide +kernel
theorem dL_lay_223 : decode cL_lay 223 = .ok (.iadd, 1) := by decide +kernel
theorem dL_lay_224 : decode cL_lay 224 = .ok (.istore_n 2, 1) := by decide +kernel
theorem dL_lay_225 : decode cL_lay 225 = .ok (.iinc 3 1, 3) := by decide +kernel
theorem dL_lay_228 : decode cL_lay 228 = .ok (.goto (-110), 3) := by decide +kernel
theorem dL_lay_231 : decode cL_lay 231 = .ok (.iconst 0, 1) := by decide +kernel
theorem dL_lay_232 : decode cL_lay 232 = .ok (.istore_n 3, 1) := by decide +kernel
theorem dL_lay_233 : decode cL_lay 233 = .ok (.iload_n 3, 1) := by decide +kernel
theorem dL_lay_234 : decode cL_lay 234 = .ok (.aload_n 1, 1) := by decide +kernel
theorem dL_lay_235 : decode cL_lay 235 = .ok (.iconst 3, 1) := by decide +kernel
theorem dL_lay_236 : decode cL_lay 236 = .ok (.bipush 20, 2) := by decide +kernel
theorem dL_lay_238 : decode cL_lay 238 = .ok (.invokestatic 104, 3) := by decide +kernel
theorem dL_lay_241 : decode cL_lay 241 = .ok (.if_icmp .ge 50, 3) := by decide +kernel
theorem dL_lay_244 : decode cL_lay 244 = .ok (.iload_n 2, 1) := by decide +kernel
theorem dL_lay_245 : decode cL_lay 245 = .ok (.aload_n 0, 1) := by decide +kernel
theorem dL_lay_246 : decode cL_lay 246 = .ok (.bipush 6, 2) := by decide +kernel
theorem dL_lay_248 : decode cL_lay 248 = .ok (.aload_n 1, 1) := by decide +kernel
theorem dL_lay_249 : decode cL_lay 249 = .ok (.sipush 231, 3) := by decide +kernel
theorem dL_lay_252 : decode cL_lay 252 = .ok (.iload_n 3, 1) := by decide +kernel
theorem dL_lay_253 : decode cL_lay 253 = .ok (.iadd, 1) := by decide +kernel
theorem dL_lay_254 : decode cL_lay 254 = .ok (.iconst 5, 1) := by decide +kernel
theorem dL_lay_255 : decode cL_lay 255 = .ok (.invokestatic 104, 3) := by decide +kernel
theorem dL_lay_258 : decode cL_lay 258 = .ok (.aload_n 1, 1) := by decide +kernel
theorem dL_lay_259 : decode cL_lay 259 = .ok (.sipush 251, 3) := by decide +kernel
theorem dL_lay_262 : decode cL_lay 262 = .ok (.iload_n 3, 1) := by decide +kernel
theorem dL_lay_263 : decode cL_lay 263 = .ok (.iadd, 1) := by decide +kernel
theorem dL_lay_264 : decode cL_lay 264 = .ok (.bipush 6, 2) := by decide +kernel
theorem dL_lay_266 : decode cL_lay 266 = .ok (.invokestatic 104, 3) := by decide +kernel
theorem dL_lay_269 : decode cL_lay 269 = .ok (.aload_n 1, 1) := by decide +kernel
theorem dL_lay_270 : decode cL_lay 270 = .ok (.sipush 271, 3) := by decide +kernel
theorem dL_lay_273 : decode cL_lay 273 = .ok (.iload_n 3, 1) := by decide +kernel
theorem dL_lay_274 : decode cL_lay 274 = .ok (.iadd, 1) := by decide +kernel
theorem dL_lay_275 : decode cL_lay 275 = .ok (.iconst 3, 1) := by decide +kernel
theorem dL_lay_276 : decode cL_lay 276 = .ok (.invokestatic 104, 3) := by decide +kernel
theorem dL_lay_279 : decode cL_lay 279 = .ok (.iconst 0, 1) := by decide +kernel
theorem dL_lay_280 : decode cL_lay 280 = .ok (.invokestatic 108, 3) := by decide +kernel
theorem dL_lay_283 : decode cL_lay 283 = .ok (.iadd, 1) := by decide +kernel
theorem dL_lay_284 : decode cL_lay 284 = .ok (.istore_n 2, 1) := by decide +kernel
theorem dL_lay_285 : decode cL_lay 285 = .ok (.iinc 3 1, 3) := by decide +kernel
theorem dL_lay_288 : decode cL_lay 288 = .ok (.goto (-55), 3) := by decide +kernel
theorem dL_lay_291 : decode cL_lay 291 = .ok (.return_, 1) := by decide +kernel
set_option maxRecDepth 20000 in
theorem ggL_any_L_pick : GoodIn wsL_any wsL_pick := goodIn_ca (goodIn_ca (goodIn_r _ [8, 9, 10, 7, 11, 12, 13] (by decide +kernel) (by decide +kernel)) (goodIn_sub (fun _ h => List.mem_cons_of_mem _ (List.mem_append_left _ (List.mem_append_left _ (List.mem_append_left _ (List.mem_append_left _ (List.mem_append_left _ (List.mem_append_left _ (List.mem_append_right _ h)))))))) (by decide +kernel))) (goodIn_sub (fun _ h => List.mem_cons_of_mem _ (List.mem_append_left _ (List.mem_append_left _ (List.mem_append_left _ (List.mem_append_left _ (List.mem_append_left _ (List.mem_append_right _ h))))))) (by decide +kernel))
set_option maxRecDepth 20000 in
theorem gL_any_L_pick : GoodIn wsL_any (va_wsS RL 104 yL_pick wsL_pick) := goodIn_app (goodIn_of _ (by decide +kernel)) ggL_any_L_pick
set_option maxRecDepth 20000 in
theorem ggL_any_L_deed : GoodIn wsL_any wsL_deed := goodIn_ca (goodIn_ca (goodIn_ca (goodIn_ca (goodIn_ca (goodIn_ca (goodIn_r _ [16, 17, 18, 19, 20, 21, 22, 23, 7, 24, 25, 26, 27, 28, 29, 30, 31, 32, 33, 34, 35, 36, 37, 38, 39, 40, 41, 42, 43, 44, 45, 46, 47, 48, 49, 50, 51, 52, 53, 54, 55, 56, 57, 58, 59, 60, 61, 62, 63, 64, 65, 66, 67, 68, 69, 70, 71, 72, 73, 74, 75, 76, 77, 78, 79, 80, 81, 82, 83, 84, 3, 85, 86, 87, 88, 89, 90, 91, 92, 93, 94, 95, 96, 97, 98, 99, 100, 101, 102, 103, 104, 105, 106, 107, 108, 109, 110, 111, 112, 113, 114, 115, 116, 117, 118, 119, 120, 121, 122, 123, 124, 125, 126, 127, 128, 129, 130, 131, 132, 133, 134, 135, 136, 137, 138, 139, 140, 141, 2, 4, 142, 143, 144, 145, 146, 147, 148, 149, 150, 151, 152, 153, 154, 155, 156, 157, 158, 159, 160, 161, 162, 163, 164, 165, 166, 167, 168, 169, 170, 171, 172, 173, 174, 175, 176, 177, 178, 179, 180, 181, 182, 183, 184, 185, 186, 187, 188, 189, 190, 191, 192, 193, 194, 195, 196, 197, 198, 199, 200, 201, 202, 203, 204, 205, 206, 207, 208, 209, 210, 211, 212, 213, 214, 215, 216, 217, 218, 219, 220, 221, 222, 223, 224, 225, 226, 227, 228, 229, 230, 231, 232, 233, 234, 235, 236, 237, 238, 239, 240, 241, 242, 243, 244, 245, 246, 247, 248, 249, 250, 251, 252, 253, 254, 255, 256, 257, 258, 259, 260, 261, 262, 263, 264, 265, 266, 267, 268, 269, 270, 271, 272, 273, 274, 275, 276, 277, 278, 279, 280, 281, 282, 283, 284, 285, 286, 287, 288, 289, 290, 291, 292, 293, 294, 295, 296, 297, 298, 299, 300, 301, 302, 303, 304, 305, 306, 307, 308, 309, 310, 311, 312, 313, 314, 315, 316, 317, 318, 319, 320, 321, 322, 323, 324, 325, 326, 327, 328, 329, 330, 331, 332, 333, 334, 335, 336, 337, 338, 339, 340, 341, 342, 343, 344, 345, 346, 347, 348, 349, 350, 351, 352, 353, 354, 355, 356, 357, 358, 359, 360, 361, 362, 363, 364, 365, 366, 367, 368, 369, 370, 371, 372, 373, 374, 375, 376, 377, 378, 379, 380, 381, 382, 383, 384, 385, 386, 387, 388, 389, 390, 391, 392, 393, 394, 395, 396, 397, 398, 399, 400, 401, 402, 403, 404, 405, 406, 407, 408, 409, 410, 411, 412, 413, 414, 415, 416, 417, 418, 419, 420, 421, 422, 423, 424, 425, 426, 427, 428, 429, 430, 431, 432, 433, 434, 435, 436, 437, 438, 439, 440, 441, 442, 443, 444, 445, 446, 447, 448, 449, 450, 451, 452, 453, 454, 455, 456, 457, 458, 459, 460, 461, 462, 463, 464, 465, 466, 467, 468, 469, 470, 471, 472, 473, 474, 475, 476, 477, 478, 479, 480, 481, 482, 483, 484, 485, 486, 487, 488, 489, 490, 491, 492, 493, 502, 503, 504, 505, 506, 507, 508, 509, 510, 511, 512, 513, 514, 515, 516, 517, 518, 519, 520, 521, 522, 523, 524, 525, 526, 527, 528, 529, 530, 531, 532, 533, 534, 535, 536, 537, 538, 539] (by decide +kernel) (by decide +kernel)) (goodIn_sub (fun _ h => List.mem_cons_of_mem _ (List.mem_append_left _ (List.mem_append_left _ (List.mem_append_left _ (List.mem_append_left _ (List.mem_append_left _ (List.mem_append_right _ h))))))) (by decide +kernel))) (goodIn_sub (fun _ h => List.mem_cons_of_mem _ (List.mem_append_left _ (List.mem_append_left _ (List.mem_append_left _ (List.mem_append_left _ (List.mem_append_right _ h)))))) (by decide +kernel))) (goodIn_sub (fun _ h => List.mem_cons_of_mem _ (List.mem_append_left _ (List.mem_append_left _ (List.mem_append_left _ (List.mem_append_right _ h))))) (by decide +kernel))) (goodIn_sub (fun _ h => List.mem_cons_of_mem _ (List.mem_append_left _ (List.mem_append_left _ (List.mem_append_right _ h)))) (by decide +kernel))) (goodIn_sub (fun _ h => List.mem_cons_of_mem _ (List.mem_append_left _ (List.mem_append_right _ h))) (by decide +kernel))) (goodIn_sub (fun _ h => List.mem_cons_of_mem _ (List.mem_append_right _ h)) (by decide +kernel))
set_option maxRecDepth 20000 in
theorem gL_any_L_deed : GoodIn wsL_any (va_wsS RL 108 yL_deed wsL_deed) := goodIn_app (goodIn_of _ (by decide +kernel)) ggL_any_L_deed
set_option maxRecDepth 20000 in
theorem ggL_any_X10_winchCount : GoodIn wsL_any wsX10_winchCount := goodIn_r _ [497, 30, 498, 499, 500, 35, 501, 113, 502, 503, 504, 505, 506, 507, 508, 509, 510, 514, 515, 516, 517, 518, 519, 520, 521, 522, 523, 524, 525, 526, 527, 528] (by decide +kernel) (by decide +kernel)
set_option maxRecDepth 20000 in
theorem gL_any_X10_winchCount : GoodIn wsL_any (wsV RL 111 RX10 yX10_winchCount wsX10_winchCount) := goodIn_app (goodIn_of _ (by decide +kernel)) ggL_any_X10_winchCount
theorem dL_any_0 : decode cL_any 0 = .ok (.aload_n 1, 1) := by decide +kernel
theorem dL_any_1 : decode cL_any 1 = .ok (.iload_n 2, 1) := by decide +kernel
theorem dL_any_2 : decode cL_any 2 = .ok (.iconst 1, 1) := by decide +kernel
theorem dL_any_3 : decode cL_any 3 = .ok (.iadd, 1) := by decide +kernel
theorem dL_any_4 : decode cL_any 4 = .ok (.iconst 5, 1) := by decide +kernel
theorem dL_any_5 : decode cL_any 5 = .ok (.invokestatic 104, 3) := by decide +kernel
theorem dL_any_8 : decode cL_any 8 = .ok (.istore_n 3, 1) := by decide +kernel
theorem dL_any_9 : decode cL_any 9 = .ok (.aload_n 1, 1) := by decide +kernel
theorem dL_any_10 : decode cL_any 10 = .ok (.iload_n 2, 1) := by decide +kernel
theorem dL_any_11 : decode cL_any 11 = .ok (.iconst 2, 1) := by decide +kernel
theorem dL_any_12 : decode cL_any 12 = .ok (.iadd, 1) := by decide +kernel
theorem dL_any_13 : decode cL_any 13 = .ok (.bipush 6, 2) := by decide +kernel
theorem dL_any_15 : decode cL_any 15 = .ok (.invokestatic 104, 3) := by decide +kernel
theorem dL_any_18 : decode cL_any 18 = .ok (.istore 4, 2) := by decide +kernel
theorem dL_any_20 : decode cL_any 20 = .ok (.aload_n 1, 1) := by decide +kernel
theorem dL_any_21 : decode cL_any 21 = .ok (.iload_n 2, 1) := by decide +kernel
theorem dL_any_22 : decode cL_any 22 = .ok (.bipush 24, 2) := by decide +kernel
theorem dL_any_24 : decode cL_any 24 = .ok (.invokestatic 104, 3) := by decide +kernel
theorem dL_any_27 : decode cL_any 27 = .ok (.tableswitch 224 0 16 #[81, 81, 99, 99, 99, 110, 110, 129, 160, 160, 160, 160, 186, 186, 213, 213, 213], 81) := by decide +kernel
theorem dL_any_108 : decode cL_any 108 = .ok (.aload_n 0, 1) := by decide +kernel
theorem dL_any_109 : decode cL_any 109 = .ok (.iconst 0, 1) := by decide +kernel
theorem dL_any_110 : decode cL_any 110 = .ok (.iload_n 3, 1) := by decide +kernel
theorem dL_any_111 : decode cL_any 111 = .ok (.iload 4, 2) := by decide +kernel
theorem dL_any_113 : decode cL_any 113 = .ok (.aload_n 1, 1) := by decide +kernel
theorem dL_any_114 : decode cL_any 114 = .ok (.iload_n 2, 1) := by decide +kernel
theorem dL_any_115 : decode cL_any 115 = .ok (.iconst 3, 1) := by decide +kernel
theorem dL_any_116 : decode cL_any 116 = .ok (.iadd, 1) := by decide +kernel
theorem dL_any_117 : decode cL_any 117 = .ok (.iconst 4, 1) := by decide +kernel
theorem dL_any_118 : decode cL_any 118 = .ok (.invokestatic 104, 3) := by decide +kernel
theorem dL_any_121 : decode cL_any 121 = .ok (.iconst 0, 1) := by decide +kernel
theorem dL_any_122 : decode cL_any 122 = .ok (.invokestatic 108, 3) := by decide +kernel
theorem dL_any_125 : decode cL_any 125 = .ok (.ireturn, 1) := by decide +kernel
theorem dL_any_126 : decode cL_any 126 = .ok (.aload_n 0, 1) := by decide +kernel
theorem dL_any_127 : decode cL_any 127 = .ok (.iconst 3, 1) := by decide +kernel
theorem dL_any_128 : decode cL_any 128 = .ok (.iload_n 3, 1) := by decide +kernel
theorem dL_any_129 : decode cL_any 129 = .ok (.iload 4, 2) := by decide +kernel
theorem dL_any_131 : decode cL_any 131 = .ok (.iconst 0, 1) := by decide +kernel
theorem dL_any_132 : decode cL_any 132 = .ok (.iconst 0, 1) := by decide +kernel
theorem dL_any_133 : decode cL_any 133 = .ok (.invokestatic 108, 3) := by decide +kernel
theorem dL_any_136 : decode cL_any 136 = .ok (.ireturn, 1) := by decide +kernel
theorem dL_any_137 : decode cL_any 137 = .ok (.aload_n 0, 1) := by decide +kernel
theorem dL_any_138 : decode cL_any 138 = .ok (.iconst 4, 1) := by decide +kernel
theorem dL_any_139 : decode cL_any 139 = .ok (.iconst 1, 1) := by decide +kernel
theorem dL_any_140 : decode cL_any 140 = .ok (.aload_n 1, 1) := by decide +kernel
theorem dL_any_141 : decode cL_any 141 = .ok (.iload_n 2, 1) := by decide +kernel
theorem dL_any_142 : decode cL_any 142 = .ok (.iconst 3, 1) := by decide +kernel
theorem dL_any_143 : decode cL_any 143 = .ok (.iadd, 1) := by decide +kernel
theorem dL_any_144 : decode cL_any 144 = .ok (.iconst 4, 1) := by decide +kernel
theorem dL_any_145 : decode cL_any 145 = .ok (.invokestatic 104, 3) := by decide +kernel
theorem dL_any_148 : decode cL_any 148 = .ok (.iadd, 1) := by decide +kernel
theorem dL_any_149 : decode cL_any 149 = .ok (.iconst 0, 1) := by decide +kernel
theorem dL_any_150 : decode cL_any 150 = .ok (.iconst 0, 1) := by decide +kernel
theorem dL_any_151 : decode cL_any 151 = .ok (.iconst 0, 1) := by decide +kernel
theorem dL_any_152 : decode cL_any 152 = .ok (.invokestatic 108, 3) := by decide +kernel
theorem dL_any_155 : decode cL_any 155 = .ok (.ireturn, 1) := by decide +kernel
theorem dL_any_156 : decode cL_any 156 = .ok (.aload_n 0, 1) := by decide +kernel
theorem dL_any_157 : decode cL_any 157 = .ok (.iconst 5, 1) := by decide +kernel
theorem dL_any_158 : decode cL_any 158 = .ok (.iload_n 3, 1) := by decide +kernel
theorem dL_any_159 : decode cL_any 159 = .ok (.iload 4, 2) := by decide +kernel
theorem dL_any_161 : decode cL_any 161 = .ok (.iconst 2, 1) := by decide +kernel
theorem dL_any_162 : decode cL_any 162 = .ok (.aload_n 1, 1) := by decide +kernel
theorem dL_any_163 : decode cL_any 163 = .ok (.iload_n 2, 1) := by decide +kernel
theorem dL_any_164 : decode cL_any 164 = .ok (.iconst 3, 1) := by decide +kernel
theorem dL_any_165 : decode cL_any 165 = .ok (.iadd, 1) := by decide +kernel
theorem dL_any_166 : decode cL_any 166 = .ok (.bipush 8, 2) := by decide +kernel
theorem dL_any_168 : decode cL_any 168 = .ok (.invokestatic 104, 3) := by decide +kernel
theorem dL_any_171 : decode cL_any 171 = .ok (.iadd, 1) := by decide +kernel
theorem dL_any_172 : decode cL_any 172 = .ok (.iconst 1, 1) := by decide +kernel
theorem dL_any_173 : decode cL_any 173 = .ok (.aload_n 1, 1) := by decide +kernel
theorem dL_any_174 : decode cL_any 174 = .ok (.iload_n 2, 1) := by decide +kernel
theorem dL_any_175 : decode cL_any 175 = .ok (.iconst 4, 1) := by decide +kernel
theorem dL_any_176 : decode cL_any 176 = .ok (.iadd, 1) := by decide +kernel
theorem dL_any_177 : decode cL_any 177 = .ok (.bipush 6, 2) := by decide +kernel
theorem dL_any_179 : decode cL_any 179 = .ok (.invokestatic 104, 3) := by decide +kernel
theorem dL_any_182 : decode cL_any 182 = .ok (.iadd, 1) := by decide +kernel
theorem dL_any_183 : decode cL_any 183 = .ok (.invokestatic 108, 3) := by decide +kernel
theorem dL_any_186 : decode cL_any 186 = .ok (.ireturn, 1) := by decide +kernel
theorem dL_any_187 : decode cL_any 187 = .ok (.aload_n 0, 1) := by decide +kernel
theorem dL_any_188 : decode cL_any 188 = .ok (.bipush 6, 2) := by decide +kernel
theorem dL_any_190 : decode cL_any 190 = .ok (.iload_n 3, 1) := by decide +kernel
theorem dL_any_191 : decode cL_any 191 = .ok (.iload 4, 2) := by decide +kernel
theorem dL_any_193 : decode cL_any 193 = .ok (.aload_n 1, 1) := by decide +kernel
theorem dL_any_194 : decode cL_any 194 = .ok (.iload_n 2, 1) := by decide +kernel
theorem dL_any_195 : decode cL_any 195 = .ok (.iconst 3, 1) := by decide +kernel
theorem dL_any_196 : decode cL_any 196 = .ok (.iadd, 1) := by decide +kernel
theorem dL_any_197 : decode cL_any 197 = .ok (.iconst 1, 1) := by decide +kernel
theorem dL_any_198 : decode cL_any 198 = .ok (.aload_n 0, 1) := by decide +kernel
theorem dL_any_199 : decode cL_any 199 = .ok (.invokevirtual 111, 3) := by decide +kernel
theorem dL_any_202 : decode cL_any 202 = .ok (.invokestatic 114, 3) := by decide +kernel
theorem dL_any_205 : decode cL_any 205 = .ok (.invokestatic 104, 3) := by decide +kernel
theorem dL_any_208 : decode cL_any 208 = .ok (.iconst 0, 1) := by decide +kernel
theorem dL_any_209 : decode cL_any 209 = .ok (.invokestatic 108, 3) := by decide +kernel
theorem dL_any_212 : decode cL_any 212 = .ok (.ireturn, 1) := by decide +kernel
theorem dL_any_213 : decode cL_any 213 = .ok (.aload_n 0, 1) := by decide +kernel
theorem dL_any_214 : decode cL_any 214 = .ok (.bipush 7, 2) := by decide +kernel
theorem dL_any_216 : decode cL_any 216 = .ok (.aload_n 1, 1) := by decide +kernel
theorem dL_any_217 : decode cL_any 217 = .ok (.iload_n 2, 1) := by decide +kernel
theorem dL_any_218 : decode cL_any 218 = .ok (.iconst 3, 1) := by decide +kernel
theorem dL_any_219 : decode cL_any 219 = .ok (.iadd, 1) := by decide +kernel
theorem dL_any_220 : decode cL_any 220 = .ok (.iconst 4, 1) := by decide +kernel
theorem dL_any_221 : decode cL_any 221 = .ok (.invokestatic 104, 3) := by decide +kernel
theorem dL_any_224 : decode cL_any 224 = .ok (.iconst 1, 1) := by decide +kernel
theorem dL_any_225 : decode cL_any 225 = .ok (.aload_n 1, 1) := by decide +kernel
theorem dL_any_226 : decode cL_any 226 = .ok (.iload_n 2, 1) := by decide +kernel
theorem dL_any_227 : decode cL_any 227 = .ok (.iconst 4, 1) := by decide +kernel
theorem dL_any_228 : decode cL_any 228 = .ok (.iadd, 1) := by decide +kernel
theorem dL_any_229 : decode cL_any 229 = .ok (.iconst 3, 1) := by decide +kernel
theorem dL_any_230 : decode cL_any 230 = .ok (.invokestatic 104, 3) := by decide +kernel
theorem dL_any_233 : decode cL_any 233 = .ok (.iadd, 1) := by decide +kernel
theorem dL_any_234 : decode cL_any 234 = .ok (.iconst 0, 1) := by decide +kernel
theorem dL_any_235 : decode cL_any 235 = .ok (.iconst 0, 1) := by decide +kernel
theorem dL_any_236 : decode cL_any 236 = .ok (.invokestatic 108, 3) := by decide +kernel
theorem dL_any_239 : decode cL_any 239 = .ok (.ireturn, 1) := by decide +kernel
theorem dL_any_240 : decode cL_any 240 = .ok (.aload_n 0, 1) := by decide +kernel
theorem dL_any_241 : decode cL_any 241 = .ok (.iconst 2, 1) := by decide +kernel
theorem dL_any_242 : decode cL_any 242 = .ok (.iload_n 3, 1) := by decide +kernel
theorem dL_any_243 : decode cL_any 243 = .ok (.iload 4, 2) := by decide +kernel
theorem dL_any_245 : decode cL_any 245 = .ok (.iconst 0, 1) := by decide +kernel
theorem dL_any_246 : decode cL_any 246 = .ok (.iconst 0, 1) := by decide +kernel
theorem dL_any_247 : decode cL_any 247 = .ok (.invokestatic 108, 3) := by decide +kernel
theorem dL_any_250 : decode cL_any 250 = .ok (.ireturn, 1) := by decide +kernel
theorem dL_any_251 : decode cL_any 251 = .ok (.aload_n 0, 1) := by decide +kernel
theorem dL_any_252 : decode cL_any 252 = .ok (.iconst 1, 1) := by decide +kernel
theorem dL_any_253 : decode cL_any 253 = .ok (.iload_n 3, 1) := by decide +kernel
theorem dL_any_254 : decode cL_any 254 = .ok (.iload 4, 2) := by decide +kernel
theorem dL_any_256 : decode cL_any 256 = .ok (.iconst 0, 1) := by decide +kernel
theorem dL_any_257 : decode cL_any 257 = .ok (.iconst 0, 1) := by decide +kernel
theorem dL_any_258 : decode cL_any 258 = .ok (.invokestatic 108, 3) := by decide +kernel
theorem dL_any_261 : decode cL_any 261 = .ok (.ireturn, 1) := by decide +kernel
set_option maxRecDepth 20000 in
theorem ggL_looks_X10_stepLimit : GoodIn wsL_looks wsX10_stepLimit := goodIn_r _ [5, 6, 7, 8, 9, 10, 11, 12, 325, 326, 327, 328, 329, 330, 331, 332, 333, 334, 335, 336, 337, 338, 339, 340, 341, 342, 343, 344, 345, 346, 347, 348] (by decide +kernel) (by decide +kernel)
set_option maxRecDepth 20000 in
theorem gL_looks_X10_stepLimit : GoodIn wsL_looks (wsV RL 119 RX10 yX10_stepLimit wsX10_stepLimit) := goodIn_app (goodIn_of _ (by decide +kernel)) ggL_looks_X10_stepLimit
set_option maxRecDepth 20000 in
theorem ggL_looks_X10_rubble : GoodIn wsL_looks wsX10_rubble := goodIn_r _ [16, 6, 17, 18, 19, 10, 20, 21, 325, 326, 327, 328, 329, 330, 331, 332, 333, 334, 335, 336, 337, 338, 339, 340, 341, 342, 343, 344, 345, 346, 347, 348] (by decide +kernel) (by decide +kernel)
set_option maxRecDepth 20000 in
theorem gL_looks_X10_rubble : GoodIn wsL_looks (wsV RL 122 RX10 yX10_rubble wsX10_rubble) := goodIn_app (goodIn_of _ (by decide +kernel)) ggL_looks_X10_rubble
set_option maxRecDepth 20000 in
theorem ggL_looks_X10_cutTotal : GoodIn wsL_looks wsX10_cutTotal := goodIn_r _ [25, 6, 26, 27, 28, 10, 29, 30, 325, 326, 327, 328, 329, 330, 331, 332, 333, 334, 335, 336, 337, 338, 339, 340, 341, 342, 343, 344, 345, 346, 347, 348] (by decide +kernel) (by decide +kernel)
set_option maxRecDepth 20000 in
theorem gL_looks_X10_cutTotal : GoodIn wsL_looks (wsV RL 125 RX10 yX10_cutTotal wsX10_cutTotal) := goodIn_app (goodIn_of _ (by decide +kernel)) ggL_looks_X10_cutTotal
set_option maxRecDepth 20000 in
theorem ggL_looks_X10_workTotal : GoodIn wsL_looks wsX10_workTotal := goodIn_r _ [34, 6, 35, 36, 37, 10, 38, 39, 325, 326, 327, 328, 329, 330, 331, 332, 333, 334, 335, 336, 337, 338, 339, 340, 341, 342, 343, 344, 345, 346, 347, 348] (by decide +kernel) (by decide +kernel)
set_option maxRecDepth 20000 in
theorem gL_looks_X10_workTotal : GoodIn wsL_looks (wsV RL 128 RX10 yX10_workTotal wsX10_workTotal) := goodIn_app (goodIn_of _ (by decide +kernel)) ggL_looks_X10_workTotal
set_option maxRecDepth 20000 in
theorem ggL_looks_X10_winchCount : GoodIn wsL_looks wsX10_winchCount := goodIn_r _ [43, 6, 44, 45, 46, 10, 47, 48, 325, 326, 327, 328, 329, 330, 331, 332, 333, 334, 335, 336, 337, 338, 339, 340, 341, 342, 343, 344, 345, 346, 347, 348] (by decide +kernel) (by decide +kernel)
set_option maxRecDepth 20000 in
theorem gL_looks_X10_winchCount : GoodIn wsL_looks (wsV RL 111 RX10 yX10_winchCount wsX10_winchCount) := goodIn_app (goodIn_of _ (by decide +kernel)) ggL_looks_X10_winchCount
set_option maxRecDepth 20000 in
theorem ggL_looks_X10_height : GoodIn wsL_looks wsX10_height := goodIn_ca (goodIn_ca (goodIn_ca (goodIn_ca (goodIn_ca (goodIn_ca (goodIn_r _ [52, 6, 53, 54, 55, 56, 57, 58, 59, 60, 61, 62, 63, 4, 64, 65, 66, 67, 68, 69, 70, 71, 72, 73, 74, 75, 76, 77, 78, 79, 80, 81, 82, 83, 84, 85, 86, 87, 88, 10, 89, 90, 325, 326, 327, 328, 329, 330, 331, 332, 333, 334, 335, 336, 337, 338, 339, 340, 341, 342, 343, 344, 345, 346, 347, 348] (by decide +kernel) (by decide +kernel)) (goodIn_sub (fun _ h => List.mem_cons_of_mem _ (List.mem_append_left _ (List.mem_append_left _ (List.mem_append_left _ (List.mem_append_left _ (List.mem_append_left _ (List.mem_append_right _ h))))))) (by decide +kernel))) (goodIn_sub (fun _ h => List.mem_cons_of_mem _ (List.mem_append_left _ (List.mem_append_left _ (List.mem_append_left _ (List.mem_append_left _ (List.mem_append_right _ h)))))) (by decide +kernel))) (goodIn_sub (fun _ h => List.mem_cons_of_mem _ (List.mem_append_left _ (List.mem_append_left _ (List.mem_append_left _ (List.mem_append_right _ h))))) (by decide +kernel))) (goodIn_sub (fun _ h => List.mem_cons_of_mem _ (List.mem_append_left _ (List.mem_append_left _ (List.mem_append_right _ h)))) (by decide +kernel))) (goodIn_sub (fun _ h => List.mem_cons_of_mem _ (List.mem_append_left _ (List.mem_append_right _ h))) (by decide +kernel))) (goodIn_sub (fun _ h => List.mem_cons_of_mem _ (List.mem_append_right _ h)) (by decide +kernel))
set_option maxRecDepth 20000 in
theorem gL_looks_X10_height : GoodIn wsL_looks (wsV RL 68 RX10 yX10_height wsX10_height) := goodIn_app (goodIn_of _ (by decide +kernel)) ggL_looks_X10_height
set_option maxRecDepth 20000 in
theorem ggL_looks_X10_stone : GoodIn wsL_looks wsX10_stone := goodIn_ca (goodIn_ca (goodIn_ca (goodIn_ca (goodIn_ca (goodIn_ca (goodIn_r _ [94, 6, 53, 54, 55, 56, 57, 58, 59, 60, 61, 62, 63, 4, 64, 65, 66, 67, 68, 69, 70, 71, 72, 73, 74, 75, 76, 77, 78, 79, 80, 81, 82, 83, 84, 85, 95, 96, 97, 10, 98, 99, 325, 326, 327, 328, 329, 330, 331, 332, 333, 334, 335, 336, 337, 338, 339, 340, 341, 342, 343, 344, 345, 346, 347, 348] (by decide +kernel) (by decide +kernel)) (goodIn_sub (fun _ h => List.mem_cons_of_mem _ (List.mem_append_left _ (List.mem_append_left _ (List.mem_append_left _ (List.mem_append_left _ (List.mem_append_left _ (List.mem_append_right _ h))))))) (by decide +kernel))) (goodIn_sub (fun _ h => List.mem_cons_of_mem _ (List.mem_append_left _ (List.mem_append_left _ (List.mem_append_left _ (List.mem_append_left _ (List.mem_append_right _ h)))))) (by decide +kernel))) (goodIn_sub (fun _ h => List.mem_cons_of_mem _ (List.mem_append_left _ (List.mem_append_left _ (List.mem_append_left _ (List.mem_append_right _ h))))) (by decide +kernel))) (goodIn_sub (fun _ h => List.mem_cons_of_mem _ (List.mem_append_left _ (List.mem_append_left _ (List.mem_append_right _ h)))) (by decide +kernel))) (goodIn_sub (fun _ h => List.mem_cons_of_mem _ (List.mem_append_left _ (List.mem_append_right _ h))) (by decide +kernel))) (goodIn_sub (fun _ h => List.mem_cons_of_mem _ (List.mem_append_right _ h)) (by decide +kernel))
set_option maxRecDepth 20000 in
theorem gL_looks_X10_stone : GoodIn wsL_looks (wsV RL 132 RX10 yX10_stone wsX10_stone) := goodIn_app (goodIn_of _ (by decide +kernel)) ggL_looks_X10_stone
set_option maxRecDepth 20000 in
theorem ggL_looks_X10_isLedge : GoodIn wsL_looks wsX10_isLedge := goodIn_ca (goodIn_ca (goodIn_ca (goodIn_ca (goodIn_ca (goodIn_ca (goodIn_r _ [103, 6, 53, 54, 55, 56, 57, 58, 59, 60, 61, 62, 63, 4, 64, 65, 66, 67, 68, 69, 70, 71, 72, 73, 74, 75, 76, 77, 78, 79, 80, 81, 82, 83, 84, 85, 104, 105, 106, 10, 107, 108, 325, 326, 327, 328, 329, 330, 331, 332, 333, 334, 335, 336, 337, 338, 339, 340, 341, 342, 343, 344, 345, 346, 347, 348] (by decide +kernel) (by decide +kernel)) (goodIn_sub (fun _ h => List.mem_cons_of_mem _ (List.mem_append_left _ (List.mem_append_left _ (List.mem_append_left _ (List.mem_append_left _ (List.mem_append_left _ (List.mem_append_right _ h))))))) (by decide +kernel))) (goodIn_sub (fun _ h => List.mem_cons_of_mem _ (List.mem_append_left _ (List.mem_append_left _ (List.mem_append_left _ (List.mem_append_left _ (List.mem_append_right _ h)))))) (by decide +kernel))) (goodIn_sub (fun _ h => List.mem_cons_of_mem _ (List.mem_append_left _ (List.mem_append_left _ (List.mem_append_left _ (List.mem_append_right _ h))))) (by decide +kernel))) (goodIn_sub (fun _ h => List.mem_cons_of_mem _ (List.mem_append_left _ (List.mem_append_left _ (List.mem_append_right _ h)))) (by decide +kernel))) (goodIn_sub (fun _ h => List.mem_cons_of_mem _ (List.mem_append_left _ (List.mem_append_right _ h))) (by decide +kernel))) (goodIn_sub (fun _ h => List.mem_cons_of_mem _ (List.mem_append_right _ h)) (by decide +kernel))
set_option maxRecDepth 20000 in
theorem gL_looks_X10_isLedge : GoodIn wsL_looks (wsV RL 135 RX10 yX10_isLedge wsX10_isLedge) := goodIn_app (goodIn_of _ (by decide +kernel)) ggL_looks_X10_isLedge
set_option maxRecDepth 20000 in
theorem ggL_looks_L_told : GoodIn wsL_looks wsL_told := goodIn_r _ [112] (by decide +kernel) (by decide +kernel)
set_option maxRecDepth 20000 in
theorem gL_looks_L_told : GoodIn wsL_looks (va_wsS RL 32 yL_told wsL_told) := goodIn_app (goodIn_of _ (by decide +kernel)) ggL_looks_L_told
set_option maxRecDepth 20000 in
theorem ggL_looks_X10_looseBlocks : GoodIn wsL_looks wsX10_looseBlocks := goodIn_ca (goodIn_ca (goodIn_ca (goodIn_ca (goodIn_ca (goodIn_ca (goodIn_r _ [116, 6, 53, 54, 55, 56, 57, 58, 59, 60, 61, 62, 63, 4, 64, 65, 66, 67, 68, 69, 70, 71, 72, 73, 74, 75, 76, 77, 78, 79, 80, 81, 82, 83, 84, 85, 117, 118, 119, 10, 120, 121, 325, 326, 327, 328, 329, 330, 331, 332, 333, 334, 335, 336, 337, 338, 339, 340, 341, 342, 343, 344, 345, 346, 347, 348] (by decide +kernel) (by decide +kernel)) (goodIn_sub (fun _ h => List.mem_cons_of_mem _ (List.mem_append_left _ (List.mem_append_left _ (List.mem_append_left _ (List.mem_append_left _ (List.mem_append_left _ (List.mem_append_right _ h))))))) (by decide +kernel))) (goodIn_sub (fun _ h => List.mem_cons_of_mem _ (List.mem_append_left _ (List.mem_append_left _ (List.mem_append_left _ (List.mem_append_left _ (List.mem_append_right _ h)))))) (by decide +kernel))) (goodIn_sub (fun _ h => List.mem_cons_of_mem _ (List.mem_append_left _ (List.mem_append_left _ (List.mem_append_left _ (List.mem_append_right _ h))))) (by decide +kernel))) (goodIn_sub (fun _ h => List.mem_cons_of_mem _ (List.mem_append_left _ (List.mem_append_left _ (List.mem_append_right _ h)))) (by decide +kernel))) (goodIn_sub (fun _ h => List.mem_cons_of_mem _ (List.mem_append_left _ (List.mem_append_right _ h))) (by decide +kernel))) (goodIn_sub (fun _ h => List.mem_cons_of_mem _ (List.mem_append_right _ h)) (by decide +kernel))
set_option maxRecDepth 20000 in
theorem gL_looks_X10_looseBlocks : GoodIn wsL_looks (wsV RL 138 RX10 yX10_looseBlocks wsX10_looseBlocks) := goodIn_app (goodIn_of _ (by decide +kernel)) ggL_looks_X10_looseBlocks
set_option maxRecDepth 20000 in
theorem ggL_looks_L_ask : GoodIn wsL_looks wsL_ask := goodIn_ca (goodIn_ca (goodIn_ca (goodIn_ca (goodIn_ca (goodIn_ca (goodIn_r _ [124, 125, 126, 127, 128, 129, 111, 130, 49, 50, 51, 4, 52, 6, 53, 54, 55, 56, 57, 58, 59, 60, 61, 62, 63, 64, 65, 66, 67, 68, 69, 70, 71, 72, 73, 74, 75, 76, 77, 78, 79, 80, 81, 82, 83, 84, 85, 86, 87, 88, 10, 89, 90, 131, 132, 133, 134, 135, 136, 137, 138, 139, 140, 121, 141, 142, 143, 144, 145, 146, 147, 148, 149, 150, 151, 152, 153, 154, 155, 156, 157, 158, 159, 160, 161, 162, 163, 164, 165, 166, 167, 168, 169, 170, 171, 172, 12, 173, 174, 175, 176, 177, 178, 179, 180, 181, 182, 183, 184, 185, 186, 187, 188, 189, 190, 191, 192, 193, 194, 195, 196, 197, 198, 199, 200, 201, 202, 203, 204, 205, 8, 9, 11, 206, 207, 208, 209, 210, 211, 212, 213, 214, 215, 216, 217, 218, 219, 105, 106, 107, 108, 220, 221, 222, 223, 224, 225, 226, 227, 228, 229, 230, 231, 48, 232, 233, 234, 235, 236, 237, 238, 239, 240, 241, 242, 243, 244, 245, 246, 247, 248, 249, 250, 251, 252, 253, 254, 255, 256, 257, 258, 259, 260, 261, 262, 263, 264, 265, 266, 267, 268, 269, 270, 271, 272, 273, 274, 275, 276, 277, 278, 279, 280, 281, 282, 325, 326, 327, 328, 329, 330, 331, 332, 333, 334, 335, 336, 337, 338, 339, 340, 341, 342, 343, 344, 345, 346, 347, 348, 349, 350, 351, 352, 353] (by decide +kernel) (by decide +kernel)) (goodIn_sub (fun _ h => List.mem_cons_of_mem _ (List.mem_append_left _ (List.mem_append_left _ (List.mem_append_left _ (List.mem_append_left _ (List.mem_append_left _ (List.mem_append_right _ h))))))) (by decide +kernel))) (goodIn_sub (fun _ h => List.mem_cons_of_mem _ (List.mem_append_left _ (List.mem_append_left _ (List.mem_append_left _ (List.mem_append_left _ (List.mem_append_right _ h)))))) (by decide +kernel))) (goodIn_sub (fun _ h => List.mem_cons_of_mem _ (List.mem_append_left _ (List.mem_append_left _ (List.mem_append_left _ (List.mem_append_right _ h))))) (by decide +kernel))) (goodIn_sub (fun _ h => List.mem_cons_of_mem _ (List.mem_append_left _ (List.mem_append_left _ (List.mem_append_right _ h)))) (by decide +kernel))) (goodIn_sub (fun _ h => List.mem_cons_of_mem _ (List.mem_append_left _ (List.mem_append_right _ h))) (by decide +kernel))) (goodIn_sub (fun _ h => List.mem_cons_of_mem _ (List.mem_append_right _ h)) (by decide +kernel))
set_option maxRecDepth 20000 in
theorem gL_looks_L_ask : GoodIn wsL_looks (va_wsS RL 141 yL_ask wsL_ask) := goodIn_app (goodIn_of _ (by decide +kernel)) ggL_looks_L_ask
set_option maxRecDepth 20000 in
theorem ggL_looks_X10_inYard : GoodIn wsL_looks wsX10_inYard := goodIn_ca (goodIn_ca (goodIn_r _ [264, 67, 68, 6, 265, 266, 10, 267, 268, 269, 270, 271, 272, 325, 326, 327, 328, 329, 330, 331, 332, 333, 334, 335, 336, 337, 338, 339, 340, 341, 342, 343, 344, 345, 346, 347, 348] (by decide +kernel) (by decide +kernel)) (goodIn_sub (fun _ h => List.mem_cons_of_mem _ (List.mem_append_left _ (List.mem_append_left _ (List.mem_append_left _ (List.mem_append_right _ h))))) (by decide +kernel))) (goodIn_sub (fun _ h => List.mem_cons_of_mem _ (List.mem_append_left _ (List.mem_append_left _ (List.mem_append_left _ (List.mem_append_left _ (List.mem_append_left _ (List.mem_append_right _ h))))))) (by decide +kernel))
set_option maxRecDepth 20000 in
theorem gL_looks_X10_inYard : GoodIn wsL_looks (wsV RL 92 RX10 yX10_inYard wsX10_inYard) := goodIn_app (goodIn_of _ (by decide +kernel)) ggL_looks_X10_inYard
set_option maxRecDepth 20000 in
theorem ggL_looks_X10_writeRow : GoodIn wsL_looks wsX10_writeRow := goodIn_ca (goodIn_ca (goodIn_r _ [286, 65, 66, 287, 6, 288, 60, 55, 61, 289, 290, 291, 292, 293, 294, 295, 296, 297, 298, 299, 300, 84, 85, 301, 302, 303, 304, 305, 87, 88, 10, 89, 90, 306, 96, 97, 98, 99, 307, 105, 106, 107, 108, 308, 309, 310, 311, 48, 243, 312, 118, 119, 120, 121, 325, 326, 327, 328, 329, 330, 331, 332, 333, 354, 355, 334, 335, 336, 337, 338, 339, 340, 341, 342, 343, 344, 345, 346, 347, 348] (by decide +kernel) (by decide +kernel)) (goodIn_sub (fun _ h => List.mem_cons_of_mem _ (List.mem_append_left _ (List.mem_append_left _ (List.mem_append_left _ (List.mem_append_left _ (List.mem_append_right _ h)))))) (by decide +kernel))) (goodIn_sub (fun _ h => List.mem_cons_of_mem _ (List.mem_append_left _ (List.mem_append_left _ (List.mem_append_left _ (List.mem_append_left _ (List.mem_append_left _ (List.mem_append_right _ h))))))) (by decide +kernel))
set_option maxRecDepth 20000 in
theorem gL_looks_X10_writeRow : GoodIn wsL_looks (wsV RL 144 RX10 yX10_writeRow wsX10_writeRow) := goodIn_app (goodIn_of _ (by decide +kernel)) ggL_looks_X10_writeRow
set_option maxRecDepth 20000 in
theorem ggL_looks_X10_outputAt : GoodIn wsL_looks wsX10_outputAt := goodIn_ca (goodIn_ca (goodIn_r _ [316, 65, 66, 287, 317, 318, 319, 292, 320, 294, 321, 322, 323, 324, 299, 325, 326, 327, 328, 329, 330, 331, 332, 333, 354, 355] (by decide +kernel) (by decide +kernel)) (goodIn_sub (fun _ h => List.mem_cons_of_mem _ (List.mem_append_left _ (List.mem_append_left _ (List.mem_append_left _ (List.mem_append_left _ (List.mem_append_right _ h)))))) (by decide +kernel))) (goodIn_sub (fun _ h => List.mem_cons_of_mem _ (List.mem_append_left _ (List.mem_append_left _ (List.mem_append_left _ (List.mem_append_left _ (List.mem_append_left _ (List.mem_append_right _ h))))))) (by decide +kernel))
set_option maxRecDepth 20000 in
theorem gL_looks_X10_outputAt : GoodIn wsL_looks (wsV RL 147 RX10 yX10_outputAt wsX10_outputAt) := goodIn_app (goodIn_of _ (by decide +kernel)) ggL_looks_X10_outputAt
theorem dL_looks_0 : decode cL_looks 0 = .ok (.bipush 31, 2) := by decide +kernel
theorem dL_looks_2 : decode cL_looks 2 = .ok (.bipush 31, 2) := by decide +kernel
theorem dL_looks_4 : decode cL_looks 4 = .ok (.bipush 31, 2) := by decide +kernel
theorem dL_looks_6 : decode cL_looks 6 = .ok (.bipush 31, 2) := by decide +kernel
theorem dL_looks_8 : decode cL_looks 8 = .ok (.aload_n 0, 1) := by decide +kernel
theorem dL_looks_9 : decode cL_looks 9 = .ok (.invokevirtual 119, 3) := by decide +kernel
theorem dL_looks_12 : decode cL_looks 12 = .ok (.imul, 1) := by decide +kernel
theorem dL_looks_13 : decode cL_looks 13 = .ok (.aload_n 0, 1) := by decide +kernel
theorem dL_looks_14 : decode cL_looks 14 = .ok (.invokevirtual 122, 3) := by decide +kernel
theorem dL_looks_17 : decode cL_looks 17 = .ok (.iadd, 1) := by decide +kernel
theorem dL_looks_18 : decode cL_looks 18 = .ok (.imul, 1) := by decide +kernel
theorem dL_looks_19 : decode cL_looks 19 = .ok (.aload_n 0, 1) := by decide +kernel
theorem dL_looks_20 : decode cL_looks 20 = .ok (.invokevirtual 125, 3) := by decide +kernel
theorem dL_looks_23 : decode cL_looks 23 = .ok (.iadd, 1) := by decide +kernel
theorem dL_looks_24 : decode cL_looks 24 = .ok (.imul, 1) := by decide +kernel
theorem dL_looks_25 : decode cL_looks 25 = .ok (.aload_n 0, 1) := by decide +kernel
theorem dL_looks_26 : decode cL_looks 26 = .ok (.invokevirtual 128, 3) := by decide +kernel
theorem dL_looks_29 : decode cL_looks 29 = .ok (.l2i, 1) := by decide +kernel
theorem dL_looks_30 : decode cL_looks 30 = .ok (.iadd, 1) := by decide +kernel
theorem dL_looks_31 : decode cL_looks 31 = .ok (.imul, 1) := by decide +kernel
theorem dL_looks_32 : decode cL_looks 32 = .ok (.aload_n 0, 1) := by decide +kernel
theorem dL_looks_33 : decode cL_looks 33 = .ok (.invokevirtual 111, 3) := by decide +kernel
theorem dL_looks_36 : decode cL_looks 36 = .ok (.iadd, 1) := by decide +kernel
theorem dL_looks_37 : decode cL_looks 37 = .ok (.istore_n 1, 1) := by decide +kernel
theorem dL_looks_38 : decode cL_looks 38 = .ok (.iconst 0, 1) := by decide +kernel
theorem dL_looks_39 : decode cL_looks 39 = .ok (.istore_n 2, 1) := by decide +kernel
theorem dL_looks_40 : decode cL_looks 40 = .ok (.iload_n 2, 1) := by decide +kernel
theorem dL_looks_41 : decode cL_looks 41 = .ok (.bipush 30, 2) := by decide +kernel
theorem dL_looks_43 : decode cL_looks 43 = .ok (.if_icmp .ge 119, 3) := by decide +kernel
theorem dL_looks_46 : decode cL_looks 46 = .ok (.bipush 31, 2) := by decide +kernel
theorem dL_looks_48 : decode cL_looks 48 = .ok (.bipush 31, 2) := by decide +kernel
theorem dL_looks_50 : decode cL_looks 50 = .ok (.bipush 31, 2) := by decide +kernel
theorem dL_looks_52 : decode cL_looks 52 = .ok (.iload_n 1, 1) := by decide +kernel
theorem dL_looks_53 : decode cL_looks 53 = .ok (.imul, 1) := by decide +kernel
theorem dL_looks_54 : decode cL_looks 54 = .ok (.aload_n 0, 1) := by decide +kernel
theorem dL_looks_55 : decode cL_looks 55 = .ok (.iload_n 2, 1) := by decide +kernel
theorem dL_looks_56 : decode cL_looks 56 = .ok (.bipush 6, 2) := by decide +kernel
theorem dL_looks_58 : decode cL_looks 58 = .ok (.idiv, 1) := by decide +kernel
theorem dL_looks_59 : decode cL_looks 59 = .ok (.iload_n 2, 1) := by decide +kernel
theorem dL_looks_60 : decode cL_looks 60 = .ok (.bipush 6, 2) := by decide +kernel
theorem dL_looks_62 : decode cL_looks 62 = .ok (.irem, 1) := by decide +kernel
theorem dL_looks_63 : decode cL_looks 63 = .ok (.invokevirtual 68, 3) := by decide +kernel
theorem dL_looks_66 : decode cL_looks 66 = .ok (.iadd, 1) := by decide +kernel
theorem dL_looks_67 : decode cL_looks 67 = .ok (.imul, 1) := by decide +kernel
theorem dL_looks_68 : decode cL_looks 68 = .ok (.aload_n 0, 1) := by decide +kernel
theorem dL_looks_69 : decode cL_looks 69 = .ok (.iload_n 2, 1) := by decide +kernel
theorem dL_looks_70 : decode cL_looks 70 = .ok (.bipush 6, 2) := by decide +kernel
theorem dL_looks_72 : decode cL_looks 72 = .ok (.idiv, 1) := by decide +kernel
theorem dL_looks_73 : decode cL_looks 73 = .ok (.iload_n 2, 1) := by decide +kernel
theorem dL_looks_74 : decode cL_looks 74 = .ok (.bipush 6, 2) := by decide +kernel
theorem dL_looks_76 : decode cL_looks 76 = .ok (.irem, 1) := by decide +kernel
theorem dL_looks_77 : decode cL_looks 77 = .ok (.invokevirtual 132, 3) := by decide +kernel
theorem dL_looks_80 : decode cL_looks 80 = .ok (.iadd, 1) := by decide +kernel
theorem dL_looks_81 : decode cL_looks 81 = .ok (.imul, 1) := by decide +kernel
theorem dL_looks_82 : decode cL_looks 82 = .ok (.aload_n 0, 1) := by decide +kernel
theorem dL_looks_83 : decode cL_looks 83 = .ok (.iload_n 2, 1) := by decide +kernel
theorem dL_looks_84 : decode cL_looks 84 = .ok (.bipush 6, 2) := by decide +kernel
theorem dL_looks_86 : decode cL_looks 86 = .ok (.idiv, 1) := by decide +kernel
theorem dL_looks_87 : decode cL_looks 87 = .ok (.iload_n 2, 1) := by decide +kernel
theorem dL_looks_88 : decode cL_looks 88 = .ok (.bipush 6, 2) := by decide +kernel
theorem dL_looks_90 : decode cL_looks 90 = .ok (.irem, 1) := by decide +kernel
theorem dL_looks_91 : decode cL_looks 91 = .ok (.invokevirtual 135, 3) := by decide +kernel
theorem dL_looks_94 : decode cL_looks 94 = .ok (.invokestatic 32, 3) := by decide +kernel
theorem dL_looks_97 : decode cL_looks 97 = .ok (.iadd, 1) := by decide +kernel
theorem dL_looks_98 : decode cL_looks 98 = .ok (.istore_n 1, 1) := by decide +kernel
theorem dL_looks_99 : decode cL_looks 99 = .ok (.bipush 31, 2) := by decide +kernel
theorem dL_looks_101 : decode cL_looks 101 = .ok (.bipush 31, 2) := by decide +kernel
theorem dL_looks_103 : decode cL_looks 103 = .ok (.bipush 31, 2) := by decide +kernel
theorem dL_looks_105 : decode cL_looks 105 = .ok (.iload_n 1, 1) := by decide +kernel
theorem dL_looks_106 : decode cL_looks 106 = .ok (.imul, 1) := by decide +kernel
theorem dL_looks_107 : decode cL_looks 107 = .ok (.aload_n 0, 1) := by decide +kernel
theorem dL_looks_108 : decode cL_looks 108 = .ok (.iload_n 2, 1) := by decide +kernel
theorem dL_looks_109 : decode cL_looks 109 = .ok (.bipush 6, 2) := by decide +kernel
theorem dL_looks_111 : decode cL_looks 111 = .ok (.idiv, 1) := by decide +kernel
theorem dL_looks_112 : decode cL_looks 112 = .ok (.iload_n 2, 1) := by decide +kernel
theorem dL_looks_113 : decode cL_looks 113 = .ok (.bipush 6, 2) := by decide +kernel
theorem dL_looks_115 : decode cL_looks 115 = .ok (.irem, 1) := by decide +kernel
theorem dL_looks_116 : decode cL_looks 116 = .ok (.invokevirtual 138, 3) := by decide +kernel
theorem dL_looks_119 : decode cL_looks 119 = .ok (.iadd, 1) := by decide +kernel
theorem dL_looks_120 : decode cL_looks 120 = .ok (.imul, 1) := by decide +kernel
theorem dL_looks_121 : decode cL_looks 121 = .ok (.aload_n 0, 1) := by decide +kernel
theorem dL_looks_122 : decode cL_looks 122 = .ok (.iconst 1, 1) := by decide +kernel
theorem dL_looks_123 : decode cL_looks 123 = .ok (.iload_n 2, 1) := by decide +kernel
theorem dL_looks_124 : decode cL_looks 124 = .ok (.bipush 6, 2) := by decide +kernel
theorem dL_looks_126 : decode cL_looks 126 = .ok (.idiv, 1) := by decide +kernel
theorem dL_looks_127 : decode cL_looks 127 = .ok (.iload_n 2, 1) := by decide +kernel
theorem dL_looks_128 : decode cL_looks 128 = .ok (.bipush 6, 2) := by decide +kernel
theorem dL_looks_130 : decode cL_looks 130 = .ok (.irem, 1) := by decide +kernel
theorem dL_looks_131 : decode cL_looks 131 = .ok (.iconst 0, 1) := by decide +kernel
theorem dL_looks_132 : decode cL_looks 132 = .ok (.iconst 0, 1) := by decide +kernel
theorem dL_looks_133 : decode cL_looks 133 = .ok (.invokestatic 141, 3) := by decide +kernel
theorem dL_looks_136 : decode cL_looks 136 = .ok (.iadd, 1) := by decide +kernel
theorem dL_looks_137 : decode cL_looks 137 = .ok (.imul, 1) := by decide +kernel
theorem dL_looks_138 : decode cL_looks 138 = .ok (.aload_n 0, 1) := by decide +kernel
theorem dL_looks_139 : decode cL_looks 139 = .ok (.bipush 7, 2) := by decide +kernel
theorem dL_looks_141 : decode cL_looks 141 = .ok (.iload_n 2, 1) := by decide +kernel
theorem dL_looks_142 : decode cL_looks 142 = .ok (.bipush 6, 2) := by decide +kernel
theorem dL_looks_144 : decode cL_looks 144 = .ok (.idiv, 1) := by decide +kernel
theorem dL_looks_145 : decode cL_looks 145 = .ok (.iload_n 2, 1) := by decide +kernel
theorem dL_looks_146 : decode cL_looks 146 = .ok (.bipush 6, 2) := by decide +kernel
theorem dL_looks_148 : decode cL_looks 148 = .ok (.irem, 1) := by decide +kernel
theorem dL_looks_149 : decode cL_looks 149 = .ok (.iconst 0, 1) := by decide +kernel
theorem dL_looks_150 : decode cL_looks 150 = .ok (.iconst 0, 1) := by decide +kernel
theorem dL_looks_151 : decode cL_looks 151 = .ok (.invokestatic 141, 3) := by decide +kernel
theorem dL_looks_154 : decode cL_looks 154 = .ok (.iadd, 1) := by decide +kernel
theorem dL_looks_155 : decode cL_looks 155 = .ok (.istore_n 1, 1) := by decide +kernel
theorem dL_looks_156 : decode cL_looks 156 = .ok (.iinc 2 1, 3) := by decide +kernel
theorem dL_looks_159 : decode cL_looks 159 = .ok (.goto (-119), 3) := by decide +kernel
theorem dL_looks_162 : decode cL_looks 162 = .ok (.iconst 0, 1) := by decide +kernel
theorem dL_looks_163 : decode cL_looks 163 = .ok (.istore_n 2, 1) := by decide +kernel
theorem dL_looks_164 : decode cL_looks 164 = .ok (.iload_n 2, 1) := by decide +kernel
theorem dL_looks_165 : decode cL_looks 165 = .ok (.iconst 4, 1) := by decide +kernel
theorem dL_looks_166 : decode cL_looks 166 = .ok (.if_icmp .ge 20, 3) := by decide +kernel
theorem dL_looks_169 : decode cL_looks 169 = .ok (.bipush 31, 2) := by decide +kernel
theorem dL_looks_171 : decode cL_looks 171 = .ok (.iload_n 1, 1) := by decide +kernel
theorem dL_looks_172 : decode cL_looks 172 = .ok (.imul, 1) := by decide +kernel
theorem dL_looks_173 : decode cL_looks 173 = .ok (.aload_n 0, 1) := by decide +kernel
theorem dL_looks_174 : decode cL_looks 174 = .ok (.iload_n 2, 1) := by decide +kernel
theorem dL_looks_175 : decode cL_looks 175 = .ok (.invokevirtual 92, 3) := by decide +kernel
theorem dL_looks_178 : decode cL_looks 178 = .ok (.iadd, 1) := by decide +kernel
theorem dL_looks_179 : decode cL_looks 179 = .ok (.istore_n 1, 1) := by decide +kernel
theorem dL_looks_180 : decode cL_looks 180 = .ok (.iinc 2 1, 3) := by decide +kernel
theorem dL_looks_183 : decode cL_looks 183 = .ok (.goto (-19), 3) := by decide +kernel
theorem dL_looks_186 : decode cL_looks 186 = .ok (.iconst 0, 1) := by decide +kernel
theorem dL_looks_187 : decode cL_looks 187 = .ok (.istore_n 2, 1) := by decide +kernel
theorem dL_looks_188 : decode cL_looks 188 = .ok (.iload_n 2, 1) := by decide +kernel
theorem dL_looks_189 : decode cL_looks 189 = .ok (.iconst 5, 1) := by decide +kernel
theorem dL_looks_190 : decode cL_looks 190 = .ok (.if_icmp .ge 42, 3) := by decide +kernel
theorem dL_looks_193 : decode cL_looks 193 = .ok (.aload_n 0, 1) := by decide +kernel
theorem dL_looks_194 : decode cL_looks 194 = .ok (.iload_n 2, 1) := by decide +kernel
theorem dL_looks_195 : decode cL_looks 195 = .ok (.invokevirtual 144, 3) := by decide +kernel
theorem dL_looks_198 : decode cL_looks 198 = .ok (.istore_n 3, 1) := by decide +kernel
theorem dL_looks_199 : decode cL_looks 199 = .ok (.iconst 0, 1) := by decide +kernel
theorem dL_looks_200 : decode cL_looks 200 = .ok (.istore 4, 2) := by decide +kernel
theorem dL_looks_202 : decode cL_looks 202 = .ok (.iload 4, 2) := by decide +kernel
theorem dL_looks_204 : decode cL_looks 204 = .ok (.iload_n 3, 1) := by decide +kernel
theorem dL_looks_205 : decode cL_looks 205 = .ok (.if_icmp .ge 21, 3) := by decide +kernel
theorem dL_looks_208 : decode cL_looks 208 = .ok (.bipush 31, 2) := by decide +kernel
theorem dL_looks_210 : decode cL_looks 210 = .ok (.iload_n 1, 1) := by decide +kernel
theorem dL_looks_211 : decode cL_looks 211 = .ok (.imul, 1) := by decide +kernel
theorem dL_looks_212 : decode cL_looks 212 = .ok (.aload_n 0, 1) := by decide +kernel
theorem dL_looks_213 : decode cL_looks 213 = .ok (.iload 4, 2) := by decide +kernel
theorem dL_looks_215 : decode cL_looks 215 = .ok (.invokevirtual 147, 3) := by decide +kernel
theorem dL_looks_218 : decode cL_looks 218 = .ok (.iadd, 1) := by decide +kernel
theorem dL_looks_219 : decode cL_looks 219 = .ok (.istore_n 1, 1) := by decide +kernel
theorem dL_looks_220 : decode cL_looks 220 = .ok (.iinc 4 1, 3) := by decide +kernel
theorem dL_looks_223 : decode cL_looks 223 = .ok (.goto (-21), 3) := by decide +kernel
theorem dL_looks_226 : decode cL_looks 226 = .ok (.iinc 2 1, 3) := by decide +kernel
theorem dL_looks_229 : decode cL_looks 229 = .ok (.goto (-41), 3) := by decide +kernel
theorem dL_looks_232 : decode cL_looks 232 = .ok (.iload_n 1, 1) := by decide +kernel
theorem dL_looks_233 : decode cL_looks 233 = .ok (.ireturn, 1) := by decide +kernel
set_option maxRecDepth 20000 in
theorem ggL_steepest_X10_height : GoodIn wsL_steepest wsX10_height := goodIn_ca (goodIn_ca (goodIn_ca (goodIn_ca (goodIn_ca (goodIn_ca (goodIn_r _ [12, 13, 14, 15, 16, 17, 18, 19, 20, 21, 22, 23, 24, 11, 25, 26, 27, 28, 29, 30, 31, 32, 33, 34, 35, 36, 37, 38, 39, 40, 41, 42, 43, 44, 45, 46, 47, 48, 49, 50, 51, 52, 53, 54, 55, 56, 57, 58, 59, 60, 61, 62, 63, 64, 65, 66, 67, 68, 69, 70, 71, 72, 73, 74, 75, 76] (by decide +kernel) (by decide +kernel)) (goodIn_sub (fun _ h => List.mem_cons_of_mem _ (List.mem_append_left _ (List.mem_append_left _ (List.mem_append_left _ (List.mem_append_left _ (List.mem_append_left _ (List.mem_append_right _ h))))))) (by decide +kernel))) (goodIn_sub (fun _ h => List.mem_cons_of_mem _ (List.mem_append_left _ (List.mem_append_left _ (List.mem_append_left _ (List.mem_append_left _ (List.mem_append_right _ h)))))) (by decide +kernel))) (goodIn_sub (fun _ h => List.mem_cons_of_mem _ (List.mem_append_left _ (List.mem_append_left _ (List.mem_append_left _ (List.mem_append_right _ h))))) (by decide +kernel))) (goodIn_sub (fun _ h => List.mem_cons_of_mem _ (List.mem_append_left _ (List.mem_append_left _ (List.mem_append_right _ h)))) (by decide +kernel))) (goodIn_sub (fun _ h => List.mem_cons_of_mem _ (List.mem_append_left _ (List.mem_append_right _ h))) (by decide +kernel))) (goodIn_sub (fun _ h => List.mem_cons_of_mem _ (List.mem_append_right _ h)) (by decide +kernel))
set_option maxRecDepth 20000 in
theorem gL_steepest_X10_height : GoodIn wsL_steepest (wsV RL 68 RX10 yX10_height wsX10_height) := goodIn_app (goodIn_of _ (by decide +kernel)) ggL_steepest_X10_height
theorem dL_steepest_0 : decode cL_steepest 0 = .ok (.iconst 0, 1) := by decide +kernel
theorem dL_steepest_1 : decode cL_steepest 1 = .ok (.istore_n 3, 1) := by decide +kernel
theorem dL_steepest_2 : decode cL_steepest 2 = .ok (.iconst 0, 1) := by decide +kernel
theorem dL_steepest_3 : decode cL_steepest 3 = .ok (.istore 4, 2) := by decide +kernel
theorem dL_steepest_5 : decode cL_steepest 5 = .ok (.iload 4, 2) := by decide +kernel
theorem dL_steepest_7 : decode cL_steepest 7 = .ok (.bipush 30, 2) := by decide +kernel
theorem dL_steepest_9 : decode cL_steepest 9 = .ok (.if_icmp .ge 72, 3) := by decide +kernel
theorem dL_steepest_12 : decode cL_steepest 12 = .ok (.iload_n 1, 1) := by decide +kernel
theorem dL_steepest_13 : decode cL_steepest 13 = .ok (.bipush 6, 2) := by decide +kernel
theorem dL_steepest_15 : decode cL_steepest 15 = .ok (.idiv, 1) := by decide +kernel
theorem dL_steepest_16 : decode cL_steepest 16 = .ok (.iload 4, 2) := by decide +kernel
theorem dL_steepest_18 : decode cL_steepest 18 = .ok (.bipush 6, 2) := by decide +kernel
theorem dL_steepest_20 : decode cL_steepest 20 = .ok (.idiv, 1) := by decide +kernel
theorem dL_steepest_21 : decode cL_steepest 21 = .ok (.isub, 1) := by decide +kernel
theorem dL_steepest_22 : decode cL_steepest 22 = .ok (.invokestatic 151, 3) := by decide +kernel
theorem dL_steepest_25 : decode cL_steepest 25 = .ok (.iload_n 1, 1) := by decide +kernel
theorem dL_steepest_26 : decode cL_steepest 26 = .ok (.bipush 6, 2) := by decide +kernel
theorem dL_steepest_28 : decode cL_steepest 28 = .ok (.irem, 1) := by decide +kernel
theorem dL_steepest_29 : decode cL_steepest 29 = .ok (.iload 4, 2) := by decide +kernel
theorem dL_steepest_31 : decode cL_steepest 31 = .ok (.bipush 6, 2) := by decide +kernel
theorem dL_steepest_33 : decode cL_steepest 33 = .ok (.irem, 1) := by decide +kernel
theorem dL_steepest_34 : decode cL_steepest 34 = .ok (.isub, 1) := by decide +kernel
theorem dL_steepest_35 : decode cL_steepest 35 = .ok (.invokestatic 151, 3) := by decide +kernel
theorem dL_steepest_38 : decode cL_steepest 38 = .ok (.iadd, 1) := by decide +kernel
theorem dL_steepest_39 : decode cL_steepest 39 = .ok (.istore 5, 2) := by decide +kernel
theorem dL_steepest_41 : decode cL_steepest 41 = .ok (.iload 5, 2) := by decide +kernel
theorem dL_steepest_43 : decode cL_steepest 43 = .ok (.iconst 1, 1) := by decide +kernel
theorem dL_steepest_44 : decode cL_steepest 44 = .ok (.if_icmp .ne 29, 3) := by decide +kernel
theorem dL_steepest_47 : decode cL_steepest 47 = .ok (.iload_n 3, 1) := by decide +kernel
theorem dL_steepest_48 : decode cL_steepest 48 = .ok (.iload_n 2, 1) := by decide +kernel
theorem dL_steepest_49 : decode cL_steepest 49 = .ok (.aload_n 0, 1) := by decide +kernel
theorem dL_steepest_50 : decode cL_steepest 50 = .ok (.iload 4, 2) := by decide +kernel
theorem dL_steepest_52 : decode cL_steepest 52 = .ok (.bipush 6, 2) := by decide +kernel
theorem dL_steepest_54 : decode cL_steepest 54 = .ok (.idiv, 1) := by decide +kernel
theorem dL_steepest_55 : decode cL_steepest 55 = .ok (.iload 4, 2) := by decide +kernel
theorem dL_steepest_57 : decode cL_steepest 57 = .ok (.bipush 6, 2) := by decide +kernel
theorem dL_steepest_59 : decode cL_steepest 59 = .ok (.irem, 1) := by decide +kernel
theorem dL_steepest_60 : decode cL_steepest 60 = .ok (.invokevirtual 68, 3) := by decide +kernel
theorem dL_steepest_63 : decode cL_steepest 63 = .ok (.isub, 1) := by decide +kernel
theorem dL_steepest_64 : decode cL_steepest 64 = .ok (.invokestatic 151, 3) := by decide +kernel
theorem dL_steepest_67 : decode cL_steepest 67 = .ok (.invokestatic 114, 3) := by decide +kernel
theorem dL_steepest_70 : decode cL_steepest 70 = .ok (.goto 4, 3) := by decide +kernel
theorem dL_steepest_73 : decode cL_steepest 73 = .ok (.iload_n 3, 1) := by decide +kernel
theorem dL_steepest_74 : decode cL_steepest 74 = .ok (.istore_n 3, 1) := by decide +kernel
theorem dL_steepest_75 : decode cL_steepest 75 = .ok (.iinc 4 1, 3) := by decide +kernel
theorem dL_steepest_78 : decode cL_steepest 78 = .ok (.goto (-73), 3) := by decide +kernel
theorem dL_steepest_81 : decode cL_steepest 81 = .ok (.iload_n 3, 1) := by decide +kernel
theorem dL_steepest_82 : decode cL_steepest 82 = .ok (.ireturn, 1) := by decide +kernel
theorem dL_far_0 : decode cL_far 0 = .ok (.iload_n 0, 1) := by decide +kernel
theorem dL_far_1 : decode cL_far 1 = .ok (.bipush 6, 2) := by decide +kernel
theorem dL_far_3 : decode cL_far 3 = .ok (.idiv, 1) := by decide +kernel
theorem dL_far_4 : decode cL_far 4 = .ok (.iload_n 1, 1) := by decide +kernel
theorem dL_far_5 : decode cL_far 5 = .ok (.bipush 6, 2) := by decide +kernel
theorem dL_far_7 : decode cL_far 7 = .ok (.idiv, 1) := by decide +kernel
theorem dL_far_8 : decode cL_far 8 = .ok (.isub, 1) := by decide +kernel
theorem dL_far_9 : decode cL_far 9 = .ok (.invokestatic 151, 3) := by decide +kernel
theorem dL_far_12 : decode cL_far 12 = .ok (.iload_n 0, 1) := by decide +kernel
theorem dL_far_13 : decode cL_far 13 = .ok (.bipush 6, 2) := by decide +kernel
theorem dL_far_15 : decode cL_far 15 = .ok (.irem, 1) := by decide +kernel
theorem dL_far_16 : decode cL_far 16 = .ok (.iload_n 1, 1) := by decide +kernel
theorem dL_far_17 : decode cL_far 17 = .ok (.bipush 6, 2) := by decide +kernel
theorem dL_far_19 : decode cL_far 19 = .ok (.irem, 1) := by decide +kernel
theorem dL_far_20 : decode cL_far 20 = .ok (.isub, 1) := by decide +kernel
theorem dL_far_21 : decode cL_far 21 = .ok (.invokestatic 151, 3) := by decide +kernel
theorem dL_far_24 : decode cL_far 24 = .ok (.iadd, 1) := by decide +kernel
theorem dL_far_25 : decode cL_far 25 = .ok (.ireturn, 1) := by decide +kernel
set_option maxRecDepth 20000 in
theorem ggL_areCellsRight_L_ask : GoodIn wsL_areCellsRight wsL_ask := goodIn_ca (goodIn_ca (goodIn_ca (goodIn_ca (goodIn_ca (goodIn_ca (goodIn_r _ [13, 14, 15, 16, 17, 18, 12, 19, 20, 21, 22, 23, 24, 25, 26, 27, 28, 29, 30, 31, 32, 33, 34, 35, 36, 37, 38, 39, 40, 41, 42, 43, 44, 45, 46, 47, 48, 49, 50, 51, 52, 53, 54, 55, 56, 57, 58, 59, 60, 61, 62, 63, 64, 65, 66, 67, 68, 69, 70, 71, 72, 73, 74, 75, 76, 77, 78, 79, 80, 81, 82, 83, 84, 85, 86, 87, 88, 89, 90, 91, 92, 93, 94, 95, 96, 97, 98, 99, 100, 101, 102, 103, 104, 105, 106, 107, 108, 109, 7, 4, 8, 110, 111, 112, 113, 114, 115, 116, 117, 118, 119, 120, 121, 122, 123, 124, 125, 126, 127, 128, 129, 130, 131, 132, 133, 134, 135, 136, 137, 138, 139, 140, 141, 142, 143, 144, 145, 146, 147, 148, 149, 150, 151, 152, 153, 154, 155, 156, 157, 158, 159, 160, 161, 162, 163, 164, 165, 166, 167, 168, 169, 170, 171, 172, 173, 174, 175, 176, 177, 178, 179, 180, 181, 182, 183, 184, 185, 186, 187, 188, 189, 190, 191, 192, 193, 194, 195, 196, 197, 198, 199, 200, 201, 202, 203, 204, 205, 206, 207, 208, 209, 210, 211, 212, 213, 214, 215, 216, 217, 218, 219, 220, 221, 222, 223, 360, 361, 362, 363, 364, 365, 366, 367, 368, 369, 370, 371, 372, 373, 374, 375, 376, 377, 378, 379, 380, 381, 382, 383, 384, 385, 386, 387, 388] (by decide +kernel) (by decide +kernel)) (goodIn_sub (fun _ h => List.mem_cons_of_mem _ (List.mem_append_left _ (List.mem_append_left _ (List.mem_append_left _ (List.mem_append_left _ (List.mem_append_left _ (List.mem_append_left _ (List.mem_append_right _ h)))))))) (by decide +kernel))) (goodIn_sub (fun _ h => List.mem_cons_of_mem _ (List.mem_append_left _ (List.mem_append_left _ (List.mem_append_left _ (List.mem_append_left _ (List.mem_append_left _ (List.mem_append_right _ h))))))) (by decide +kernel))) (goodIn_sub (fun _ h => List.mem_cons_of_mem _ (List.mem_append_left _ (List.mem_append_left _ (List.mem_append_left _ (List.mem_append_left _ (List.mem_append_right _ h)))))) (by decide +kernel))) (goodIn_sub (fun _ h => List.mem_cons_of_mem _ (List.mem_append_left _ (List.mem_append_left _ (List.mem_append_left _ (List.mem_append_right _ h))))) (by decide +kernel))) (goodIn_sub (fun _ h => List.mem_cons_of_mem _ (List.mem_append_left _ (List.mem_append_left _ (List.mem_append_right _ h)))) (by decide +kernel))) (goodIn_sub (fun _ h => List.mem_cons_of_mem _ (List.mem_append_left _ (List.mem_append_right _ h))) (by decide +kernel))
set_option maxRecDepth 20000 in
theorem gL_areCellsRight_L_ask : GoodIn wsL_areCellsRight (va_wsS RL 141 yL_ask wsL_ask) := goodIn_app (goodIn_of _ (by decide +kernel)) ggL_areCellsRight_L_ask
set_option maxRecDepth 20000 in
theorem ggL_areCellsRight_X10_height : GoodIn wsL_areCellsRight wsX10_height := goodIn_ca (goodIn_ca (goodIn_ca (goodIn_ca (goodIn_ca (goodIn_ca (goodIn_r _ [24, 25, 26, 27, 28, 29, 30, 31, 32, 33, 34, 35, 36, 23, 37, 38, 39, 40, 41, 42, 43, 44, 45, 46, 47, 48, 49, 50, 51, 52, 53, 54, 55, 56, 57, 58, 59, 60, 61, 62, 63, 64, 360, 361, 362, 363, 364, 365, 366, 367, 368, 369, 370, 371, 372, 373, 374, 375, 376, 377, 378, 379, 380, 381, 382, 383] (by decide +kernel) (by decide +kernel)) (goodIn_sub (fun _ h => List.mem_cons_of_mem _ (List.mem_append_left _ (List.mem_append_left _ (List.mem_append_left _ (List.mem_append_left _ (List.mem_append_left _ (List.mem_append_left _ (List.mem_append_right _ h)))))))) (by decide +kernel))) (goodIn_sub (fun _ h => List.mem_cons_of_mem _ (List.mem_append_left _ (List.mem_append_left _ (List.mem_append_left _ (List.mem_append_left _ (List.mem_append_left _ (List.mem_append_right _ h))))))) (by decide +kernel))) (goodIn_sub (fun _ h => List.mem_cons_of_mem _ (List.mem_append_left _ (List.mem_append_left _ (List.mem_append_left _ (List.mem_append_left _ (List.mem_append_right _ h)))))) (by decide +kernel))) (goodIn_sub (fun _ h => List.mem_cons_of_mem _ (List.mem_append_left _ (List.mem_append_left _ (List.mem_append_left _ (List.mem_append_right _ h))))) (by decide +kernel))) (goodIn_sub (fun _ h => List.mem_cons_of_mem _ (List.mem_append_left _ (List.mem_append_left _ (List.mem_append_right _ h)))) (by decide +kernel))) (goodIn_sub (fun _ h => List.mem_cons_of_mem _ (List.mem_append_left _ (List.mem_append_right _ h))) (by decide +kernel))
set_option maxRecDepth 20000 in
theorem gL_areCellsRight_X10_height : GoodIn wsL_areCellsRight (wsV RL 68 RX10 yX10_height wsX10_height) := goodIn_app (goodIn_of _ (by decide +kernel)) ggL_areCellsRight_X10_height
set_option maxRecDepth 20000 in
theorem ggL_areCellsRight_L_steepest : GoodIn wsL_areCellsRight wsL_steepest := goodIn_ca (goodIn_ca (goodIn_ca (goodIn_ca (goodIn_ca (goodIn_ca (goodIn_r _ [226, 227, 114, 4, 115, 6, 7, 8, 20, 21, 22, 23, 24, 25, 26, 27, 28, 29, 30, 31, 32, 33, 34, 35, 36, 37, 38, 39, 40, 41, 42, 43, 44, 45, 46, 47, 48, 49, 50, 51, 52, 53, 54, 55, 56, 57, 58, 59, 60, 61, 62, 63, 64, 360, 361, 362, 363, 364, 365, 366, 367, 368, 369, 370, 371, 372, 373, 374, 375, 376, 377, 378, 379, 380, 381, 382, 383] (by decide +kernel) (by decide +kernel)) (goodIn_sub (fun _ h => List.mem_cons_of_mem _ (List.mem_append_left _ (List.mem_append_left _ (List.mem_append_left _ (List.mem_append_left _ (List.mem_append_left _ (List.mem_append_left _ (List.mem_append_right _ h)))))))) (by decide +kernel))) (goodIn_sub (fun _ h => List.mem_cons_of_mem _ (List.mem_append_left _ (List.mem_append_left _ (List.mem_append_left _ (List.mem_append_left _ (List.mem_append_left _ (List.mem_append_right _ h))))))) (by decide +kernel))) (goodIn_sub (fun _ h => List.mem_cons_of_mem _ (List.mem_append_left _ (List.mem_append_left _ (List.mem_append_left _ (List.mem_append_left _ (List.mem_append_right _ h)))))) (by decide +kernel))) (goodIn_sub (fun _ h => List.mem_cons_of_mem _ (List.mem_append_left _ (List.mem_append_left _ (List.mem_append_left _ (List.mem_append_right _ h))))) (by decide +kernel))) (goodIn_sub (fun _ h => List.mem_cons_of_mem _ (List.mem_append_left _ (List.mem_append_left _ (List.mem_append_right _ h)))) (by decide +kernel))) (goodIn_sub (fun _ h => List.mem_cons_of_mem _ (List.mem_append_left _ (List.mem_append_right _ h))) (by decide +kernel))
set_option maxRecDepth 20000 in
theorem gL_areCellsRight_L_steepest : GoodIn wsL_areCellsRight (va_wsS RL 154 yL_steepest wsL_steepest) := goodIn_app (goodIn_of _ (by decide +kernel)) ggL_areCellsRight_L_steepest
set_option maxRecDepth 20000 in
theorem ggL_areCellsRight_X10_looseBlocks : GoodIn wsL_areCellsRight wsX10_looseBlocks := goodIn_ca (goodIn_ca (goodIn_ca (goodIn_ca (goodIn_ca (goodIn_ca (goodIn_r _ [231, 25, 26, 27, 28, 29, 30, 31, 32, 33, 34, 35, 36, 23, 37, 38, 39, 40, 41, 42, 43, 44, 45, 46, 47, 48, 49, 50, 51, 52, 53, 54, 55, 56, 57, 58, 232, 233, 234, 62, 235, 75, 360, 361, 362, 363, 364, 365, 366, 367, 368, 369, 370, 371, 372, 373, 374, 375, 376, 377, 378, 379, 380, 381, 382, 383] (by decide +kernel) (by decide +kernel)) (goodIn_sub (fun _ h => List.mem_cons_of_mem _ (List.mem_append_left _ (List.mem_append_left _ (List.mem_append_left _ (List.mem_append_left _ (List.mem_append_left _ (List.mem_append_left _ (List.mem_append_right _ h)))))))) (by decide +kernel))) (goodIn_sub (fun _ h => List.mem_cons_of_mem _ (List.mem_append_left _ (List.mem_append_left _ (List.mem_append_left _ (List.mem_append_left _ (List.mem_append_left _ (List.mem_append_right _ h))))))) (by decide +kernel))) (goodIn_sub (fun _ h => List.mem_cons_of_mem _ (List.mem_append_left _ (List.mem_append_left _ (List.mem_append_left _ (List.mem_append_left _ (List.mem_append_right _ h)))))) (by decide +kernel))) (goodIn_sub (fun _ h => List.mem_cons_of_mem _ (List.mem_append_left _ (List.mem_append_left _ (List.mem_append_left _ (List.mem_append_right _ h))))) (by decide +kernel))) (goodIn_sub (fun _ h => List.mem_cons_of_mem _ (List.mem_append_left _ (List.mem_append_left _ (List.mem_append_right _ h)))) (by decide +kernel))) (goodIn_sub (fun _ h => List.mem_cons_of_mem _ (List.mem_append_left _ (List.mem_append_right _ h))) (by decide +kernel))
set_option maxRecDepth 20000 in
theorem gL_areCellsRight_X10_looseBlocks : GoodIn wsL_areCellsRight (wsV RL 138 RX10 yX10_looseBlocks wsX10_looseBlocks) := goodIn_app (goodIn_of _ (by decide +kernel)) ggL_areCellsRight_X10_looseBlocks
set_option maxRecDepth 20000 in
theorem ggL_areCellsRight_X10_isLedge : GoodIn wsL_areCellsRight wsX10_isLedge := goodIn_ca (goodIn_ca (goodIn_ca (goodIn_ca (goodIn_ca (goodIn_ca (goodIn_r _ [239, 25, 26, 27, 28, 29, 30, 31, 32, 33, 34, 35, 36, 23, 37, 38, 39, 40, 41, 42, 43, 44, 45, 46, 47, 48, 49, 50, 51, 52, 53, 54, 55, 56, 57, 58, 240, 156, 157, 62, 158, 159, 360, 361, 362, 363, 364, 365, 366, 367, 368, 369, 370, 371, 372, 373, 374, 375, 376, 377, 378, 379, 380, 381, 382, 383] (by decide +kernel) (by decide +kernel)) (goodIn_sub (fun _ h => List.mem_cons_of_mem _ (List.mem_append_left _ (List.mem_append_left _ (List.mem_append_left _ (List.mem_append_left _ (List.mem_append_left _ (List.mem_append_left _ (List.mem_append_right _ h)))))))) (by decide +kernel))) (goodIn_sub (fun _ h => List.mem_cons_of_mem _ (List.mem_append_left _ (List.mem_append_left _ (List.mem_append_left _ (List.mem_append_left _ (List.mem_append_left _ (List.mem_append_right _ h))))))) (by decide +kernel))) (goodIn_sub (fun _ h => List.mem_cons_of_mem _ (List.mem_append_left _ (List.mem_append_left _ (List.mem_append_left _ (List.mem_append_left _ (List.mem_append_right _ h)))))) (by decide +kernel))) (goodIn_sub (fun _ h => List.mem_cons_of_mem _ (List.mem_append_left _ (List.mem_append_left _ (List.mem_append_left _ (List.mem_append_right _ h))))) (by decide +kernel))) (goodIn_sub (fun _ h => List.mem_cons_of_mem _ (List.mem_append_left _ (List.mem_append_left _ (List.mem_append_right _ h)))) (by decide +kernel))) (goodIn_sub (fun _ h => List.mem_cons_of_mem _ (List.mem_append_left _ (List.mem_append_right _ h))) (by decide +kernel))
set_option maxRecDepth 20000 in
theorem gL_areCellsRight_X10_isLedge : GoodIn wsL_areCellsRight (wsV RL 135 RX10 yX10_isLedge wsX10_isLedge) := goodIn_app (goodIn_of _ (by decide +kernel)) ggL_areCellsRight_X10_isLedge
set_option maxRecDepth 20000 in
theorem ggL_areCellsRight_X10_stepLimit : GoodIn wsL_areCellsRight wsX10_stepLimit := goodIn_r _ [244, 25, 245, 139, 140, 62, 141, 108, 360, 361, 362, 363, 364, 365, 366, 367, 368, 369, 370, 371, 372, 373, 374, 375, 376, 377, 378, 379, 380, 381, 382, 383] (by decide +kernel) (by decide +kernel)
set_option maxRecDepth 20000 in
theorem gL_areCellsRight_X10_stepLimit : GoodIn wsL_areCellsRight (wsV RL 119 RX10 yX10_stepLimit wsX10_stepLimit) := goodIn_app (goodIn_of _ (by decide +kernel)) ggL_areCellsRight_X10_stepLimit
set_option maxRecDepth 20000 in
theorem ggL_areCellsRight_L_told : GoodIn wsL_areCellsRight wsL_told := goodIn_r _ [248] (by decide +kernel) (by decide +kernel)
set_option maxRecDepth 20000 in
theorem gL_areCellsRight_L_told : GoodIn wsL_areCellsRight (va_wsS RL 32 yL_told wsL_told) := goodIn_app (goodIn_of _ (by decide +kernel)) ggL_areCellsRight_L_told
set_option maxRecDepth 20000 in
theorem ggL_areCellsRight_L_far : GoodIn wsL_areCellsRight wsL_far := goodIn_r _ [251, 227, 114, 4, 115] (by decide +kernel) (by decide +kernel)
set_option maxRecDepth 20000 in
theorem gL_areCellsRight_L_far : GoodIn wsL_areCellsRight (va_wsS RL 161 yL_far wsL_far) := goodIn_app (goodIn_of _ (by decide +kernel)) ggL_areCellsRight_L_far
set_option maxRecDepth 20000 in
theorem ggL_areCellsRight_X10_steepestStep : GoodIn wsL_areCellsRight wsX10_steepestStep := goodIn_ca (goodIn_ca (goodIn_ca (goodIn_ca (goodIn_ca (goodIn_ca (goodIn_r _ [255, 25, 26, 27, 28, 29, 30, 31, 32, 33, 34, 35, 36, 23, 37, 38, 39, 40, 41, 42, 43, 44, 45, 46, 47, 48, 49, 50, 51, 52, 53, 54, 55, 56, 57, 58, 256, 257, 258, 62, 259, 64, 260, 261, 262, 263, 264, 114, 4, 115, 109, 7, 8, 265, 136, 137, 360, 361, 362, 363, 364, 365, 366, 367, 368, 369, 370, 371, 372, 373, 374, 375, 376, 377, 378, 379, 380, 381, 382, 383] (by decide +kernel) (by decide +kernel)) (goodIn_sub (fun _ h => List.mem_cons_of_mem _ (List.mem_append_left _ (List.mem_append_left _ (List.mem_append_left _ (List.mem_append_left _ (List.mem_append_left _ (List.mem_append_left _ (List.mem_append_right _ h)))))))) (by decide +kernel))) (goodIn_sub (fun _ h => List.mem_cons_of_mem _ (List.mem_append_left _ (List.mem_append_left _ (List.mem_append_left _ (List.mem_append_left _ (List.mem_append_left _ (List.mem_append_right _ h))))))) (by decide +kernel))) (goodIn_sub (fun _ h => List.mem_cons_of_mem _ (List.mem_append_left _ (List.mem_append_left _ (List.mem_append_left _ (List.mem_append_left _ (List.mem_append_right _ h)))))) (by decide +kernel))) (goodIn_sub (fun _ h => List.mem_cons_of_mem _ (List.mem_append_left _ (List.mem_append_left _ (List.mem_append_left _ (List.mem_append_right _ h))))) (by decide +kernel))) (goodIn_sub (fun _ h => List.mem_cons_of_mem _ (List.mem_append_left _ (List.mem_append_left _ (List.mem_append_right _ h)))) (by decide +kernel))) (goodIn_sub (fun _ h => List.mem_cons_of_mem _ (List.mem_append_left _ (List.mem_append_right _ h))) (by decide +kernel))
set_option maxRecDepth 20000 in
theorem gL_areCellsRight_X10_steepestStep : GoodIn wsL_areCellsRight (wsV RL 164 RX10 yX10_steepestStep wsX10_steepestStep) := goodIn_app (goodIn_of _ (by decide +kernel)) ggL_areCellsRight_X10_steepestStep
set_option maxRecDepth 20000 in
theorem ggL_areCellsRight_X10_canCut : GoodIn wsL_areCellsRight wsX10_canCut := goodIn_ca (goodIn_ca (goodIn_ca (goodIn_ca (goodIn_ca (goodIn_ca (goodIn_r _ [269, 25, 270, 26, 27, 28, 29, 30, 31, 32, 33, 34, 35, 36, 23, 37, 38, 39, 40, 41, 42, 43, 44, 45, 46, 47, 48, 49, 50, 51, 52, 53, 54, 55, 271, 272, 273, 62, 274, 73, 74, 159, 64, 75, 183, 108, 187, 77, 78, 57, 58, 260, 261, 262, 263, 264, 114, 4, 115, 109, 7, 8, 265, 136, 137, 360, 361, 362, 363, 364, 365, 366, 367, 368, 369, 370, 371, 372, 373, 374, 375, 376, 377, 378, 379, 380, 381, 382, 383] (by decide +kernel) (by decide +kernel)) (goodIn_sub (fun _ h => List.mem_cons_of_mem _ (List.mem_append_left _ (List.mem_append_left _ (List.mem_append_left _ (List.mem_append_left _ (List.mem_append_left _ (List.mem_append_left _ (List.mem_append_right _ h)))))))) (by decide +kernel))) (goodIn_sub (fun _ h => List.mem_cons_of_mem _ (List.mem_append_left _ (List.mem_append_left _ (List.mem_append_left _ (List.mem_append_left _ (List.mem_append_left _ (List.mem_append_right _ h))))))) (by decide +kernel))) (goodIn_sub (fun _ h => List.mem_cons_of_mem _ (List.mem_append_left _ (List.mem_append_left _ (List.mem_append_left _ (List.mem_append_left _ (List.mem_append_right _ h)))))) (by decide +kernel))) (goodIn_sub (fun _ h => List.mem_cons_of_mem _ (List.mem_append_left _ (List.mem_append_left _ (List.mem_append_left _ (List.mem_append_right _ h))))) (by decide +kernel))) (goodIn_sub (fun _ h => List.mem_cons_of_mem _ (List.mem_append_left _ (List.mem_append_left _ (List.mem_append_right _ h)))) (by decide +kernel))) (goodIn_sub (fun _ h => List.mem_cons_of_mem _ (List.mem_append_left _ (List.mem_append_right _ h))) (by decide +kernel))
set_option maxRecDepth 20000 in
theorem gL_areCellsRight_X10_canCut : GoodIn wsL_areCellsRight (wsV RL 167 RX10 yX10_canCut wsX10_canCut) := goodIn_app (goodIn_of _ (by decide +kernel)) ggL_areCellsRight_X10_canCut
set_option maxRecDepth 20000 in
theorem ggL_areCellsRight_X10_cellsAt : GoodIn wsL_areCellsRight wsX10_cellsAt := goodIn_ca (goodIn_ca (goodIn_ca (goodIn_ca (goodIn_ca (goodIn_ca (goodIn_r _ [87, 25, 88, 89, 62, 90, 73, 91, 35, 36, 23, 37, 38, 39, 40, 41, 42, 43, 44, 45, 46, 47, 48, 49, 50, 51, 52, 53, 54, 55, 92, 93, 94, 95, 64, 360, 361, 362, 363, 364, 365, 366, 367, 368, 369, 370, 371, 372, 373, 374, 375, 376, 377, 378, 379, 380, 381, 382, 383] (by decide +kernel) (by decide +kernel)) (goodIn_sub (fun _ h => List.mem_cons_of_mem _ (List.mem_append_left _ (List.mem_append_left _ (List.mem_append_left _ (List.mem_append_left _ (List.mem_append_left _ (List.mem_append_left _ (List.mem_append_right _ h)))))))) (by decide +kernel))) (goodIn_sub (fun _ h => List.mem_cons_of_mem _ (List.mem_append_left _ (List.mem_append_left _ (List.mem_append_left _ (List.mem_append_left _ (List.mem_append_left _ (List.mem_append_right _ h))))))) (by decide +kernel))) (goodIn_sub (fun _ h => List.mem_cons_of_mem _ (List.mem_append_left _ (List.mem_append_left _ (List.mem_append_left _ (List.mem_append_left _ (List.mem_append_right _ h)))))) (by decide +kernel))) (goodIn_sub (fun _ h => List.mem_cons_of_mem _ (List.mem_append_left _ (List.mem_append_left _ (List.mem_append_left _ (List.mem_append_right _ h))))) (by decide +kernel))) (goodIn_sub (fun _ h => List.mem_cons_of_mem _ (List.mem_append_left _ (List.mem_append_left _ (List.mem_append_right _ h)))) (by decide +kernel))) (goodIn_sub (fun _ h => List.mem_cons_of_mem _ (List.mem_append_left _ (List.mem_append_right _ h))) (by decide +kernel))
set_option maxRecDepth 20000 in
theorem gL_areCellsRight_X10_cellsAt : GoodIn wsL_areCellsRight (wsV RL 74 RX10 yX10_cellsAt wsX10_cellsAt) := goodIn_app (goodIn_of _ (by decide +kernel)) ggL_areCellsRight_X10_cellsAt
set_option maxRecDepth 20000 in
theorem ggL_areCellsRight_X10_cutTotal : GoodIn wsL_areCellsRight wsX10_cutTotal := goodIn_r _ [278, 25, 279, 280, 281, 62, 282, 283, 360, 361, 362, 363, 364, 365, 366, 367, 368, 369, 370, 371, 372, 373, 374, 375, 376, 377, 378, 379, 380, 381, 382, 383] (by decide +kernel) (by decide +kernel)
set_option maxRecDepth 20000 in
theorem gL_areCellsRight_X10_cutTotal : GoodIn wsL_areCellsRight (wsV RL 125 RX10 yX10_cutTotal wsX10_cutTotal) := goodIn_app (goodIn_of _ (by decide +kernel)) ggL_areCellsRight_X10_cutTotal
set_option maxRecDepth 20000 in
theorem ggL_areCellsRight_X10_cuttableCells : GoodIn wsL_areCellsRight wsX10_cuttableCells := goodIn_ca (goodIn_r _ [287, 25, 288, 289, 290, 62, 291, 73, 177, 117, 28, 118, 178, 120, 121, 292, 272, 273, 274, 74, 159, 64, 75, 183, 108, 187, 77, 27, 29, 30, 31, 32, 33, 34, 78, 57, 58, 260, 261, 262, 263, 264, 114, 4, 115, 109, 7, 8, 265, 136, 137, 360, 361, 362, 363, 364, 365, 366, 367, 368, 369, 370, 371, 372, 373, 374, 375, 376, 377, 378, 379, 380, 381, 382, 383] (by decide +kernel) (by decide +kernel)) (goodIn_sub (fun _ h => List.mem_cons_of_mem _ (List.mem_append_left _ (List.mem_append_left _ (List.mem_append_left _ (List.mem_append_left _ (List.mem_append_left _ (List.mem_append_left _ (List.mem_append_right _ h)))))))) (by decide +kernel))
set_option maxRecDepth 20000 in
theorem gL_areCellsRight_X10_cuttableCells : GoodIn wsL_areCellsRight (wsV RL 170 RX10 yX10_cuttableCells wsX10_cuttableCells) := goodIn_app (goodIn_of _ (by decide +kernel)) ggL_areCellsRight_X10_cuttableCells
set_option maxRecDepth 20000 in
theorem ggL_areCellsRight_X10_meanHeight : GoodIn wsL_areCellsRight wsX10_meanHeight := goodIn_ca (goodIn_r _ [296, 25, 297, 298, 299, 300, 62, 301, 64, 360, 361, 362, 363, 364, 365, 366, 367, 368, 369, 370, 371, 372, 373, 374, 375, 376, 377, 378, 379, 380, 381, 382, 383] (by decide +kernel) (by decide +kernel)) (goodIn_sub (fun _ h => List.mem_cons_of_mem _ (List.mem_append_left _ (List.mem_append_left _ (List.mem_append_left _ (List.mem_append_left _ (List.mem_append_left _ (List.mem_append_left _ (List.mem_append_right _ h)))))))) (by decide +kernel))
set_option maxRecDepth 20000 in
theorem gL_areCellsRight_X10_meanHeight : GoodIn wsL_areCellsRight (wsV RL 173 RX10 yX10_meanHeight wsX10_meanHeight) := goodIn_app (goodIn_of _ (by decide +kernel)) ggL_areCellsRight_X10_meanHeight
set_option maxRecDepth 20000 in
theorem ggL_areCellsRight_X10_isConsistent : GoodIn wsL_areCellsRight wsX10_isConsistent := goodIn_ca (goodIn_r _ [305, 25, 126, 245, 139, 140, 62, 141, 108, 306, 307, 308, 309, 64, 260, 261, 262, 263, 264, 114, 4, 115, 109, 7, 8, 265, 136, 28, 137, 310, 311, 312, 130, 313, 314, 315, 316, 317, 318, 319, 320, 321, 322, 133, 134, 60, 61, 63, 135, 323, 324, 325, 326, 327, 328, 329, 330, 331, 332, 333, 334, 335, 336, 93, 94, 95, 337, 338, 339, 340, 341, 342, 343, 23, 344, 104, 105, 106, 107, 110, 111, 112, 113, 116, 117, 118, 119, 120, 121, 127, 128, 129, 131, 132, 138, 142, 143, 144, 145, 279, 280, 281, 282, 283, 345, 346, 347, 348, 349, 350, 351, 352, 353, 75, 360, 361, 362, 363, 364, 365, 366, 367, 368, 369, 370, 371, 372, 373, 374, 375, 376, 377, 378, 379, 380, 381, 382, 383, 384, 385, 386, 387, 388] (by decide +kernel) (by decide +kernel)) (goodIn_sub (fun _ h => List.mem_cons_of_mem _ (List.mem_append_left _ (List.mem_append_left _ (List.mem_append_left _ (List.mem_append_left _ (List.mem_append_left _ (List.mem_append_left _ (List.mem_append_right _ h)))))))) (by decide +kernel))
set_option maxRecDepth 20000 in
theorem gL_areCellsRight_X10_isConsistent : GoodIn wsL_areCellsRight (wsV RL 179 RX10 yX10_isConsistent wsX10_isConsistent) := goodIn_app (goodIn_of _ (by decide +kernel)) ggL_areCellsRight_X10_isConsistent
set_option maxRecDepth 20000 in
theorem ggL_areCellsRight_X10_liftedShare : GoodIn wsL_areCellsRight wsX10_liftedShare := goodIn_ca (goodIn_r _ [357, 358, 359, 25, 279, 280, 281, 62, 282, 283, 345, 346, 347, 348, 349, 360, 361, 362, 363, 364, 365, 366, 367, 368, 369, 370, 371, 372, 373, 374, 375, 376, 377, 378, 379, 380, 381, 382, 383] (by decide +kernel) (by decide +kernel)) (goodIn_sub (fun _ h => List.mem_cons_of_mem _ (List.mem_append_right _ h)) (by decide +kernel))
set_option maxRecDepth 20000 in
theorem gL_areCellsRight_X10_liftedShare : GoodIn wsL_areCellsRight (wsV RL 183 RX10 yX10_liftedShare wsX10_liftedShare) := goodIn_app (goodIn_of _ (by decide +kernel)) ggL_areCellsRight_X10_liftedShare
theorem dL_areCellsRight_0 : decode cL_areCellsRight 0 = .ok (.iconst 0, 1) := by decide +kernel
theorem dL_areCellsRight_1 : decode cL_areCellsRight 1 = .ok (.istore_n 2, 1) := by decide +kernel
theorem dL_areCellsRight_2 : decode cL_areCellsRight 2 = .ok (.iconst 0, 1) := by decide +kernel
theorem dL_areCellsRight_3 : decode cL_areCellsRight 3 = .ok (.istore_n 3, 1) := by decide +kernel
theorem dL_areCellsRight_4 : decode cL_areCellsRight 4 = .ok (.iconst 0, 1) := by decide +kernel
theorem dL_areCellsRight_5 : decode cL_areCellsRight 5 = .ok (.istore 4, 2) := by decide +kernel
theorem dL_areCellsRight_7 : decode cL_areCellsRight 7 = .ok (.bipush 10, 2) := by decide +kernel
theorem dL_areCellsRight_9 : decode cL_areCellsRight 9 = .ok (.newarray .int, 2) := by decide +kernel
theorem dL_areCellsRight_11 : decode cL_areCellsRight 11 = .ok (.astore 5, 2) := by decide +kernel
theorem dL_areCellsRight_13 : decode cL_areCellsRight 13 = .ok (.aload_n 0, 1) := by decide +kernel
theorem dL_areCellsRight_14 : decode cL_areCellsRight 14 = .ok (.iconst 0, 1) := by decide +kernel
theorem dL_areCellsRight_15 : decode cL_areCellsRight 15 = .ok (.iconst 5, 1) := by decide +kernel
theorem dL_areCellsRight_16 : decode cL_areCellsRight 16 = .ok (.iconst 0, 1) := by decide +kernel
theorem dL_areCellsRight_17 : decode cL_areCellsRight 17 = .ok (.iconst 0, 1) := by decide +kernel
theorem dL_areCellsRight_18 : decode cL_areCellsRight 18 = .ok (.iconst 0, 1) := by decide +kernel
theorem dL_areCellsRight_19 : decode cL_areCellsRight 19 = .ok (.invokestatic 141, 3) := by decide +kernel
theorem dL_areCellsRight_22 : decode cL_areCellsRight 22 = .ok (.sipush (-2002), 3) := by decide +kernel
theorem dL_areCellsRight_25 : decode cL_areCellsRight 25 = .ok (.if_icmp .ne 86, 3) := by decide +kernel
theorem dL_areCellsRight_28 : decode cL_areCellsRight 28 = .ok (.aload_n 0, 1) := by decide +kernel
theorem dL_areCellsRight_29 : decode cL_areCellsRight 29 = .ok (.iconst 0, 1) := by decide +kernel
theorem dL_areCellsRight_30 : decode cL_areCellsRight 30 = .ok (.iconst 0, 1) := by decide +kernel
theorem dL_areCellsRight_31 : decode cL_areCellsRight 31 = .ok (.iconst (-1), 1) := by decide +kernel
theorem dL_areCellsRight_32 : decode cL_areCellsRight 32 = .ok (.iconst 0, 1) := by decide +kernel
theorem dL_areCellsRight_33 : decode cL_areCellsRight 33 = .ok (.iconst 0, 1) := by decide +kernel
theorem dL_areCellsRight_34 : decode cL_areCellsRight 34 = .ok (.invokestatic 141, 3) := by decide +kernel
theorem dL_areCellsRight_37 : decode cL_areCellsRight 37 = .ok (.sipush (-2002), 3) := by decide +kernel
theorem dL_areCellsRight_40 : decode cL_areCellsRight 40 = .ok (.if_icmp .ne 71, 3) := by decide +kernel
theorem dL_areCellsRight_43 : decode cL_areCellsRight 43 = .ok (.aload_n 0, 1) := by decide +kernel
theorem dL_areCellsRight_44 : decode cL_areCellsRight 44 = .ok (.iconst 2, 1) := by decide +kernel
theorem dL_areCellsRight_45 : decode cL_areCellsRight 45 = .ok (.bipush 10, 2) := by decide +kernel
theorem dL_areCellsRight_47 : decode cL_areCellsRight 47 = .ok (.iconst 0, 1) := by decide +kernel
theorem dL_areCellsRight_48 : decode cL_areCellsRight 48 = .ok (.iconst 0, 1) := by decide +kernel
theorem dL_areCellsRight_49 : decode cL_areCellsRight 49 = .ok (.iconst 0, 1) := by decide +kernel
theorem dL_areCellsRight_50 : decode cL_areCellsRight 50 = .ok (.invokestatic 141, 3) := by decide +kernel
theorem dL_areCellsRight_53 : decode cL_areCellsRight 53 = .ok (.sipush (-2003), 3) := by decide +kernel
theorem dL_areCellsRight_56 : decode cL_areCellsRight 56 = .ok (.if_icmp .ne 55, 3) := by decide +kernel
theorem dL_areCellsRight_59 : decode cL_areCellsRight 59 = .ok (.aload_n 0, 1) := by decide +kernel
theorem dL_areCellsRight_60 : decode cL_areCellsRight 60 = .ok (.iconst 3, 1) := by decide +kernel
theorem dL_areCellsRight_61 : decode cL_areCellsRight 61 = .ok (.iconst 0, 1) := by decide +kernel
theorem dL_areCellsRight_62 : decode cL_areCellsRight 62 = .ok (.iconst 0, 1) := by decide +kernel
theorem dL_areCellsRight_63 : decode cL_areCellsRight 63 = .ok (.bipush 10, 2) := by decide +kernel
theorem dL_areCellsRight_65 : decode cL_areCellsRight 65 = .ok (.iconst 0, 1) := by decide +kernel
theorem dL_areCellsRight_66 : decode cL_areCellsRight 66 = .ok (.invokestatic 141, 3) := by decide +kernel
theorem dL_areCellsRight_69 : decode cL_areCellsRight 69 = .ok (.sipush (-2003), 3) := by decide +kernel
theorem dL_areCellsRight_72 : decode cL_areCellsRight 72 = .ok (.if_icmp .ne 39, 3) := by decide +kernel
theorem dL_areCellsRight_75 : decode cL_areCellsRight 75 = .ok (.aload_n 0, 1) := by decide +kernel
theorem dL_areCellsRight_76 : decode cL_areCellsRight 76 = .ok (.iconst 4, 1) := by decide +kernel
theorem dL_areCellsRight_77 : decode cL_areCellsRight 77 = .ok (.iconst 0, 1) := by decide +kernel
theorem dL_areCellsRight_78 : decode cL_areCellsRight 78 = .ok (.bipush 6, 2) := by decide +kernel
theorem dL_areCellsRight_80 : decode cL_areCellsRight 80 = .ok (.iconst 0, 1) := by decide +kernel
theorem dL_areCellsRight_81 : decode cL_areCellsRight 81 = .ok (.iconst 0, 1) := by decide +kernel
theorem dL_areCellsRight_82 : decode cL_areCellsRight 82 = .ok (.invokestatic 141, 3) := by decide +kernel
theorem dL_areCellsRight_85 : decode cL_areCellsRight 85 = .ok (.sipush (-2002), 3) := by decide +kernel
theorem dL_areCellsRight_88 : decode cL_areCellsRight 88 = .ok (.if_icmp .ne 23, 3) := by decide +kernel
theorem dL_areCellsRight_91 : decode cL_areCellsRight 91 = .ok (.aload_n 0, 1) := by decide +kernel
theorem dL_areCellsRight_92 : decode cL_areCellsRight 92 = .ok (.bipush 8, 2) := by decide +kernel
theorem dL_areCellsRight_94 : decode cL_areCellsRight 94 = .ok (.iconst 4, 1) := by decide +kernel
theorem dL_areCellsRight_95 : decode cL_areCellsRight 95 = .ok (.iconst 0, 1) := by decide +kernel
theorem dL_areCellsRight_96 : decode cL_areCellsRight 96 = .ok (.iconst 0, 1) := by decide +kernel
theorem dL_areCellsRight_97 : decode cL_areCellsRight 97 = .ok (.iconst 0, 1) := by decide +kernel
theorem dL_areCellsRight_98 : decode cL_areCellsRight 98 = .ok (.invokestatic 141, 3) := by decide +kernel
theorem dL_areCellsRight_101 : decode cL_areCellsRight 101 = .ok (.sipush (-2003), 3) := by decide +kernel
theorem dL_areCellsRight_104 : decode cL_areCellsRight 104 = .ok (.if_icmp .ne 7, 3) := by decide +kernel
theorem dL_areCellsRight_107 : decode cL_areCellsRight 107 = .ok (.iconst 1, 1) := by decide +kernel
theorem dL_areCellsRight_108 : decode cL_areCellsRight 108 = .ok (.goto 4, 3) := by decide +kernel
theorem dL_areCellsRight_111 : decode cL_areCellsRight 111 = .ok (.iconst 0, 1) := by decide +kernel
theorem dL_areCellsRight_112 : decode cL_areCellsRight 112 = .ok (.istore 6, 2) := by decide +kernel
theorem dL_areCellsRight_114 : decode cL_areCellsRight 114 = .ok (.iconst 0, 1) := by decide +kernel
theorem dL_areCellsRight_115 : decode cL_areCellsRight 115 = .ok (.istore 7, 2) := by decide +kernel
theorem dL_areCellsRight_117 : decode cL_areCellsRight 117 = .ok (.iload 7, 2) := by decide +kernel
theorem dL_areCellsRight_119 : decode cL_areCellsRight 119 = .ok (.bipush 30, 2) := by decide +kernel
theorem dL_areCellsRight_121 : decode cL_areCellsRight 121 = .ok (.if_icmp .ge 364, 3) := by decide +kernel
theorem dL_areCellsRight_124 : decode cL_areCellsRight 124 = .ok (.aload_n 0, 1) := by decide +kernel
theorem dL_areCellsRight_125 : decode cL_areCellsRight 125 = .ok (.iload 7, 2) := by decide +kernel
theorem dL_areCellsRight_127 : decode cL_areCellsRight 127 = .ok (.bipush 6, 2) := by decide +kernel
theorem dL_areCellsRight_129 : decode cL_areCellsRight 129 = .ok (.idiv, 1) := by decide +kernel
theorem dL_areCellsRight_130 : decode cL_areCellsRight 130 = .ok (.iload 7, 2) := by decide +kernel
theorem dL_areCellsRight_132 : decode cL_areCellsRight 132 = .ok (.bipush 6, 2) := by decide +kernel
theorem dL_areCellsRight_134 : decode cL_areCellsRight 134 = .ok (.irem, 1) := by decide +kernel
theorem dL_areCellsRight_135 : decode cL_areCellsRight 135 = .ok (.invokevirtual 68, 3) := by decide +kernel
theorem dL_areCellsRight_138 : decode cL_areCellsRight 138 = .ok (.istore 8, 2) := by decide +kernel
theorem dL_areCellsRight_140 : decode cL_areCellsRight 140 = .ok (.aload_n 0, 1) := by decide +kernel
theorem dL_areCellsRight_141 : decode cL_areCellsRight 141 = .ok (.iload 7, 2) := by decide +kernel
theorem dL_areCellsRight_143 : decode cL_areCellsRight 143 = .ok (.iload 8, 2) := by decide +kernel
theorem dL_areCellsRight_145 : decode cL_areCellsRight 145 = .ok (.invokestatic 154, 3) := by decide +kernel
theorem dL_areCellsRight_148 : decode cL_areCellsRight 148 = .ok (.istore 9, 2) := by decide +kernel
theorem dL_areCellsRight_150 : decode cL_areCellsRight 150 = .ok (.iload_n 2, 1) := by decide +kernel
theorem dL_areCellsRight_151 : decode cL_areCellsRight 151 = .ok (.iload 8, 2) := by decide +kernel
theorem dL_areCellsRight_153 : decode cL_areCellsRight 153 = .ok (.iadd, 1) := by decide +kernel
theorem dL_areCellsRight_154 : decode cL_areCellsRight 154 = .ok (.istore_n 2, 1) := by decide +kernel
theorem dL_areCellsRight_155 : decode cL_areCellsRight 155 = .ok (.aload 5, 2) := by decide +kernel
theorem dL_areCellsRight_157 : decode cL_areCellsRight 157 = .ok (.iload 8, 2) := by decide +kernel
theorem dL_areCellsRight_159 : decode cL_areCellsRight 159 = .ok (.dup2, 1) := by decide +kernel
theorem dL_areCellsRight_160 : decode cL_areCellsRight 160 = .ok (.iaload, 1) := by decide +kernel
theorem dL_areCellsRight_161 : decode cL_areCellsRight 161 = .ok (.iconst 1, 1) := by decide +kernel
theorem dL_areCellsRight_162 : decode cL_areCellsRight 162 = .ok (.iadd, 1) := by decide +kernel
theorem dL_areCellsRight_163 : decode cL_areCellsRight 163 = .ok (.iastore, 1) := by decide +kernel
theorem dL_areCellsRight_164 : decode cL_areCellsRight 164 = .ok (.iload 4, 2) := by decide +kernel
theorem dL_areCellsRight_166 : decode cL_areCellsRight 166 = .ok (.aload_n 0, 1) := by decide +kernel
theorem dL_areCellsRight_167 : decode cL_areCellsRight 167 = .ok (.iload 7, 2) := by decide +kernel
theorem dL_areCellsRight_169 : decode cL_areCellsRight 169 = .ok (.bipush 6, 2) := by decide +kernel
theorem dL_areCellsRight_171 : decode cL_areCellsRight 171 = .ok (.idiv, 1) := by decide +kernel
theorem dL_areCellsRight_172 : decode cL_areCellsRight 172 = .ok (.iload 7, 2) := by decide +kernel
theorem dL_areCellsRight_174 : decode cL_areCellsRight 174 = .ok (.bipush 6, 2) := by decide +kernel
theorem dL_areCellsRight_176 : decode cL_areCellsRight 176 = .ok (.irem, 1) := by decide +kernel
theorem dL_areCellsRight_177 : decode cL_areCellsRight 177 = .ok (.invokevirtual 138, 3) := by decide +kernel
theorem dL_areCellsRight_180 : decode cL_areCellsRight 180 = .ok (.iadd, 1) := by decide +kernel
theorem dL_areCellsRight_181 : decode cL_areCellsRight 181 = .ok (.istore 4, 2) := by decide +kernel
theorem dL_areCellsRight_183 : decode cL_areCellsRight 183 = .ok (.aload_n 0, 1) := by decide +kernel
theorem dL_areCellsRight_184 : decode cL_areCellsRight 184 = .ok (.iload 7, 2) := by decide +kernel
theorem dL_areCellsRight_186 : decode cL_areCellsRight 186 = .ok (.bipush 6, 2) := by decide +kernel
theorem dL_areCellsRight_188 : decode cL_areCellsRight 188 = .ok (.idiv, 1) := by decide +kernel
theorem dL_areCellsRight_189 : decode cL_areCellsRight 189 = .ok (.iload 7, 2) := by decide +kernel
theorem dL_areCellsRight_191 : decode cL_areCellsRight 191 = .ok (.bipush 6, 2) := by decide +kernel
theorem dL_areCellsRight_193 : decode cL_areCellsRight 193 = .ok (.irem, 1) := by decide +kernel
theorem dL_areCellsRight_194 : decode cL_areCellsRight 194 = .ok (.invokevirtual 135, 3) := by decide +kernel
theorem dL_areCellsRight_197 : decode cL_areCellsRight 197 = .ok (.ifCond .ne 47, 3) := by decide +kernel
theorem dL_areCellsRight_200 : decode cL_areCellsRight 200 = .ok (.iload 8, 2) := by decide +kernel
theorem dL_areCellsRight_202 : decode cL_areCellsRight 202 = .ok (.ifCond .le 42, 3) := by decide +kernel
theorem dL_areCellsRight_205 : decode cL_areCellsRight 205 = .ok (.aload_n 0, 1) := by decide +kernel
theorem dL_areCellsRight_206 : decode cL_areCellsRight 206 = .ok (.iload 7, 2) := by decide +kernel
theorem dL_areCellsRight_208 : decode cL_areCellsRight 208 = .ok (.bipush 6, 2) := by decide +kernel
theorem dL_areCellsRight_210 : decode cL_areCellsRight 210 = .ok (.idiv, 1) := by decide +kernel
theorem dL_areCellsRight_211 : decode cL_areCellsRight 211 = .ok (.iload 7, 2) := by decide +kernel
theorem dL_areCellsRight_213 : decode cL_areCellsRight 213 = .ok (.bipush 6, 2) := by decide +kernel
theorem dL_areCellsRight_215 : decode cL_areCellsRight 215 = .ok (.irem, 1) := by decide +kernel
theorem dL_areCellsRight_216 : decode cL_areCellsRight 216 = .ok (.invokevirtual 138, 3) := by decide +kernel
theorem dL_areCellsRight_219 : decode cL_areCellsRight 219 = .ok (.iconst 3, 1) := by decide +kernel
theorem dL_areCellsRight_220 : decode cL_areCellsRight 220 = .ok (.if_icmp .ge 24, 3) := by decide +kernel
theorem dL_areCellsRight_223 : decode cL_areCellsRight 223 = .ok (.aload_n 0, 1) := by decide +kernel
theorem dL_areCellsRight_224 : decode cL_areCellsRight 224 = .ok (.iload 7, 2) := by decide +kernel
theorem dL_areCellsRight_226 : decode cL_areCellsRight 226 = .ok (.iload 8, 2) := by decide +kernel
theorem dL_areCellsRight_228 : decode cL_areCellsRight 228 = .ok (.iconst 1, 1) := by decide +kernel
theorem dL_areCellsRight_229 : decode cL_areCellsRight 229 = .ok (.isub, 1) := by decide +kernel
theorem dL_areCellsRight_230 : decode cL_areCellsRight 230 = .ok (.invokestatic 154, 3) := by decide +kernel
theorem dL_areCellsRight_233 : decode cL_areCellsRight 233 = .ok (.aload_n 0, 1) := by decide +kernel
theorem dL_areCellsRight_234 : decode cL_areCellsRight 234 = .ok (.invokevirtual 119, 3) := by decide +kernel
theorem dL_areCellsRight_237 : decode cL_areCellsRight 237 = .ok (.if_icmp .gt 7, 3) := by decide +kernel
theorem dL_areCellsRight_240 : decode cL_areCellsRight 240 = .ok (.iconst 1, 1) := by decide +kernel
theorem dL_areCellsRight_241 : decode cL_areCellsRight 241 = .ok (.goto 4, 3) := by decide +kernel
theorem dL_areCellsRight_244 : decode cL_areCellsRight 244 = .ok (.iconst 0, 1) := by decide +kernel
theorem dL_areCellsRight_245 : decode cL_areCellsRight 245 = .ok (.istore 10, 2) := by decide +kernel
theorem dL_areCellsRight_247 : decode cL_areCellsRight 247 = .ok (.iload_n 3, 1) := by decide +kernel
theorem dL_areCellsRight_248 : decode cL_areCellsRight 248 = .ok (.iload 10, 2) := by decide +kernel
theorem dL_areCellsRight_250 : decode cL_areCellsRight 250 = .ok (.invokestatic 32, 3) := by decide +kernel
theorem dL_areCellsRight_253 : decode cL_areCellsRight 253 = .ok (.iadd, 1) := by decide +kernel
theorem dL_areCellsRight_254 : decode cL_areCellsRight 254 = .ok (.istore_n 3, 1) := by decide +kernel
theorem dL_areCellsRight_255 : decode cL_areCellsRight 255 = .ok (.iload_n 1, 1) := by decide +kernel
theorem dL_areCellsRight_256 : decode cL_areCellsRight 256 = .ok (.iload 8, 2) := by decide +kernel
theorem dL_areCellsRight_258 : decode cL_areCellsRight 258 = .ok (.invokestatic 158, 3) := by decide +kernel
theorem dL_areCellsRight_261 : decode cL_areCellsRight 261 = .ok (.istore 11, 2) := by decide +kernel
theorem dL_areCellsRight_263 : decode cL_areCellsRight 263 = .ok (.iconst 0, 1) := by decide +kernel
theorem dL_areCellsRight_264 : decode cL_areCellsRight 264 = .ok (.istore 12, 2) := by decide +kernel
theorem dL_areCellsRight_266 : decode cL_areCellsRight 266 = .ok (.iconst 0, 1) := by decide +kernel
theorem dL_areCellsRight_267 : decode cL_areCellsRight 267 = .ok (.istore 13, 2) := by decide +kernel
theorem dL_areCellsRight_269 : decode cL_areCellsRight 269 = .ok (.iload 13, 2) := by decide +kernel
theorem dL_areCellsRight_271 : decode cL_areCellsRight 271 = .ok (.bipush 30, 2) := by decide +kernel
theorem dL_areCellsRight_273 : decode cL_areCellsRight 273 = .ok (.if_icmp .ge 48, 3) := by decide +kernel
theorem dL_areCellsRight_276 : decode cL_areCellsRight 276 = .ok (.iload 12, 2) := by decide +kernel
theorem dL_areCellsRight_278 : decode cL_areCellsRight 278 = .ok (.iconst 0, 1) := by decide +kernel
theorem dL_areCellsRight_279 : decode cL_areCellsRight 279 = .ok (.aload_n 0, 1) := by decide +kernel
theorem dL_areCellsRight_280 : decode cL_areCellsRight 280 = .ok (.iload 13, 2) := by decide +kernel
theorem dL_areCellsRight_282 : decode cL_areCellsRight 282 = .ok (.bipush 6, 2) := by decide +kernel
theorem dL_areCellsRight_284 : decode cL_areCellsRight 284 = .ok (.idiv, 1) := by decide +kernel
theorem dL_areCellsRight_285 : decode cL_areCellsRight 285 = .ok (.iload 13, 2) := by decide +kernel
theorem dL_areCellsRight_287 : decode cL_areCellsRight 287 = .ok (.bipush 6, 2) := by decide +kernel
theorem dL_areCellsRight_289 : decode cL_areCellsRight 289 = .ok (.irem, 1) := by decide +kernel
theorem dL_areCellsRight_290 : decode cL_areCellsRight 290 = .ok (.invokevirtual 68, 3) := by decide +kernel
theorem dL_areCellsRight_293 : decode cL_areCellsRight 293 = .ok (.iload 11, 2) := by decide +kernel
theorem dL_areCellsRight_295 : decode cL_areCellsRight 295 = .ok (.isub, 1) := by decide +kernel
theorem dL_areCellsRight_296 : decode cL_areCellsRight 296 = .ok (.aload_n 0, 1) := by decide +kernel
theorem dL_areCellsRight_297 : decode cL_areCellsRight 297 = .ok (.invokevirtual 119, 3) := by decide +kernel
theorem dL_areCellsRight_300 : decode cL_areCellsRight 300 = .ok (.iload 7, 2) := by decide +kernel
theorem dL_areCellsRight_302 : decode cL_areCellsRight 302 = .ok (.iload 13, 2) := by decide +kernel
theorem dL_areCellsRight_304 : decode cL_areCellsRight 304 = .ok (.invokestatic 161, 3) := by decide +kernel
theorem dL_areCellsRight_307 : decode cL_areCellsRight 307 = .ok (.imul, 1) := by decide +kernel
theorem dL_areCellsRight_308 : decode cL_areCellsRight 308 = .ok (.isub, 1) := by decide +kernel
theorem dL_areCellsRight_309 : decode cL_areCellsRight 309 = .ok (.invokestatic 114, 3) := by decide +kernel
theorem dL_areCellsRight_312 : decode cL_areCellsRight 312 = .ok (.iadd, 1) := by decide +kernel
theorem dL_areCellsRight_313 : decode cL_areCellsRight 313 = .ok (.istore 12, 2) := by decide +kernel
theorem dL_areCellsRight_315 : decode cL_areCellsRight 315 = .ok (.iinc 13 1, 3) := by decide +kernel
theorem dL_areCellsRight_318 : decode cL_areCellsRight 318 = .ok (.goto (-49), 3) := by decide +kernel
theorem dL_areCellsRight_321 : decode cL_areCellsRight 321 = .ok (.iload 6, 2) := by decide +kernel
theorem dL_areCellsRight_323 : decode cL_areCellsRight 323 = .ok (.ifCond .eq 153, 3) := by decide +kernel
theorem dL_areCellsRight_326 : decode cL_areCellsRight 326 = .ok (.aload_n 0, 1) := by decide +kernel
theorem dL_areCellsRight_327 : decode cL_areCellsRight 327 = .ok (.iload 7, 2) := by decide +kernel
theorem dL_areCellsRight_329 : decode cL_areCellsRight 329 = .ok (.bipush 6, 2) := by decide +kernel
theorem dL_areCellsRight_331 : decode cL_areCellsRight 331 = .ok (.idiv, 1) := by decide +kernel
theorem dL_areCellsRight_332 : decode cL_areCellsRight 332 = .ok (.iload 7, 2) := by decide +kernel
theorem dL_areCellsRight_334 : decode cL_areCellsRight 334 = .ok (.bipush 6, 2) := by decide +kernel
theorem dL_areCellsRight_336 : decode cL_areCellsRight 336 = .ok (.irem, 1) := by decide +kernel
theorem dL_areCellsRight_337 : decode cL_areCellsRight 337 = .ok (.invokevirtual 164, 3) := by decide +kernel
theorem dL_areCellsRight_340 : decode cL_areCellsRight 340 = .ok (.iload 9, 2) := by decide +kernel
theorem dL_areCellsRight_342 : decode cL_areCellsRight 342 = .ok (.if_icmp .ne 134, 3) := by decide +kernel
theorem dL_areCellsRight_345 : decode cL_areCellsRight 345 = .ok (.iload 9, 2) := by decide +kernel
theorem dL_areCellsRight_347 : decode cL_areCellsRight 347 = .ok (.aload_n 0, 1) := by decide +kernel
theorem dL_areCellsRight_348 : decode cL_areCellsRight 348 = .ok (.invokevirtual 119, 3) := by decide +kernel
theorem dL_areCellsRight_351 : decode cL_areCellsRight 351 = .ok (.if_icmp .gt 125, 3) := by decide +kernel
theorem dL_areCellsRight_354 : decode cL_areCellsRight 354 = .ok (.aload_n 0, 1) := by decide +kernel
theorem dL_areCellsRight_355 : decode cL_areCellsRight 355 = .ok (.iload 7, 2) := by decide +kernel
theorem dL_areCellsRight_357 : decode cL_areCellsRight 357 = .ok (.bipush 6, 2) := by decide +kernel
theorem dL_areCellsRight_359 : decode cL_areCellsRight 359 = .ok (.idiv, 1) := by decide +kernel
theorem dL_areCellsRight_360 : decode cL_areCellsRight 360 = .ok (.iload 7, 2) := by decide +kernel
theorem dL_areCellsRight_362 : decode cL_areCellsRight 362 = .ok (.bipush 6, 2) := by decide +kernel
theorem dL_areCellsRight_364 : decode cL_areCellsRight 364 = .ok (.irem, 1) := by decide +kernel
theorem dL_areCellsRight_365 : decode cL_areCellsRight 365 = .ok (.invokevirtual 167, 3) := by decide +kernel
theorem dL_areCellsRight_368 : decode cL_areCellsRight 368 = .ok (.iload 10, 2) := by decide +kernel
theorem dL_areCellsRight_370 : decode cL_areCellsRight 370 = .ok (.if_icmp .ne 106, 3) := by decide +kernel
theorem dL_areCellsRight_373 : decode cL_areCellsRight 373 = .ok (.aload_n 0, 1) := by decide +kernel
theorem dL_areCellsRight_374 : decode cL_areCellsRight 374 = .ok (.iconst 3, 1) := by decide +kernel
theorem dL_areCellsRight_375 : decode cL_areCellsRight 375 = .ok (.iload 7, 2) := by decide +kernel
theorem dL_areCellsRight_377 : decode cL_areCellsRight 377 = .ok (.bipush 6, 2) := by decide +kernel
theorem dL_areCellsRight_379 : decode cL_areCellsRight 379 = .ok (.idiv, 1) := by decide +kernel
theorem dL_areCellsRight_380 : decode cL_areCellsRight 380 = .ok (.iload 7, 2) := by decide +kernel
theorem dL_areCellsRight_382 : decode cL_areCellsRight 382 = .ok (.bipush 6, 2) := by decide +kernel
theorem dL_areCellsRight_384 : decode cL_areCellsRight 384 = .ok (.irem, 1) := by decide +kernel
theorem dL_areCellsRight_385 : decode cL_areCellsRight 385 = .ok (.iload 11, 2) := by decide +kernel
theorem dL_areCellsRight_387 : decode cL_areCellsRight 387 = .ok (.iconst 0, 1) := by decide +kernel
theorem dL_areCellsRight_388 : decode cL_areCellsRight 388 = .ok (.invokestatic 141, 3) := by decide +kernel
theorem dL_areCellsRight_391 : decode cL_areCellsRight 391 = .ok (.iload 12, 2) := by decide +kernel
theorem dL_areCellsRight_393 : decode cL_areCellsRight 393 = .ok (.if_icmp .ne 83, 3) := by decide +kernel
theorem dL_areCellsRight_396 : decode cL_areCellsRight 396 = .ok (.aload_n 0, 1) := by decide +kernel
theorem dL_areCellsRight_397 : decode cL_areCellsRight 397 = .ok (.iconst 4, 1) := by decide +kernel
theorem dL_areCellsRight_398 : decode cL_areCellsRight 398 = .ok (.iload 7, 2) := by decide +kernel
theorem dL_areCellsRight_400 : decode cL_areCellsRight 400 = .ok (.bipush 6, 2) := by decide +kernel
theorem dL_areCellsRight_402 : decode cL_areCellsRight 402 = .ok (.idiv, 1) := by decide +kernel
theorem dL_areCellsRight_403 : decode cL_areCellsRight 403 = .ok (.iload 7, 2) := by decide +kernel
theorem dL_areCellsRight_405 : decode cL_areCellsRight 405 = .ok (.bipush 6, 2) := by decide +kernel
theorem dL_areCellsRight_407 : decode cL_areCellsRight 407 = .ok (.irem, 1) := by decide +kernel
theorem dL_areCellsRight_408 : decode cL_areCellsRight 408 = .ok (.iload 11, 2) := by decide +kernel
theorem dL_areCellsRight_410 : decode cL_areCellsRight 410 = .ok (.iconst 0, 1) := by decide +kernel
theorem dL_areCellsRight_411 : decode cL_areCellsRight 411 = .ok (.invokestatic 141, 3) := by decide +kernel
theorem dL_areCellsRight_414 : decode cL_areCellsRight 414 = .ok (.iload 12, 2) := by decide +kernel
theorem dL_areCellsRight_416 : decode cL_areCellsRight 416 = .ok (.if_icmp .ne 60, 3) := by decide +kernel
theorem dL_areCellsRight_419 : decode cL_areCellsRight 419 = .ok (.aload_n 0, 1) := by decide +kernel
theorem dL_areCellsRight_420 : decode cL_areCellsRight 420 = .ok (.iload 7, 2) := by decide +kernel
theorem dL_areCellsRight_422 : decode cL_areCellsRight 422 = .ok (.bipush 6, 2) := by decide +kernel
theorem dL_areCellsRight_424 : decode cL_areCellsRight 424 = .ok (.idiv, 1) := by decide +kernel
theorem dL_areCellsRight_425 : decode cL_areCellsRight 425 = .ok (.iload 7, 2) := by decide +kernel
theorem dL_areCellsRight_427 : decode cL_areCellsRight 427 = .ok (.bipush 6, 2) := by decide +kernel
theorem dL_areCellsRight_429 : decode cL_areCellsRight 429 = .ok (.irem, 1) := by decide +kernel
theorem dL_areCellsRight_430 : decode cL_areCellsRight 430 = .ok (.invokevirtual 138, 3) := by decide +kernel
theorem dL_areCellsRight_433 : decode cL_areCellsRight 433 = .ok (.ifCond .ne 7, 3) := by decide +kernel
theorem dL_areCellsRight_436 : decode cL_areCellsRight 436 = .ok (.iconst 1, 1) := by decide +kernel
theorem dL_areCellsRight_437 : decode cL_areCellsRight 437 = .ok (.goto 4, 3) := by decide +kernel
theorem dL_areCellsRight_440 : decode cL_areCellsRight 440 = .ok (.iconst 0, 1) := by decide +kernel
theorem dL_areCellsRight_441 : decode cL_areCellsRight 441 = .ok (.aload_n 0, 1) := by decide +kernel
theorem dL_areCellsRight_442 : decode cL_areCellsRight 442 = .ok (.iconst 1, 1) := by decide +kernel
theorem dL_areCellsRight_443 : decode cL_areCellsRight 443 = .ok (.iload 7, 2) := by decide +kernel
theorem dL_areCellsRight_445 : decode cL_areCellsRight 445 = .ok (.bipush 6, 2) := by decide +kernel
theorem dL_areCellsRight_447 : decode cL_areCellsRight 447 = .ok (.idiv, 1) := by decide +kernel
theorem dL_areCellsRight_448 : decode cL_areCellsRight 448 = .ok (.iload 7, 2) := by decide +kernel
theorem dL_areCellsRight_450 : decode cL_areCellsRight 450 = .ok (.bipush 6, 2) := by decide +kernel
theorem dL_areCellsRight_452 : decode cL_areCellsRight 452 = .ok (.irem, 1) := by decide +kernel
theorem dL_areCellsRight_453 : decode cL_areCellsRight 453 = .ok (.iconst 0, 1) := by decide +kernel
theorem dL_areCellsRight_454 : decode cL_areCellsRight 454 = .ok (.iconst 0, 1) := by decide +kernel
theorem dL_areCellsRight_455 : decode cL_areCellsRight 455 = .ok (.invokestatic 141, 3) := by decide +kernel
theorem dL_areCellsRight_458 : decode cL_areCellsRight 458 = .ok (.sipush (-2004), 3) := by decide +kernel
theorem dL_areCellsRight_461 : decode cL_areCellsRight 461 = .ok (.if_icmp .ne 7, 3) := by decide +kernel
theorem dL_areCellsRight_464 : decode cL_areCellsRight 464 = .ok (.iconst 1, 1) := by decide +kernel
theorem dL_areCellsRight_465 : decode cL_areCellsRight 465 = .ok (.goto 4, 3) := by decide +kernel
theorem dL_areCellsRight_468 : decode cL_areCellsRight 468 = .ok (.iconst 0, 1) := by decide +kernel
theorem dL_areCellsRight_469 : decode cL_areCellsRight 469 = .ok (.if_icmp .ne 7, 3) := by decide +kernel
theorem dL_areCellsRight_472 : decode cL_areCellsRight 472 = .ok (.iconst 1, 1) := by decide +kernel
theorem dL_areCellsRight_473 : decode cL_areCellsRight 473 = .ok (.goto 4, 3) := by decide +kernel
theorem dL_areCellsRight_476 : decode cL_areCellsRight 476 = .ok (.iconst 0, 1) := by decide +kernel
theorem dL_areCellsRight_477 : decode cL_areCellsRight 477 = .ok (.istore 6, 2) := by decide +kernel
theorem dL_areCellsRight_479 : decode cL_areCellsRight 479 = .ok (.iinc 7 1, 3) := by decide +kernel
theorem dL_areCellsRight_482 : decode cL_areCellsRight 482 = .ok (.goto (-365), 3) := by decide +kernel
theorem dL_areCellsRight_485 : decode cL_areCellsRight 485 = .ok (.iconst 0, 1) := by decide +kernel
theorem dL_areCellsRight_486 : decode cL_areCellsRight 486 = .ok (.istore 7, 2) := by decide +kernel
theorem dL_areCellsRight_488 : decode cL_areCellsRight 488 = .ok (.iload 7, 2) := by decide +kernel
theorem dL_areCellsRight_490 : decode cL_areCellsRight 490 = .ok (.bipush 10, 2) := by decide +kernel
theorem dL_areCellsRight_492 : decode cL_areCellsRight 492 = .ok (.if_icmp .ge 35, 3) := by decide +kernel
theorem dL_areCellsRight_495 : decode cL_areCellsRight 495 = .ok (.iload 6, 2) := by decide +kernel
theorem dL_areCellsRight_497 : decode cL_areCellsRight 497 = .ok (.ifCond .eq 21, 3) := by decide +kernel
theorem dL_areCellsRight_500 : decode cL_areCellsRight 500 = .ok (.aload_n 0, 1) := by decide +kernel
theorem dL_areCellsRight_501 : decode cL_areCellsRight 501 = .ok (.iload 7, 2) := by decide +kernel
theorem dL_areCellsRight_503 : decode cL_areCellsRight 503 = .ok (.invokevirtual 74, 3) := by decide +kernel
theorem dL_areCellsRight_506 : decode cL_areCellsRight 506 = .ok (.aload 5, 2) := by decide +kernel
theorem dL_areCellsRight_508 : decode cL_areCellsRight 508 = .ok (.iload 7, 2) := by decide +kernel
theorem dL_areCellsRight_510 : decode cL_areCellsRight 510 = .ok (.iaload, 1) := by decide +kernel
theorem dL_areCellsRight_511 : decode cL_areCellsRight 511 = .ok (.if_icmp .ne 7, 3) := by decide +kernel
theorem dL_areCellsRight_514 : decode cL_areCellsRight 514 = .ok (.iconst 1, 1) := by decide +kernel
theorem dL_areCellsRight_515 : decode cL_areCellsRight 515 = .ok (.goto 4, 3) := by decide +kernel
theorem dL_areCellsRight_518 : decode cL_areCellsRight 518 = .ok (.iconst 0, 1) := by decide +kernel
theorem dL_areCellsRight_519 : decode cL_areCellsRight 519 = .ok (.istore 6, 2) := by decide +kernel
theorem dL_areCellsRight_521 : decode cL_areCellsRight 521 = .ok (.iinc 7 1, 3) := by decide +kernel
theorem dL_areCellsRight_524 : decode cL_areCellsRight 524 = .ok (.goto (-36), 3) := by decide +kernel
theorem dL_areCellsRight_527 : decode cL_areCellsRight 527 = .ok (.aload_n 0, 1) := by decide +kernel
theorem dL_areCellsRight_528 : decode cL_areCellsRight 528 = .ok (.invokevirtual 125, 3) := by decide +kernel
theorem dL_areCellsRight_531 : decode cL_areCellsRight 531 = .ok (.iload 4, 2) := by decide +kernel
theorem dL_areCellsRight_533 : decode cL_areCellsRight 533 = .ok (.isub, 1) := by decide +kernel
theorem dL_areCellsRight_534 : decode cL_areCellsRight 534 = .ok (.istore 7, 2) := by decide +kernel
theorem dL_areCellsRight_536 : decode cL_areCellsRight 536 = .ok (.iload 6, 2) := by decide +kernel
theorem dL_areCellsRight_538 : decode cL_areCellsRight 538 = .ok (.ifCond .eq 36, 3) := by decide +kernel
theorem dL_areCellsRight_541 : decode cL_areCellsRight 541 = .ok (.aload_n 0, 1) := by decide +kernel
theorem dL_areCellsRight_542 : decode cL_areCellsRight 542 = .ok (.invokevirtual 170, 3) := by decide +kernel
theorem dL_areCellsRight_545 : decode cL_areCellsRight 545 = .ok (.iload_n 3, 1) := by decide +kernel
theorem dL_areCellsRight_546 : decode cL_areCellsRight 546 = .ok (.if_icmp .ne 28, 3) := by decide +kernel
theorem dL_areCellsRight_549 : decode cL_areCellsRight 549 = .ok (.aload_n 0, 1) := by decide +kernel
theorem dL_areCellsRight_550 : decode cL_areCellsRight 550 = .ok (.invokevirtual 173, 3) := by decide +kernel
theorem dL_areCellsRight_553 : decode cL_areCellsRight 553 = .ok (.iload_n 2, 1) := by decide +kernel
theorem dL_areCellsRight_554 : decode cL_areCellsRight 554 = .ok (.i2d, 1) := by decide +kernel
theorem dL_areCellsRight_555 : decode cL_areCellsRight 555 = .ok (.ldc2_w 177, 3) := by decide +kernel
theorem dL_areCellsRight_558 : decode cL_areCellsRight 558 = .ok (.ddiv, 1) := by decide +kernel
theorem dL_areCellsRight_559 : decode cL_areCellsRight 559 = .ok (.dcmp .l, 1) := by decide +kernel
theorem dL_areCellsRight_560 : decode cL_areCellsRight 560 = .ok (.ifCond .ne 14, 3) := by decide +kernel
theorem dL_areCellsRight_563 : decode cL_areCellsRight 563 = .ok (.aload_n 0, 1) := by decide +kernel
theorem dL_areCellsRight_564 : decode cL_areCellsRight 564 = .ok (.invokevirtual 179, 3) := by decide +kernel
theorem dL_areCellsRight_567 : decode cL_areCellsRight 567 = .ok (.ifCond .eq 7, 3) := by decide +kernel
theorem dL_areCellsRight_570 : decode cL_areCellsRight 570 = .ok (.iconst 1, 1) := by decide +kernel
theorem dL_areCellsRight_571 : decode cL_areCellsRight 571 = .ok (.goto 4, 3) := by decide +kernel
theorem dL_areCellsRight_574 : decode cL_areCellsRight 574 = .ok (.iconst 0, 1) := by decide +kernel
theorem dL_areCellsRight_575 : decode cL_areCellsRight 575 = .ok (.istore 6, 2) := by decide +kernel
theorem dL_areCellsRight_577 : decode cL_areCellsRight 577 = .ok (.iload 6, 2) := by decide +kernel
theorem dL_areCellsRight_579 : decode cL_areCellsRight 579 = .ok (.ifCond .eq 31, 3) := by decide +kernel
theorem dL_areCellsRight_582 : decode cL_areCellsRight 582 = .ok (.aload_n 0, 1) := by decide +kernel
theorem dL_areCellsRight_583 : decode cL_areCellsRight 583 = .ok (.invokevirtual 125, 3) := by decide +kernel
theorem dL_areCellsRight_586 : decode cL_areCellsRight 586 = .ok (.ifCond .eq 20, 3) := by decide +kernel
theorem dL_areCellsRight_589 : decode cL_areCellsRight 589 = .ok (.aload_n 0, 1) := by decide +kernel
theorem dL_areCellsRight_590 : decode cL_areCellsRight 590 = .ok (.invokevirtual 183, 3) := by decide +kernel
theorem dL_areCellsRight_593 : decode cL_areCellsRight 593 = .ok (.iload 7, 2) := by decide +kernel
theorem dL_areCellsRight_595 : decode cL_areCellsRight 595 = .ok (.i2f, 1) := by decide +kernel
theorem dL_areCellsRight_596 : decode cL_areCellsRight 596 = .ok (.aload_n 0, 1) := by decide +kernel
theorem dL_areCellsRight_597 : decode cL_areCellsRight 597 = .ok (.invokevirtual 125, 3) := by decide +kernel
theorem dL_areCellsRight_600 : decode cL_areCellsRight 600 = .ok (.i2f, 1) := by decide +kernel
theorem dL_areCellsRight_601 : decode cL_areCellsRight 601 = .ok (.fdiv, 1) := by decide +kernel
theorem dL_areCellsRight_602 : decode cL_areCellsRight 602 = .ok (.fcmp .l, 1) := by decide +kernel
theorem dL_areCellsRight_603 : decode cL_areCellsRight 603 = .ok (.ifCond .ne 7, 3) := by decide +kernel
theorem dL_areCellsRight_606 : decode cL_areCellsRight 606 = .ok (.iconst 1, 1) := by decide +kernel
theorem dL_areCellsRight_607 : decode cL_areCellsRight 607 = .ok (.goto 4, 3) := by decide +kernel
theorem dL_areCellsRight_610 : decode cL_areCellsRight 610 = .ok (.iconst 0, 1) := by decide +kernel
theorem dL_areCellsRight_611 : decode cL_areCellsRight 611 = .ok (.ireturn, 1) := by decide +kernel
set_option maxRecDepth 20000 in
theorem ggL_areSeamsRight_X10_height : GoodIn wsL_areSeamsRight wsX10_height := goodIn_ca (goodIn_ca (goodIn_ca (goodIn_ca (goodIn_ca (goodIn_ca (goodIn_r _ [10, 11, 12, 13, 14, 15, 16, 17, 18, 19, 20, 21, 22, 9, 23, 24, 25, 26, 27, 28, 29, 30, 31, 32, 33, 34, 35, 36, 37, 38, 39, 40, 41, 42, 43, 44, 45, 46, 47, 48, 49, 50, 131, 132, 133, 134, 135, 136, 137, 138, 139, 140, 141, 142, 143, 144, 145, 146, 147, 148, 149, 150, 151, 152, 153, 154] (by decide +kernel) (by decide +kernel)) (goodIn_sub (fun _ h => List.mem_cons_of_mem _ (List.mem_append_left _ (List.mem_append_left _ (List.mem_append_left _ (List.mem_append_left _ (List.mem_append_left _ (List.mem_append_right _ h))))))) (by decide +kernel))) (goodIn_sub (fun _ h => List.mem_cons_of_mem _ (List.mem_append_left _ (List.mem_append_left _ (List.mem_append_left _ (List.mem_append_left _ (List.mem_append_right _ h)))))) (by decide +kernel))) (goodIn_sub (fun _ h => List.mem_cons_of_mem _ (List.mem_append_left _ (List.mem_append_left _ (List.mem_append_left _ (List.mem_append_right _ h))))) (by decide +kernel))) (goodIn_sub (fun _ h => List.mem_cons_of_mem _ (List.mem_append_left _ (List.mem_append_left _ (List.mem_append_right _ h)))) (by decide +kernel))) (goodIn_sub (fun _ h => List.mem_cons_of_mem _ (List.mem_append_left _ (List.mem_append_right _ h))) (by decide +kernel))) (goodIn_sub (fun _ h => List.mem_cons_of_mem _ (List.mem_append_right _ h)) (by decide +kernel))
set_option maxRecDepth 20000 in
theorem gL_areSeamsRight_X10_height : GoodIn wsL_areSeamsRight (wsV RL 68 RX10 yX10_height wsX10_height) := goodIn_app (goodIn_of _ (by decide +kernel)) ggL_areSeamsRight_X10_height
set_option maxRecDepth 20000 in
theorem ggL_areSeamsRight_L_far : GoodIn wsL_areSeamsRight wsL_far := goodIn_r _ [54, 55, 56, 4, 57] (by decide +kernel) (by decide +kernel)
set_option maxRecDepth 20000 in
theorem gL_areSeamsRight_L_far : GoodIn wsL_areSeamsRight (va_wsS RL 161 yL_far wsL_far) := goodIn_app (goodIn_of _ (by decide +kernel)) ggL_areSeamsRight_L_far
set_option maxRecDepth 20000 in
theorem ggL_areSeamsRight_X10_stone : GoodIn wsL_areSeamsRight wsX10_stone := goodIn_ca (goodIn_ca (goodIn_ca (goodIn_ca (goodIn_ca (goodIn_ca (goodIn_r _ [61, 11, 12, 13, 14, 15, 16, 17, 18, 19, 20, 21, 22, 9, 23, 24, 25, 26, 27, 28, 29, 30, 31, 32, 33, 34, 35, 36, 37, 38, 39, 40, 41, 42, 43, 44, 62, 63, 64, 48, 65, 66, 131, 132, 133, 134, 135, 136, 137, 138, 139, 140, 141, 142, 143, 144, 145, 146, 147, 148, 149, 150, 151, 152, 153, 154] (by decide +kernel) (by decide +kernel)) (goodIn_sub (fun _ h => List.mem_cons_of_mem _ (List.mem_append_left _ (List.mem_append_left _ (List.mem_append_left _ (List.mem_append_left _ (List.mem_append_left _ (List.mem_append_right _ h))))))) (by decide +kernel))) (goodIn_sub (fun _ h => List.mem_cons_of_mem _ (List.mem_append_left _ (List.mem_append_left _ (List.mem_append_left _ (List.mem_append_left _ (List.mem_append_right _ h)))))) (by decide +kernel))) (goodIn_sub (fun _ h => List.mem_cons_of_mem _ (List.mem_append_left _ (List.mem_append_left _ (List.mem_append_left _ (List.mem_append_right _ h))))) (by decide +kernel))) (goodIn_sub (fun _ h => List.mem_cons_of_mem _ (List.mem_append_left _ (List.mem_append_left _ (List.mem_append_right _ h)))) (by decide +kernel))) (goodIn_sub (fun _ h => List.mem_cons_of_mem _ (List.mem_append_left _ (List.mem_append_right _ h))) (by decide +kernel))) (goodIn_sub (fun _ h => List.mem_cons_of_mem _ (List.mem_append_right _ h)) (by decide +kernel))
set_option maxRecDepth 20000 in
theorem gL_areSeamsRight_X10_stone : GoodIn wsL_areSeamsRight (wsV RL 132 RX10 yX10_stone wsX10_stone) := goodIn_app (goodIn_of _ (by decide +kernel)) ggL_areSeamsRight_X10_stone
set_option maxRecDepth 20000 in
theorem ggL_areSeamsRight_L_told : GoodIn wsL_areSeamsRight wsL_told := goodIn_r _ [69] (by decide +kernel) (by decide +kernel)
set_option maxRecDepth 20000 in
theorem gL_areSeamsRight_L_told : GoodIn wsL_areSeamsRight (va_wsS RL 32 yL_told wsL_told) := goodIn_app (goodIn_of _ (by decide +kernel)) ggL_areSeamsRight_L_told
set_option maxRecDepth 20000 in
theorem ggL_areSeamsRight_X10_seamSize : GoodIn wsL_areSeamsRight wsX10_seamSize := goodIn_ca (goodIn_ca (goodIn_ca (goodIn_ca (goodIn_ca (goodIn_ca (goodIn_r _ [73, 74, 11, 12, 13, 14, 15, 16, 17, 18, 19, 20, 21, 22, 9, 23, 24, 25, 26, 27, 28, 29, 30, 31, 32, 33, 34, 35, 36, 37, 38, 39, 40, 41, 42, 43, 44, 75, 76, 77, 78, 79, 80, 81, 82, 83, 84, 85, 86, 87, 88, 89, 90, 46, 47, 48, 49, 50, 91, 92, 93, 94, 95, 96, 97, 63, 64, 65, 66, 131, 132, 133, 134, 135, 136, 137, 138, 139, 155, 156, 157, 158, 159, 140, 141, 142, 143, 144, 145, 146, 147, 148, 149, 150, 151, 152, 153, 154] (by decide +kernel) (by decide +kernel)) (goodIn_sub (fun _ h => List.mem_cons_of_mem _ (List.mem_append_left _ (List.mem_append_left _ (List.mem_append_left _ (List.mem_append_left _ (List.mem_append_left _ (List.mem_append_right _ h))))))) (by decide +kernel))) (goodIn_sub (fun _ h => List.mem_cons_of_mem _ (List.mem_append_left _ (List.mem_append_left _ (List.mem_append_left _ (List.mem_append_left _ (List.mem_append_right _ h)))))) (by decide +kernel))) (goodIn_sub (fun _ h => List.mem_cons_of_mem _ (List.mem_append_left _ (List.mem_append_left _ (List.mem_append_left _ (List.mem_append_right _ h))))) (by decide +kernel))) (goodIn_sub (fun _ h => List.mem_cons_of_mem _ (List.mem_append_left _ (List.mem_append_left _ (List.mem_append_right _ h)))) (by decide +kernel))) (goodIn_sub (fun _ h => List.mem_cons_of_mem _ (List.mem_append_left _ (List.mem_append_right _ h))) (by decide +kernel))) (goodIn_sub (fun _ h => List.mem_cons_of_mem _ (List.mem_append_right _ h)) (by decide +kernel))
set_option maxRecDepth 20000 in
theorem gL_areSeamsRight_X10_seamSize : GoodIn wsL_areSeamsRight (wsV RL 187 RX10 yX10_seamSize wsX10_seamSize) := goodIn_app (goodIn_of _ (by decide +kernel)) ggL_areSeamsRight_X10_seamSize
set_option maxRecDepth 20000 in
theorem ggL_areSeamsRight_X10_seamVolume : GoodIn wsL_areSeamsRight wsX10_seamVolume := goodIn_ca (goodIn_ca (goodIn_ca (goodIn_ca (goodIn_ca (goodIn_ca (goodIn_r _ [101, 74, 11, 12, 13, 14, 15, 16, 17, 18, 19, 20, 21, 22, 9, 23, 24, 25, 26, 27, 28, 29, 30, 31, 32, 33, 34, 35, 36, 37, 38, 39, 40, 41, 42, 43, 44, 102, 103, 104, 78, 105, 89, 80, 81, 82, 83, 84, 85, 86, 87, 88, 90, 46, 47, 48, 49, 50, 91, 92, 93, 94, 95, 96, 97, 63, 64, 65, 66, 131, 132, 133, 134, 135, 136, 137, 138, 139, 155, 156, 157, 158, 159, 140, 141, 142, 143, 144, 145, 146, 147, 148, 149, 150, 151, 152, 153, 154] (by decide +kernel) (by decide +kernel)) (goodIn_sub (fun _ h => List.mem_cons_of_mem _ (List.mem_append_left _ (List.mem_append_left _ (List.mem_append_left _ (List.mem_append_left _ (List.mem_append_left _ (List.mem_append_right _ h))))))) (by decide +kernel))) (goodIn_sub (fun _ h => List.mem_cons_of_mem _ (List.mem_append_left _ (List.mem_append_left _ (List.mem_append_left _ (List.mem_append_left _ (List.mem_append_right _ h)))))) (by decide +kernel))) (goodIn_sub (fun _ h => List.mem_cons_of_mem _ (List.mem_append_left _ (List.mem_append_left _ (List.mem_append_left _ (List.mem_append_right _ h))))) (by decide +kernel))) (goodIn_sub (fun _ h => List.mem_cons_of_mem _ (List.mem_append_left _ (List.mem_append_left _ (List.mem_append_right _ h)))) (by decide +kernel))) (goodIn_sub (fun _ h => List.mem_cons_of_mem _ (List.mem_append_left _ (List.mem_append_right _ h))) (by decide +kernel))) (goodIn_sub (fun _ h => List.mem_cons_of_mem _ (List.mem_append_right _ h)) (by decide +kernel))
set_option maxRecDepth 20000 in
theorem gL_areSeamsRight_X10_seamVolume : GoodIn wsL_areSeamsRight (wsV RL 190 RX10 yX10_seamVolume wsX10_seamVolume) := goodIn_app (goodIn_of _ (by decide +kernel)) ggL_areSeamsRight_X10_seamVolume
set_option maxRecDepth 20000 in
theorem ggL_areSeamsRight_X10_seamCount : GoodIn wsL_areSeamsRight wsX10_seamCount := goodIn_ca (goodIn_r _ [109, 74, 11, 110, 111, 112, 78, 113, 80, 81, 82, 83, 84, 85, 86, 87, 88, 89, 90, 46, 47, 48, 49, 50, 91, 92, 14, 93, 94, 95, 96, 97, 63, 64, 65, 66, 131, 132, 133, 134, 135, 136, 137, 138, 139, 155, 156, 157, 158, 159, 140, 141, 142, 143, 144, 145, 146, 147, 148, 149, 150, 151, 152, 153, 154] (by decide +kernel) (by decide +kernel)) (goodIn_sub (fun _ h => List.mem_cons_of_mem _ (List.mem_append_left _ (List.mem_append_left _ (List.mem_append_left _ (List.mem_append_left _ (List.mem_append_left _ (List.mem_append_right _ h))))))) (by decide +kernel))
set_option maxRecDepth 20000 in
theorem gL_areSeamsRight_X10_seamCount : GoodIn wsL_areSeamsRight (wsV RL 193 RX10 yX10_seamCount wsX10_seamCount) := goodIn_app (goodIn_of _ (by decide +kernel)) ggL_areSeamsRight_X10_seamCount
set_option maxRecDepth 20000 in
theorem ggL_areSeamsRight_X10_seamCountByMerging : GoodIn wsL_areSeamsRight wsX10_seamCountByMerging := goodIn_ca (goodIn_r _ [117, 74, 11, 118, 119, 120, 78, 121, 122, 123, 124, 125, 48, 126, 50, 91, 92, 14, 93, 94, 95, 96, 90, 46, 47, 49, 97, 63, 64, 65, 66, 127, 128, 129, 130, 131, 132, 133, 134, 135, 136, 137, 138, 139, 155, 156, 157, 158, 159, 140, 141, 142, 143, 144, 145, 146, 147, 148, 149, 150, 151, 152, 153, 154] (by decide +kernel) (by decide +kernel)) (goodIn_sub (fun _ h => List.mem_cons_of_mem _ (List.mem_append_left _ (List.mem_append_left _ (List.mem_append_left _ (List.mem_append_left _ (List.mem_append_left _ (List.mem_append_right _ h))))))) (by decide +kernel))
set_option maxRecDepth 20000 in
theorem gL_areSeamsRight_X10_seamCountByMerging : GoodIn wsL_areSeamsRight (wsV RL 196 RX10 yX10_seamCountByMerging wsX10_seamCountByMerging) := goodIn_app (goodIn_of _ (by decide +kernel)) ggL_areSeamsRight_X10_seamCountByMerging
theorem dL_areSeamsRight_0 : decode cL_areSeamsRight 0 = .ok (.bipush 30, 2) := by decide +kernel
theorem dL_areSeamsRight_2 : decode cL_areSeamsRight 2 = .ok (.newarray .int, 2) := by decide +kernel
theorem dL_areSeamsRight_4 : decode cL_areSeamsRight 4 = .ok (.astore_n 1, 1) := by decide +kernel
theorem dL_areSeamsRight_5 : decode cL_areSeamsRight 5 = .ok (.iconst 0, 1) := by decide +kernel
theorem dL_areSeamsRight_6 : decode cL_areSeamsRight 6 = .ok (.istore_n 2, 1) := by decide +kernel
theorem dL_areSeamsRight_7 : decode cL_areSeamsRight 7 = .ok (.iload_n 2, 1) := by decide +kernel
theorem dL_areSeamsRight_8 : decode cL_areSeamsRight 8 = .ok (.bipush 30, 2) := by decide +kernel
theorem dL_areSeamsRight_10 : decode cL_areSeamsRight 10 = .ok (.if_icmp .ge 32, 3) := by decide +kernel
theorem dL_areSeamsRight_13 : decode cL_areSeamsRight 13 = .ok (.aload_n 1, 1) := by decide +kernel
theorem dL_areSeamsRight_14 : decode cL_areSeamsRight 14 = .ok (.iload_n 2, 1) := by decide +kernel
theorem dL_areSeamsRight_15 : decode cL_areSeamsRight 15 = .ok (.aload_n 0, 1) := by decide +kernel
theorem dL_areSeamsRight_16 : decode cL_areSeamsRight 16 = .ok (.iload_n 2, 1) := by decide +kernel
theorem dL_areSeamsRight_17 : decode cL_areSeamsRight 17 = .ok (.bipush 6, 2) := by decide +kernel
theorem dL_areSeamsRight_19 : decode cL_areSeamsRight 19 = .ok (.idiv, 1) := by decide +kernel
theorem dL_areSeamsRight_20 : decode cL_areSeamsRight 20 = .ok (.iload_n 2, 1) := by decide +kernel
theorem dL_areSeamsRight_21 : decode cL_areSeamsRight 21 = .ok (.bipush 6, 2) := by decide +kernel
theorem dL_areSeamsRight_23 : decode cL_areSeamsRight 23 = .ok (.irem, 1) := by decide +kernel
theorem dL_areSeamsRight_24 : decode cL_areSeamsRight 24 = .ok (.invokevirtual 68, 3) := by decide +kernel
theorem dL_areSeamsRight_27 : decode cL_areSeamsRight 27 = .ok (.ifCond .le 7, 3) := by decide +kernel
theorem dL_areSeamsRight_30 : decode cL_areSeamsRight 30 = .ok (.iload_n 2, 1) := by decide +kernel
theorem dL_areSeamsRight_31 : decode cL_areSeamsRight 31 = .ok (.goto 4, 3) := by decide +kernel
theorem dL_areSeamsRight_34 : decode cL_areSeamsRight 34 = .ok (.iconst (-1), 1) := by decide +kernel
theorem dL_areSeamsRight_35 : decode cL_areSeamsRight 35 = .ok (.iastore, 1) := by decide +kernel
theorem dL_areSeamsRight_36 : decode cL_areSeamsRight 36 = .ok (.iinc 2 1, 3) := by decide +kernel
theorem dL_areSeamsRight_39 : decode cL_areSeamsRight 39 = .ok (.goto (-32), 3) := by decide +kernel
theorem dL_areSeamsRight_42 : decode cL_areSeamsRight 42 = .ok (.iconst 0, 1) := by decide +kernel
theorem dL_areSeamsRight_43 : decode cL_areSeamsRight 43 = .ok (.istore_n 2, 1) := by decide +kernel
theorem dL_areSeamsRight_44 : decode cL_areSeamsRight 44 = .ok (.iload_n 2, 1) := by decide +kernel
theorem dL_areSeamsRight_45 : decode cL_areSeamsRight 45 = .ok (.bipush 30, 2) := by decide +kernel
theorem dL_areSeamsRight_47 : decode cL_areSeamsRight 47 = .ok (.if_icmp .ge 126, 3) := by decide +kernel
theorem dL_areSeamsRight_50 : decode cL_areSeamsRight 50 = .ok (.iconst 0, 1) := by decide +kernel
theorem dL_areSeamsRight_51 : decode cL_areSeamsRight 51 = .ok (.istore_n 3, 1) := by decide +kernel
theorem dL_areSeamsRight_52 : decode cL_areSeamsRight 52 = .ok (.iload_n 3, 1) := by decide +kernel
theorem dL_areSeamsRight_53 : decode cL_areSeamsRight 53 = .ok (.sipush 900, 3) := by decide +kernel
theorem dL_areSeamsRight_56 : decode cL_areSeamsRight 56 = .ok (.if_icmp .ge 111, 3) := by decide +kernel
theorem dL_areSeamsRight_59 : decode cL_areSeamsRight 59 = .ok (.iload_n 3, 1) := by decide +kernel
theorem dL_areSeamsRight_60 : decode cL_areSeamsRight 60 = .ok (.bipush 30, 2) := by decide +kernel
theorem dL_areSeamsRight_62 : decode cL_areSeamsRight 62 = .ok (.idiv, 1) := by decide +kernel
theorem dL_areSeamsRight_63 : decode cL_areSeamsRight 63 = .ok (.istore 4, 2) := by decide +kernel
theorem dL_areSeamsRight_65 : decode cL_areSeamsRight 65 = .ok (.iload_n 3, 1) := by decide +kernel
theorem dL_areSeamsRight_66 : decode cL_areSeamsRight 66 = .ok (.bipush 30, 2) := by decide +kernel
theorem dL_areSeamsRight_68 : decode cL_areSeamsRight 68 = .ok (.irem, 1) := by decide +kernel
theorem dL_areSeamsRight_69 : decode cL_areSeamsRight 69 = .ok (.istore 5, 2) := by decide +kernel
theorem dL_areSeamsRight_71 : decode cL_areSeamsRight 71 = .ok (.iload 4, 2) := by decide +kernel
theorem dL_areSeamsRight_73 : decode cL_areSeamsRight 73 = .ok (.iload 5, 2) := by decide +kernel
theorem dL_areSeamsRight_75 : decode cL_areSeamsRight 75 = .ok (.invokestatic 161, 3) := by decide +kernel
theorem dL_areSeamsRight_78 : decode cL_areSeamsRight 78 = .ok (.iconst 1, 1) := by decide +kernel
theorem dL_areSeamsRight_79 : decode cL_areSeamsRight 79 = .ok (.if_icmp .ne 52, 3) := by decide +kernel
theorem dL_areSeamsRight_82 : decode cL_areSeamsRight 82 = .ok (.aload_n 1, 1) := by decide +kernel
theorem dL_areSeamsRight_83 : decode cL_areSeamsRight 83 = .ok (.iload 4, 2) := by decide +kernel
theorem dL_areSeamsRight_85 : decode cL_areSeamsRight 85 = .ok (.iaload, 1) := by decide +kernel
theorem dL_areSeamsRight_86 : decode cL_areSeamsRight 86 = .ok (.ifCond .lt 45, 3) := by decide +kernel
theorem dL_areSeamsRight_89 : decode cL_areSeamsRight 89 = .ok (.aload_n 1, 1) := by decide +kernel
theorem dL_areSeamsRight_90 : decode cL_areSeamsRight 90 = .ok (.iload 5, 2) := by decide +kernel
theorem dL_areSeamsRight_92 : decode cL_areSeamsRight 92 = .ok (.iaload, 1) := by decide +kernel
theorem dL_areSeamsRight_93 : decode cL_areSeamsRight 93 = .ok (.ifCond .lt 38, 3) := by decide +kernel
theorem dL_areSeamsRight_96 : decode cL_areSeamsRight 96 = .ok (.aload_n 0, 1) := by decide +kernel
theorem dL_areSeamsRight_97 : decode cL_areSeamsRight 97 = .ok (.iload 4, 2) := by decide +kernel
theorem dL_areSeamsRight_99 : decode cL_areSeamsRight 99 = .ok (.bipush 6, 2) := by decide +kernel
theorem dL_areSeamsRight_101 : decode cL_areSeamsRight 101 = .ok (.idiv, 1) := by decide +kernel
theorem dL_areSeamsRight_102 : decode cL_areSeamsRight 102 = .ok (.iload 4, 2) := by decide +kernel
theorem dL_areSeamsRight_104 : decode cL_areSeamsRight 104 = .ok (.bipush 6, 2) := by decide +kernel
theorem dL_areSeamsRight_106 : decode cL_areSeamsRight 106 = .ok (.irem, 1) := by decide +kernel
theorem dL_areSeamsRight_107 : decode cL_areSeamsRight 107 = .ok (.invokevirtual 132, 3) := by decide +kernel
theorem dL_areSeamsRight_110 : decode cL_areSeamsRight 110 = .ok (.aload_n 0, 1) := by decide +kernel
theorem dL_areSeamsRight_111 : decode cL_areSeamsRight 111 = .ok (.iload 5, 2) := by decide +kernel
theorem dL_areSeamsRight_113 : decode cL_areSeamsRight 113 = .ok (.bipush 6, 2) := by decide +kernel
theorem dL_areSeamsRight_115 : decode cL_areSeamsRight 115 = .ok (.idiv, 1) := by decide +kernel
theorem dL_areSeamsRight_116 : decode cL_areSeamsRight 116 = .ok (.iload 5, 2) := by decide +kernel
theorem dL_areSeamsRight_118 : decode cL_areSeamsRight 118 = .ok (.bipush 6, 2) := by decide +kernel
theorem dL_areSeamsRight_120 : decode cL_areSeamsRight 120 = .ok (.irem, 1) := by decide +kernel
theorem dL_areSeamsRight_121 : decode cL_areSeamsRight 121 = .ok (.invokevirtual 132, 3) := by decide +kernel
theorem dL_areSeamsRight_124 : decode cL_areSeamsRight 124 = .ok (.if_icmp .ne 7, 3) := by decide +kernel
theorem dL_areSeamsRight_127 : decode cL_areSeamsRight 127 = .ok (.iconst 1, 1) := by decide +kernel
theorem dL_areSeamsRight_128 : decode cL_areSeamsRight 128 = .ok (.goto 4, 3) := by decide +kernel
theorem dL_areSeamsRight_131 : decode cL_areSeamsRight 131 = .ok (.iconst 0, 1) := by decide +kernel
theorem dL_areSeamsRight_132 : decode cL_areSeamsRight 132 = .ok (.istore 6, 2) := by decide +kernel
theorem dL_areSeamsRight_134 : decode cL_areSeamsRight 134 = .ok (.aload_n 1, 1) := by decide +kernel
theorem dL_areSeamsRight_135 : decode cL_areSeamsRight 135 = .ok (.iload 4, 2) := by decide +kernel
theorem dL_areSeamsRight_137 : decode cL_areSeamsRight 137 = .ok (.iload 6, 2) := by decide +kernel
theorem dL_areSeamsRight_139 : decode cL_areSeamsRight 139 = .ok (.ifCond .eq 17, 3) := by decide +kernel
theorem dL_areSeamsRight_142 : decode cL_areSeamsRight 142 = .ok (.aload_n 1, 1) := by decide +kernel
theorem dL_areSeamsRight_143 : decode cL_areSeamsRight 143 = .ok (.iload 4, 2) := by decide +kernel
theorem dL_areSeamsRight_145 : decode cL_areSeamsRight 145 = .ok (.iaload, 1) := by decide +kernel
theorem dL_areSeamsRight_146 : decode cL_areSeamsRight 146 = .ok (.aload_n 1, 1) := by decide +kernel
theorem dL_areSeamsRight_147 : decode cL_areSeamsRight 147 = .ok (.iload 5, 2) := by decide +kernel
theorem dL_areSeamsRight_149 : decode cL_areSeamsRight 149 = .ok (.iaload, 1) := by decide +kernel
theorem dL_areSeamsRight_150 : decode cL_areSeamsRight 150 = .ok (.invokestatic 158, 3) := by decide +kernel
theorem dL_areSeamsRight_153 : decode cL_areSeamsRight 153 = .ok (.goto 7, 3) := by decide +kernel
theorem dL_areSeamsRight_156 : decode cL_areSeamsRight 156 = .ok (.aload_n 1, 1) := by decide +kernel
theorem dL_areSeamsRight_157 : decode cL_areSeamsRight 157 = .ok (.iload 4, 2) := by decide +kernel
theorem dL_areSeamsRight_159 : decode cL_areSeamsRight 159 = .ok (.iaload, 1) := by decide +kernel
theorem dL_areSeamsRight_160 : decode cL_areSeamsRight 160 = .ok (.iastore, 1) := by decide +kernel
theorem dL_areSeamsRight_161 : decode cL_areSeamsRight 161 = .ok (.iinc 3 1, 3) := by decide +kernel
theorem dL_areSeamsRight_164 : decode cL_areSeamsRight 164 = .ok (.goto (-112), 3) := by decide +kernel
theorem dL_areSeamsRight_167 : decode cL_areSeamsRight 167 = .ok (.iinc 2 1, 3) := by decide +kernel
theorem dL_areSeamsRight_170 : decode cL_areSeamsRight 170 = .ok (.goto (-126), 3) := by decide +kernel
theorem dL_areSeamsRight_173 : decode cL_areSeamsRight 173 = .ok (.iconst 0, 1) := by decide +kernel
theorem dL_areSeamsRight_174 : decode cL_areSeamsRight 174 = .ok (.istore_n 2, 1) := by decide +kernel
theorem dL_areSeamsRight_175 : decode cL_areSeamsRight 175 = .ok (.iconst 1, 1) := by decide +kernel
theorem dL_areSeamsRight_176 : decode cL_areSeamsRight 176 = .ok (.istore_n 3, 1) := by decide +kernel
theorem dL_areSeamsRight_177 : decode cL_areSeamsRight 177 = .ok (.iconst 0, 1) := by decide +kernel
theorem dL_areSeamsRight_178 : decode cL_areSeamsRight 178 = .ok (.istore 4, 2) := by decide +kernel
theorem dL_areSeamsRight_180 : decode cL_areSeamsRight 180 = .ok (.iload 4, 2) := by decide +kernel
theorem dL_areSeamsRight_182 : decode cL_areSeamsRight 182 = .ok (.bipush 30, 2) := by decide +kernel
theorem dL_areSeamsRight_184 : decode cL_areSeamsRight 184 = .ok (.if_icmp .ge 162, 3) := by decide +kernel
theorem dL_areSeamsRight_187 : decode cL_areSeamsRight 187 = .ok (.iconst 0, 1) := by decide +kernel
theorem dL_areSeamsRight_188 : decode cL_areSeamsRight 188 = .ok (.istore 5, 2) := by decide +kernel
theorem dL_areSeamsRight_190 : decode cL_areSeamsRight 190 = .ok (.iconst 0, 1) := by decide +kernel
theorem dL_areSeamsRight_191 : decode cL_areSeamsRight 191 = .ok (.istore 6, 2) := by decide +kernel
theorem dL_areSeamsRight_193 : decode cL_areSeamsRight 193 = .ok (.iconst 0, 1) := by decide +kernel
theorem dL_areSeamsRight_194 : decode cL_areSeamsRight 194 = .ok (.istore 7, 2) := by decide +kernel
theorem dL_areSeamsRight_196 : decode cL_areSeamsRight 196 = .ok (.iload 7, 2) := by decide +kernel
theorem dL_areSeamsRight_198 : decode cL_areSeamsRight 198 = .ok (.bipush 30, 2) := by decide +kernel
theorem dL_areSeamsRight_200 : decode cL_areSeamsRight 200 = .ok (.if_icmp .ge 72, 3) := by decide +kernel
theorem dL_areSeamsRight_203 : decode cL_areSeamsRight 203 = .ok (.aload_n 1, 1) := by decide +kernel
theorem dL_areSeamsRight_204 : decode cL_areSeamsRight 204 = .ok (.iload 4, 2) := by decide +kernel
theorem dL_areSeamsRight_206 : decode cL_areSeamsRight 206 = .ok (.iaload, 1) := by decide +kernel
theorem dL_areSeamsRight_207 : decode cL_areSeamsRight 207 = .ok (.ifCond .lt 18, 3) := by decide +kernel
theorem dL_areSeamsRight_210 : decode cL_areSeamsRight 210 = .ok (.aload_n 1, 1) := by decide +kernel
theorem dL_areSeamsRight_211 : decode cL_areSeamsRight 211 = .ok (.iload 7, 2) := by decide +kernel
theorem dL_areSeamsRight_213 : decode cL_areSeamsRight 213 = .ok (.iaload, 1) := by decide +kernel
theorem dL_areSeamsRight_214 : decode cL_areSeamsRight 214 = .ok (.aload_n 1, 1) := by decide +kernel
theorem dL_areSeamsRight_215 : decode cL_areSeamsRight 215 = .ok (.iload 4, 2) := by decide +kernel
theorem dL_areSeamsRight_217 : decode cL_areSeamsRight 217 = .ok (.iaload, 1) := by decide +kernel
theorem dL_areSeamsRight_218 : decode cL_areSeamsRight 218 = .ok (.if_icmp .ne 7, 3) := by decide +kernel
theorem dL_areSeamsRight_221 : decode cL_areSeamsRight 221 = .ok (.iconst 1, 1) := by decide +kernel
theorem dL_areSeamsRight_222 : decode cL_areSeamsRight 222 = .ok (.goto 4, 3) := by decide +kernel
theorem dL_areSeamsRight_225 : decode cL_areSeamsRight 225 = .ok (.iconst 0, 1) := by decide +kernel
theorem dL_areSeamsRight_226 : decode cL_areSeamsRight 226 = .ok (.istore 8, 2) := by decide +kernel
theorem dL_areSeamsRight_228 : decode cL_areSeamsRight 228 = .ok (.iload 5, 2) := by decide +kernel
theorem dL_areSeamsRight_230 : decode cL_areSeamsRight 230 = .ok (.iload 8, 2) := by decide +kernel
theorem dL_areSeamsRight_232 : decode cL_areSeamsRight 232 = .ok (.invokestatic 32, 3) := by decide +kernel
theorem dL_areSeamsRight_235 : decode cL_areSeamsRight 235 = .ok (.iadd, 1) := by decide +kernel
theorem dL_areSeamsRight_236 : decode cL_areSeamsRight 236 = .ok (.istore 5, 2) := by decide +kernel
theorem dL_areSeamsRight_238 : decode cL_areSeamsRight 238 = .ok (.iload 6, 2) := by decide +kernel
theorem dL_areSeamsRight_240 : decode cL_areSeamsRight 240 = .ok (.iload 8, 2) := by decide +kernel
theorem dL_areSeamsRight_242 : decode cL_areSeamsRight 242 = .ok (.ifCond .eq 20, 3) := by decide +kernel
theorem dL_areSeamsRight_245 : decode cL_areSeamsRight 245 = .ok (.aload_n 0, 1) := by decide +kernel
theorem dL_areSeamsRight_246 : decode cL_areSeamsRight 246 = .ok (.iload 7, 2) := by decide +kernel
theorem dL_areSeamsRight_248 : decode cL_areSeamsRight 248 = .ok (.bipush 6, 2) := by decide +kernel
theorem dL_areSeamsRight_250 : decode cL_areSeamsRight 250 = .ok (.idiv, 1) := by decide +kernel
theorem dL_areSeamsRight_251 : decode cL_areSeamsRight 251 = .ok (.iload 7, 2) := by decide +kernel
theorem dL_areSeamsRight_253 : decode cL_areSeamsRight 253 = .ok (.bipush 6, 2) := by decide +kernel
theorem dL_areSeamsRight_255 : decode cL_areSeamsRight 255 = .ok (.irem, 1) := by decide +kernel
theorem dL_areSeamsRight_256 : decode cL_areSeamsRight 256 = .ok (.invokevirtual 68, 3) := by decide +kernel
theorem dL_areSeamsRight_259 : decode cL_areSeamsRight 259 = .ok (.goto 4, 3) := by decide +kernel
theorem dL_areSeamsRight_262 : decode cL_areSeamsRight 262 = .ok (.iconst 0, 1) := by decide +kernel
theorem dL_areSeamsRight_263 : decode cL_areSeamsRight 263 = .ok (.iadd, 1) := by decide +kernel
theorem dL_areSeamsRight_264 : decode cL_areSeamsRight 264 = .ok (.istore 6, 2) := by decide +kernel
theorem dL_areSeamsRight_266 : decode cL_areSeamsRight 266 = .ok (.iinc 7 1, 3) := by decide +kernel
theorem dL_areSeamsRight_269 : decode cL_areSeamsRight 269 = .ok (.goto (-73), 3) := by decide +kernel
theorem dL_areSeamsRight_272 : decode cL_areSeamsRight 272 = .ok (.iload_n 2, 1) := by decide +kernel
theorem dL_areSeamsRight_273 : decode cL_areSeamsRight 273 = .ok (.aload_n 1, 1) := by decide +kernel
theorem dL_areSeamsRight_274 : decode cL_areSeamsRight 274 = .ok (.iload 4, 2) := by decide +kernel
theorem dL_areSeamsRight_276 : decode cL_areSeamsRight 276 = .ok (.iaload, 1) := by decide +kernel
theorem dL_areSeamsRight_277 : decode cL_areSeamsRight 277 = .ok (.iload 4, 2) := by decide +kernel
theorem dL_areSeamsRight_279 : decode cL_areSeamsRight 279 = .ok (.if_icmp .ne 7, 3) := by decide +kernel
theorem dL_areSeamsRight_282 : decode cL_areSeamsRight 282 = .ok (.iconst 1, 1) := by decide +kernel
theorem dL_areSeamsRight_283 : decode cL_areSeamsRight 283 = .ok (.goto 4, 3) := by decide +kernel
theorem dL_areSeamsRight_286 : decode cL_areSeamsRight 286 = .ok (.iconst 0, 1) := by decide +kernel
theorem dL_areSeamsRight_287 : decode cL_areSeamsRight 287 = .ok (.invokestatic 32, 3) := by decide +kernel
theorem dL_areSeamsRight_290 : decode cL_areSeamsRight 290 = .ok (.iadd, 1) := by decide +kernel
theorem dL_areSeamsRight_291 : decode cL_areSeamsRight 291 = .ok (.istore_n 2, 1) := by decide +kernel
theorem dL_areSeamsRight_292 : decode cL_areSeamsRight 292 = .ok (.iload_n 3, 1) := by decide +kernel
theorem dL_areSeamsRight_293 : decode cL_areSeamsRight 293 = .ok (.ifCond .eq 45, 3) := by decide +kernel
theorem dL_areSeamsRight_296 : decode cL_areSeamsRight 296 = .ok (.aload_n 0, 1) := by decide +kernel
theorem dL_areSeamsRight_297 : decode cL_areSeamsRight 297 = .ok (.iload 4, 2) := by decide +kernel
theorem dL_areSeamsRight_299 : decode cL_areSeamsRight 299 = .ok (.bipush 6, 2) := by decide +kernel
theorem dL_areSeamsRight_301 : decode cL_areSeamsRight 301 = .ok (.idiv, 1) := by decide +kernel
theorem dL_areSeamsRight_302 : decode cL_areSeamsRight 302 = .ok (.iload 4, 2) := by decide +kernel
theorem dL_areSeamsRight_304 : decode cL_areSeamsRight 304 = .ok (.bipush 6, 2) := by decide +kernel
theorem dL_areSeamsRight_306 : decode cL_areSeamsRight 306 = .ok (.irem, 1) := by decide +kernel
theorem dL_areSeamsRight_307 : decode cL_areSeamsRight 307 = .ok (.invokevirtual 187, 3) := by decide +kernel
theorem dL_areSeamsRight_310 : decode cL_areSeamsRight 310 = .ok (.iload 5, 2) := by decide +kernel
theorem dL_areSeamsRight_312 : decode cL_areSeamsRight 312 = .ok (.if_icmp .ne 26, 3) := by decide +kernel
theorem dL_areSeamsRight_315 : decode cL_areSeamsRight 315 = .ok (.aload_n 0, 1) := by decide +kernel
theorem dL_areSeamsRight_316 : decode cL_areSeamsRight 316 = .ok (.iload 4, 2) := by decide +kernel
theorem dL_areSeamsRight_318 : decode cL_areSeamsRight 318 = .ok (.bipush 6, 2) := by decide +kernel
theorem dL_areSeamsRight_320 : decode cL_areSeamsRight 320 = .ok (.idiv, 1) := by decide +kernel
theorem dL_areSeamsRight_321 : decode cL_areSeamsRight 321 = .ok (.iload 4, 2) := by decide +kernel
theorem dL_areSeamsRight_323 : decode cL_areSeamsRight 323 = .ok (.bipush 6, 2) := by decide +kernel
theorem dL_areSeamsRight_325 : decode cL_areSeamsRight 325 = .ok (.irem, 1) := by decide +kernel
theorem dL_areSeamsRight_326 : decode cL_areSeamsRight 326 = .ok (.invokevirtual 190, 3) := by decide +kernel
theorem dL_areSeamsRight_329 : decode cL_areSeamsRight 329 = .ok (.iload 6, 2) := by decide +kernel
theorem dL_areSeamsRight_331 : decode cL_areSeamsRight 331 = .ok (.if_icmp .ne 7, 3) := by decide +kernel
theorem dL_areSeamsRight_334 : decode cL_areSeamsRight 334 = .ok (.iconst 1, 1) := by decide +kernel
theorem dL_areSeamsRight_335 : decode cL_areSeamsRight 335 = .ok (.goto 4, 3) := by decide +kernel
theorem dL_areSeamsRight_338 : decode cL_areSeamsRight 338 = .ok (.iconst 0, 1) := by decide +kernel
theorem dL_areSeamsRight_339 : decode cL_areSeamsRight 339 = .ok (.istore_n 3, 1) := by decide +kernel
theorem dL_areSeamsRight_340 : decode cL_areSeamsRight 340 = .ok (.iinc 4 1, 3) := by decide +kernel
theorem dL_areSeamsRight_343 : decode cL_areSeamsRight 343 = .ok (.goto (-163), 3) := by decide +kernel
theorem dL_areSeamsRight_346 : decode cL_areSeamsRight 346 = .ok (.iload_n 3, 1) := by decide +kernel
theorem dL_areSeamsRight_347 : decode cL_areSeamsRight 347 = .ok (.ifCond .eq 23, 3) := by decide +kernel
theorem dL_areSeamsRight_350 : decode cL_areSeamsRight 350 = .ok (.aload_n 0, 1) := by decide +kernel
theorem dL_areSeamsRight_351 : decode cL_areSeamsRight 351 = .ok (.invokevirtual 193, 3) := by decide +kernel
theorem dL_areSeamsRight_354 : decode cL_areSeamsRight 354 = .ok (.iload_n 2, 1) := by decide +kernel
theorem dL_areSeamsRight_355 : decode cL_areSeamsRight 355 = .ok (.if_icmp .ne 15, 3) := by decide +kernel
theorem dL_areSeamsRight_358 : decode cL_areSeamsRight 358 = .ok (.aload_n 0, 1) := by decide +kernel
theorem dL_areSeamsRight_359 : decode cL_areSeamsRight 359 = .ok (.invokevirtual 196, 3) := by decide +kernel
theorem dL_areSeamsRight_362 : decode cL_areSeamsRight 362 = .ok (.iload_n 2, 1) := by decide +kernel
theorem dL_areSeamsRight_363 : decode cL_areSeamsRight 363 = .ok (.if_icmp .ne 7, 3) := by decide +kernel
theorem dL_areSeamsRight_366 : decode cL_areSeamsRight 366 = .ok (.iconst 1, 1) := by decide +kernel
theorem dL_areSeamsRight_367 : decode cL_areSeamsRight 367 = .ok (.goto 4, 3) := by decide +kernel
theorem dL_areSeamsRight_370 : decode cL_areSeamsRight 370 = .ok (.iconst 0, 1) := by decide +kernel
theorem dL_areSeamsRight_371 : decode cL_areSeamsRight 371 = .ok (.ireturn, 1) := by decide +kernel
set_option maxRecDepth 20000 in
theorem ggL_arePathsRight_X10_isLedge : GoodIn wsL_arePathsRight wsX10_isLedge := goodIn_ca (goodIn_ca (goodIn_ca (goodIn_ca (goodIn_ca (goodIn_ca (goodIn_r _ [13, 14, 15, 16, 17, 18, 19, 20, 21, 22, 23, 24, 25, 12, 26, 27, 28, 29, 30, 31, 32, 33, 34, 35, 36, 37, 38, 39, 40, 41, 42, 43, 44, 45, 46, 47, 48, 49, 50, 51, 52, 53, 231, 232, 233, 234, 235, 236, 237, 238, 239, 240, 241, 242, 243, 244, 245, 246, 247, 248, 249, 250, 251, 252, 253, 254] (by decide +kernel) (by decide +kernel)) (goodIn_sub (fun _ h => List.mem_cons_of_mem _ (List.mem_append_left _ (List.mem_append_left _ (List.mem_append_left _ (List.mem_append_left _ (List.mem_append_left _ (List.mem_append_right _ h))))))) (by decide +kernel))) (goodIn_sub (fun _ h => List.mem_cons_of_mem _ (List.mem_append_left _ (List.mem_append_left _ (List.mem_append_left _ (List.mem_append_left _ (List.mem_append_right _ h)))))) (by decide +kernel))) (goodIn_sub (fun _ h => List.mem_cons_of_mem _ (List.mem_append_left _ (List.mem_append_left _ (List.mem_append_left _ (List.mem_append_right _ h))))) (by decide +kernel))) (goodIn_sub (fun _ h => List.mem_cons_of_mem _ (List.mem_append_left _ (List.mem_append_left _ (List.mem_append_right _ h)))) (by decide +kernel))) (goodIn_sub (fun _ h => List.mem_cons_of_mem _ (List.mem_append_left _ (List.mem_append_right _ h))) (by decide +kernel))) (goodIn_sub (fun _ h => List.mem_cons_of_mem _ (List.mem_append_right _ h)) (by decide +kernel))
set_option maxRecDepth 20000 in
theorem gL_arePathsRight_X10_isLedge : GoodIn wsL_arePathsRight (wsV RL 135 RX10 yX10_isLedge wsX10_isLedge) := goodIn_app (goodIn_of _ (by decide +kernel)) ggL_arePathsRight_X10_isLedge
set_option maxRecDepth 20000 in
theorem ggL_arePathsRight_L_far : GoodIn wsL_arePathsRight wsL_far := goodIn_r _ [57, 2, 3, 4, 5] (by decide +kernel) (by decide +kernel)
set_option maxRecDepth 20000 in
theorem gL_arePathsRight_L_far : GoodIn wsL_arePathsRight (va_wsS RL 161 yL_far wsL_far) := goodIn_app (goodIn_of _ (by decide +kernel)) ggL_arePathsRight_L_far
set_option maxRecDepth 20000 in
theorem ggL_arePathsRight_X10_height : GoodIn wsL_arePathsRight wsX10_height := goodIn_ca (goodIn_ca (goodIn_ca (goodIn_ca (goodIn_ca (goodIn_ca (goodIn_r _ [61, 14, 15, 16, 17, 18, 19, 20, 21, 22, 23, 24, 25, 12, 26, 27, 28, 29, 30, 31, 32, 33, 34, 35, 36, 37, 38, 39, 40, 41, 42, 43, 44, 45, 46, 47, 62, 63, 64, 51, 65, 66, 231, 232, 233, 234, 235, 236, 237, 238, 239, 240, 241, 242, 243, 244, 245, 246, 247, 248, 249, 250, 251, 252, 253, 254] (by decide +kernel) (by decide +kernel)) (goodIn_sub (fun _ h => List.mem_cons_of_mem _ (List.mem_append_left _ (List.mem_append_left _ (List.mem_append_left _ (List.mem_append_left _ (List.mem_append_left _ (List.mem_append_right _ h))))))) (by decide +kernel))) (goodIn_sub (fun _ h => List.mem_cons_of_mem _ (List.mem_append_left _ (List.mem_append_left _ (List.mem_append_left _ (List.mem_append_left _ (List.mem_append_right _ h)))))) (by decide +kernel))) (goodIn_sub (fun _ h => List.mem_cons_of_mem _ (List.mem_append_left _ (List.mem_append_left _ (List.mem_append_left _ (List.mem_append_right _ h))))) (by decide +kernel))) (goodIn_sub (fun _ h => List.mem_cons_of_mem _ (List.mem_append_left _ (List.mem_append_left _ (List.mem_append_right _ h)))) (by decide +kernel))) (goodIn_sub (fun _ h => List.mem_cons_of_mem _ (List.mem_append_left _ (List.mem_append_right _ h))) (by decide +kernel))) (goodIn_sub (fun _ h => List.mem_cons_of_mem _ (List.mem_append_right _ h)) (by decide +kernel))
set_option maxRecDepth 20000 in
theorem gL_arePathsRight_X10_height : GoodIn wsL_arePathsRight (wsV RL 68 RX10 yX10_height wsX10_height) := goodIn_app (goodIn_of _ (by decide +kernel)) ggL_arePathsRight_X10_height
set_option maxRecDepth 20000 in
theorem ggL_arePathsRight_L_ask : GoodIn wsL_arePathsRight wsL_ask := goodIn_ca (goodIn_ca (goodIn_ca (goodIn_ca (goodIn_ca (goodIn_ca (goodIn_r _ [69, 70, 71, 72, 73, 74, 56, 75, 58, 59, 60, 12, 61, 14, 15, 16, 17, 18, 19, 20, 21, 22, 23, 24, 25, 26, 27, 28, 29, 30, 31, 32, 33, 34, 35, 36, 37, 38, 39, 40, 41, 42, 43, 44, 45, 46, 47, 62, 63, 64, 51, 65, 66, 76, 77, 78, 79, 80, 81, 82, 83, 84, 85, 86, 87, 88, 89, 90, 91, 92, 93, 94, 95, 96, 97, 98, 99, 100, 101, 102, 103, 104, 105, 106, 107, 108, 109, 110, 111, 112, 113, 114, 115, 116, 117, 118, 119, 120, 121, 4, 122, 123, 124, 125, 126, 3, 5, 127, 128, 129, 130, 131, 132, 133, 134, 135, 136, 137, 138, 139, 140, 141, 142, 143, 144, 145, 146, 147, 148, 149, 150, 151, 152, 153, 154, 155, 156, 157, 158, 159, 160, 161, 162, 163, 164, 165, 166, 49, 50, 52, 53, 167, 168, 169, 170, 171, 172, 173, 174, 175, 176, 177, 178, 179, 180, 181, 182, 183, 184, 185, 186, 187, 188, 189, 190, 191, 192, 193, 194, 195, 196, 197, 198, 199, 200, 201, 202, 203, 204, 205, 206, 207, 208, 209, 210, 211, 212, 213, 214, 215, 216, 217, 218, 219, 220, 221, 222, 223, 224, 225, 226, 227, 228, 229, 230, 231, 232, 233, 234, 235, 236, 237, 238, 239, 240, 241, 242, 243, 244, 245, 246, 247, 248, 249, 250, 251, 252, 253, 254, 255, 256, 257, 258, 259] (by decide +kernel) (by decide +kernel)) (goodIn_sub (fun _ h => List.mem_cons_of_mem _ (List.mem_append_left _ (List.mem_append_left _ (List.mem_append_left _ (List.mem_append_left _ (List.mem_append_left _ (List.mem_append_right _ h))))))) (by decide +kernel))) (goodIn_sub (fun _ h => List.mem_cons_of_mem _ (List.mem_append_left _ (List.mem_append_left _ (List.mem_append_left _ (List.mem_append_left _ (List.mem_append_right _ h)))))) (by decide +kernel))) (goodIn_sub (fun _ h => List.mem_cons_of_mem _ (List.mem_append_left _ (List.mem_append_left _ (List.mem_append_left _ (List.mem_append_right _ h))))) (by decide +kernel))) (goodIn_sub (fun _ h => List.mem_cons_of_mem _ (List.mem_append_left _ (List.mem_append_left _ (List.mem_append_right _ h)))) (by decide +kernel))) (goodIn_sub (fun _ h => List.mem_cons_of_mem _ (List.mem_append_left _ (List.mem_append_right _ h))) (by decide +kernel))) (goodIn_sub (fun _ h => List.mem_cons_of_mem _ (List.mem_append_right _ h)) (by decide +kernel))
set_option maxRecDepth 20000 in
theorem gL_arePathsRight_L_ask : GoodIn wsL_arePathsRight (va_wsS RL 141 yL_ask wsL_ask) := goodIn_app (goodIn_of _ (by decide +kernel)) ggL_arePathsRight_L_ask
theorem dL_arePathsRight_0 : decode cL_arePathsRight 0 = .ok (.bipush 30, 2) := by decide +kernel
theorem dL_arePathsRight_2 : decode cL_arePathsRight 2 = .ok (.newarray .int, 2) := by decide +kernel
theorem dL_arePathsRight_4 : decode cL_arePathsRight 4 = .ok (.astore_n 2, 1) := by decide +kernel
theorem dL_arePathsRight_5 : decode cL_arePathsRight 5 = .ok (.iconst 0, 1) := by decide +kernel
theorem dL_arePathsRight_6 : decode cL_arePathsRight 6 = .ok (.istore_n 3, 1) := by decide +kernel
theorem dL_arePathsRight_7 : decode cL_arePathsRight 7 = .ok (.iload_n 3, 1) := by decide +kernel
theorem dL_arePathsRight_8 : decode cL_arePathsRight 8 = .ok (.bipush 30, 2) := by decide +kernel
theorem dL_arePathsRight_10 : decode cL_arePathsRight 10 = .ok (.if_icmp .ge 38, 3) := by decide +kernel
theorem dL_arePathsRight_13 : decode cL_arePathsRight 13 = .ok (.aload_n 2, 1) := by decide +kernel
theorem dL_arePathsRight_14 : decode cL_arePathsRight 14 = .ok (.iload_n 3, 1) := by decide +kernel
theorem dL_arePathsRight_15 : decode cL_arePathsRight 15 = .ok (.iload_n 3, 1) := by decide +kernel
theorem dL_arePathsRight_16 : decode cL_arePathsRight 16 = .ok (.iload_n 1, 1) := by decide +kernel
theorem dL_arePathsRight_17 : decode cL_arePathsRight 17 = .ok (.if_icmp .ne 22, 3) := by decide +kernel
theorem dL_arePathsRight_20 : decode cL_arePathsRight 20 = .ok (.aload_n 0, 1) := by decide +kernel
theorem dL_arePathsRight_21 : decode cL_arePathsRight 21 = .ok (.iload_n 3, 1) := by decide +kernel
theorem dL_arePathsRight_22 : decode cL_arePathsRight 22 = .ok (.bipush 6, 2) := by decide +kernel
theorem dL_arePathsRight_24 : decode cL_arePathsRight 24 = .ok (.idiv, 1) := by decide +kernel
theorem dL_arePathsRight_25 : decode cL_arePathsRight 25 = .ok (.iload_n 3, 1) := by decide +kernel
theorem dL_arePathsRight_26 : decode cL_arePathsRight 26 = .ok (.bipush 6, 2) := by decide +kernel
theorem dL_arePathsRight_28 : decode cL_arePathsRight 28 = .ok (.irem, 1) := by decide +kernel
theorem dL_arePathsRight_29 : decode cL_arePathsRight 29 = .ok (.invokevirtual 135, 3) := by decide +kernel
theorem dL_arePathsRight_32 : decode cL_arePathsRight 32 = .ok (.ifCond .ne 7, 3) := by decide +kernel
theorem dL_arePathsRight_35 : decode cL_arePathsRight 35 = .ok (.iconst 0, 1) := by decide +kernel
theorem dL_arePathsRight_36 : decode cL_arePathsRight 36 = .ok (.goto 5, 3) := by decide +kernel
theorem dL_arePathsRight_39 : decode cL_arePathsRight 39 = .ok (.bipush 99, 2) := by decide +kernel
theorem dL_arePathsRight_41 : decode cL_arePathsRight 41 = .ok (.iastore, 1) := by decide +kernel
theorem dL_arePathsRight_42 : decode cL_arePathsRight 42 = .ok (.iinc 3 1, 3) := by decide +kernel
theorem dL_arePathsRight_45 : decode cL_arePathsRight 45 = .ok (.goto (-38), 3) := by decide +kernel
theorem dL_arePathsRight_48 : decode cL_arePathsRight 48 = .ok (.iconst 0, 1) := by decide +kernel
theorem dL_arePathsRight_49 : decode cL_arePathsRight 49 = .ok (.istore_n 3, 1) := by decide +kernel
theorem dL_arePathsRight_50 : decode cL_arePathsRight 50 = .ok (.iload_n 3, 1) := by decide +kernel
theorem dL_arePathsRight_51 : decode cL_arePathsRight 51 = .ok (.bipush 30, 2) := by decide +kernel
theorem dL_arePathsRight_53 : decode cL_arePathsRight 53 = .ok (.if_icmp .ge 140, 3) := by decide +kernel
theorem dL_arePathsRight_56 : decode cL_arePathsRight 56 = .ok (.iconst 0, 1) := by decide +kernel
theorem dL_arePathsRight_57 : decode cL_arePathsRight 57 = .ok (.istore 4, 2) := by decide +kernel
theorem dL_arePathsRight_59 : decode cL_arePathsRight 59 = .ok (.iload 4, 2) := by decide +kernel
theorem dL_arePathsRight_61 : decode cL_arePathsRight 61 = .ok (.sipush 900, 3) := by decide +kernel
theorem dL_arePathsRight_64 : decode cL_arePathsRight 64 = .ok (.if_icmp .ge 123, 3) := by decide +kernel
theorem dL_arePathsRight_67 : decode cL_arePathsRight 67 = .ok (.iload 4, 2) := by decide +kernel
theorem dL_arePathsRight_69 : decode cL_arePathsRight 69 = .ok (.bipush 30, 2) := by decide +kernel
theorem dL_arePathsRight_71 : decode cL_arePathsRight 71 = .ok (.idiv, 1) := by decide +kernel
theorem dL_arePathsRight_72 : decode cL_arePathsRight 72 = .ok (.istore 5, 2) := by decide +kernel
theorem dL_arePathsRight_74 : decode cL_arePathsRight 74 = .ok (.iload 4, 2) := by decide +kernel
theorem dL_arePathsRight_76 : decode cL_arePathsRight 76 = .ok (.bipush 30, 2) := by decide +kernel
theorem dL_arePathsRight_78 : decode cL_arePathsRight 78 = .ok (.irem, 1) := by decide +kernel
theorem dL_arePathsRight_79 : decode cL_arePathsRight 79 = .ok (.istore 6, 2) := by decide +kernel
theorem dL_arePathsRight_81 : decode cL_arePathsRight 81 = .ok (.iload 5, 2) := by decide +kernel
theorem dL_arePathsRight_83 : decode cL_arePathsRight 83 = .ok (.iload 6, 2) := by decide +kernel
theorem dL_arePathsRight_85 : decode cL_arePathsRight 85 = .ok (.invokestatic 161, 3) := by decide +kernel
theorem dL_arePathsRight_88 : decode cL_arePathsRight 88 = .ok (.iconst 1, 1) := by decide +kernel
theorem dL_arePathsRight_89 : decode cL_arePathsRight 89 = .ok (.if_icmp .ne 60, 3) := by decide +kernel
theorem dL_arePathsRight_92 : decode cL_arePathsRight 92 = .ok (.aload_n 0, 1) := by decide +kernel
theorem dL_arePathsRight_93 : decode cL_arePathsRight 93 = .ok (.iload 6, 2) := by decide +kernel
theorem dL_arePathsRight_95 : decode cL_arePathsRight 95 = .ok (.bipush 6, 2) := by decide +kernel
theorem dL_arePathsRight_97 : decode cL_arePathsRight 97 = .ok (.idiv, 1) := by decide +kernel
theorem dL_arePathsRight_98 : decode cL_arePathsRight 98 = .ok (.iload 6, 2) := by decide +kernel
theorem dL_arePathsRight_100 : decode cL_arePathsRight 100 = .ok (.bipush 6, 2) := by decide +kernel
theorem dL_arePathsRight_102 : decode cL_arePathsRight 102 = .ok (.irem, 1) := by decide +kernel
theorem dL_arePathsRight_103 : decode cL_arePathsRight 103 = .ok (.invokevirtual 135, 3) := by decide +kernel
theorem dL_arePathsRight_106 : decode cL_arePathsRight 106 = .ok (.ifCond .ne 43, 3) := by decide +kernel
theorem dL_arePathsRight_109 : decode cL_arePathsRight 109 = .ok (.aload_n 0, 1) := by decide +kernel
theorem dL_arePathsRight_110 : decode cL_arePathsRight 110 = .ok (.iload 5, 2) := by decide +kernel
theorem dL_arePathsRight_112 : decode cL_arePathsRight 112 = .ok (.bipush 6, 2) := by decide +kernel
theorem dL_arePathsRight_114 : decode cL_arePathsRight 114 = .ok (.idiv, 1) := by decide +kernel
theorem dL_arePathsRight_115 : decode cL_arePathsRight 115 = .ok (.iload 5, 2) := by decide +kernel
theorem dL_arePathsRight_117 : decode cL_arePathsRight 117 = .ok (.bipush 6, 2) := by decide +kernel
theorem dL_arePathsRight_119 : decode cL_arePathsRight 119 = .ok (.irem, 1) := by decide +kernel
theorem dL_arePathsRight_120 : decode cL_arePathsRight 120 = .ok (.invokevirtual 68, 3) := by decide +kernel
theorem dL_arePathsRight_123 : decode cL_arePathsRight 123 = .ok (.aload_n 0, 1) := by decide +kernel
theorem dL_arePathsRight_124 : decode cL_arePathsRight 124 = .ok (.iload 6, 2) := by decide +kernel
theorem dL_arePathsRight_126 : decode cL_arePathsRight 126 = .ok (.bipush 6, 2) := by decide +kernel
theorem dL_arePathsRight_128 : decode cL_arePathsRight 128 = .ok (.idiv, 1) := by decide +kernel
theorem dL_arePathsRight_129 : decode cL_arePathsRight 129 = .ok (.iload 6, 2) := by decide +kernel
theorem dL_arePathsRight_131 : decode cL_arePathsRight 131 = .ok (.bipush 6, 2) := by decide +kernel
theorem dL_arePathsRight_133 : decode cL_arePathsRight 133 = .ok (.irem, 1) := by decide +kernel
theorem dL_arePathsRight_134 : decode cL_arePathsRight 134 = .ok (.invokevirtual 68, 3) := by decide +kernel
theorem dL_arePathsRight_137 : decode cL_arePathsRight 137 = .ok (.isub, 1) := by decide +kernel
theorem dL_arePathsRight_138 : decode cL_arePathsRight 138 = .ok (.invokestatic 151, 3) := by decide +kernel
theorem dL_arePathsRight_141 : decode cL_arePathsRight 141 = .ok (.iconst 1, 1) := by decide +kernel
theorem dL_arePathsRight_142 : decode cL_arePathsRight 142 = .ok (.if_icmp .gt 7, 3) := by decide +kernel
theorem dL_arePathsRight_145 : decode cL_arePathsRight 145 = .ok (.iconst 1, 1) := by decide +kernel
theorem dL_arePathsRight_146 : decode cL_arePathsRight 146 = .ok (.goto 4, 3) := by decide +kernel
theorem dL_arePathsRight_149 : decode cL_arePathsRight 149 = .ok (.iconst 0, 1) := by decide +kernel
theorem dL_arePathsRight_150 : decode cL_arePathsRight 150 = .ok (.istore 7, 2) := by decide +kernel
theorem dL_arePathsRight_152 : decode cL_arePathsRight 152 = .ok (.aload_n 2, 1) := by decide +kernel
theorem dL_arePathsRight_153 : decode cL_arePathsRight 153 = .ok (.iload 6, 2) := by decide +kernel
theorem dL_arePathsRight_155 : decode cL_arePathsRight 155 = .ok (.iload 7, 2) := by decide +kernel
theorem dL_arePathsRight_157 : decode cL_arePathsRight 157 = .ok (.ifCond .eq 19, 3) := by decide +kernel
theorem dL_arePathsRight_160 : decode cL_arePathsRight 160 = .ok (.aload_n 2, 1) := by decide +kernel
theorem dL_arePathsRight_161 : decode cL_arePathsRight 161 = .ok (.iload 6, 2) := by decide +kernel
theorem dL_arePathsRight_163 : decode cL_arePathsRight 163 = .ok (.iaload, 1) := by decide +kernel
theorem dL_arePathsRight_164 : decode cL_arePathsRight 164 = .ok (.aload_n 2, 1) := by decide +kernel
theorem dL_arePathsRight_165 : decode cL_arePathsRight 165 = .ok (.iload 5, 2) := by decide +kernel
theorem dL_arePathsRight_167 : decode cL_arePathsRight 167 = .ok (.iaload, 1) := by decide +kernel
theorem dL_arePathsRight_168 : decode cL_arePathsRight 168 = .ok (.iconst 1, 1) := by decide +kernel
theorem dL_arePathsRight_169 : decode cL_arePathsRight 169 = .ok (.iadd, 1) := by decide +kernel
theorem dL_arePathsRight_170 : decode cL_arePathsRight 170 = .ok (.invokestatic 158, 3) := by decide +kernel
theorem dL_arePathsRight_173 : decode cL_arePathsRight 173 = .ok (.goto 7, 3) := by decide +kernel
theorem dL_arePathsRight_176 : decode cL_arePathsRight 176 = .ok (.aload_n 2, 1) := by decide +kernel
theorem dL_arePathsRight_177 : decode cL_arePathsRight 177 = .ok (.iload 6, 2) := by decide +kernel
theorem dL_arePathsRight_179 : decode cL_arePathsRight 179 = .ok (.iaload, 1) := by decide +kernel
theorem dL_arePathsRight_180 : decode cL_arePathsRight 180 = .ok (.iastore, 1) := by decide +kernel
theorem dL_arePathsRight_181 : decode cL_arePathsRight 181 = .ok (.iinc 4 1, 3) := by decide +kernel
theorem dL_arePathsRight_184 : decode cL_arePathsRight 184 = .ok (.goto (-125), 3) := by decide +kernel
theorem dL_arePathsRight_187 : decode cL_arePathsRight 187 = .ok (.iinc 3 1, 3) := by decide +kernel
theorem dL_arePathsRight_190 : decode cL_arePathsRight 190 = .ok (.goto (-140), 3) := by decide +kernel
theorem dL_arePathsRight_193 : decode cL_arePathsRight 193 = .ok (.aload_n 0, 1) := by decide +kernel
theorem dL_arePathsRight_194 : decode cL_arePathsRight 194 = .ok (.iconst 5, 1) := by decide +kernel
theorem dL_arePathsRight_195 : decode cL_arePathsRight 195 = .ok (.iconst 0, 1) := by decide +kernel
theorem dL_arePathsRight_196 : decode cL_arePathsRight 196 = .ok (.iconst 0, 1) := by decide +kernel
theorem dL_arePathsRight_197 : decode cL_arePathsRight 197 = .ok (.iconst 5, 1) := by decide +kernel
theorem dL_arePathsRight_198 : decode cL_arePathsRight 198 = .ok (.iconst 0, 1) := by decide +kernel
theorem dL_arePathsRight_199 : decode cL_arePathsRight 199 = .ok (.invokestatic 141, 3) := by decide +kernel
theorem dL_arePathsRight_202 : decode cL_arePathsRight 202 = .ok (.sipush (-2002), 3) := by decide +kernel
theorem dL_arePathsRight_205 : decode cL_arePathsRight 205 = .ok (.if_icmp .ne 23, 3) := by decide +kernel
theorem dL_arePathsRight_208 : decode cL_arePathsRight 208 = .ok (.aload_n 0, 1) := by decide +kernel
theorem dL_arePathsRight_209 : decode cL_arePathsRight 209 = .ok (.iconst 5, 1) := by decide +kernel
theorem dL_arePathsRight_210 : decode cL_arePathsRight 210 = .ok (.iconst 0, 1) := by decide +kernel
theorem dL_arePathsRight_211 : decode cL_arePathsRight 211 = .ok (.bipush 6, 2) := by decide +kernel
theorem dL_arePathsRight_213 : decode cL_arePathsRight 213 = .ok (.iconst 0, 1) := by decide +kernel
theorem dL_arePathsRight_214 : decode cL_arePathsRight 214 = .ok (.iconst 0, 1) := by decide +kernel
theorem dL_arePathsRight_215 : decode cL_arePathsRight 215 = .ok (.invokestatic 141, 3) := by decide +kernel
theorem dL_arePathsRight_218 : decode cL_arePathsRight 218 = .ok (.sipush (-2002), 3) := by decide +kernel
theorem dL_arePathsRight_221 : decode cL_arePathsRight 221 = .ok (.if_icmp .ne 7, 3) := by decide +kernel
theorem dL_arePathsRight_224 : decode cL_arePathsRight 224 = .ok (.iconst 1, 1) := by decide +kernel
theorem dL_arePathsRight_225 : decode cL_arePathsRight 225 = .ok (.goto 4, 3) := by decide +kernel
theorem dL_arePathsRight_228 : decode cL_arePathsRight 228 = .ok (.iconst 0, 1) := by decide +kernel
theorem dL_arePathsRight_229 : decode cL_arePathsRight 229 = .ok (.istore_n 3, 1) := by decide +kernel
theorem dL_arePathsRight_230 : decode cL_arePathsRight 230 = .ok (.iconst 0, 1) := by decide +kernel
theorem dL_arePathsRight_231 : decode cL_arePathsRight 231 = .ok (.istore 4, 2) := by decide +kernel
theorem dL_arePathsRight_233 : decode cL_arePathsRight 233 = .ok (.iload 4, 2) := by decide +kernel
theorem dL_arePathsRight_235 : decode cL_arePathsRight 235 = .ok (.bipush 30, 2) := by decide +kernel
theorem dL_arePathsRight_237 : decode cL_arePathsRight 237 = .ok (.if_icmp .ge 64, 3) := by decide +kernel
theorem dL_arePathsRight_240 : decode cL_arePathsRight 240 = .ok (.iload_n 3, 1) := by decide +kernel
theorem dL_arePathsRight_241 : decode cL_arePathsRight 241 = .ok (.ifCond .eq 52, 3) := by decide +kernel
theorem dL_arePathsRight_244 : decode cL_arePathsRight 244 = .ok (.aload_n 0, 1) := by decide +kernel
theorem dL_arePathsRight_245 : decode cL_arePathsRight 245 = .ok (.iconst 5, 1) := by decide +kernel
theorem dL_arePathsRight_246 : decode cL_arePathsRight 246 = .ok (.iload_n 1, 1) := by decide +kernel
theorem dL_arePathsRight_247 : decode cL_arePathsRight 247 = .ok (.bipush 6, 2) := by decide +kernel
theorem dL_arePathsRight_249 : decode cL_arePathsRight 249 = .ok (.idiv, 1) := by decide +kernel
theorem dL_arePathsRight_250 : decode cL_arePathsRight 250 = .ok (.iload_n 1, 1) := by decide +kernel
theorem dL_arePathsRight_251 : decode cL_arePathsRight 251 = .ok (.bipush 6, 2) := by decide +kernel
theorem dL_arePathsRight_253 : decode cL_arePathsRight 253 = .ok (.irem, 1) := by decide +kernel
theorem dL_arePathsRight_254 : decode cL_arePathsRight 254 = .ok (.iload 4, 2) := by decide +kernel
theorem dL_arePathsRight_256 : decode cL_arePathsRight 256 = .ok (.bipush 6, 2) := by decide +kernel
theorem dL_arePathsRight_258 : decode cL_arePathsRight 258 = .ok (.idiv, 1) := by decide +kernel
theorem dL_arePathsRight_259 : decode cL_arePathsRight 259 = .ok (.iload 4, 2) := by decide +kernel
theorem dL_arePathsRight_261 : decode cL_arePathsRight 261 = .ok (.bipush 6, 2) := by decide +kernel
theorem dL_arePathsRight_263 : decode cL_arePathsRight 263 = .ok (.irem, 1) := by decide +kernel
theorem dL_arePathsRight_264 : decode cL_arePathsRight 264 = .ok (.invokestatic 141, 3) := by decide +kernel
theorem dL_arePathsRight_267 : decode cL_arePathsRight 267 = .ok (.aload_n 2, 1) := by decide +kernel
theorem dL_arePathsRight_268 : decode cL_arePathsRight 268 = .ok (.iload 4, 2) := by decide +kernel
theorem dL_arePathsRight_270 : decode cL_arePathsRight 270 = .ok (.iaload, 1) := by decide +kernel
theorem dL_arePathsRight_271 : decode cL_arePathsRight 271 = .ok (.bipush 98, 2) := by decide +kernel
theorem dL_arePathsRight_273 : decode cL_arePathsRight 273 = .ok (.if_icmp .le 9, 3) := by decide +kernel
theorem dL_arePathsRight_276 : decode cL_arePathsRight 276 = .ok (.sipush (-2004), 3) := by decide +kernel
theorem dL_arePathsRight_279 : decode cL_arePathsRight 279 = .ok (.goto 7, 3) := by decide +kernel
theorem dL_arePathsRight_282 : decode cL_arePathsRight 282 = .ok (.aload_n 2, 1) := by decide +kernel
theorem dL_arePathsRight_283 : decode cL_arePathsRight 283 = .ok (.iload 4, 2) := by decide +kernel
theorem dL_arePathsRight_285 : decode cL_arePathsRight 285 = .ok (.iaload, 1) := by decide +kernel
theorem dL_arePathsRight_286 : decode cL_arePathsRight 286 = .ok (.if_icmp .ne 7, 3) := by decide +kernel
theorem dL_arePathsRight_289 : decode cL_arePathsRight 289 = .ok (.iconst 1, 1) := by decide +kernel
theorem dL_arePathsRight_290 : decode cL_arePathsRight 290 = .ok (.goto 4, 3) := by decide +kernel
theorem dL_arePathsRight_293 : decode cL_arePathsRight 293 = .ok (.iconst 0, 1) := by decide +kernel
theorem dL_arePathsRight_294 : decode cL_arePathsRight 294 = .ok (.istore_n 3, 1) := by decide +kernel
theorem dL_arePathsRight_295 : decode cL_arePathsRight 295 = .ok (.iinc 4 1, 3) := by decide +kernel
theorem dL_arePathsRight_298 : decode cL_arePathsRight 298 = .ok (.goto (-65), 3) := by decide +kernel
theorem dL_arePathsRight_301 : decode cL_arePathsRight 301 = .ok (.iload_n 3, 1) := by decide +kernel
theorem dL_arePathsRight_302 : decode cL_arePathsRight 302 = .ok (.ireturn, 1) := by decide +kernel
set_option maxRecDepth 20000 in
theorem ggL_areWinchesRight_X10_winchCount : GoodIn wsL_areWinchesRight wsX10_winchCount := goodIn_r _ [6, 7, 8, 9, 10, 11, 12, 13, 728, 729, 730, 731, 732, 733, 734, 735, 736, 737, 738, 739, 740, 741, 742, 743, 744, 745, 746, 747, 748, 749, 750, 751] (by decide +kernel) (by decide +kernel)
set_option maxRecDepth 20000 in
theorem gL_areWinchesRight_X10_winchCount : GoodIn wsL_areWinchesRight (wsV RL 111 RX10 yX10_winchCount wsX10_winchCount) := goodIn_app (goodIn_of _ (by decide +kernel)) ggL_areWinchesRight_X10_winchCount
set_option maxRecDepth 20000 in
theorem ggL_areWinchesRight_L_looks : GoodIn wsL_areWinchesRight wsL_looks := goodIn_ca (goodIn_ca (goodIn_ca (goodIn_ca (goodIn_ca (goodIn_ca (goodIn_r _ [17, 18, 19, 20, 5, 21, 7, 22, 23, 24, 11, 25, 26, 27, 28, 29, 30, 31, 32, 33, 34, 35, 36, 37, 38, 39, 40, 41, 42, 43, 44, 45, 46, 47, 48, 49, 50, 51, 52, 53, 2, 3, 4, 6, 8, 9, 10, 12, 13, 54, 55, 56, 57, 58, 59, 60, 61, 62, 63, 64, 65, 66, 67, 68, 69, 70, 71, 72, 73, 74, 75, 76, 77, 78, 79, 80, 81, 82, 83, 84, 85, 86, 87, 88, 89, 90, 91, 92, 93, 94, 95, 96, 97, 98, 99, 100, 101, 102, 103, 104, 105, 106, 107, 108, 109, 110, 111, 112, 113, 114, 115, 16, 116, 117, 118, 119, 120, 121, 122, 123, 124, 125, 126, 127, 128, 129, 130, 131, 132, 133, 134, 135, 136, 137, 138, 139, 140, 141, 142, 143, 144, 145, 146, 147, 148, 149, 150, 151, 152, 153, 154, 155, 156, 157, 158, 159, 160, 161, 162, 163, 164, 165, 166, 167, 168, 169, 170, 171, 172, 173, 174, 175, 176, 177, 178, 179, 180, 181, 182, 183, 184, 185, 186, 187, 188, 189, 190, 191, 192, 193, 194, 195, 196, 197, 198, 199, 200, 201, 202, 203, 204, 205, 206, 207, 208, 209, 210, 211, 212, 213, 214, 215, 216, 217, 218, 219, 220, 221, 222, 223, 224, 225, 226, 227, 228, 229, 230, 231, 232, 233, 234, 235, 236, 237, 238, 239, 240, 241, 242, 243, 244, 245, 246, 247, 248, 249, 250, 251, 252, 253, 254, 255, 256, 257, 258, 259, 260, 261, 262, 263, 264, 265, 266, 267, 268, 269, 270, 271, 272, 273, 274, 275, 276, 277, 278, 279, 280, 281, 282, 283, 284, 285, 286, 287, 288, 289, 290, 291, 292, 293, 294, 295, 296, 297, 298, 299, 300, 301, 302, 303, 304, 305, 306, 307, 308, 309, 310, 311, 312, 313, 314, 315, 316, 317, 318, 319, 320, 321, 322, 323, 324, 325, 326, 327, 328, 728, 729, 730, 731, 732, 733, 734, 735, 736, 737, 738, 739, 740, 741, 742, 743, 744, 745, 746, 747, 748, 749, 750, 751, 752, 753, 754, 755, 756, 757, 758] (by decide +kernel) (by decide +kernel)) (goodIn_sub (fun _ h => List.mem_cons_of_mem _ (List.mem_append_left _ (List.mem_append_left _ (List.mem_append_left _ (List.mem_append_left _ (List.mem_append_left _ (List.mem_append_right _ h))))))) (by decide +kernel))) (goodIn_sub (fun _ h => List.mem_cons_of_mem _ (List.mem_append_left _ (List.mem_append_left _ (List.mem_append_left _ (List.mem_append_left _ (List.mem_append_right _ h)))))) (by decide +kernel))) (goodIn_sub (fun _ h => List.mem_cons_of_mem _ (List.mem_append_left _ (List.mem_append_left _ (List.mem_append_left _ (List.mem_append_right _ h))))) (by decide +kernel))) (goodIn_sub (fun _ h => List.mem_cons_of_mem _ (List.mem_append_left _ (List.mem_append_left _ (List.mem_append_right _ h)))) (by decide +kernel))) (goodIn_sub (fun _ h => List.mem_cons_of_mem _ (List.mem_append_left _ (List.mem_append_right _ h))) (by decide +kernel))) (goodIn_sub (fun _ h => List.mem_cons_of_mem _ (List.mem_append_right _ h)) (by decide +kernel))
set_option maxRecDepth 20000 in
theorem gL_areWinchesRight_L_looks : GoodIn wsL_areWinchesRight (va_wsS RL 199 yL_looks wsL_looks) := goodIn_app (goodIn_of _ (by decide +kernel)) ggL_areWinchesRight_L_looks
set_option maxRecDepth 20000 in
theorem ggL_areWinchesRight_L_ask : GoodIn wsL_areWinchesRight wsL_ask := goodIn_ca (goodIn_ca (goodIn_ca (goodIn_ca (goodIn_ca (goodIn_ca (goodIn_r _ [128, 129, 130, 131, 132, 133, 16, 134, 54, 55, 56, 5, 57, 7, 58, 59, 60, 61, 62, 63, 64, 65, 66, 67, 68, 69, 70, 71, 72, 73, 74, 75, 76, 77, 78, 79, 80, 81, 82, 83, 84, 85, 86, 87, 88, 89, 90, 91, 92, 93, 11, 94, 95, 135, 136, 137, 138, 139, 140, 141, 142, 143, 144, 125, 145, 146, 147, 148, 149, 150, 151, 152, 153, 154, 155, 156, 157, 158, 159, 160, 161, 162, 163, 164, 165, 166, 167, 168, 169, 170, 171, 172, 173, 174, 175, 176, 26, 177, 178, 179, 180, 181, 182, 183, 184, 185, 186, 187, 188, 189, 190, 191, 192, 193, 194, 195, 196, 197, 198, 199, 200, 201, 202, 203, 204, 205, 206, 207, 208, 209, 23, 24, 25, 210, 211, 212, 213, 214, 215, 216, 217, 218, 219, 220, 221, 222, 223, 110, 111, 112, 113, 224, 225, 226, 227, 228, 229, 230, 231, 232, 233, 234, 235, 13, 236, 237, 238, 239, 240, 241, 242, 243, 244, 245, 246, 247, 248, 249, 250, 251, 252, 253, 254, 255, 256, 257, 258, 259, 260, 261, 262, 263, 264, 265, 266, 267, 268, 269, 270, 271, 272, 273, 274, 275, 276, 277, 278, 279, 280, 281, 282, 283, 284, 285, 286, 728, 729, 730, 731, 732, 733, 734, 735, 736, 737, 738, 739, 740, 741, 742, 743, 744, 745, 746, 747, 748, 749, 750, 751, 752, 753, 754, 755, 756] (by decide +kernel) (by decide +kernel)) (goodIn_sub (fun _ h => List.mem_cons_of_mem _ (List.mem_append_left _ (List.mem_append_left _ (List.mem_append_left _ (List.mem_append_left _ (List.mem_append_left _ (List.mem_append_right _ h))))))) (by decide +kernel))) (goodIn_sub (fun _ h => List.mem_cons_of_mem _ (List.mem_append_left _ (List.mem_append_left _ (List.mem_append_left _ (List.mem_append_left _ (List.mem_append_right _ h)))))) (by decide +kernel))) (goodIn_sub (fun _ h => List.mem_cons_of_mem _ (List.mem_append_left _ (List.mem_append_left _ (List.mem_append_left _ (List.mem_append_right _ h))))) (by decide +kernel))) (goodIn_sub (fun _ h => List.mem_cons_of_mem _ (List.mem_append_left _ (List.mem_append_left _ (List.mem_append_right _ h)))) (by decide +kernel))) (goodIn_sub (fun _ h => List.mem_cons_of_mem _ (List.mem_append_left _ (List.mem_append_right _ h))) (by decide +kernel))) (goodIn_sub (fun _ h => List.mem_cons_of_mem _ (List.mem_append_right _ h)) (by decide +kernel))
set_option maxRecDepth 20000 in
theorem gL_areWinchesRight_L_ask : GoodIn wsL_areWinchesRight (va_wsS RL 141 yL_ask wsL_ask) := goodIn_app (goodIn_of _ (by decide +kernel)) ggL_areWinchesRight_L_ask
set_option maxRecDepth 20000 in
theorem ggL_areWinchesRight_X10_save : GoodIn wsL_areWinchesRight wsX10_save := goodIn_ca (goodIn_r _ [332, 333, 334, 335, 11, 7, 336, 337, 338, 339, 340, 341, 1, 95, 104, 342, 113, 125, 152, 247, 249, 248, 276, 26, 35, 343, 344, 345, 346, 347, 348, 349, 350, 13, 44, 351, 53, 728, 729, 730, 731, 732, 733, 734, 735, 736, 737, 738, 739, 740, 741, 742, 743, 744, 745, 746, 747, 748, 749, 750, 751] (by decide +kernel) (by decide +kernel)) (goodIn_sub (fun _ h => List.mem_cons_of_mem _ (List.mem_append_left _ (List.mem_append_left _ (List.mem_append_left _ (List.mem_append_left _ (List.mem_append_left _ (List.mem_append_right _ h))))))) (by decide +kernel))
set_option maxRecDepth 20000 in
theorem gL_areWinchesRight_X10_save : GoodIn wsL_areWinchesRight (wsV RL 203 RX10 yX10_save wsX10_save) := goodIn_app (goodIn_of _ (by decide +kernel)) ggL_areWinchesRight_X10_save
set_option maxRecDepth 20000 in
theorem ggL_areWinchesRight_X10_liftableCells : GoodIn wsL_areWinchesRight wsX10_liftableCells := goodIn_ca (goodIn_ca (goodIn_r _ [231, 70, 71, 7, 232, 233, 234, 11, 235, 13, 236, 237, 238, 239, 143, 240, 188, 60, 189, 241, 191, 192, 242, 243, 244, 245, 144, 113, 246, 247, 248, 249, 250, 251, 252, 140, 141, 142, 125, 145, 146, 59, 61, 62, 63, 64, 65, 66, 147, 89, 90, 181, 182, 183, 184, 185, 179, 186, 187, 190, 253, 149, 150, 151, 152, 254, 255, 256, 728, 729, 730, 731, 732, 733, 734, 735, 736, 737, 738, 739, 740, 741, 742, 743, 744, 745, 746, 747, 748, 749, 750, 751] (by decide +kernel) (by decide +kernel)) (goodIn_sub (fun _ h => List.mem_cons_of_mem _ (List.mem_append_left _ (List.mem_append_left _ (List.mem_append_left _ (List.mem_append_left _ (List.mem_append_right _ h)))))) (by decide +kernel))) (goodIn_sub (fun _ h => List.mem_cons_of_mem _ (List.mem_append_left _ (List.mem_append_left _ (List.mem_append_left _ (List.mem_append_left _ (List.mem_append_left _ (List.mem_append_right _ h))))))) (by decide +kernel))
set_option maxRecDepth 20000 in
theorem gL_areWinchesRight_X10_liftableCells : GoodIn wsL_areWinchesRight (wsV RL 86 RX10 yX10_liftableCells wsX10_liftableCells) := goodIn_app (goodIn_of _ (by decide +kernel)) ggL_areWinchesRight_X10_liftableCells
set_option maxRecDepth 20000 in
theorem ggL_areWinchesRight_L_deed : GoodIn wsL_areWinchesRight wsL_deed := goodIn_ca (goodIn_ca (goodIn_ca (goodIn_ca (goodIn_ca (goodIn_ca (goodIn_r _ [354, 129, 130, 355, 356, 131, 357, 358, 16, 359, 360, 361, 362, 5, 363, 7, 364, 365, 366, 367, 11, 368, 143, 144, 160, 146, 59, 60, 61, 62, 63, 64, 65, 66, 369, 270, 271, 67, 68, 69, 70, 71, 72, 73, 74, 75, 76, 77, 78, 79, 80, 81, 82, 83, 84, 85, 86, 87, 370, 371, 372, 373, 374, 375, 376, 377, 335, 378, 379, 380, 179, 381, 382, 337, 338, 339, 340, 341, 1, 95, 104, 342, 113, 125, 152, 247, 249, 248, 276, 26, 35, 383, 344, 345, 346, 347, 348, 349, 350, 13, 44, 351, 53, 384, 385, 386, 387, 147, 89, 90, 388, 389, 390, 391, 392, 393, 394, 395, 246, 250, 396, 397, 398, 399, 400, 185, 186, 177, 178, 180, 401, 207, 208, 402, 403, 404, 405, 406, 407, 408, 409, 410, 411, 412, 413, 414, 415, 416, 417, 418, 419, 420, 421, 58, 422, 423, 424, 425, 114, 115, 116, 426, 427, 428, 429, 430, 431, 432, 433, 434, 435, 436, 437, 438, 439, 440, 441, 442, 443, 444, 445, 446, 447, 448, 449, 450, 313, 314, 315, 451, 452, 453, 454, 455, 456, 457, 458, 459, 243, 244, 245, 251, 233, 234, 235, 252, 140, 141, 142, 145, 181, 182, 183, 184, 187, 188, 189, 190, 191, 192, 253, 149, 150, 151, 254, 255, 256, 460, 461, 462, 463, 464, 465, 466, 467, 468, 469, 470, 471, 472, 473, 474, 475, 476, 477, 478, 479, 480, 281, 481, 286, 482, 483, 484, 485, 486, 487, 488, 489, 490, 491, 492, 493, 494, 495, 496, 497, 498, 499, 500, 501, 502, 503, 504, 505, 506, 507, 508, 509, 510, 511, 512, 513, 514, 515, 516, 517, 518, 519, 520, 521, 522, 523, 524, 525, 526, 527, 528, 529, 530, 531, 532, 533, 534, 535, 536, 537, 538, 539, 540, 541, 542, 543, 544, 545, 546, 547, 548, 549, 550, 551, 552, 553, 554, 555, 556, 557, 558, 559, 560, 561, 562, 563, 564, 565, 566, 567, 568, 569, 570, 571, 572, 573, 574, 575, 576, 577, 578, 579, 580, 581, 582, 583, 584, 585, 586, 587, 588, 589, 590, 591, 592, 593, 594, 595, 596, 597, 598, 599, 600, 601, 602, 603, 604, 605, 606, 607, 608, 609, 610, 611, 612, 613, 614, 615, 616, 617, 618, 619, 620, 621, 622, 623, 624, 625, 626, 627, 628, 629, 630, 631, 632, 633, 634, 635, 636, 637, 638, 639, 640, 641, 642, 643, 644, 645, 646, 647, 648, 649, 650, 651, 652, 653, 654, 655, 656, 343, 657, 658, 659, 660, 661, 662, 663, 664, 665, 666, 667, 668, 669, 670, 671, 672, 673, 674, 675, 676, 677, 678, 679, 680, 681, 682, 683, 684, 685, 686, 687, 688, 689, 690, 691, 692, 693, 694, 695, 696, 697, 698, 699, 700, 701, 702, 703, 704, 705, 706, 707, 708, 709, 710, 711, 728, 729, 730, 731, 732, 733, 734, 735, 736, 759, 760, 761, 737, 738, 739, 740, 741, 742, 743, 744, 745, 746, 747, 748, 749, 750, 751, 762, 763, 764, 765, 766, 767, 768, 769, 770, 771, 772] (by decide +kernel) (by decide +kernel)) (goodIn_sub (fun _ h => List.mem_cons_of_mem _ (List.mem_append_left _ (List.mem_append_left _ (List.mem_append_left _ (List.mem_append_left _ (List.mem_append_left _ (List.mem_append_right _ h))))))) (by decide +kernel))) (goodIn_sub (fun _ h => List.mem_cons_of_mem _ (List.mem_append_left _ (List.mem_append_left _ (List.mem_append_left _ (List.mem_append_left _ (List.mem_append_right _ h)))))) (by decide +kernel))) (goodIn_sub (fun _ h => List.mem_cons_of_mem _ (List.mem_append_left _ (List.mem_append_left _ (List.mem_append_left _ (List.mem_append_right _ h))))) (by decide +kernel))) (goodIn_sub (fun _ h => List.mem_cons_of_mem _ (List.mem_append_left _ (List.mem_append_left _ (List.mem_append_right _ h)))) (by decide +kernel))) (goodIn_sub (fun _ h => List.mem_cons_of_mem _ (List.mem_append_left _ (List.mem_append_right _ h))) (by decide +kernel))) (goodIn_sub (fun _ h => List.mem_cons_of_mem _ (List.mem_append_right _ h)) (by decide +kernel))
set_option maxRecDepth 20000 in
theorem gL_areWinchesRight_L_deed : GoodIn wsL_areWinchesRight (va_wsS RL 108 yL_deed wsL_deed) := goodIn_app (goodIn_of _ (by decide +kernel)) ggL_areWinchesRight_L_deed
set_option maxRecDepth 20000 in
theorem ggL_areWinchesRight_X10_restore : GoodIn wsL_areWinchesRight wsX10_restore := goodIn_ca (goodIn_ca (goodIn_r _ [715, 76, 77, 333, 7, 364, 343, 344, 345, 11, 346, 95, 347, 348, 349, 350, 104, 125, 152, 247, 249, 248, 276, 113, 13, 26, 35, 44, 351, 53, 716, 717, 718, 373, 719, 378, 728, 729, 730, 731, 732, 733, 734, 735, 736, 737, 738, 739, 740, 741, 742, 743, 744, 745, 746, 747, 748, 749, 750, 751, 759, 760, 761] (by decide +kernel) (by decide +kernel)) (goodIn_sub (fun _ h => List.mem_cons_of_mem _ (List.mem_append_left _ (List.mem_append_right _ h))) (by decide +kernel))) (goodIn_sub (fun _ h => List.mem_cons_of_mem _ (List.mem_append_left _ (List.mem_append_left _ (List.mem_append_left _ (List.mem_append_left _ (List.mem_append_left _ (List.mem_append_right _ h))))))) (by decide +kernel))
set_option maxRecDepth 20000 in
theorem gL_areWinchesRight_X10_restore : GoodIn wsL_areWinchesRight (wsV RL 206 RX10 yX10_restore wsX10_restore) := goodIn_app (goodIn_of _ (by decide +kernel)) ggL_areWinchesRight_X10_restore
set_option maxRecDepth 20000 in
theorem ggL_areWinchesRight_X10_inYard : GoodIn wsL_areWinchesRight wsX10_inYard := goodIn_ca (goodIn_ca (goodIn_r _ [268, 72, 73, 7, 269, 270, 11, 271, 272, 273, 274, 275, 276, 728, 729, 730, 731, 732, 733, 734, 735, 736, 737, 738, 739, 740, 741, 742, 743, 744, 745, 746, 747, 748, 749, 750, 751] (by decide +kernel) (by decide +kernel)) (goodIn_sub (fun _ h => List.mem_cons_of_mem _ (List.mem_append_left _ (List.mem_append_left _ (List.mem_append_left _ (List.mem_append_right _ h))))) (by decide +kernel))) (goodIn_sub (fun _ h => List.mem_cons_of_mem _ (List.mem_append_left _ (List.mem_append_left _ (List.mem_append_left _ (List.mem_append_left _ (List.mem_append_left _ (List.mem_append_right _ h))))))) (by decide +kernel))
set_option maxRecDepth 20000 in
theorem gL_areWinchesRight_X10_inYard : GoodIn wsL_areWinchesRight (wsV RL 92 RX10 yX10_inYard wsX10_inYard) := goodIn_app (goodIn_of _ (by decide +kernel)) ggL_areWinchesRight_X10_inYard
set_option maxRecDepth 20000 in
theorem ggL_areWinchesRight_X10_yardWeight : GoodIn wsL_areWinchesRight wsX10_yardWeight := goodIn_ca (goodIn_r _ [723, 7, 724, 725, 726, 11, 727, 276, 254, 255, 256, 728, 729, 730, 731, 732, 733, 734, 735, 736, 737, 738, 739, 740, 741, 742, 743, 744, 745, 746, 747, 748, 749, 750, 751] (by decide +kernel) (by decide +kernel)) (goodIn_sub (fun _ h => List.mem_cons_of_mem _ (List.mem_append_left _ (List.mem_append_left _ (List.mem_append_left _ (List.mem_append_left _ (List.mem_append_left _ (List.mem_append_right _ h))))))) (by decide +kernel))
set_option maxRecDepth 20000 in
theorem gL_areWinchesRight_X10_yardWeight : GoodIn wsL_areWinchesRight (wsV RL 209 RX10 yX10_yardWeight wsX10_yardWeight) := goodIn_app (goodIn_of _ (by decide +kernel)) ggL_areWinchesRight_X10_yardWeight
theorem dL_areWinchesRight_0 : decode cL_areWinchesRight 0 = .ok (.aload_n 0, 1) := by decide +kernel
theorem dL_areWinchesRight_1 : decode cL_areWinchesRight 1 = .ok (.invokevirtual 111, 3) := by decide +kernel
theorem dL_areWinchesRight_4 : decode cL_areWinchesRight 4 = .ok (.istore_n 1, 1) := by decide +kernel
theorem dL_areWinchesRight_5 : decode cL_areWinchesRight 5 = .ok (.iconst 0, 1) := by decide +kernel
theorem dL_areWinchesRight_6 : decode cL_areWinchesRight 6 = .ok (.istore_n 2, 1) := by decide +kernel
theorem dL_areWinchesRight_7 : decode cL_areWinchesRight 7 = .ok (.aload_n 0, 1) := by decide +kernel
theorem dL_areWinchesRight_8 : decode cL_areWinchesRight 8 = .ok (.invokestatic 199, 3) := by decide +kernel
theorem dL_areWinchesRight_11 : decode cL_areWinchesRight 11 = .ok (.istore_n 3, 1) := by decide +kernel
theorem dL_areWinchesRight_12 : decode cL_areWinchesRight 12 = .ok (.aload_n 0, 1) := by decide +kernel
theorem dL_areWinchesRight_13 : decode cL_areWinchesRight 13 = .ok (.bipush 6, 2) := by decide +kernel
theorem dL_areWinchesRight_15 : decode cL_areWinchesRight 15 = .ok (.iload_n 1, 1) := by decide +kernel
theorem dL_areWinchesRight_16 : decode cL_areWinchesRight 16 = .ok (.iconst 0, 1) := by decide +kernel
theorem dL_areWinchesRight_17 : decode cL_areWinchesRight 17 = .ok (.iconst 0, 1) := by decide +kernel
theorem dL_areWinchesRight_18 : decode cL_areWinchesRight 18 = .ok (.iconst 0, 1) := by decide +kernel
theorem dL_areWinchesRight_19 : decode cL_areWinchesRight 19 = .ok (.invokestatic 141, 3) := by decide +kernel
theorem dL_areWinchesRight_22 : decode cL_areWinchesRight 22 = .ok (.sipush (-2002), 3) := by decide +kernel
theorem dL_areWinchesRight_25 : decode cL_areWinchesRight 25 = .ok (.if_icmp .ne 39, 3) := by decide +kernel
theorem dL_areWinchesRight_28 : decode cL_areWinchesRight 28 = .ok (.aload_n 0, 1) := by decide +kernel
theorem dL_areWinchesRight_29 : decode cL_areWinchesRight 29 = .ok (.bipush 6, 2) := by decide +kernel
theorem dL_areWinchesRight_31 : decode cL_areWinchesRight 31 = .ok (.iconst (-1), 1) := by decide +kernel
theorem dL_areWinchesRight_32 : decode cL_areWinchesRight 32 = .ok (.iconst 0, 1) := by decide +kernel
theorem dL_areWinchesRight_33 : decode cL_areWinchesRight 33 = .ok (.iconst 0, 1) := by decide +kernel
theorem dL_areWinchesRight_34 : decode cL_areWinchesRight 34 = .ok (.iconst 0, 1) := by decide +kernel
theorem dL_areWinchesRight_35 : decode cL_areWinchesRight 35 = .ok (.invokestatic 141, 3) := by decide +kernel
theorem dL_areWinchesRight_38 : decode cL_areWinchesRight 38 = .ok (.sipush (-2002), 3) := by decide +kernel
theorem dL_areWinchesRight_41 : decode cL_areWinchesRight 41 = .ok (.if_icmp .ne 23, 3) := by decide +kernel
theorem dL_areWinchesRight_44 : decode cL_areWinchesRight 44 = .ok (.aload_n 0, 1) := by decide +kernel
theorem dL_areWinchesRight_45 : decode cL_areWinchesRight 45 = .ok (.bipush 7, 2) := by decide +kernel
theorem dL_areWinchesRight_47 : decode cL_areWinchesRight 47 = .ok (.iconst 5, 1) := by decide +kernel
theorem dL_areWinchesRight_48 : decode cL_areWinchesRight 48 = .ok (.iconst 0, 1) := by decide +kernel
theorem dL_areWinchesRight_49 : decode cL_areWinchesRight 49 = .ok (.iconst 0, 1) := by decide +kernel
theorem dL_areWinchesRight_50 : decode cL_areWinchesRight 50 = .ok (.iconst 0, 1) := by decide +kernel
theorem dL_areWinchesRight_51 : decode cL_areWinchesRight 51 = .ok (.invokestatic 141, 3) := by decide +kernel
theorem dL_areWinchesRight_54 : decode cL_areWinchesRight 54 = .ok (.sipush (-2002), 3) := by decide +kernel
theorem dL_areWinchesRight_57 : decode cL_areWinchesRight 57 = .ok (.if_icmp .ne 7, 3) := by decide +kernel
theorem dL_areWinchesRight_60 : decode cL_areWinchesRight 60 = .ok (.iconst 1, 1) := by decide +kernel
theorem dL_areWinchesRight_61 : decode cL_areWinchesRight 61 = .ok (.goto 4, 3) := by decide +kernel
theorem dL_areWinchesRight_64 : decode cL_areWinchesRight 64 = .ok (.iconst 0, 1) := by decide +kernel
theorem dL_areWinchesRight_65 : decode cL_areWinchesRight 65 = .ok (.istore 4, 2) := by decide +kernel
theorem dL_areWinchesRight_67 : decode cL_areWinchesRight 67 = .ok (.aload_n 0, 1) := by decide +kernel
theorem dL_areWinchesRight_68 : decode cL_areWinchesRight 68 = .ok (.invokevirtual 203, 3) := by decide +kernel
theorem dL_areWinchesRight_71 : decode cL_areWinchesRight 71 = .ok (.bipush 30, 2) := by decide +kernel
theorem dL_areWinchesRight_73 : decode cL_areWinchesRight 73 = .ok (.newarray .int, 2) := by decide +kernel
theorem dL_areWinchesRight_75 : decode cL_areWinchesRight 75 = .ok (.astore 5, 2) := by decide +kernel
theorem dL_areWinchesRight_77 : decode cL_areWinchesRight 77 = .ok (.iconst 0, 1) := by decide +kernel
theorem dL_areWinchesRight_78 : decode cL_areWinchesRight 78 = .ok (.istore 6, 2) := by decide +kernel
theorem dL_areWinchesRight_80 : decode cL_areWinchesRight 80 = .ok (.iload 6, 2) := by decide +kernel
theorem dL_areWinchesRight_82 : decode cL_areWinchesRight 82 = .ok (.iload_n 1, 1) := by decide +kernel
theorem dL_areWinchesRight_83 : decode cL_areWinchesRight 83 = .ok (.if_icmp .ge 143, 3) := by decide +kernel
theorem dL_areWinchesRight_86 : decode cL_areWinchesRight 86 = .ok (.iconst 0, 1) := by decide +kernel
theorem dL_areWinchesRight_87 : decode cL_areWinchesRight 87 = .ok (.istore 7, 2) := by decide +kernel
theorem dL_areWinchesRight_89 : decode cL_areWinchesRight 89 = .ok (.iconst 0, 1) := by decide +kernel
theorem dL_areWinchesRight_90 : decode cL_areWinchesRight 90 = .ok (.istore 8, 2) := by decide +kernel
theorem dL_areWinchesRight_92 : decode cL_areWinchesRight 92 = .ok (.iload 8, 2) := by decide +kernel
theorem dL_areWinchesRight_94 : decode cL_areWinchesRight 94 = .ok (.bipush 30, 2) := by decide +kernel
theorem dL_areWinchesRight_96 : decode cL_areWinchesRight 96 = .ok (.if_icmp .ge 101, 3) := by decide +kernel
theorem dL_areWinchesRight_99 : decode cL_areWinchesRight 99 = .ok (.aload_n 0, 1) := by decide +kernel
theorem dL_areWinchesRight_100 : decode cL_areWinchesRight 100 = .ok (.iload 6, 2) := by decide +kernel
theorem dL_areWinchesRight_102 : decode cL_areWinchesRight 102 = .ok (.invokevirtual 86, 3) := by decide +kernel
theorem dL_areWinchesRight_105 : decode cL_areWinchesRight 105 = .ok (.istore 9, 2) := by decide +kernel
theorem dL_areWinchesRight_107 : decode cL_areWinchesRight 107 = .ok (.aload_n 0, 1) := by decide +kernel
theorem dL_areWinchesRight_108 : decode cL_areWinchesRight 108 = .ok (.bipush 6, 2) := by decide +kernel
theorem dL_areWinchesRight_110 : decode cL_areWinchesRight 110 = .ok (.iload 8, 2) := by decide +kernel
theorem dL_areWinchesRight_112 : decode cL_areWinchesRight 112 = .ok (.bipush 6, 2) := by decide +kernel
theorem dL_areWinchesRight_114 : decode cL_areWinchesRight 114 = .ok (.idiv, 1) := by decide +kernel
theorem dL_areWinchesRight_115 : decode cL_areWinchesRight 115 = .ok (.iload 8, 2) := by decide +kernel
theorem dL_areWinchesRight_117 : decode cL_areWinchesRight 117 = .ok (.bipush 6, 2) := by decide +kernel
theorem dL_areWinchesRight_119 : decode cL_areWinchesRight 119 = .ok (.irem, 1) := by decide +kernel
theorem dL_areWinchesRight_120 : decode cL_areWinchesRight 120 = .ok (.iload 6, 2) := by decide +kernel
theorem dL_areWinchesRight_122 : decode cL_areWinchesRight 122 = .ok (.iconst 0, 1) := by decide +kernel
theorem dL_areWinchesRight_123 : decode cL_areWinchesRight 123 = .ok (.invokestatic 108, 3) := by decide +kernel
theorem dL_areWinchesRight_126 : decode cL_areWinchesRight 126 = .ok (.istore 10, 2) := by decide +kernel
theorem dL_areWinchesRight_128 : decode cL_areWinchesRight 128 = .ok (.iload 7, 2) := by decide +kernel
theorem dL_areWinchesRight_130 : decode cL_areWinchesRight 130 = .ok (.iload 10, 2) := by decide +kernel
theorem dL_areWinchesRight_132 : decode cL_areWinchesRight 132 = .ok (.ifCond .lt 7, 3) := by decide +kernel
theorem dL_areWinchesRight_135 : decode cL_areWinchesRight 135 = .ok (.iconst 1, 1) := by decide +kernel
theorem dL_areWinchesRight_136 : decode cL_areWinchesRight 136 = .ok (.goto 4, 3) := by decide +kernel
theorem dL_areWinchesRight_139 : decode cL_areWinchesRight 139 = .ok (.iconst 0, 1) := by decide +kernel
theorem dL_areWinchesRight_140 : decode cL_areWinchesRight 140 = .ok (.iadd, 1) := by decide +kernel
theorem dL_areWinchesRight_141 : decode cL_areWinchesRight 141 = .ok (.istore 7, 2) := by decide +kernel
theorem dL_areWinchesRight_143 : decode cL_areWinchesRight 143 = .ok (.aload 5, 2) := by decide +kernel
theorem dL_areWinchesRight_145 : decode cL_areWinchesRight 145 = .ok (.iload 8, 2) := by decide +kernel
theorem dL_areWinchesRight_147 : decode cL_areWinchesRight 147 = .ok (.dup2, 1) := by decide +kernel
theorem dL_areWinchesRight_148 : decode cL_areWinchesRight 148 = .ok (.iaload, 1) := by decide +kernel
theorem dL_areWinchesRight_149 : decode cL_areWinchesRight 149 = .ok (.iload 10, 2) := by decide +kernel
theorem dL_areWinchesRight_151 : decode cL_areWinchesRight 151 = .ok (.ifCond .lt 10, 3) := by decide +kernel
theorem dL_areWinchesRight_154 : decode cL_areWinchesRight 154 = .ok (.iconst 1, 1) := by decide +kernel
theorem dL_areWinchesRight_155 : decode cL_areWinchesRight 155 = .ok (.iload 6, 2) := by decide +kernel
theorem dL_areWinchesRight_157 : decode cL_areWinchesRight 157 = .ok (.ishl, 1) := by decide +kernel
theorem dL_areWinchesRight_158 : decode cL_areWinchesRight 158 = .ok (.goto 4, 3) := by decide +kernel
theorem dL_areWinchesRight_161 : decode cL_areWinchesRight 161 = .ok (.iconst 0, 1) := by decide +kernel
theorem dL_areWinchesRight_162 : decode cL_areWinchesRight 162 = .ok (.iadd, 1) := by decide +kernel
theorem dL_areWinchesRight_163 : decode cL_areWinchesRight 163 = .ok (.iastore, 1) := by decide +kernel
theorem dL_areWinchesRight_164 : decode cL_areWinchesRight 164 = .ok (.aload_n 0, 1) := by decide +kernel
theorem dL_areWinchesRight_165 : decode cL_areWinchesRight 165 = .ok (.invokevirtual 206, 3) := by decide +kernel
theorem dL_areWinchesRight_168 : decode cL_areWinchesRight 168 = .ok (.iload 4, 2) := by decide +kernel
theorem dL_areWinchesRight_170 : decode cL_areWinchesRight 170 = .ok (.ifCond .eq 18, 3) := by decide +kernel
theorem dL_areWinchesRight_173 : decode cL_areWinchesRight 173 = .ok (.iload 9, 2) := by decide +kernel
theorem dL_areWinchesRight_175 : decode cL_areWinchesRight 175 = .ok (.aload_n 0, 1) := by decide +kernel
theorem dL_areWinchesRight_176 : decode cL_areWinchesRight 176 = .ok (.iload 6, 2) := by decide +kernel
theorem dL_areWinchesRight_178 : decode cL_areWinchesRight 178 = .ok (.invokevirtual 86, 3) := by decide +kernel
theorem dL_areWinchesRight_181 : decode cL_areWinchesRight 181 = .ok (.if_icmp .ne 7, 3) := by decide +kernel
theorem dL_areWinchesRight_184 : decode cL_areWinchesRight 184 = .ok (.iconst 1, 1) := by decide +kernel
theorem dL_areWinchesRight_185 : decode cL_areWinchesRight 185 = .ok (.goto 4, 3) := by decide +kernel
theorem dL_areWinchesRight_188 : decode cL_areWinchesRight 188 = .ok (.iconst 0, 1) := by decide +kernel
theorem dL_areWinchesRight_189 : decode cL_areWinchesRight 189 = .ok (.istore 4, 2) := by decide +kernel
theorem dL_areWinchesRight_191 : decode cL_areWinchesRight 191 = .ok (.iinc 8 1, 3) := by decide +kernel
theorem dL_areWinchesRight_194 : decode cL_areWinchesRight 194 = .ok (.goto (-102), 3) := by decide +kernel
theorem dL_areWinchesRight_197 : decode cL_areWinchesRight 197 = .ok (.iload 4, 2) := by decide +kernel
theorem dL_areWinchesRight_199 : decode cL_areWinchesRight 199 = .ok (.ifCond .eq 18, 3) := by decide +kernel
theorem dL_areWinchesRight_202 : decode cL_areWinchesRight 202 = .ok (.aload_n 0, 1) := by decide +kernel
theorem dL_areWinchesRight_203 : decode cL_areWinchesRight 203 = .ok (.iload 6, 2) := by decide +kernel
theorem dL_areWinchesRight_205 : decode cL_areWinchesRight 205 = .ok (.invokevirtual 86, 3) := by decide +kernel
theorem dL_areWinchesRight_208 : decode cL_areWinchesRight 208 = .ok (.iload 7, 2) := by decide +kernel
theorem dL_areWinchesRight_210 : decode cL_areWinchesRight 210 = .ok (.if_icmp .ne 7, 3) := by decide +kernel
theorem dL_areWinchesRight_213 : decode cL_areWinchesRight 213 = .ok (.iconst 1, 1) := by decide +kernel
theorem dL_areWinchesRight_214 : decode cL_areWinchesRight 214 = .ok (.goto 4, 3) := by decide +kernel
theorem dL_areWinchesRight_217 : decode cL_areWinchesRight 217 = .ok (.iconst 0, 1) := by decide +kernel
theorem dL_areWinchesRight_218 : decode cL_areWinchesRight 218 = .ok (.istore 4, 2) := by decide +kernel
theorem dL_areWinchesRight_220 : decode cL_areWinchesRight 220 = .ok (.iinc 6 1, 3) := by decide +kernel
theorem dL_areWinchesRight_223 : decode cL_areWinchesRight 223 = .ok (.goto (-143), 3) := by decide +kernel
theorem dL_areWinchesRight_226 : decode cL_areWinchesRight 226 = .ok (.iconst 0, 1) := by decide +kernel
theorem dL_areWinchesRight_227 : decode cL_areWinchesRight 227 = .ok (.istore 6, 2) := by decide +kernel
theorem dL_areWinchesRight_229 : decode cL_areWinchesRight 229 = .ok (.iload 6, 2) := by decide +kernel
theorem dL_areWinchesRight_231 : decode cL_areWinchesRight 231 = .ok (.bipush 30, 2) := by decide +kernel
theorem dL_areWinchesRight_233 : decode cL_areWinchesRight 233 = .ok (.if_icmp .ge 79, 3) := by decide +kernel
theorem dL_areWinchesRight_236 : decode cL_areWinchesRight 236 = .ok (.aload_n 0, 1) := by decide +kernel
theorem dL_areWinchesRight_237 : decode cL_areWinchesRight 237 = .ok (.bipush 7, 2) := by decide +kernel
theorem dL_areWinchesRight_239 : decode cL_areWinchesRight 239 = .ok (.iload 6, 2) := by decide +kernel
theorem dL_areWinchesRight_241 : decode cL_areWinchesRight 241 = .ok (.bipush 6, 2) := by decide +kernel
theorem dL_areWinchesRight_243 : decode cL_areWinchesRight 243 = .ok (.idiv, 1) := by decide +kernel
theorem dL_areWinchesRight_244 : decode cL_areWinchesRight 244 = .ok (.iload 6, 2) := by decide +kernel
theorem dL_areWinchesRight_246 : decode cL_areWinchesRight 246 = .ok (.bipush 6, 2) := by decide +kernel
theorem dL_areWinchesRight_248 : decode cL_areWinchesRight 248 = .ok (.irem, 1) := by decide +kernel
theorem dL_areWinchesRight_249 : decode cL_areWinchesRight 249 = .ok (.iconst 0, 1) := by decide +kernel
theorem dL_areWinchesRight_250 : decode cL_areWinchesRight 250 = .ok (.iconst 0, 1) := by decide +kernel
theorem dL_areWinchesRight_251 : decode cL_areWinchesRight 251 = .ok (.invokestatic 141, 3) := by decide +kernel
theorem dL_areWinchesRight_254 : decode cL_areWinchesRight 254 = .ok (.istore 7, 2) := by decide +kernel
theorem dL_areWinchesRight_256 : decode cL_areWinchesRight 256 = .ok (.iload 4, 2) := by decide +kernel
theorem dL_areWinchesRight_258 : decode cL_areWinchesRight 258 = .ok (.ifCond .eq 45, 3) := by decide +kernel
theorem dL_areWinchesRight_261 : decode cL_areWinchesRight 261 = .ok (.aload 5, 2) := by decide +kernel
theorem dL_areWinchesRight_263 : decode cL_areWinchesRight 263 = .ok (.iload 6, 2) := by decide +kernel
theorem dL_areWinchesRight_265 : decode cL_areWinchesRight 265 = .ok (.iaload, 1) := by decide +kernel
theorem dL_areWinchesRight_266 : decode cL_areWinchesRight 266 = .ok (.ifCond .ne 14, 3) := by decide +kernel
theorem dL_areWinchesRight_269 : decode cL_areWinchesRight 269 = .ok (.iload 7, 2) := by decide +kernel
theorem dL_areWinchesRight_271 : decode cL_areWinchesRight 271 = .ok (.sipush (-2004), 3) := by decide +kernel
theorem dL_areWinchesRight_274 : decode cL_areWinchesRight 274 = .ok (.if_icmp .ne 29, 3) := by decide +kernel
theorem dL_areWinchesRight_277 : decode cL_areWinchesRight 277 = .ok (.goto 22, 3) := by decide +kernel
theorem dL_areWinchesRight_280 : decode cL_areWinchesRight 280 = .ok (.iload 7, 2) := by decide +kernel
theorem dL_areWinchesRight_282 : decode cL_areWinchesRight 282 = .ok (.ifCond .lt 21, 3) := by decide +kernel
theorem dL_areWinchesRight_285 : decode cL_areWinchesRight 285 = .ok (.aload 5, 2) := by decide +kernel
theorem dL_areWinchesRight_287 : decode cL_areWinchesRight 287 = .ok (.iload 6, 2) := by decide +kernel
theorem dL_areWinchesRight_289 : decode cL_areWinchesRight 289 = .ok (.iaload, 1) := by decide +kernel
theorem dL_areWinchesRight_290 : decode cL_areWinchesRight 290 = .ok (.iload 7, 2) := by decide +kernel
theorem dL_areWinchesRight_292 : decode cL_areWinchesRight 292 = .ok (.ishr, 1) := by decide +kernel
theorem dL_areWinchesRight_293 : decode cL_areWinchesRight 293 = .ok (.iconst 2, 1) := by decide +kernel
theorem dL_areWinchesRight_294 : decode cL_areWinchesRight 294 = .ok (.irem, 1) := by decide +kernel
theorem dL_areWinchesRight_295 : decode cL_areWinchesRight 295 = .ok (.iconst 1, 1) := by decide +kernel
theorem dL_areWinchesRight_296 : decode cL_areWinchesRight 296 = .ok (.if_icmp .ne 7, 3) := by decide +kernel
theorem dL_areWinchesRight_299 : decode cL_areWinchesRight 299 = .ok (.iconst 1, 1) := by decide +kernel
theorem dL_areWinchesRight_300 : decode cL_areWinchesRight 300 = .ok (.goto 4, 3) := by decide +kernel
theorem dL_areWinchesRight_303 : decode cL_areWinchesRight 303 = .ok (.iconst 0, 1) := by decide +kernel
theorem dL_areWinchesRight_304 : decode cL_areWinchesRight 304 = .ok (.istore 4, 2) := by decide +kernel
theorem dL_areWinchesRight_306 : decode cL_areWinchesRight 306 = .ok (.iinc 6 1, 3) := by decide +kernel
theorem dL_areWinchesRight_309 : decode cL_areWinchesRight 309 = .ok (.goto (-80), 3) := by decide +kernel
theorem dL_areWinchesRight_312 : decode cL_areWinchesRight 312 = .ok (.iconst 0, 1) := by decide +kernel
theorem dL_areWinchesRight_313 : decode cL_areWinchesRight 313 = .ok (.istore 6, 2) := by decide +kernel
theorem dL_areWinchesRight_315 : decode cL_areWinchesRight 315 = .ok (.iload 6, 2) := by decide +kernel
theorem dL_areWinchesRight_317 : decode cL_areWinchesRight 317 = .ok (.iconst 4, 1) := by decide +kernel
theorem dL_areWinchesRight_318 : decode cL_areWinchesRight 318 = .ok (.if_icmp .ge 23, 3) := by decide +kernel
theorem dL_areWinchesRight_321 : decode cL_areWinchesRight 321 = .ok (.iload_n 2, 1) := by decide +kernel
theorem dL_areWinchesRight_322 : decode cL_areWinchesRight 322 = .ok (.aload_n 0, 1) := by decide +kernel
theorem dL_areWinchesRight_323 : decode cL_areWinchesRight 323 = .ok (.iload 6, 2) := by decide +kernel
theorem dL_areWinchesRight_325 : decode cL_areWinchesRight 325 = .ok (.invokevirtual 92, 3) := by decide +kernel
theorem dL_areWinchesRight_328 : decode cL_areWinchesRight 328 = .ok (.iconst 2, 1) := by decide +kernel
theorem dL_areWinchesRight_329 : decode cL_areWinchesRight 329 = .ok (.iload 6, 2) := by decide +kernel
theorem dL_areWinchesRight_331 : decode cL_areWinchesRight 331 = .ok (.iadd, 1) := by decide +kernel
theorem dL_areWinchesRight_332 : decode cL_areWinchesRight 332 = .ok (.imul, 1) := by decide +kernel
theorem dL_areWinchesRight_333 : decode cL_areWinchesRight 333 = .ok (.iadd, 1) := by decide +kernel
theorem dL_areWinchesRight_334 : decode cL_areWinchesRight 334 = .ok (.istore_n 2, 1) := by decide +kernel
theorem dL_areWinchesRight_335 : decode cL_areWinchesRight 335 = .ok (.iinc 6 1, 3) := by decide +kernel
theorem dL_areWinchesRight_338 : decode cL_areWinchesRight 338 = .ok (.goto (-23), 3) := by decide +kernel
theorem dL_areWinchesRight_341 : decode cL_areWinchesRight 341 = .ok (.iload 4, 2) := by decide +kernel
theorem dL_areWinchesRight_343 : decode cL_areWinchesRight 343 = .ok (.ifCond .eq 23, 3) := by decide +kernel
theorem dL_areWinchesRight_346 : decode cL_areWinchesRight 346 = .ok (.aload_n 0, 1) := by decide +kernel
theorem dL_areWinchesRight_347 : decode cL_areWinchesRight 347 = .ok (.invokevirtual 209, 3) := by decide +kernel
theorem dL_areWinchesRight_350 : decode cL_areWinchesRight 350 = .ok (.iload_n 2, 1) := by decide +kernel
theorem dL_areWinchesRight_351 : decode cL_areWinchesRight 351 = .ok (.if_icmp .ne 15, 3) := by decide +kernel
theorem dL_areWinchesRight_354 : decode cL_areWinchesRight 354 = .ok (.aload_n 0, 1) := by decide +kernel
theorem dL_areWinchesRight_355 : decode cL_areWinchesRight 355 = .ok (.invokestatic 199, 3) := by decide +kernel
theorem dL_areWinchesRight_358 : decode cL_areWinchesRight 358 = .ok (.iload_n 3, 1) := by decide +kernel
theorem dL_areWinchesRight_359 : decode cL_areWinchesRight 359 = .ok (.if_icmp .ne 7, 3) := by decide +kernel
theorem dL_areWinchesRight_362 : decode cL_areWinchesRight 362 = .ok (.iconst 1, 1) := by decide +kernel
theorem dL_areWinchesRight_363 : decode cL_areWinchesRight 363 = .ok (.goto 4, 3) := by decide +kernel
theorem dL_areWinchesRight_366 : decode cL_areWinchesRight 366 = .ok (.iconst 0, 1) := by decide +kernel
theorem dL_areWinchesRight_367 : decode cL_areWinchesRight 367 = .ok (.ireturn, 1) := by decide +kernel
set_option maxRecDepth 20000 in
theorem ggL_areLinesRight_X10_writeRow : GoodIn wsL_areLinesRight wsX10_writeRow := goodIn_ca (goodIn_ca (goodIn_r _ [5, 6, 7, 8, 9, 10, 11, 12, 13, 14, 15, 16, 17, 18, 19, 20, 21, 22, 23, 24, 25, 26, 27, 28, 29, 30, 31, 32, 33, 34, 35, 36, 37, 38, 39, 40, 41, 42, 43, 44, 45, 46, 47, 48, 49, 50, 51, 52, 53, 54, 55, 56, 57, 58, 129, 130, 131, 132, 133, 134, 135, 136, 137, 138, 139, 140, 141, 142, 143, 144, 145, 146, 147, 148, 149, 150, 151, 152, 153, 154] (by decide +kernel) (by decide +kernel)) (goodIn_sub (fun _ h => List.mem_cons_of_mem _ (List.mem_append_left _ (List.mem_append_left _ (List.mem_append_left _ (List.mem_append_left _ (List.mem_append_left _ (List.mem_append_right _ h))))))) (by decide +kernel))) (goodIn_sub (fun _ h => List.mem_cons_of_mem _ (List.mem_append_left _ (List.mem_append_left _ (List.mem_append_left _ (List.mem_append_left _ (List.mem_append_right _ h)))))) (by decide +kernel))
set_option maxRecDepth 20000 in
theorem gL_areLinesRight_X10_writeRow : GoodIn wsL_areLinesRight (wsV RL 144 RX10 yX10_writeRow wsX10_writeRow) := goodIn_app (goodIn_of _ (by decide +kernel)) ggL_areLinesRight_X10_writeRow
set_option maxRecDepth 20000 in
theorem ggL_areLinesRight_X10_outputAt : GoodIn wsL_areLinesRight wsX10_outputAt := goodIn_ca (goodIn_ca (goodIn_r _ [62, 6, 7, 8, 63, 64, 65, 17, 66, 19, 67, 68, 69, 70, 24, 129, 130, 131, 132, 133, 134, 135, 136, 137, 138, 139] (by decide +kernel) (by decide +kernel)) (goodIn_sub (fun _ h => List.mem_cons_of_mem _ (List.mem_append_left _ (List.mem_append_left _ (List.mem_append_left _ (List.mem_append_left _ (List.mem_append_left _ (List.mem_append_right _ h))))))) (by decide +kernel))) (goodIn_sub (fun _ h => List.mem_cons_of_mem _ (List.mem_append_left _ (List.mem_append_left _ (List.mem_append_left _ (List.mem_append_left _ (List.mem_append_right _ h)))))) (by decide +kernel))
set_option maxRecDepth 20000 in
theorem gL_areLinesRight_X10_outputAt : GoodIn wsL_areLinesRight (wsV RL 147 RX10 yX10_outputAt wsX10_outputAt) := goodIn_app (goodIn_of _ (by decide +kernel)) ggL_areLinesRight_X10_outputAt
set_option maxRecDepth 20000 in
theorem ggL_areLinesRight_X10_height : GoodIn wsL_areLinesRight wsX10_height := goodIn_ca (goodIn_ca (goodIn_ca (goodIn_ca (goodIn_ca (goodIn_ca (goodIn_r _ [74, 9, 75, 76, 12, 77, 78, 79, 80, 11, 13, 81, 82, 4, 83, 6, 7, 84, 85, 86, 87, 88, 89, 90, 91, 92, 93, 94, 95, 96, 97, 98, 99, 100, 26, 27, 101, 33, 34, 35, 36, 37, 129, 130, 131, 132, 133, 134, 135, 136, 137, 140, 141, 142, 143, 144, 145, 146, 147, 148, 149, 150, 151, 152, 153, 154] (by decide +kernel) (by decide +kernel)) (goodIn_sub (fun _ h => List.mem_cons_of_mem _ (List.mem_append_left _ (List.mem_append_left _ (List.mem_append_left _ (List.mem_append_left _ (List.mem_append_right _ h)))))) (by decide +kernel))) (goodIn_sub (fun _ h => List.mem_cons_of_mem _ (List.mem_append_left _ (List.mem_append_left _ (List.mem_append_left _ (List.mem_append_left _ (List.mem_append_left _ (List.mem_append_right _ h))))))) (by decide +kernel))) (goodIn_sub (fun _ h => List.mem_cons_of_mem _ (List.mem_append_left _ (List.mem_append_left _ (List.mem_append_left _ (List.mem_append_right _ h))))) (by decide +kernel))) (goodIn_sub (fun _ h => List.mem_cons_of_mem _ (List.mem_append_left _ (List.mem_append_left _ (List.mem_append_right _ h)))) (by decide +kernel))) (goodIn_sub (fun _ h => List.mem_cons_of_mem _ (List.mem_append_left _ (List.mem_append_right _ h))) (by decide +kernel))) (goodIn_sub (fun _ h => List.mem_cons_of_mem _ (List.mem_append_right _ h)) (by decide +kernel))
set_option maxRecDepth 20000 in
theorem gL_areLinesRight_X10_height : GoodIn wsL_areLinesRight (wsV RL 68 RX10 yX10_height wsX10_height) := goodIn_app (goodIn_of _ (by decide +kernel)) ggL_areLinesRight_X10_height
set_option maxRecDepth 20000 in
theorem ggL_areLinesRight_X10_stone : GoodIn wsL_areLinesRight wsX10_stone := goodIn_ca (goodIn_ca (goodIn_ca (goodIn_ca (goodIn_ca (goodIn_ca (goodIn_r _ [105, 9, 75, 76, 12, 77, 78, 79, 80, 11, 13, 81, 82, 4, 83, 6, 7, 84, 85, 86, 87, 88, 89, 90, 91, 92, 93, 94, 95, 96, 97, 98, 99, 100, 26, 27, 106, 39, 40, 35, 41, 42, 129, 130, 131, 132, 133, 134, 135, 136, 137, 140, 141, 142, 143, 144, 145, 146, 147, 148, 149, 150, 151, 152, 153, 154] (by decide +kernel) (by decide +kernel)) (goodIn_sub (fun _ h => List.mem_cons_of_mem _ (List.mem_append_left _ (List.mem_append_left _ (List.mem_append_left _ (List.mem_append_left _ (List.mem_append_right _ h)))))) (by decide +kernel))) (goodIn_sub (fun _ h => List.mem_cons_of_mem _ (List.mem_append_left _ (List.mem_append_left _ (List.mem_append_left _ (List.mem_append_left _ (List.mem_append_left _ (List.mem_append_right _ h))))))) (by decide +kernel))) (goodIn_sub (fun _ h => List.mem_cons_of_mem _ (List.mem_append_left _ (List.mem_append_left _ (List.mem_append_left _ (List.mem_append_right _ h))))) (by decide +kernel))) (goodIn_sub (fun _ h => List.mem_cons_of_mem _ (List.mem_append_left _ (List.mem_append_left _ (List.mem_append_right _ h)))) (by decide +kernel))) (goodIn_sub (fun _ h => List.mem_cons_of_mem _ (List.mem_append_left _ (List.mem_append_right _ h))) (by decide +kernel))) (goodIn_sub (fun _ h => List.mem_cons_of_mem _ (List.mem_append_right _ h)) (by decide +kernel))
set_option maxRecDepth 20000 in
theorem gL_areLinesRight_X10_stone : GoodIn wsL_areLinesRight (wsV RL 132 RX10 yX10_stone wsX10_stone) := goodIn_app (goodIn_of _ (by decide +kernel)) ggL_areLinesRight_X10_stone
set_option maxRecDepth 20000 in
theorem ggL_areLinesRight_X10_isLedge : GoodIn wsL_areLinesRight wsX10_isLedge := goodIn_ca (goodIn_ca (goodIn_ca (goodIn_ca (goodIn_ca (goodIn_ca (goodIn_r _ [110, 9, 75, 76, 12, 77, 78, 79, 80, 11, 13, 81, 82, 4, 83, 6, 7, 84, 85, 86, 87, 88, 89, 90, 91, 92, 93, 94, 95, 96, 97, 98, 99, 100, 26, 27, 111, 44, 45, 35, 46, 47, 129, 130, 131, 132, 133, 134, 135, 136, 137, 140, 141, 142, 143, 144, 145, 146, 147, 148, 149, 150, 151, 152, 153, 154] (by decide +kernel) (by decide +kernel)) (goodIn_sub (fun _ h => List.mem_cons_of_mem _ (List.mem_append_left _ (List.mem_append_left _ (List.mem_append_left _ (List.mem_append_left _ (List.mem_append_right _ h)))))) (by decide +kernel))) (goodIn_sub (fun _ h => List.mem_cons_of_mem _ (List.mem_append_left _ (List.mem_append_left _ (List.mem_append_left _ (List.mem_append_left _ (List.mem_append_left _ (List.mem_append_right _ h))))))) (by decide +kernel))) (goodIn_sub (fun _ h => List.mem_cons_of_mem _ (List.mem_append_left _ (List.mem_append_left _ (List.mem_append_left _ (List.mem_append_right _ h))))) (by decide +kernel))) (goodIn_sub (fun _ h => List.mem_cons_of_mem _ (List.mem_append_left _ (List.mem_append_left _ (List.mem_append_right _ h)))) (by decide +kernel))) (goodIn_sub (fun _ h => List.mem_cons_of_mem _ (List.mem_append_left _ (List.mem_append_right _ h))) (by decide +kernel))) (goodIn_sub (fun _ h => List.mem_cons_of_mem _ (List.mem_append_right _ h)) (by decide +kernel))
set_option maxRecDepth 20000 in
theorem gL_areLinesRight_X10_isLedge : GoodIn wsL_areLinesRight (wsV RL 135 RX10 yX10_isLedge wsX10_isLedge) := goodIn_app (goodIn_of _ (by decide +kernel)) ggL_areLinesRight_X10_isLedge
set_option maxRecDepth 20000 in
theorem ggL_areLinesRight_L_told : GoodIn wsL_areLinesRight wsL_told := goodIn_r _ [115] (by decide +kernel) (by decide +kernel)
set_option maxRecDepth 20000 in
theorem gL_areLinesRight_L_told : GoodIn wsL_areLinesRight (va_wsS RL 32 yL_told wsL_told) := goodIn_app (goodIn_of _ (by decide +kernel)) ggL_areLinesRight_L_told
set_option maxRecDepth 20000 in
theorem ggL_areLinesRight_X10_looseBlocks : GoodIn wsL_areLinesRight wsX10_looseBlocks := goodIn_ca (goodIn_ca (goodIn_ca (goodIn_ca (goodIn_ca (goodIn_ca (goodIn_r _ [119, 9, 75, 76, 12, 77, 78, 79, 80, 11, 13, 81, 82, 4, 83, 6, 7, 84, 85, 86, 87, 88, 89, 90, 91, 92, 93, 94, 95, 96, 97, 98, 99, 100, 26, 27, 120, 55, 56, 35, 57, 58, 129, 130, 131, 132, 133, 134, 135, 136, 137, 140, 141, 142, 143, 144, 145, 146, 147, 148, 149, 150, 151, 152, 153, 154] (by decide +kernel) (by decide +kernel)) (goodIn_sub (fun _ h => List.mem_cons_of_mem _ (List.mem_append_left _ (List.mem_append_left _ (List.mem_append_left _ (List.mem_append_left _ (List.mem_append_right _ h)))))) (by decide +kernel))) (goodIn_sub (fun _ h => List.mem_cons_of_mem _ (List.mem_append_left _ (List.mem_append_left _ (List.mem_append_left _ (List.mem_append_left _ (List.mem_append_left _ (List.mem_append_right _ h))))))) (by decide +kernel))) (goodIn_sub (fun _ h => List.mem_cons_of_mem _ (List.mem_append_left _ (List.mem_append_left _ (List.mem_append_left _ (List.mem_append_right _ h))))) (by decide +kernel))) (goodIn_sub (fun _ h => List.mem_cons_of_mem _ (List.mem_append_left _ (List.mem_append_left _ (List.mem_append_right _ h)))) (by decide +kernel))) (goodIn_sub (fun _ h => List.mem_cons_of_mem _ (List.mem_append_left _ (List.mem_append_right _ h))) (by decide +kernel))) (goodIn_sub (fun _ h => List.mem_cons_of_mem _ (List.mem_append_right _ h)) (by decide +kernel))
set_option maxRecDepth 20000 in
theorem gL_areLinesRight_X10_looseBlocks : GoodIn wsL_areLinesRight (wsV RL 138 RX10 yX10_looseBlocks wsX10_looseBlocks) := goodIn_app (goodIn_of _ (by decide +kernel)) ggL_areLinesRight_X10_looseBlocks
set_option maxRecDepth 20000 in
theorem ggL_areLinesRight_X10_winchCount : GoodIn wsL_areLinesRight wsX10_winchCount := goodIn_r _ [124, 9, 125, 126, 127, 35, 128, 52, 129, 130, 131, 132, 133, 134, 135, 136, 137, 140, 141, 142, 143, 144, 145, 146, 147, 148, 149, 150, 151, 152, 153, 154] (by decide +kernel) (by decide +kernel)
set_option maxRecDepth 20000 in
theorem gL_areLinesRight_X10_winchCount : GoodIn wsL_areLinesRight (wsV RL 111 RX10 yX10_winchCount wsX10_winchCount) := goodIn_app (goodIn_of _ (by decide +kernel)) ggL_areLinesRight_X10_winchCount
theorem dL_areLinesRight_0 : decode cL_areLinesRight 0 = .ok (.iconst 1, 1) := by decide +kernel
theorem dL_areLinesRight_1 : decode cL_areLinesRight 1 = .ok (.istore_n 1, 1) := by decide +kernel
theorem dL_areLinesRight_2 : decode cL_areLinesRight 2 = .ok (.iconst 0, 1) := by decide +kernel
theorem dL_areLinesRight_3 : decode cL_areLinesRight 3 = .ok (.istore_n 2, 1) := by decide +kernel
theorem dL_areLinesRight_4 : decode cL_areLinesRight 4 = .ok (.iconst 0, 1) := by decide +kernel
theorem dL_areLinesRight_5 : decode cL_areLinesRight 5 = .ok (.istore_n 3, 1) := by decide +kernel
theorem dL_areLinesRight_6 : decode cL_areLinesRight 6 = .ok (.iload_n 3, 1) := by decide +kernel
theorem dL_areLinesRight_7 : decode cL_areLinesRight 7 = .ok (.iconst 5, 1) := by decide +kernel
theorem dL_areLinesRight_8 : decode cL_areLinesRight 8 = .ok (.if_icmp .ge 251, 3) := by decide +kernel
theorem dL_areLinesRight_11 : decode cL_areLinesRight 11 = .ok (.aload_n 0, 1) := by decide +kernel
theorem dL_areLinesRight_12 : decode cL_areLinesRight 12 = .ok (.iload_n 3, 1) := by decide +kernel
theorem dL_areLinesRight_13 : decode cL_areLinesRight 13 = .ok (.invokevirtual 144, 3) := by decide +kernel
theorem dL_areLinesRight_16 : decode cL_areLinesRight 16 = .ok (.istore 4, 2) := by decide +kernel
theorem dL_areLinesRight_18 : decode cL_areLinesRight 18 = .ok (.iconst 0, 1) := by decide +kernel
theorem dL_areLinesRight_19 : decode cL_areLinesRight 19 = .ok (.istore 5, 2) := by decide +kernel
theorem dL_areLinesRight_21 : decode cL_areLinesRight 21 = .ok (.iconst 0, 1) := by decide +kernel
theorem dL_areLinesRight_22 : decode cL_areLinesRight 22 = .ok (.istore 6, 2) := by decide +kernel
theorem dL_areLinesRight_24 : decode cL_areLinesRight 24 = .ok (.iload 6, 2) := by decide +kernel
theorem dL_areLinesRight_26 : decode cL_areLinesRight 26 = .ok (.bipush 6, 2) := by decide +kernel
theorem dL_areLinesRight_28 : decode cL_areLinesRight 28 = .ok (.if_icmp .ge 208, 3) := by decide +kernel
theorem dL_areLinesRight_31 : decode cL_areLinesRight 31 = .ok (.iload_n 1, 1) := by decide +kernel
theorem dL_areLinesRight_32 : decode cL_areLinesRight 32 = .ok (.ifCond .eq 204, 3) := by decide +kernel
theorem dL_areLinesRight_35 : decode cL_areLinesRight 35 = .ok (.iload 6, 2) := by decide +kernel
theorem dL_areLinesRight_37 : decode cL_areLinesRight 37 = .ok (.ifCond .eq 17, 3) := by decide +kernel
theorem dL_areLinesRight_40 : decode cL_areLinesRight 40 = .ok (.aload_n 0, 1) := by decide +kernel
theorem dL_areLinesRight_41 : decode cL_areLinesRight 41 = .ok (.iload 5, 2) := by decide +kernel
theorem dL_areLinesRight_43 : decode cL_areLinesRight 43 = .ok (.iinc 5 1, 3) := by decide +kernel
theorem dL_areLinesRight_46 : decode cL_areLinesRight 46 = .ok (.invokevirtual 147, 3) := by decide +kernel
theorem dL_areLinesRight_49 : decode cL_areLinesRight 49 = .ok (.bipush 32, 2) := by decide +kernel
theorem dL_areLinesRight_51 : decode cL_areLinesRight 51 = .ok (.if_icmp .ne 51, 3) := by decide +kernel
theorem dL_areLinesRight_54 : decode cL_areLinesRight 54 = .ok (.aload_n 0, 1) := by decide +kernel
theorem dL_areLinesRight_55 : decode cL_areLinesRight 55 = .ok (.iload 5, 2) := by decide +kernel
theorem dL_areLinesRight_57 : decode cL_areLinesRight 57 = .ok (.iinc 5 1, 3) := by decide +kernel
theorem dL_areLinesRight_60 : decode cL_areLinesRight 60 = .ok (.invokevirtual 147, 3) := by decide +kernel
theorem dL_areLinesRight_63 : decode cL_areLinesRight 63 = .ok (.bipush 48, 2) := by decide +kernel
theorem dL_areLinesRight_65 : decode cL_areLinesRight 65 = .ok (.aload_n 0, 1) := by decide +kernel
theorem dL_areLinesRight_66 : decode cL_areLinesRight 66 = .ok (.iload_n 3, 1) := by decide +kernel
theorem dL_areLinesRight_67 : decode cL_areLinesRight 67 = .ok (.iload 6, 2) := by decide +kernel
theorem dL_areLinesRight_69 : decode cL_areLinesRight 69 = .ok (.invokevirtual 68, 3) := by decide +kernel
theorem dL_areLinesRight_72 : decode cL_areLinesRight 72 = .ok (.iadd, 1) := by decide +kernel
theorem dL_areLinesRight_73 : decode cL_areLinesRight 73 = .ok (.if_icmp .ne 29, 3) := by decide +kernel
theorem dL_areLinesRight_76 : decode cL_areLinesRight 76 = .ok (.aload_n 0, 1) := by decide +kernel
theorem dL_areLinesRight_77 : decode cL_areLinesRight 77 = .ok (.iload 5, 2) := by decide +kernel
theorem dL_areLinesRight_79 : decode cL_areLinesRight 79 = .ok (.iinc 5 1, 3) := by decide +kernel
theorem dL_areLinesRight_82 : decode cL_areLinesRight 82 = .ok (.invokevirtual 147, 3) := by decide +kernel
theorem dL_areLinesRight_85 : decode cL_areLinesRight 85 = .ok (.bipush 97, 2) := by decide +kernel
theorem dL_areLinesRight_87 : decode cL_areLinesRight 87 = .ok (.aload_n 0, 1) := by decide +kernel
theorem dL_areLinesRight_88 : decode cL_areLinesRight 88 = .ok (.iload_n 3, 1) := by decide +kernel
theorem dL_areLinesRight_89 : decode cL_areLinesRight 89 = .ok (.iload 6, 2) := by decide +kernel
theorem dL_areLinesRight_91 : decode cL_areLinesRight 91 = .ok (.invokevirtual 132, 3) := by decide +kernel
theorem dL_areLinesRight_94 : decode cL_areLinesRight 94 = .ok (.iadd, 1) := by decide +kernel
theorem dL_areLinesRight_95 : decode cL_areLinesRight 95 = .ok (.if_icmp .ne 7, 3) := by decide +kernel
theorem dL_areLinesRight_98 : decode cL_areLinesRight 98 = .ok (.iconst 1, 1) := by decide +kernel
theorem dL_areLinesRight_99 : decode cL_areLinesRight 99 = .ok (.goto 4, 3) := by decide +kernel
theorem dL_areLinesRight_102 : decode cL_areLinesRight 102 = .ok (.iconst 0, 1) := by decide +kernel
theorem dL_areLinesRight_103 : decode cL_areLinesRight 103 = .ok (.istore_n 1, 1) := by decide +kernel
theorem dL_areLinesRight_104 : decode cL_areLinesRight 104 = .ok (.iload_n 1, 1) := by decide +kernel
theorem dL_areLinesRight_105 : decode cL_areLinesRight 105 = .ok (.ifCond .eq 31, 3) := by decide +kernel
theorem dL_areLinesRight_108 : decode cL_areLinesRight 108 = .ok (.aload_n 0, 1) := by decide +kernel
theorem dL_areLinesRight_109 : decode cL_areLinesRight 109 = .ok (.iload_n 3, 1) := by decide +kernel
theorem dL_areLinesRight_110 : decode cL_areLinesRight 110 = .ok (.iload 6, 2) := by decide +kernel
theorem dL_areLinesRight_112 : decode cL_areLinesRight 112 = .ok (.invokevirtual 135, 3) := by decide +kernel
theorem dL_areLinesRight_115 : decode cL_areLinesRight 115 = .ok (.ifCond .eq 17, 3) := by decide +kernel
theorem dL_areLinesRight_118 : decode cL_areLinesRight 118 = .ok (.aload_n 0, 1) := by decide +kernel
theorem dL_areLinesRight_119 : decode cL_areLinesRight 119 = .ok (.iload 5, 2) := by decide +kernel
theorem dL_areLinesRight_121 : decode cL_areLinesRight 121 = .ok (.iinc 5 1, 3) := by decide +kernel
theorem dL_areLinesRight_124 : decode cL_areLinesRight 124 = .ok (.invokevirtual 147, 3) := by decide +kernel
theorem dL_areLinesRight_127 : decode cL_areLinesRight 127 = .ok (.bipush 61, 2) := by decide +kernel
theorem dL_areLinesRight_129 : decode cL_areLinesRight 129 = .ok (.if_icmp .ne 7, 3) := by decide +kernel
theorem dL_areLinesRight_132 : decode cL_areLinesRight 132 = .ok (.iconst 1, 1) := by decide +kernel
theorem dL_areLinesRight_133 : decode cL_areLinesRight 133 = .ok (.goto 4, 3) := by decide +kernel
theorem dL_areLinesRight_136 : decode cL_areLinesRight 136 = .ok (.iconst 0, 1) := by decide +kernel
theorem dL_areLinesRight_137 : decode cL_areLinesRight 137 = .ok (.istore_n 1, 1) := by decide +kernel
theorem dL_areLinesRight_138 : decode cL_areLinesRight 138 = .ok (.iload_n 1, 1) := by decide +kernel
theorem dL_areLinesRight_139 : decode cL_areLinesRight 139 = .ok (.ifCond .eq 25, 3) := by decide +kernel
theorem dL_areLinesRight_142 : decode cL_areLinesRight 142 = .ok (.iload 5, 2) := by decide +kernel
theorem dL_areLinesRight_144 : decode cL_areLinesRight 144 = .ok (.iload 4, 2) := by decide +kernel
theorem dL_areLinesRight_146 : decode cL_areLinesRight 146 = .ok (.if_icmp .ge 18, 3) := by decide +kernel
theorem dL_areLinesRight_149 : decode cL_areLinesRight 149 = .ok (.aload_n 0, 1) := by decide +kernel
theorem dL_areLinesRight_150 : decode cL_areLinesRight 150 = .ok (.iload 5, 2) := by decide +kernel
theorem dL_areLinesRight_152 : decode cL_areLinesRight 152 = .ok (.invokevirtual 147, 3) := by decide +kernel
theorem dL_areLinesRight_155 : decode cL_areLinesRight 155 = .ok (.bipush 94, 2) := by decide +kernel
theorem dL_areLinesRight_157 : decode cL_areLinesRight 157 = .ok (.if_icmp .ne 7, 3) := by decide +kernel
theorem dL_areLinesRight_160 : decode cL_areLinesRight 160 = .ok (.iconst 1, 1) := by decide +kernel
theorem dL_areLinesRight_161 : decode cL_areLinesRight 161 = .ok (.goto 4, 3) := by decide +kernel
theorem dL_areLinesRight_164 : decode cL_areLinesRight 164 = .ok (.iconst 0, 1) := by decide +kernel
theorem dL_areLinesRight_165 : decode cL_areLinesRight 165 = .ok (.istore 7, 2) := by decide +kernel
theorem dL_areLinesRight_167 : decode cL_areLinesRight 167 = .ok (.iload_n 2, 1) := by decide +kernel
theorem dL_areLinesRight_168 : decode cL_areLinesRight 168 = .ok (.iload 7, 2) := by decide +kernel
theorem dL_areLinesRight_170 : decode cL_areLinesRight 170 = .ok (.invokestatic 32, 3) := by decide +kernel
theorem dL_areLinesRight_173 : decode cL_areLinesRight 173 = .ok (.iadd, 1) := by decide +kernel
theorem dL_areLinesRight_174 : decode cL_areLinesRight 174 = .ok (.istore_n 2, 1) := by decide +kernel
theorem dL_areLinesRight_175 : decode cL_areLinesRight 175 = .ok (.iload 5, 2) := by decide +kernel
theorem dL_areLinesRight_177 : decode cL_areLinesRight 177 = .ok (.iload 7, 2) := by decide +kernel
theorem dL_areLinesRight_179 : decode cL_areLinesRight 179 = .ok (.invokestatic 32, 3) := by decide +kernel
theorem dL_areLinesRight_182 : decode cL_areLinesRight 182 = .ok (.iadd, 1) := by decide +kernel
theorem dL_areLinesRight_183 : decode cL_areLinesRight 183 = .ok (.istore 5, 2) := by decide +kernel
theorem dL_areLinesRight_185 : decode cL_areLinesRight 185 = .ok (.iconst 0, 1) := by decide +kernel
theorem dL_areLinesRight_186 : decode cL_areLinesRight 186 = .ok (.istore 8, 2) := by decide +kernel
theorem dL_areLinesRight_188 : decode cL_areLinesRight 188 = .ok (.iload_n 1, 1) := by decide +kernel
theorem dL_areLinesRight_189 : decode cL_areLinesRight 189 = .ok (.ifCond .eq 41, 3) := by decide +kernel
theorem dL_areLinesRight_192 : decode cL_areLinesRight 192 = .ok (.iload 8, 2) := by decide +kernel
theorem dL_areLinesRight_194 : decode cL_areLinesRight 194 = .ok (.aload_n 0, 1) := by decide +kernel
theorem dL_areLinesRight_195 : decode cL_areLinesRight 195 = .ok (.iload_n 3, 1) := by decide +kernel
theorem dL_areLinesRight_196 : decode cL_areLinesRight 196 = .ok (.iload 6, 2) := by decide +kernel
theorem dL_areLinesRight_198 : decode cL_areLinesRight 198 = .ok (.invokevirtual 138, 3) := by decide +kernel
theorem dL_areLinesRight_201 : decode cL_areLinesRight 201 = .ok (.if_icmp .ge 29, 3) := by decide +kernel
theorem dL_areLinesRight_204 : decode cL_areLinesRight 204 = .ok (.aload_n 0, 1) := by decide +kernel
theorem dL_areLinesRight_205 : decode cL_areLinesRight 205 = .ok (.iload 5, 2) := by decide +kernel
theorem dL_areLinesRight_207 : decode cL_areLinesRight 207 = .ok (.iinc 5 1, 3) := by decide +kernel
theorem dL_areLinesRight_210 : decode cL_areLinesRight 210 = .ok (.invokevirtual 147, 3) := by decide +kernel
theorem dL_areLinesRight_213 : decode cL_areLinesRight 213 = .ok (.bipush 46, 2) := by decide +kernel
theorem dL_areLinesRight_215 : decode cL_areLinesRight 215 = .ok (.if_icmp .ne 7, 3) := by decide +kernel
theorem dL_areLinesRight_218 : decode cL_areLinesRight 218 = .ok (.iconst 1, 1) := by decide +kernel
theorem dL_areLinesRight_219 : decode cL_areLinesRight 219 = .ok (.goto 4, 3) := by decide +kernel
theorem dL_areLinesRight_222 : decode cL_areLinesRight 222 = .ok (.iconst 0, 1) := by decide +kernel
theorem dL_areLinesRight_223 : decode cL_areLinesRight 223 = .ok (.istore_n 1, 1) := by decide +kernel
theorem dL_areLinesRight_224 : decode cL_areLinesRight 224 = .ok (.iinc 8 1, 3) := by decide +kernel
theorem dL_areLinesRight_227 : decode cL_areLinesRight 227 = .ok (.goto (-39), 3) := by decide +kernel
theorem dL_areLinesRight_230 : decode cL_areLinesRight 230 = .ok (.iinc 6 1, 3) := by decide +kernel
theorem dL_areLinesRight_233 : decode cL_areLinesRight 233 = .ok (.goto (-209), 3) := by decide +kernel
theorem dL_areLinesRight_236 : decode cL_areLinesRight 236 = .ok (.iload_n 1, 1) := by decide +kernel
theorem dL_areLinesRight_237 : decode cL_areLinesRight 237 = .ok (.ifCond .eq 14, 3) := by decide +kernel
theorem dL_areLinesRight_240 : decode cL_areLinesRight 240 = .ok (.iload 5, 2) := by decide +kernel
theorem dL_areLinesRight_242 : decode cL_areLinesRight 242 = .ok (.iload 4, 2) := by decide +kernel
theorem dL_areLinesRight_244 : decode cL_areLinesRight 244 = .ok (.if_icmp .ne 7, 3) := by decide +kernel
theorem dL_areLinesRight_247 : decode cL_areLinesRight 247 = .ok (.iconst 1, 1) := by decide +kernel
theorem dL_areLinesRight_248 : decode cL_areLinesRight 248 = .ok (.goto 4, 3) := by decide +kernel
theorem dL_areLinesRight_251 : decode cL_areLinesRight 251 = .ok (.iconst 0, 1) := by decide +kernel
theorem dL_areLinesRight_252 : decode cL_areLinesRight 252 = .ok (.istore_n 1, 1) := by decide +kernel
theorem dL_areLinesRight_253 : decode cL_areLinesRight 253 = .ok (.iinc 3 1, 3) := by decide +kernel
theorem dL_areLinesRight_256 : decode cL_areLinesRight 256 = .ok (.goto (-250), 3) := by decide +kernel
theorem dL_areLinesRight_259 : decode cL_areLinesRight 259 = .ok (.iload_n 1, 1) := by decide +kernel
theorem dL_areLinesRight_260 : decode cL_areLinesRight 260 = .ok (.ifCond .eq 15, 3) := by decide +kernel
theorem dL_areLinesRight_263 : decode cL_areLinesRight 263 = .ok (.iload_n 2, 1) := by decide +kernel
theorem dL_areLinesRight_264 : decode cL_areLinesRight 264 = .ok (.aload_n 0, 1) := by decide +kernel
theorem dL_areLinesRight_265 : decode cL_areLinesRight 265 = .ok (.invokevirtual 111, 3) := by decide +kernel
theorem dL_areLinesRight_268 : decode cL_areLinesRight 268 = .ok (.if_icmp .ne 7, 3) := by decide +kernel
theorem dL_areLinesRight_271 : decode cL_areLinesRight 271 = .ok (.iconst 1, 1) := by decide +kernel
theorem dL_areLinesRight_272 : decode cL_areLinesRight 272 = .ok (.goto 4, 3) := by decide +kernel
theorem dL_areLinesRight_275 : decode cL_areLinesRight 275 = .ok (.iconst 0, 1) := by decide +kernel
theorem dL_areLinesRight_276 : decode cL_areLinesRight 276 = .ok (.ireturn, 1) := by decide +kernel
