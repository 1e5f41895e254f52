set_option maxRecDepth 20000 in
theorem ggL_setStone_X10_setStone : GoodIn wsL_setStone wsX10_setStone := goodIn_ca (goodIn_ca (goodIn_ca (goodIn_ca (goodIn_ca (goodIn_ca (goodIn_r _ [7, 8, 9, 10, 11, 12, 13, 14, 15, 16, 17, 18, 19, 20, 21, 22, 23, 24, 25, 26, 27, 28, 29, 30, 31, 6, 32, 33, 34, 35, 36, 37, 38, 39, 40, 41, 42, 43, 44, 45, 46, 47, 48, 49, 50, 51, 52, 53, 54, 55, 56, 57, 58, 59, 60, 61, 62, 63, 64, 65, 66, 67, 68, 69, 70, 71, 72, 73, 74, 75, 76, 77, 78, 79, 80, 81, 82, 83, 84, 85, 86, 87, 88, 89, 90, 91, 92, 93, 94, 95, 96, 97, 98, 99, 100, 101, 102, 103, 104, 105, 106, 107, 108, 109, 110, 111, 112, 113, 114, 115, 116, 117, 118, 119, 120, 121, 122, 123, 124, 125, 126, 127, 128, 129] (by decide +kernel) (by decide +kernel)) (goodIn_sub (fun _ h => List.mem_cons_of_mem _ (List.mem_append_left _ (List.mem_append_left _ (List.mem_append_left _ (List.mem_append_left _ (List.mem_append_left _ (List.mem_append_right _ h))))))) (by decide +kernel))) (goodIn_sub (fun _ h => List.mem_cons_of_mem _ (List.mem_append_left _ (List.mem_append_left _ (List.mem_append_left _ (List.mem_append_left _ (List.mem_append_right _ h)))))) (by decide +kernel))) (goodIn_sub (fun _ h => List.mem_cons_of_mem _ (List.mem_append_left _ (List.mem_append_left _ (List.mem_append_left _ (List.mem_append_right _ h))))) (by decide +kernel))) (goodIn_sub (fun _ h => List.mem_cons_of_mem _ (List.mem_append_left _ (List.mem_append_left _ (List.mem_append_right _ h)))) (by decide +kernel))) (goodIn_sub (fun _ h => List.mem_cons_of_mem _ (List.mem_append_left _ (List.mem_append_right _ h))) (by decide +kernel))) (goodIn_sub (fun _ h => List.mem_cons_of_mem _ (List.mem_append_right _ h)) (by decide +kernel))
set_option maxRecDepth 20000 in
theorem gL_setStone_X10_setStone : GoodIn wsL_setStone (wsV RL 7 RX10 yX10_setStone wsX10_setStone) := goodIn_app (goodIn_of _ (by decide +kernel)) ggL_setStone_X10_setStone
theorem dL_setStone_0 : decode cL_setStone 0 = .ok (.aload 4, 2) := by decide +kernel
theorem dL_setStone_2 : decode cL_setStone 2 = .ok (.iconst 0, 1) := by decide +kernel
theorem dL_setStone_3 : decode cL_setStone 3 = .ok (.aload_n 0, 1) := by decide +kernel
theorem dL_setStone_4 : decode cL_setStone 4 = .ok (.iload_n 1, 1) := by decide +kernel
theorem dL_setStone_5 : decode cL_setStone 5 = .ok (.iload_n 2, 1) := by decide +kernel
theorem dL_setStone_6 : decode cL_setStone 6 = .ok (.iload_n 3, 1) := by decide +kernel
theorem dL_setStone_7 : decode cL_setStone 7 = .ok (.invokevirtual 7, 3) := by decide +kernel
theorem dL_setStone_10 : decode cL_setStone 10 = .ok (.i2l, 1) := by decide +kernel
theorem dL_setStone_11 : decode cL_setStone 11 = .ok (.lastore, 1) := by decide +kernel
theorem dL_setStone_12 : decode cL_setStone 12 = .ok (.goto 11, 3) := by decide +kernel
theorem dL_setStone_15 : decode cL_setStone 15 = .ok (.astore 5, 2) := by decide +kernel
theorem dL_setStone_17 : decode cL_setStone 17 = .ok (.iconst 1, 1) := by decide +kernel
theorem dL_setStone_18 : decode cL_setStone 18 = .ok (.ireturn, 1) := by decide +kernel
theorem dL_setStone_19 : decode cL_setStone 19 = .ok (.astore 5, 2) := by decide +kernel
theorem dL_setStone_21 : decode cL_setStone 21 = .ok (.iconst 2, 1) := by decide +kernel
theorem dL_setStone_22 : decode cL_setStone 22 = .ok (.ireturn, 1) := by decide +kernel
theorem dL_setStone_23 : decode cL_setStone 23 = .ok (.iconst 0, 1) := by decide +kernel
theorem dL_setStone_24 : decode cL_setStone 24 = .ok (.ireturn, 1) := by decide +kernel
set_option maxRecDepth 20000 in
theorem ggL_cut_X10_cut : GoodIn wsL_cut wsX10_cut := goodIn_ca (goodIn_ca (goodIn_ca (goodIn_ca (goodIn_ca (goodIn_ca (goodIn_r _ [8, 9, 10, 11, 12, 13, 14, 15, 16, 17, 18, 19, 20, 21, 22, 23, 24, 25, 26, 27, 28, 29, 30, 31, 32, 33, 34, 35, 36, 37, 38, 39, 40, 41, 42, 43, 44, 45, 46, 47, 48, 49, 50, 51, 7, 52, 53, 54, 55, 56, 57, 58, 59, 60, 61, 62, 63, 64, 65, 66, 67, 68, 69, 70, 71, 72, 73, 74, 75, 76, 77, 78, 79, 80, 81, 82, 83, 84, 85, 86, 87, 88, 89, 90, 91, 92, 93, 94, 95, 96, 97, 98, 99, 100, 101, 102, 103, 104, 105, 106, 107, 108, 109, 110, 111, 112, 113, 114, 115, 116, 117, 118, 119, 120, 121, 122, 123, 124, 125, 126, 127, 128, 129, 130, 131, 132, 133, 134, 135, 136, 137, 138, 139, 140, 141] (by decide +kernel) (by decide +kernel)) (goodIn_sub (fun _ h => List.mem_cons_of_mem _ (List.mem_append_left _ (List.mem_append_left _ (List.mem_append_left _ (List.mem_append_left _ (List.mem_append_left _ (List.mem_append_right _ h))))))) (by decide +kernel))) (goodIn_sub (fun _ h => List.mem_cons_of_mem _ (List.mem_append_left _ (List.mem_append_left _ (List.mem_append_left _ (List.mem_append_left _ (List.mem_append_right _ h)))))) (by decide +kernel))) (goodIn_sub (fun _ h => List.mem_cons_of_mem _ (List.mem_append_left _ (List.mem_append_left _ (List.mem_append_left _ (List.mem_append_right _ h))))) (by decide +kernel))) (goodIn_sub (fun _ h => List.mem_cons_of_mem _ (List.mem_append_left _ (List.mem_append_left _ (List.mem_append_right _ h)))) (by decide +kernel))) (goodIn_sub (fun _ h => List.mem_cons_of_mem _ (List.mem_append_left _ (List.mem_append_right _ h))) (by decide +kernel))) (goodIn_sub (fun _ h => List.mem_cons_of_mem _ (List.mem_append_right _ h)) (by decide +kernel))
set_option maxRecDepth 20000 in
theorem gL_cut_X10_cut : GoodIn wsL_cut (wsV RL 17 RX10 yX10_cut wsX10_cut) := goodIn_app (goodIn_of _ (by decide +kernel)) ggL_cut_X10_cut
theorem dL_cut_0 : decode cL_cut 0 = .ok (.aload_n 3, 1) := by decide +kernel
theorem dL_cut_1 : decode cL_cut 1 = .ok (.iconst 0, 1) := by decide +kernel
theorem dL_cut_2 : decode cL_cut 2 = .ok (.aload_n 0, 1) := by decide +kernel
theorem dL_cut_3 : decode cL_cut 3 = .ok (.iload_n 1, 1) := by decide +kernel
theorem dL_cut_4 : decode cL_cut 4 = .ok (.iload_n 2, 1) := by decide +kernel
theorem dL_cut_5 : decode cL_cut 5 = .ok (.invokevirtual 17, 3) := by decide +kernel
theorem dL_cut_8 : decode cL_cut 8 = .ok (.i2l, 1) := by decide +kernel
theorem dL_cut_9 : decode cL_cut 9 = .ok (.lastore, 1) := by decide +kernel
theorem dL_cut_10 : decode cL_cut 10 = .ok (.goto 15, 3) := by decide +kernel
theorem dL_cut_13 : decode cL_cut 13 = .ok (.astore 4, 2) := by decide +kernel
theorem dL_cut_15 : decode cL_cut 15 = .ok (.iconst 1, 1) := by decide +kernel
theorem dL_cut_16 : decode cL_cut 16 = .ok (.ireturn, 1) := by decide +kernel
theorem dL_cut_17 : decode cL_cut 17 = .ok (.astore 4, 2) := by decide +kernel
theorem dL_cut_19 : decode cL_cut 19 = .ok (.iconst 2, 1) := by decide +kernel
theorem dL_cut_20 : decode cL_cut 20 = .ok (.ireturn, 1) := by decide +kernel
theorem dL_cut_21 : decode cL_cut 21 = .ok (.astore 4, 2) := by decide +kernel
theorem dL_cut_23 : decode cL_cut 23 = .ok (.iconst 3, 1) := by decide +kernel
theorem dL_cut_24 : decode cL_cut 24 = .ok (.ireturn, 1) := by decide +kernel
theorem dL_cut_25 : decode cL_cut 25 = .ok (.iconst 0, 1) := by decide +kernel
theorem dL_cut_26 : decode cL_cut 26 = .ok (.ireturn, 1) := by decide +kernel
set_option maxRecDepth 20000 in
theorem ggL_fill_X10_fill : GoodIn wsL_fill wsX10_fill := goodIn_ca (goodIn_ca (goodIn_ca (goodIn_ca (goodIn_ca (goodIn_ca (goodIn_r _ [8, 9, 10, 11, 12, 13, 14, 15, 16, 17, 18, 19, 20, 21, 22, 23, 24, 25, 26, 27, 28, 29, 30, 31, 32, 33, 34, 35, 36, 37, 38, 39, 40, 41, 42, 43, 44, 45, 46, 47, 48, 49, 50, 51, 52, 7, 53, 54, 55, 56, 57, 58, 59, 60, 61, 62, 63, 64, 65, 66, 67, 68, 69, 70, 71, 72, 73, 74, 75, 76, 77, 78, 79, 80, 81, 82, 83, 84, 85, 86, 87, 88, 89, 90, 91, 92, 93, 94, 95, 96, 97, 98, 99, 100, 101, 102, 103, 104, 105, 106, 107, 108, 109, 110, 111, 112, 113, 114, 115, 116, 117, 118, 119, 120, 121, 122, 123, 124, 125, 126, 127, 128, 129, 130, 131, 132, 133, 134, 135, 136, 137, 138, 139, 140, 141] (by decide +kernel) (by decide +kernel)) (goodIn_sub (fun _ h => List.mem_cons_of_mem _ (List.mem_append_left _ (List.mem_append_left _ (List.mem_append_left _ (List.mem_append_left _ (List.mem_append_left _ (List.mem_append_right _ h))))))) (by decide +kernel))) (goodIn_sub (fun _ h => List.mem_cons_of_mem _ (List.mem_append_left _ (List.mem_append_left _ (List.mem_append_left _ (List.mem_append_left _ (List.mem_append_right _ h)))))) (by decide +kernel))) (goodIn_sub (fun _ h => List.mem_cons_of_mem _ (List.mem_append_left _ (List.mem_append_left _ (List.mem_append_left _ (List.mem_append_right _ h))))) (by decide +kernel))) (goodIn_sub (fun _ h => List.mem_cons_of_mem _ (List.mem_append_left _ (List.mem_append_left _ (List.mem_append_right _ h)))) (by decide +kernel))) (goodIn_sub (fun _ h => List.mem_cons_of_mem _ (List.mem_append_left _ (List.mem_append_right _ h))) (by decide +kernel))) (goodIn_sub (fun _ h => List.mem_cons_of_mem _ (List.mem_append_right _ h)) (by decide +kernel))
set_option maxRecDepth 20000 in
theorem gL_fill_X10_fill : GoodIn wsL_fill (wsV RL 25 RX10 yX10_fill wsX10_fill) := goodIn_app (goodIn_of _ (by decide +kernel)) ggL_fill_X10_fill
theorem dL_fill_0 : decode cL_fill 0 = .ok (.aload_n 3, 1) := by decide +kernel
theorem dL_fill_1 : decode cL_fill 1 = .ok (.iconst 0, 1) := by decide +kernel
theorem dL_fill_2 : decode cL_fill 2 = .ok (.aload_n 0, 1) := by decide +kernel
theorem dL_fill_3 : decode cL_fill 3 = .ok (.iload_n 1, 1) := by decide +kernel
theorem dL_fill_4 : decode cL_fill 4 = .ok (.iload_n 2, 1) := by decide +kernel
theorem dL_fill_5 : decode cL_fill 5 = .ok (.invokevirtual 25, 3) := by decide +kernel
theorem dL_fill_8 : decode cL_fill 8 = .ok (.i2l, 1) := by decide +kernel
theorem dL_fill_9 : decode cL_fill 9 = .ok (.lastore, 1) := by decide +kernel
theorem dL_fill_10 : decode cL_fill 10 = .ok (.goto 15, 3) := by decide +kernel
theorem dL_fill_13 : decode cL_fill 13 = .ok (.astore 4, 2) := by decide +kernel
theorem dL_fill_15 : decode cL_fill 15 = .ok (.iconst 1, 1) := by decide +kernel
theorem dL_fill_16 : decode cL_fill 16 = .ok (.ireturn, 1) := by decide +kernel
theorem dL_fill_17 : decode cL_fill 17 = .ok (.astore 4, 2) := by decide +kernel
theorem dL_fill_19 : decode cL_fill 19 = .ok (.iconst 2, 1) := by decide +kernel
theorem dL_fill_20 : decode cL_fill 20 = .ok (.ireturn, 1) := by decide +kernel
theorem dL_fill_21 : decode cL_fill 21 = .ok (.astore 4, 2) := by decide +kernel
theorem dL_fill_23 : decode cL_fill 23 = .ok (.iconst 3, 1) := by decide +kernel
theorem dL_fill_24 : decode cL_fill 24 = .ok (.ireturn, 1) := by decide +kernel
theorem dL_fill_25 : decode cL_fill 25 = .ok (.iconst 0, 1) := by decide +kernel
theorem dL_fill_26 : decode cL_fill 26 = .ok (.ireturn, 1) := by decide +kernel
set_option maxRecDepth 20000 in
theorem ggL_toggleLedge_X10_toggleLedge : GoodIn wsL_toggleLedge wsX10_toggleLedge := goodIn_ca (goodIn_ca (goodIn_ca (goodIn_ca (goodIn_ca (goodIn_ca (goodIn_r _ [6, 7, 8, 9, 10, 11, 12, 13, 14, 15, 16, 17, 18, 19, 5, 20, 21, 22, 23, 24, 25, 26, 27, 28, 29, 30, 31, 32, 33, 34, 35, 36, 37, 38, 39, 40, 41, 42, 43, 44, 45, 46, 47, 48, 49, 50, 51, 52, 53, 54, 55, 56, 57, 58, 59, 60, 61, 62, 63, 64, 65, 66, 67, 68, 69, 70, 71, 72, 73, 74, 75, 76, 77, 78, 79, 80, 81, 82, 83, 84, 85, 86, 87, 88, 89, 90, 91, 92, 93, 94, 95, 96, 97, 98, 99, 100, 101, 102, 103, 104, 105, 106, 107, 108, 109, 110, 111, 112, 113, 114, 115, 116, 117, 118] (by decide +kernel) (by decide +kernel)) (goodIn_sub (fun _ h => List.mem_cons_of_mem _ (List.mem_append_left _ (List.mem_append_left _ (List.mem_append_left _ (List.mem_append_left _ (List.mem_append_left _ (List.mem_append_right _ h))))))) (by decide +kernel))) (goodIn_sub (fun _ h => List.mem_cons_of_mem _ (List.mem_append_left _ (List.mem_append_left _ (List.mem_append_left _ (List.mem_append_left _ (List.mem_append_right _ h)))))) (by decide +kernel))) (goodIn_sub (fun _ h => List.mem_cons_of_mem _ (List.mem_append_left _ (List.mem_append_left _ (List.mem_append_left _ (List.mem_append_right _ h))))) (by decide +kernel))) (goodIn_sub (fun _ h => List.mem_cons_of_mem _ (List.mem_append_left _ (List.mem_append_left _ (List.mem_append_right _ h)))) (by decide +kernel))) (goodIn_sub (fun _ h => List.mem_cons_of_mem _ (List.mem_append_left _ (List.mem_append_right _ h))) (by decide +kernel))) (goodIn_sub (fun _ h => List.mem_cons_of_mem _ (List.mem_append_right _ h)) (by decide +kernel))
set_option maxRecDepth 20000 in
theorem gL_toggleLedge_X10_toggleLedge : GoodIn wsL_toggleLedge (wsV RL 28 RX10 yX10_toggleLedge wsX10_toggleLedge) := goodIn_app (goodIn_of _ (by decide +kernel)) ggL_toggleLedge_X10_toggleLedge
theorem dL_toggleLedge_0 : decode cL_toggleLedge 0 = .ok (.aload_n 3, 1) := by decide +kernel
theorem dL_toggleLedge_1 : decode cL_toggleLedge 1 = .ok (.iconst 0, 1) := by decide +kernel
theorem dL_toggleLedge_2 : decode cL_toggleLedge 2 = .ok (.aload_n 0, 1) := by decide +kernel
theorem dL_toggleLedge_3 : decode cL_toggleLedge 3 = .ok (.iload_n 1, 1) := by decide +kernel
theorem dL_toggleLedge_4 : decode cL_toggleLedge 4 = .ok (.iload_n 2, 1) := by decide +kernel
theorem dL_toggleLedge_5 : decode cL_toggleLedge 5 = .ok (.invokevirtual 28, 3) := by decide +kernel
theorem dL_toggleLedge_8 : decode cL_toggleLedge 8 = .ok (.ifCond .eq 7, 3) := by decide +kernel
theorem dL_toggleLedge_11 : decode cL_toggleLedge 11 = .ok (.lconst 1, 1) := by decide +kernel
theorem dL_toggleLedge_12 : decode cL_toggleLedge 12 = .ok (.goto 4, 3) := by decide +kernel
theorem dL_toggleLedge_15 : decode cL_toggleLedge 15 = .ok (.lconst 0, 1) := by decide +kernel
theorem dL_toggleLedge_16 : decode cL_toggleLedge 16 = .ok (.lastore, 1) := by decide +kernel
theorem dL_toggleLedge_17 : decode cL_toggleLedge 17 = .ok (.goto 7, 3) := by decide +kernel
theorem dL_toggleLedge_20 : decode cL_toggleLedge 20 = .ok (.astore 4, 2) := by decide +kernel
theorem dL_toggleLedge_22 : decode cL_toggleLedge 22 = .ok (.iconst 1, 1) := by decide +kernel
theorem dL_toggleLedge_23 : decode cL_toggleLedge 23 = .ok (.ireturn, 1) := by decide +kernel
theorem dL_toggleLedge_24 : decode cL_toggleLedge 24 = .ok (.iconst 0, 1) := by decide +kernel
theorem dL_toggleLedge_25 : decode cL_toggleLedge 25 = .ok (.ireturn, 1) := by decide +kernel
set_option maxRecDepth 20000 in
theorem ggL_setStepLimit_X10_setStepLimit : GoodIn wsL_setStepLimit wsX10_setStepLimit := goodIn_ca (goodIn_ca (goodIn_ca (goodIn_ca (goodIn_ca (goodIn_ca (goodIn_r _ [7, 8, 9, 10, 11, 12, 13, 14, 15, 16, 17, 18, 19, 20, 21, 22, 23, 24, 25, 26, 27, 28, 29, 30, 31, 32, 33, 34, 35, 36, 37, 38, 39, 6, 40, 41, 42, 43, 44, 45, 46, 47, 48, 49, 50, 51, 52, 53, 54, 55, 56, 57, 58, 59, 60, 61, 62, 63, 64, 65, 66, 67, 68, 69, 70, 71, 72, 73, 74, 75, 76, 77, 78, 79, 80, 81, 82, 83, 84, 85, 86, 87, 88, 89, 90, 91, 92, 93, 94, 95, 96, 97, 98, 99, 100, 101, 102, 103, 104, 105, 106, 107, 108, 109, 110, 111, 112, 113, 114, 115, 116, 117, 118, 119, 120, 121, 122, 123, 124, 125, 126, 127, 128, 129, 130, 131, 132] (by decide +kernel) (by decide +kernel)) (goodIn_sub (fun _ h => List.mem_cons_of_mem _ (List.mem_append_left _ (List.mem_append_left _ (List.mem_append_left _ (List.mem_append_left _ (List.mem_append_left _ (List.mem_append_right _ h))))))) (by decide +kernel))) (goodIn_sub (fun _ h => List.mem_cons_of_mem _ (List.mem_append_left _ (List.mem_append_left _ (List.mem_append_left _ (List.mem_append_left _ (List.mem_append_right _ h)))))) (by decide +kernel))) (goodIn_sub (fun _ h => List.mem_cons_of_mem _ (List.mem_append_left _ (List.mem_append_left _ (List.mem_append_left _ (List.mem_append_right _ h))))) (by decide +kernel))) (goodIn_sub (fun _ h => List.mem_cons_of_mem _ (List.mem_append_left _ (List.mem_append_left _ (List.mem_append_right _ h)))) (by decide +kernel))) (goodIn_sub (fun _ h => List.mem_cons_of_mem _ (List.mem_append_left _ (List.mem_append_right _ h))) (by decide +kernel))) (goodIn_sub (fun _ h => List.mem_cons_of_mem _ (List.mem_append_right _ h)) (by decide +kernel))
set_option maxRecDepth 20000 in
theorem gL_setStepLimit_X10_setStepLimit : GoodIn wsL_setStepLimit (wsV RL 32 RX10 yX10_setStepLimit wsX10_setStepLimit) := goodIn_app (goodIn_of _ (by decide +kernel)) ggL_setStepLimit_X10_setStepLimit
theorem dL_setStepLimit_0 : decode cL_setStepLimit 0 = .ok (.aload_n 2, 1) := by decide +kernel
theorem dL_setStepLimit_1 : decode cL_setStepLimit 1 = .ok (.iconst 0, 1) := by decide +kernel
theorem dL_setStepLimit_2 : decode cL_setStepLimit 2 = .ok (.aload_n 0, 1) := by decide +kernel
theorem dL_setStepLimit_3 : decode cL_setStepLimit 3 = .ok (.iload_n 1, 1) := by decide +kernel
theorem dL_setStepLimit_4 : decode cL_setStepLimit 4 = .ok (.invokevirtual 32, 3) := by decide +kernel
theorem dL_setStepLimit_7 : decode cL_setStepLimit 7 = .ok (.i2l, 1) := by decide +kernel
theorem dL_setStepLimit_8 : decode cL_setStepLimit 8 = .ok (.lastore, 1) := by decide +kernel
theorem dL_setStepLimit_9 : decode cL_setStepLimit 9 = .ok (.goto 9, 3) := by decide +kernel
theorem dL_setStepLimit_12 : decode cL_setStepLimit 12 = .ok (.astore_n 3, 1) := by decide +kernel
theorem dL_setStepLimit_13 : decode cL_setStepLimit 13 = .ok (.iconst 1, 1) := by decide +kernel
theorem dL_setStepLimit_14 : decode cL_setStepLimit 14 = .ok (.ireturn, 1) := by decide +kernel
theorem dL_setStepLimit_15 : decode cL_setStepLimit 15 = .ok (.astore_n 3, 1) := by decide +kernel
theorem dL_setStepLimit_16 : decode cL_setStepLimit 16 = .ok (.iconst 2, 1) := by decide +kernel
theorem dL_setStepLimit_17 : decode cL_setStepLimit 17 = .ok (.ireturn, 1) := by decide +kernel
theorem dL_setStepLimit_18 : decode cL_setStepLimit 18 = .ok (.iconst 0, 1) := by decide +kernel
theorem dL_setStepLimit_19 : decode cL_setStepLimit 19 = .ok (.ireturn, 1) := by decide +kernel
set_option maxRecDepth 20000 in
theorem ggL_addWinch_X10_addWinch : GoodIn wsL_addWinch wsX10_addWinch := goodIn_ca (goodIn_ca (goodIn_ca (goodIn_ca (goodIn_ca (goodIn_ca (goodIn_r _ [8, 9, 10, 11, 12, 13, 14, 15, 16, 17, 18, 19, 20, 21, 22, 23, 24, 25, 26, 27, 28, 29, 30, 31, 32, 33, 34, 35, 36, 37, 38, 39, 7, 40, 41, 42, 43, 44, 45, 46, 47, 48, 49, 50, 51, 52, 53, 54, 55, 56, 57, 58, 59, 60, 61, 62, 63, 64, 65, 66, 67, 68, 69, 70, 71, 72, 73, 74, 75, 76, 77, 78, 79, 80, 81, 82, 83, 84, 85, 86, 87, 88, 89, 90, 91, 92, 93, 94, 95, 96, 97, 98, 99, 100, 101, 102, 103, 104, 105, 106, 107, 108, 109, 110, 111, 112, 113, 114, 115, 116, 117, 118, 119, 120, 121, 122, 123, 124, 125, 126, 127, 128, 129, 130, 131, 132] (by decide +kernel) (by decide +kernel)) (goodIn_sub (fun _ h => List.mem_cons_of_mem _ (List.mem_append_left _ (List.mem_append_left _ (List.mem_append_left _ (List.mem_append_left _ (List.mem_append_left _ (List.mem_append_right _ h))))))) (by decide +kernel))) (goodIn_sub (fun _ h => List.mem_cons_of_mem _ (List.mem_append_left _ (List.mem_append_left _ (List.mem_append_left _ (List.mem_append_left _ (List.mem_append_right _ h)))))) (by decide +kernel))) (goodIn_sub (fun _ h => List.mem_cons_of_mem _ (List.mem_append_left _ (List.mem_append_left _ (List.mem_append_left _ (List.mem_append_right _ h))))) (by decide +kernel))) (goodIn_sub (fun _ h => List.mem_cons_of_mem _ (List.mem_append_left _ (List.mem_append_left _ (List.mem_append_right _ h)))) (by decide +kernel))) (goodIn_sub (fun _ h => List.mem_cons_of_mem _ (List.mem_append_left _ (List.mem_append_right _ h))) (by decide +kernel))) (goodIn_sub (fun _ h => List.mem_cons_of_mem _ (List.mem_append_right _ h)) (by decide +kernel))
set_option maxRecDepth 20000 in
theorem gL_addWinch_X10_addWinch : GoodIn wsL_addWinch (wsV RL 36 RX10 yX10_addWinch wsX10_addWinch) := goodIn_app (goodIn_of _ (by decide +kernel)) ggL_addWinch_X10_addWinch
theorem dL_addWinch_0 : decode cL_addWinch 0 = .ok (.aload 5, 2) := by decide +kernel
theorem dL_addWinch_2 : decode cL_addWinch 2 = .ok (.iconst 0, 1) := by decide +kernel
theorem dL_addWinch_3 : decode cL_addWinch 3 = .ok (.aload_n 0, 1) := by decide +kernel
theorem dL_addWinch_4 : decode cL_addWinch 4 = .ok (.iload_n 1, 1) := by decide +kernel
theorem dL_addWinch_5 : decode cL_addWinch 5 = .ok (.iload_n 2, 1) := by decide +kernel
theorem dL_addWinch_6 : decode cL_addWinch 6 = .ok (.iload_n 3, 1) := by decide +kernel
theorem dL_addWinch_7 : decode cL_addWinch 7 = .ok (.iload 4, 2) := by decide +kernel
theorem dL_addWinch_9 : decode cL_addWinch 9 = .ok (.invokevirtual 36, 3) := by decide +kernel
theorem dL_addWinch_12 : decode cL_addWinch 12 = .ok (.i2l, 1) := by decide +kernel
theorem dL_addWinch_13 : decode cL_addWinch 13 = .ok (.lastore, 1) := by decide +kernel
theorem dL_addWinch_14 : decode cL_addWinch 14 = .ok (.goto 15, 3) := by decide +kernel
theorem dL_addWinch_17 : decode cL_addWinch 17 = .ok (.astore 6, 2) := by decide +kernel
theorem dL_addWinch_19 : decode cL_addWinch 19 = .ok (.iconst 1, 1) := by decide +kernel
theorem dL_addWinch_20 : decode cL_addWinch 20 = .ok (.ireturn, 1) := by decide +kernel
theorem dL_addWinch_21 : decode cL_addWinch 21 = .ok (.astore 6, 2) := by decide +kernel
theorem dL_addWinch_23 : decode cL_addWinch 23 = .ok (.iconst 2, 1) := by decide +kernel
theorem dL_addWinch_24 : decode cL_addWinch 24 = .ok (.ireturn, 1) := by decide +kernel
theorem dL_addWinch_25 : decode cL_addWinch 25 = .ok (.astore 6, 2) := by decide +kernel
theorem dL_addWinch_27 : decode cL_addWinch 27 = .ok (.iconst 3, 1) := by decide +kernel
theorem dL_addWinch_28 : decode cL_addWinch 28 = .ok (.ireturn, 1) := by decide +kernel
theorem dL_addWinch_29 : decode cL_addWinch 29 = .ok (.iconst 0, 1) := by decide +kernel
theorem dL_addWinch_30 : decode cL_addWinch 30 = .ok (.ireturn, 1) := by decide +kernel
set_option maxRecDepth 20000 in
theorem ggL_lift_X10_lift : GoodIn wsL_lift wsX10_lift := goodIn_ca (goodIn_ca (goodIn_ca (goodIn_ca (goodIn_ca (goodIn_ca (goodIn_r _ [9, 10, 11, 12, 13, 14, 15, 16, 17, 18, 19, 20, 21, 22, 23, 24, 25, 26, 27, 28, 29, 30, 31, 32, 33, 34, 35, 36, 37, 38, 39, 40, 41, 42, 43, 44, 45, 46, 47, 48, 49, 50, 51, 52, 53, 54, 55, 56, 57, 58, 59, 60, 61, 62, 63, 64, 65, 66, 67, 68, 69, 70, 8, 71, 72, 73, 74, 75, 76, 77, 78, 79, 80, 81, 82, 83, 84, 85, 86, 87, 88, 89, 90, 91, 92, 93, 94, 95, 96, 97, 98, 99, 100, 101, 102, 103, 104, 105, 106, 107, 108, 109, 110, 111, 112, 113, 114, 115, 116, 117, 118, 119, 120, 121, 122, 123, 124, 125, 126, 127, 128, 129, 130, 131, 132, 133, 134, 135, 136, 137, 138, 139, 140, 141, 142, 143, 144, 145, 146, 147, 148, 149, 150, 151, 152, 153, 154, 155, 156, 157] (by decide +kernel) (by decide +kernel)) (goodIn_sub (fun _ h => List.mem_cons_of_mem _ (List.mem_append_left _ (List.mem_append_left _ (List.mem_append_left _ (List.mem_append_left _ (List.mem_append_left _ (List.mem_append_right _ h))))))) (by decide +kernel))) (goodIn_sub (fun _ h => List.mem_cons_of_mem _ (List.mem_append_left _ (List.mem_append_left _ (List.mem_append_left _ (List.mem_append_left _ (List.mem_append_right _ h)))))) (by decide +kernel))) (goodIn_sub (fun _ h => List.mem_cons_of_mem _ (List.mem_append_left _ (List.mem_append_left _ (List.mem_append_left _ (List.mem_append_right _ h))))) (by decide +kernel))) (goodIn_sub (fun _ h => List.mem_cons_of_mem _ (List.mem_append_left _ (List.mem_append_left _ (List.mem_append_right _ h)))) (by decide +kernel))) (goodIn_sub (fun _ h => List.mem_cons_of_mem _ (List.mem_append_left _ (List.mem_append_right _ h))) (by decide +kernel))) (goodIn_sub (fun _ h => List.mem_cons_of_mem _ (List.mem_append_right _ h)) (by decide +kernel))
set_option maxRecDepth 20000 in
theorem gL_lift_X10_lift : GoodIn wsL_lift (wsV RL 40 RX10 yX10_lift wsX10_lift) := goodIn_app (goodIn_of _ (by decide +kernel)) ggL_lift_X10_lift
theorem dL_lift_0 : decode cL_lift 0 = .ok (.aload 4, 2) := by decide +kernel
theorem dL_lift_2 : decode cL_lift 2 = .ok (.iconst 0, 1) := by decide +kernel
theorem dL_lift_3 : decode cL_lift 3 = .ok (.aload_n 0, 1) := by decide +kernel
theorem dL_lift_4 : decode cL_lift 4 = .ok (.iload_n 1, 1) := by decide +kernel
theorem dL_lift_5 : decode cL_lift 5 = .ok (.iload_n 2, 1) := by decide +kernel
theorem dL_lift_6 : decode cL_lift 6 = .ok (.iload_n 3, 1) := by decide +kernel
theorem dL_lift_7 : decode cL_lift 7 = .ok (.invokevirtual 40, 3) := by decide +kernel
theorem dL_lift_10 : decode cL_lift 10 = .ok (.i2l, 1) := by decide +kernel
theorem dL_lift_11 : decode cL_lift 11 = .ok (.lastore, 1) := by decide +kernel
theorem dL_lift_12 : decode cL_lift 12 = .ok (.goto 19, 3) := by decide +kernel
theorem dL_lift_15 : decode cL_lift 15 = .ok (.astore 5, 2) := by decide +kernel
theorem dL_lift_17 : decode cL_lift 17 = .ok (.iconst 1, 1) := by decide +kernel
theorem dL_lift_18 : decode cL_lift 18 = .ok (.ireturn, 1) := by decide +kernel
theorem dL_lift_19 : decode cL_lift 19 = .ok (.astore 5, 2) := by decide +kernel
theorem dL_lift_21 : decode cL_lift 21 = .ok (.iconst 2, 1) := by decide +kernel
theorem dL_lift_22 : decode cL_lift 22 = .ok (.ireturn, 1) := by decide +kernel
theorem dL_lift_23 : decode cL_lift 23 = .ok (.astore 5, 2) := by decide +kernel
theorem dL_lift_25 : decode cL_lift 25 = .ok (.iconst 3, 1) := by decide +kernel
theorem dL_lift_26 : decode cL_lift 26 = .ok (.ireturn, 1) := by decide +kernel
theorem dL_lift_27 : decode cL_lift 27 = .ok (.astore 5, 2) := by decide +kernel
theorem dL_lift_29 : decode cL_lift 29 = .ok (.iconst 4, 1) := by decide +kernel
theorem dL_lift_30 : decode cL_lift 30 = .ok (.ireturn, 1) := by decide +kernel
theorem dL_lift_31 : decode cL_lift 31 = .ok (.iconst 0, 1) := by decide +kernel
theorem dL_lift_32 : decode cL_lift 32 = .ok (.ireturn, 1) := by decide +kernel
set_option maxRecDepth 20000 in
theorem ggL_crush_X10_crush : GoodIn wsL_crush wsX10_crush := goodIn_ca (goodIn_ca (goodIn_ca (goodIn_ca (goodIn_ca (goodIn_ca (goodIn_r _ [7, 8, 9, 10, 11, 12, 13, 14, 15, 16, 17, 18, 19, 20, 21, 22, 23, 6, 24, 25, 26, 27, 28, 29, 30, 31, 32, 33, 34, 35, 36, 37, 38, 39, 40, 41, 42, 43, 44, 45, 46, 47, 48, 49, 50, 51, 52, 53, 54, 55, 56, 57, 58, 59, 60, 61, 62, 63, 64, 65, 66, 67, 68, 69, 70, 71, 72, 73, 74, 75, 76, 77, 78, 79, 80, 81, 82, 83, 84, 85, 86, 87, 88, 89, 90, 91, 92, 93, 94, 95, 96, 97, 98, 99, 100, 101, 102, 103, 104, 105, 106, 107, 108, 109, 110, 111, 112, 113, 114, 115, 116, 117] (by decide +kernel) (by decide +kernel)) (goodIn_sub (fun _ h => List.mem_cons_of_mem _ (List.mem_append_left _ (List.mem_append_left _ (List.mem_append_left _ (List.mem_append_left _ (List.mem_append_left _ (List.mem_append_right _ h))))))) (by decide +kernel))) (goodIn_sub (fun _ h => List.mem_cons_of_mem _ (List.mem_append_left _ (List.mem_append_left _ (List.mem_append_left _ (List.mem_append_left _ (List.mem_append_right _ h)))))) (by decide +kernel))) (goodIn_sub (fun _ h => List.mem_cons_of_mem _ (List.mem_append_left _ (List.mem_append_left _ (List.mem_append_left _ (List.mem_append_right _ h))))) (by decide +kernel))) (goodIn_sub (fun _ h => List.mem_cons_of_mem _ (List.mem_append_left _ (List.mem_append_left _ (List.mem_append_right _ h)))) (by decide +kernel))) (goodIn_sub (fun _ h => List.mem_cons_of_mem _ (List.mem_append_left _ (List.mem_append_right _ h))) (by decide +kernel))) (goodIn_sub (fun _ h => List.mem_cons_of_mem _ (List.mem_append_right _ h)) (by decide +kernel))
set_option maxRecDepth 20000 in
theorem gL_crush_X10_crush : GoodIn wsL_crush (wsV RL 45 RX10 yX10_crush wsX10_crush) := goodIn_app (goodIn_of _ (by decide +kernel)) ggL_crush_X10_crush
theorem dL_crush_0 : decode cL_crush 0 = .ok (.aload_n 3, 1) := by decide +kernel
theorem dL_crush_1 : decode cL_crush 1 = .ok (.iconst 0, 1) := by decide +kernel
theorem dL_crush_2 : decode cL_crush 2 = .ok (.aload_n 0, 1) := by decide +kernel
theorem dL_crush_3 : decode cL_crush 3 = .ok (.iload_n 1, 1) := by decide +kernel
theorem dL_crush_4 : decode cL_crush 4 = .ok (.iload_n 2, 1) := by decide +kernel
theorem dL_crush_5 : decode cL_crush 5 = .ok (.invokevirtual 45, 3) := by decide +kernel
theorem dL_crush_8 : decode cL_crush 8 = .ok (.i2l, 1) := by decide +kernel
theorem dL_crush_9 : decode cL_crush 9 = .ok (.lastore, 1) := by decide +kernel
theorem dL_crush_10 : decode cL_crush 10 = .ok (.goto 11, 3) := by decide +kernel
theorem dL_crush_13 : decode cL_crush 13 = .ok (.astore 4, 2) := by decide +kernel
theorem dL_crush_15 : decode cL_crush 15 = .ok (.iconst 1, 1) := by decide +kernel
theorem dL_crush_16 : decode cL_crush 16 = .ok (.ireturn, 1) := by decide +kernel
theorem dL_crush_17 : decode cL_crush 17 = .ok (.astore 4, 2) := by decide +kernel
theorem dL_crush_19 : decode cL_crush 19 = .ok (.iconst 2, 1) := by decide +kernel
theorem dL_crush_20 : decode cL_crush 20 = .ok (.ireturn, 1) := by decide +kernel
theorem dL_crush_21 : decode cL_crush 21 = .ok (.iconst 0, 1) := by decide +kernel
theorem dL_crush_22 : decode cL_crush 22 = .ok (.ireturn, 1) := by decide +kernel
set_option maxRecDepth 20000 in
theorem ggL_height_X10_height : GoodIn wsL_height wsX10_height := goodIn_ca (goodIn_ca (goodIn_ca (goodIn_ca (goodIn_ca (goodIn_ca (goodIn_r _ [6, 7, 8, 9, 10, 11, 12, 13, 14, 15, 16, 17, 18, 5, 19, 20, 21, 22, 23, 24, 25, 26, 27, 28, 29, 30, 31, 32, 33, 34, 35, 36, 37, 38, 39, 40, 41, 42, 43, 44, 45, 46, 47, 48, 49, 50, 51, 52, 53, 54, 55, 56, 57, 58, 59, 60, 61, 62, 63, 64, 65, 66, 67, 68, 69, 70] (by decide +kernel) (by decide +kernel)) (goodIn_sub (fun _ h => List.mem_cons_of_mem _ (List.mem_append_left _ (List.mem_append_left _ (List.mem_append_left _ (List.mem_append_left _ (List.mem_append_left _ (List.mem_append_right _ h))))))) (by decide +kernel))) (goodIn_sub (fun _ h => List.mem_cons_of_mem _ (List.mem_append_left _ (List.mem_append_left _ (List.mem_append_left _ (List.mem_append_left _ (List.mem_append_right _ h)))))) (by decide +kernel))) (goodIn_sub (fun _ h => List.mem_cons_of_mem _ (List.mem_append_left _ (List.mem_append_left _ (List.mem_append_left _ (List.mem_append_right _ h))))) (by decide +kernel))) (goodIn_sub (fun _ h => List.mem_cons_of_mem _ (List.mem_append_left _ (List.mem_append_left _ (List.mem_append_right _ h)))) (by decide +kernel))) (goodIn_sub (fun _ h => List.mem_cons_of_mem _ (List.mem_append_left _ (List.mem_append_right _ h))) (by decide +kernel))) (goodIn_sub (fun _ h => List.mem_cons_of_mem _ (List.mem_append_right _ h)) (by decide +kernel))
set_option maxRecDepth 20000 in
theorem gL_height_X10_height : GoodIn wsL_height (wsV RL 48 RX10 yX10_height wsX10_height) := goodIn_app (goodIn_of _ (by decide +kernel)) ggL_height_X10_height
theorem dL_height_0 : decode cL_height 0 = .ok (.aload_n 3, 1) := by decide +kernel
theorem dL_height_1 : decode cL_height 1 = .ok (.iconst 0, 1) := by decide +kernel
theorem dL_height_2 : decode cL_height 2 = .ok (.aload_n 0, 1) := by decide +kernel
theorem dL_height_3 : decode cL_height 3 = .ok (.iload_n 1, 1) := by decide +kernel
theorem dL_height_4 : decode cL_height 4 = .ok (.iload_n 2, 1) := by decide +kernel
theorem dL_height_5 : decode cL_height 5 = .ok (.invokevirtual 48, 3) := by decide +kernel
theorem dL_height_8 : decode cL_height 8 = .ok (.i2l, 1) := by decide +kernel
theorem dL_height_9 : decode cL_height 9 = .ok (.lastore, 1) := by decide +kernel
theorem dL_height_10 : decode cL_height 10 = .ok (.goto 7, 3) := by decide +kernel
theorem dL_height_13 : decode cL_height 13 = .ok (.astore 4, 2) := by decide +kernel
theorem dL_height_15 : decode cL_height 15 = .ok (.iconst 1, 1) := by decide +kernel
theorem dL_height_16 : decode cL_height 16 = .ok (.ireturn, 1) := by decide +kernel
theorem dL_height_17 : decode cL_height 17 = .ok (.iconst 0, 1) := by decide +kernel
theorem dL_height_18 : decode cL_height 18 = .ok (.ireturn, 1) := by decide +kernel
set_option maxRecDepth 20000 in
theorem ggL_stone_X10_stone : GoodIn wsL_stone wsX10_stone := goodIn_ca (goodIn_ca (goodIn_ca (goodIn_ca (goodIn_ca (goodIn_ca (goodIn_r _ [6, 7, 8, 9, 10, 11, 12, 13, 14, 15, 16, 17, 18, 5, 19, 20, 21, 22, 23, 24, 25, 26, 27, 28, 29, 30, 31, 32, 33, 34, 35, 36, 37, 38, 39, 40, 41, 42, 43, 44, 45, 46, 47, 48, 49, 50, 51, 52, 53, 54, 55, 56, 57, 58, 59, 60, 61, 62, 63, 64, 65, 66, 67, 68, 69, 70] (by decide +kernel) (by decide +kernel)) (goodIn_sub (fun _ h => List.mem_cons_of_mem _ (List.mem_append_left _ (List.mem_append_left _ (List.mem_append_left _ (List.mem_append_left _ (List.mem_append_left _ (List.mem_append_right _ h))))))) (by decide +kernel))) (goodIn_sub (fun _ h => List.mem_cons_of_mem _ (List.mem_append_left _ (List.mem_append_left _ (List.mem_append_left _ (List.mem_append_left _ (List.mem_append_right _ h)))))) (by decide +kernel))) (goodIn_sub (fun _ h => List.mem_cons_of_mem _ (List.mem_append_left _ (List.mem_append_left _ (List.mem_append_left _ (List.mem_append_right _ h))))) (by decide +kernel))) (goodIn_sub (fun _ h => List.mem_cons_of_mem _ (List.mem_append_left _ (List.mem_append_left _ (List.mem_append_right _ h)))) (by decide +kernel))) (goodIn_sub (fun _ h => List.mem_cons_of_mem _ (List.mem_append_left _ (List.mem_append_right _ h))) (by decide +kernel))) (goodIn_sub (fun _ h => List.mem_cons_of_mem _ (List.mem_append_right _ h)) (by decide +kernel))
set_option maxRecDepth 20000 in
theorem gL_stone_X10_stone : GoodIn wsL_stone (wsV RL 51 RX10 yX10_stone wsX10_stone) := goodIn_app (goodIn_of _ (by decide +kernel)) ggL_stone_X10_stone
theorem dL_stone_0 : decode cL_stone 0 = .ok (.aload_n 3, 1) := by decide +kernel
theorem dL_stone_1 : decode cL_stone 1 = .ok (.iconst 0, 1) := by decide +kernel
theorem dL_stone_2 : decode cL_stone 2 = .ok (.aload_n 0, 1) := by decide +kernel
theorem dL_stone_3 : decode cL_stone 3 = .ok (.iload_n 1, 1) := by decide +kernel
theorem dL_stone_4 : decode cL_stone 4 = .ok (.iload_n 2, 1) := by decide +kernel
theorem dL_stone_5 : decode cL_stone 5 = .ok (.invokevirtual 51, 3) := by decide +kernel
theorem dL_stone_8 : decode cL_stone 8 = .ok (.i2l, 1) := by decide +kernel
theorem dL_stone_9 : decode cL_stone 9 = .ok (.lastore, 1) := by decide +kernel
theorem dL_stone_10 : decode cL_stone 10 = .ok (.goto 7, 3) := by decide +kernel
theorem dL_stone_13 : decode cL_stone 13 = .ok (.astore 4, 2) := by decide +kernel
theorem dL_stone_15 : decode cL_stone 15 = .ok (.iconst 1, 1) := by decide +kernel
theorem dL_stone_16 : decode cL_stone 16 = .ok (.ireturn, 1) := by decide +kernel
theorem dL_stone_17 : decode cL_stone 17 = .ok (.iconst 0, 1) := by decide +kernel
theorem dL_stone_18 : decode cL_stone 18 = .ok (.ireturn, 1) := by decide +kernel
set_option maxRecDepth 20000 in
theorem ggL_isLedge_X10_isLedge : GoodIn wsL_isLedge wsX10_isLedge := goodIn_ca (goodIn_ca (goodIn_ca (goodIn_ca (goodIn_ca (goodIn_ca (goodIn_r _ [6, 7, 8, 9, 10, 11, 12, 13, 14, 15, 16, 17, 18, 5, 19, 20, 21, 22, 23, 24, 25, 26, 27, 28, 29, 30, 31, 32, 33, 34, 35, 36, 37, 38, 39, 40, 41, 42, 43, 44, 45, 46, 47, 48, 49, 50, 51, 52, 53, 54, 55, 56, 57, 58, 59, 60, 61, 62, 63, 64, 65, 66, 67, 68, 69, 70] (by decide +kernel) (by decide +kernel)) (goodIn_sub (fun _ h => List.mem_cons_of_mem _ (List.mem_append_left _ (List.mem_append_left _ (List.mem_append_left _ (List.mem_append_left _ (List.mem_append_left _ (List.mem_append_right _ h))))))) (by decide +kernel))) (goodIn_sub (fun _ h => List.mem_cons_of_mem _ (List.mem_append_left _ (List.mem_append_left _ (List.mem_append_left _ (List.mem_append_left _ (List.mem_append_right _ h)))))) (by decide +kernel))) (goodIn_sub (fun _ h => List.mem_cons_of_mem _ (List.mem_append_left _ (List.mem_append_left _ (List.mem_append_left _ (List.mem_append_right _ h))))) (by decide +kernel))) (goodIn_sub (fun _ h => List.mem_cons_of_mem _ (List.mem_append_left _ (List.mem_append_left _ (List.mem_append_right _ h)))) (by decide +kernel))) (goodIn_sub (fun _ h => List.mem_cons_of_mem _ (List.mem_append_left _ (List.mem_append_right _ h))) (by decide +kernel))) (goodIn_sub (fun _ h => List.mem_cons_of_mem _ (List.mem_append_right _ h)) (by decide +kernel))
set_option maxRecDepth 20000 in
theorem gL_isLedge_X10_isLedge : GoodIn wsL_isLedge (wsV RL 54 RX10 yX10_isLedge wsX10_isLedge) := goodIn_app (goodIn_of _ (by decide +kernel)) ggL_isLedge_X10_isLedge
theorem dL_isLedge_0 : decode cL_isLedge 0 = .ok (.aload_n 3, 1) := by decide +kernel
theorem dL_isLedge_1 : decode cL_isLedge 1 = .ok (.iconst 0, 1) := by decide +kernel
theorem dL_isLedge_2 : decode cL_isLedge 2 = .ok (.aload_n 0, 1) := by decide +kernel
theorem dL_isLedge_3 : decode cL_isLedge 3 = .ok (.iload_n 1, 1) := by decide +kernel
theorem dL_isLedge_4 : decode cL_isLedge 4 = .ok (.iload_n 2, 1) := by decide +kernel
theorem dL_isLedge_5 : decode cL_isLedge 5 = .ok (.invokevirtual 54, 3) := by decide +kernel
theorem dL_isLedge_8 : decode cL_isLedge 8 = .ok (.ifCond .eq 7, 3) := by decide +kernel
theorem dL_isLedge_11 : decode cL_isLedge 11 = .ok (.lconst 1, 1) := by decide +kernel
theorem dL_isLedge_12 : decode cL_isLedge 12 = .ok (.goto 4, 3) := by decide +kernel
theorem dL_isLedge_15 : decode cL_isLedge 15 = .ok (.lconst 0, 1) := by decide +kernel
theorem dL_isLedge_16 : decode cL_isLedge 16 = .ok (.lastore, 1) := by decide +kernel
theorem dL_isLedge_17 : decode cL_isLedge 17 = .ok (.goto 7, 3) := by decide +kernel
theorem dL_isLedge_20 : decode cL_isLedge 20 = .ok (.astore 4, 2) := by decide +kernel
theorem dL_isLedge_22 : decode cL_isLedge 22 = .ok (.iconst 1, 1) := by decide +kernel
theorem dL_isLedge_23 : decode cL_isLedge 23 = .ok (.ireturn, 1) := by decide +kernel
theorem dL_isLedge_24 : decode cL_isLedge 24 = .ok (.iconst 0, 1) := by decide +kernel
theorem dL_isLedge_25 : decode cL_isLedge 25 = .ok (.ireturn, 1) := by decide +kernel
set_option maxRecDepth 20000 in
theorem ggL_looseBlocks_X10_looseBlocks : GoodIn wsL_looseBlocks wsX10_looseBlocks := goodIn_ca (goodIn_ca (goodIn_ca (goodIn_ca (goodIn_ca (goodIn_ca (goodIn_r _ [6, 7, 8, 9, 10, 11, 12, 13, 14, 15, 16, 17, 18, 5, 19, 20, 21, 22, 23, 24, 25, 26, 27, 28, 29, 30, 31, 32, 33, 34, 35, 36, 37, 38, 39, 40, 41, 42, 43, 44, 45, 46, 47, 48, 49, 50, 51, 52, 53, 54, 55, 56, 57, 58, 59, 60, 61, 62, 63, 64, 65, 66, 67, 68, 69, 70] (by decide +kernel) (by decide +kernel)) (goodIn_sub (fun _ h => List.mem_cons_of_mem _ (List.mem_append_left _ (List.mem_append_left _ (List.mem_append_left _ (List.mem_append_left _ (List.mem_append_left _ (List.mem_append_right _ h))))))) (by decide +kernel))) (goodIn_sub (fun _ h => List.mem_cons_of_mem _ (List.mem_append_left _ (List.mem_append_left _ (List.mem_append_left _ (List.mem_append_left _ (List.mem_append_right _ h)))))) (by decide +kernel))) (goodIn_sub (fun _ h => List.mem_cons_of_mem _ (List.mem_append_left _ (List.mem_append_left _ (List.mem_append_left _ (List.mem_append_right _ h))))) (by decide +kernel))) (goodIn_sub (fun _ h => List.mem_cons_of_mem _ (List.mem_append_left _ (List.mem_append_left _ (List.mem_append_right _ h)))) (by decide +kernel))) (goodIn_sub (fun _ h => List.mem_cons_of_mem _ (List.mem_append_left _ (List.mem_append_right _ h))) (by decide +kernel))) (goodIn_sub (fun _ h => List.mem_cons_of_mem _ (List.mem_append_right _ h)) (by decide +kernel))
set_option maxRecDepth 20000 in
theorem gL_looseBlocks_X10_looseBlocks : GoodIn wsL_looseBlocks (wsV RL 57 RX10 yX10_looseBlocks wsX10_looseBlocks) := goodIn_app (goodIn_of _ (by decide +kernel)) ggL_looseBlocks_X10_looseBlocks
theorem dL_looseBlocks_0 : decode cL_looseBlocks 0 = .ok (.aload_n 3, 1) := by decide +kernel
theorem dL_looseBlocks_1 : decode cL_looseBlocks 1 = .ok (.iconst 0, 1) := by decide +kernel
theorem dL_looseBlocks_2 : decode cL_looseBlocks 2 = .ok (.aload_n 0, 1) := by decide +kernel
theorem dL_looseBlocks_3 : decode cL_looseBlocks 3 = .ok (.iload_n 1, 1) := by decide +kernel
theorem dL_looseBlocks_4 : decode cL_looseBlocks 4 = .ok (.iload_n 2, 1) := by decide +kernel
theorem dL_looseBlocks_5 : decode cL_looseBlocks 5 = .ok (.invokevirtual 57, 3) := by decide +kernel
theorem dL_looseBlocks_8 : decode cL_looseBlocks 8 = .ok (.i2l, 1) := by decide +kernel
theorem dL_looseBlocks_9 : decode cL_looseBlocks 9 = .ok (.lastore, 1) := by decide +kernel
theorem dL_looseBlocks_10 : decode cL_looseBlocks 10 = .ok (.goto 7, 3) := by decide +kernel
theorem dL_looseBlocks_13 : decode cL_looseBlocks 13 = .ok (.astore 4, 2) := by decide +kernel
theorem dL_looseBlocks_15 : decode cL_looseBlocks 15 = .ok (.iconst 1, 1) := by decide +kernel
theorem dL_looseBlocks_16 : decode cL_looseBlocks 16 = .ok (.ireturn, 1) := by decide +kernel
theorem dL_looseBlocks_17 : decode cL_looseBlocks 17 = .ok (.iconst 0, 1) := by decide +kernel
theorem dL_looseBlocks_18 : decode cL_looseBlocks 18 = .ok (.ireturn, 1) := by decide +kernel
set_option maxRecDepth 20000 in
theorem ggL_topBlock_X10_topBlock : GoodIn wsL_topBlock wsX10_topBlock := goodIn_ca (goodIn_ca (goodIn_ca (goodIn_ca (goodIn_ca (goodIn_ca (goodIn_r _ [7, 8, 9, 10, 11, 12, 13, 14, 15, 16, 17, 18, 19, 20, 21, 22, 23, 24, 25, 26, 27, 28, 29, 30, 31, 6, 32, 33, 34, 35, 36, 37, 38, 39, 40, 41, 42, 43, 44, 45, 46, 47, 48, 49, 50, 51, 52, 53, 54, 55, 56, 57, 58, 59, 60, 61, 62, 63, 64, 65, 66, 67, 68, 69, 70, 71, 72, 73, 74, 75, 76, 77, 78, 79, 80] (by decide +kernel) (by decide +kernel)) (goodIn_sub (fun _ h => List.mem_cons_of_mem _ (List.mem_append_left _ (List.mem_append_left _ (List.mem_append_left _ (List.mem_append_left _ (List.mem_append_left _ (List.mem_append_right _ h))))))) (by decide +kernel))) (goodIn_sub (fun _ h => List.mem_cons_of_mem _ (List.mem_append_left _ (List.mem_append_left _ (List.mem_append_left _ (List.mem_append_left _ (List.mem_append_right _ h)))))) (by decide +kernel))) (goodIn_sub (fun _ h => List.mem_cons_of_mem _ (List.mem_append_left _ (List.mem_append_left _ (List.mem_append_left _ (List.mem_append_right _ h))))) (by decide +kernel))) (goodIn_sub (fun _ h => List.mem_cons_of_mem _ (List.mem_append_left _ (List.mem_append_left _ (List.mem_append_right _ h)))) (by decide +kernel))) (goodIn_sub (fun _ h => List.mem_cons_of_mem _ (List.mem_append_left _ (List.mem_append_right _ h))) (by decide +kernel))) (goodIn_sub (fun _ h => List.mem_cons_of_mem _ (List.mem_append_right _ h)) (by decide +kernel))
set_option maxRecDepth 20000 in
theorem gL_topBlock_X10_topBlock : GoodIn wsL_topBlock (wsV RL 60 RX10 yX10_topBlock wsX10_topBlock) := goodIn_app (goodIn_of _ (by decide +kernel)) ggL_topBlock_X10_topBlock
theorem dL_topBlock_0 : decode cL_topBlock 0 = .ok (.aload_n 3, 1) := by decide +kernel
theorem dL_topBlock_1 : decode cL_topBlock 1 = .ok (.iconst 0, 1) := by decide +kernel
theorem dL_topBlock_2 : decode cL_topBlock 2 = .ok (.aload_n 0, 1) := by decide +kernel
theorem dL_topBlock_3 : decode cL_topBlock 3 = .ok (.iload_n 1, 1) := by decide +kernel
theorem dL_topBlock_4 : decode cL_topBlock 4 = .ok (.iload_n 2, 1) := by decide +kernel
theorem dL_topBlock_5 : decode cL_topBlock 5 = .ok (.invokevirtual 60, 3) := by decide +kernel
theorem dL_topBlock_8 : decode cL_topBlock 8 = .ok (.i2l, 1) := by decide +kernel
theorem dL_topBlock_9 : decode cL_topBlock 9 = .ok (.lastore, 1) := by decide +kernel
theorem dL_topBlock_10 : decode cL_topBlock 10 = .ok (.goto 11, 3) := by decide +kernel
theorem dL_topBlock_13 : decode cL_topBlock 13 = .ok (.astore 4, 2) := by decide +kernel
theorem dL_topBlock_15 : decode cL_topBlock 15 = .ok (.iconst 1, 1) := by decide +kernel
theorem dL_topBlock_16 : decode cL_topBlock 16 = .ok (.ireturn, 1) := by decide +kernel
theorem dL_topBlock_17 : decode cL_topBlock 17 = .ok (.astore 4, 2) := by decide +kernel
theorem dL_topBlock_19 : decode cL_topBlock 19 = .ok (.iconst 2, 1) := by decide +kernel
theorem dL_topBlock_20 : decode cL_topBlock 20 = .ok (.ireturn, 1) := by decide +kernel
theorem dL_topBlock_21 : decode cL_topBlock 21 = .ok (.iconst 0, 1) := by decide +kernel
theorem dL_topBlock_22 : decode cL_topBlock 22 = .ok (.ireturn, 1) := by decide +kernel
set_option maxRecDepth 20000 in
theorem ggL_steepestStep_X10_steepestStep : GoodIn wsL_steepestStep wsX10_steepestStep := goodIn_ca (goodIn_ca (goodIn_ca (goodIn_ca (goodIn_ca (goodIn_ca (goodIn_r _ [6, 7, 8, 9, 10, 11, 12, 13, 14, 15, 16, 17, 18, 5, 19, 20, 21, 22, 23, 24, 25, 26, 27, 28, 29, 30, 31, 32, 33, 34, 35, 36, 37, 38, 39, 40, 41, 42, 43, 44, 45, 46, 47, 48, 49, 50, 51, 52, 53, 54, 55, 56, 57, 58, 59, 60, 61, 62, 63, 64, 65, 66, 67, 68, 69, 70, 71, 72, 73, 74, 75, 76, 77, 78, 79, 80, 81, 82, 83, 84] (by decide +kernel) (by decide +kernel)) (goodIn_sub (fun _ h => List.mem_cons_of_mem _ (List.mem_append_left _ (List.mem_append_left _ (List.mem_append_left _ (List.mem_append_left _ (List.mem_append_left _ (List.mem_append_right _ h))))))) (by decide +kernel))) (goodIn_sub (fun _ h => List.mem_cons_of_mem _ (List.mem_append_left _ (List.mem_append_left _ (List.mem_append_left _ (List.mem_append_left _ (List.mem_append_right _ h)))))) (by decide +kernel))) (goodIn_sub (fun _ h => List.mem_cons_of_mem _ (List.mem_append_left _ (List.mem_append_left _ (List.mem_append_left _ (List.mem_append_right _ h))))) (by decide +kernel))) (goodIn_sub (fun _ h => List.mem_cons_of_mem _ (List.mem_append_left _ (List.mem_append_left _ (List.mem_append_right _ h)))) (by decide +kernel))) (goodIn_sub (fun _ h => List.mem_cons_of_mem _ (List.mem_append_left _ (List.mem_append_right _ h))) (by decide +kernel))) (goodIn_sub (fun _ h => List.mem_cons_of_mem _ (List.mem_append_right _ h)) (by decide +kernel))
set_option maxRecDepth 20000 in
theorem gL_steepestStep_X10_steepestStep : GoodIn wsL_steepestStep (wsV RL 63 RX10 yX10_steepestStep wsX10_steepestStep) := goodIn_app (goodIn_of _ (by decide +kernel)) ggL_steepestStep_X10_steepestStep
theorem dL_steepestStep_0 : decode cL_steepestStep 0 = .ok (.aload_n 3, 1) := by decide +kernel
theorem dL_steepestStep_1 : decode cL_steepestStep 1 = .ok (.iconst 0, 1) := by decide +kernel
theorem dL_steepestStep_2 : decode cL_steepestStep 2 = .ok (.aload_n 0, 1) := by decide +kernel
theorem dL_steepestStep_3 : decode cL_steepestStep 3 = .ok (.iload_n 1, 1) := by decide +kernel
theorem dL_steepestStep_4 : decode cL_steepestStep 4 = .ok (.iload_n 2, 1) := by decide +kernel
theorem dL_steepestStep_5 : decode cL_steepestStep 5 = .ok (.invokevirtual 63, 3) := by decide +kernel
theorem dL_steepestStep_8 : decode cL_steepestStep 8 = .ok (.i2l, 1) := by decide +kernel
theorem dL_steepestStep_9 : decode cL_steepestStep 9 = .ok (.lastore, 1) := by decide +kernel
theorem dL_steepestStep_10 : decode cL_steepestStep 10 = .ok (.goto 7, 3) := by decide +kernel
theorem dL_steepestStep_13 : decode cL_steepestStep 13 = .ok (.astore 4, 2) := by decide +kernel
theorem dL_steepestStep_15 : decode cL_steepestStep 15 = .ok (.iconst 1, 1) := by decide +kernel
theorem dL_steepestStep_16 : decode cL_steepestStep 16 = .ok (.ireturn, 1) := by decide +kernel
theorem dL_steepestStep_17 : decode cL_steepestStep 17 = .ok (.iconst 0, 1) := by decide +kernel
theorem dL_steepestStep_18 : decode cL_steepestStep 18 = .ok (.ireturn, 1) := by decide +kernel
set_option maxRecDepth 20000 in
theorem ggL_canCut_X10_canCut : GoodIn wsL_canCut wsX10_canCut := goodIn_ca (goodIn_ca (goodIn_ca (goodIn_ca (goodIn_ca (goodIn_ca (goodIn_r _ [6, 7, 8, 9, 10, 11, 12, 13, 14, 15, 16, 17, 18, 19, 5, 20, 21, 22, 23, 24, 25, 26, 27, 28, 29, 30, 31, 32, 33, 34, 35, 36, 37, 38, 39, 40, 41, 42, 43, 44, 45, 46, 47, 48, 49, 50, 51, 52, 53, 54, 55, 56, 57, 58, 59, 60, 61, 62, 63, 64, 65, 66, 67, 68, 69, 70, 71, 72, 73, 74, 75, 76, 77, 78, 79, 80, 81, 82, 83, 84, 85, 86, 87, 88, 89, 90, 91, 92, 93] (by decide +kernel) (by decide +kernel)) (goodIn_sub (fun _ h => List.mem_cons_of_mem _ (List.mem_append_left _ (List.mem_append_left _ (List.mem_append_left _ (List.mem_append_left _ (List.mem_append_left _ (List.mem_append_right _ h))))))) (by decide +kernel))) (goodIn_sub (fun _ h => List.mem_cons_of_mem _ (List.mem_append_left _ (List.mem_append_left _ (List.mem_append_left _ (List.mem_append_left _ (List.mem_append_right _ h)))))) (by decide +kernel))) (goodIn_sub (fun _ h => List.mem_cons_of_mem _ (List.mem_append_left _ (List.mem_append_left _ (List.mem_append_left _ (List.mem_append_right _ h))))) (by decide +kernel))) (goodIn_sub (fun _ h => List.mem_cons_of_mem _ (List.mem_append_left _ (List.mem_append_left _ (List.mem_append_right _ h)))) (by decide +kernel))) (goodIn_sub (fun _ h => List.mem_cons_of_mem _ (List.mem_append_left _ (List.mem_append_right _ h))) (by decide +kernel))) (goodIn_sub (fun _ h => List.mem_cons_of_mem _ (List.mem_append_right _ h)) (by decide +kernel))
set_option maxRecDepth 20000 in
theorem gL_canCut_X10_canCut : GoodIn wsL_canCut (wsV RL 66 RX10 yX10_canCut wsX10_canCut) := goodIn_app (goodIn_of _ (by decide +kernel)) ggL_canCut_X10_canCut
theorem dL_canCut_0 : decode cL_canCut 0 = .ok (.aload_n 3, 1) := by decide +kernel
theorem dL_canCut_1 : decode cL_canCut 1 = .ok (.iconst 0, 1) := by decide +kernel
theorem dL_canCut_2 : decode cL_canCut 2 = .ok (.aload_n 0, 1) := by decide +kernel
theorem dL_canCut_3 : decode cL_canCut 3 = .ok (.iload_n 1, 1) := by decide +kernel
theorem dL_canCut_4 : decode cL_canCut 4 = .ok (.iload_n 2, 1) := by decide +kernel
theorem dL_canCut_5 : decode cL_canCut 5 = .ok (.invokevirtual 66, 3) := by decide +kernel
theorem dL_canCut_8 : decode cL_canCut 8 = .ok (.ifCond .eq 7, 3) := by decide +kernel
theorem dL_canCut_11 : decode cL_canCut 11 = .ok (.lconst 1, 1) := by decide +kernel
theorem dL_canCut_12 : decode cL_canCut 12 = .ok (.goto 4, 3) := by decide +kernel
theorem dL_canCut_15 : decode cL_canCut 15 = .ok (.lconst 0, 1) := by decide +kernel
theorem dL_canCut_16 : decode cL_canCut 16 = .ok (.lastore, 1) := by decide +kernel
theorem dL_canCut_17 : decode cL_canCut 17 = .ok (.goto 7, 3) := by decide +kernel
theorem dL_canCut_20 : decode cL_canCut 20 = .ok (.astore 4, 2) := by decide +kernel
theorem dL_canCut_22 : decode cL_canCut 22 = .ok (.iconst 1, 1) := by decide +kernel
theorem dL_canCut_23 : decode cL_canCut 23 = .ok (.ireturn, 1) := by decide +kernel
theorem dL_canCut_24 : decode cL_canCut 24 = .ok (.iconst 0, 1) := by decide +kernel
theorem dL_canCut_25 : decode cL_canCut 25 = .ok (.ireturn, 1) := by decide +kernel
set_option maxRecDepth 20000 in
theorem ggL_cellsAt_X10_cellsAt : GoodIn wsL_cellsAt wsX10_cellsAt := goodIn_ca (goodIn_ca (goodIn_ca (goodIn_ca (goodIn_ca (goodIn_ca (goodIn_r _ [6, 7, 8, 9, 10, 11, 12, 13, 14, 15, 5, 16, 17, 18, 19, 20, 21, 22, 23, 24, 25, 26, 27, 28, 29, 30, 31, 32, 33, 34, 35, 36, 37, 38, 39, 40, 41, 42, 43, 44, 45, 46, 47, 48, 49, 50, 51, 52, 53, 54, 55, 56, 57, 58, 59, 60, 61, 62, 63] (by decide +kernel) (by decide +kernel)) (goodIn_sub (fun _ h => List.mem_cons_of_mem _ (List.mem_append_left _ (List.mem_append_left _ (List.mem_append_left _ (List.mem_append_left _ (List.mem_append_left _ (List.mem_append_right _ h))))))) (by decide +kernel))) (goodIn_sub (fun _ h => List.mem_cons_of_mem _ (List.mem_append_left _ (List.mem_append_left _ (List.mem_append_left _ (List.mem_append_left _ (List.mem_append_right _ h)))))) (by decide +kernel))) (goodIn_sub (fun _ h => List.mem_cons_of_mem _ (List.mem_append_left _ (List.mem_append_left _ (List.mem_append_left _ (List.mem_append_right _ h))))) (by decide +kernel))) (goodIn_sub (fun _ h => List.mem_cons_of_mem _ (List.mem_append_left _ (List.mem_append_left _ (List.mem_append_right _ h)))) (by decide +kernel))) (goodIn_sub (fun _ h => List.mem_cons_of_mem _ (List.mem_append_left _ (List.mem_append_right _ h))) (by decide +kernel))) (goodIn_sub (fun _ h => List.mem_cons_of_mem _ (List.mem_append_right _ h)) (by decide +kernel))
set_option maxRecDepth 20000 in
theorem gL_cellsAt_X10_cellsAt : GoodIn wsL_cellsAt (wsV RL 69 RX10 yX10_cellsAt wsX10_cellsAt) := goodIn_app (goodIn_of _ (by decide +kernel)) ggL_cellsAt_X10_cellsAt
theorem dL_cellsAt_0 : decode cL_cellsAt 0 = .ok (.aload_n 2, 1) := by decide +kernel
theorem dL_cellsAt_1 : decode cL_cellsAt 1 = .ok (.iconst 0, 1) := by decide +kernel
theorem dL_cellsAt_2 : decode cL_cellsAt 2 = .ok (.aload_n 0, 1) := by decide +kernel
theorem dL_cellsAt_3 : decode cL_cellsAt 3 = .ok (.iload_n 1, 1) := by decide +kernel
theorem dL_cellsAt_4 : decode cL_cellsAt 4 = .ok (.invokevirtual 69, 3) := by decide +kernel
theorem dL_cellsAt_7 : decode cL_cellsAt 7 = .ok (.i2l, 1) := by decide +kernel
theorem dL_cellsAt_8 : decode cL_cellsAt 8 = .ok (.lastore, 1) := by decide +kernel
theorem dL_cellsAt_9 : decode cL_cellsAt 9 = .ok (.goto 6, 3) := by decide +kernel
theorem dL_cellsAt_12 : decode cL_cellsAt 12 = .ok (.astore_n 3, 1) := by decide +kernel
theorem dL_cellsAt_13 : decode cL_cellsAt 13 = .ok (.iconst 1, 1) := by decide +kernel
theorem dL_cellsAt_14 : decode cL_cellsAt 14 = .ok (.ireturn, 1) := by decide +kernel
theorem dL_cellsAt_15 : decode cL_cellsAt 15 = .ok (.iconst 0, 1) := by decide +kernel
theorem dL_cellsAt_16 : decode cL_cellsAt 16 = .ok (.ireturn, 1) := by decide +kernel
set_option maxRecDepth 20000 in
theorem ggL_cutsToLower_X10_cutsToLower : GoodIn wsL_cutsToLower wsX10_cutsToLower := goodIn_ca (goodIn_ca (goodIn_ca (goodIn_ca (goodIn_ca (goodIn_ca (goodIn_r _ [7, 8, 9, 10, 11, 12, 13, 14, 15, 16, 17, 18, 19, 20, 21, 22, 23, 24, 25, 26, 27, 28, 29, 30, 31, 6, 32, 33, 34, 35, 36, 37, 38, 39, 40, 41, 42, 43, 44, 45, 46, 47, 48, 49, 50, 51, 52, 53, 54, 55, 56, 57, 58, 59, 60, 61, 62, 63, 64, 65, 66, 67, 68, 69, 70, 71, 72, 73, 74, 75, 76, 77, 78, 79, 80, 81, 82, 83, 84, 85, 86, 87, 88, 89, 90, 91, 92, 93, 94, 95, 96] (by decide +kernel) (by decide +kernel)) (goodIn_sub (fun _ h => List.mem_cons_of_mem _ (List.mem_append_left _ (List.mem_append_left _ (List.mem_append_left _ (List.mem_append_left _ (List.mem_append_left _ (List.mem_append_right _ h))))))) (by decide +kernel))) (goodIn_sub (fun _ h => List.mem_cons_of_mem _ (List.mem_append_left _ (List.mem_append_left _ (List.mem_append_left _ (List.mem_append_left _ (List.mem_append_right _ h)))))) (by decide +kernel))) (goodIn_sub (fun _ h => List.mem_cons_of_mem _ (List.mem_append_left _ (List.mem_append_left _ (List.mem_append_left _ (List.mem_append_right _ h))))) (by decide +kernel))) (goodIn_sub (fun _ h => List.mem_cons_of_mem _ (List.mem_append_left _ (List.mem_append_left _ (List.mem_append_right _ h)))) (by decide +kernel))) (goodIn_sub (fun _ h => List.mem_cons_of_mem _ (List.mem_append_left _ (List.mem_append_right _ h))) (by decide +kernel))) (goodIn_sub (fun _ h => List.mem_cons_of_mem _ (List.mem_append_right _ h)) (by decide +kernel))
set_option maxRecDepth 20000 in
theorem gL_cutsToLower_X10_cutsToLower : GoodIn wsL_cutsToLower (wsV RL 72 RX10 yX10_cutsToLower wsX10_cutsToLower) := goodIn_app (goodIn_of _ (by decide +kernel)) ggL_cutsToLower_X10_cutsToLower
theorem dL_cutsToLower_0 : decode cL_cutsToLower 0 = .ok (.aload 4, 2) := by decide +kernel
theorem dL_cutsToLower_2 : decode cL_cutsToLower 2 = .ok (.iconst 0, 1) := by decide +kernel
theorem dL_cutsToLower_3 : decode cL_cutsToLower 3 = .ok (.aload_n 0, 1) := by decide +kernel
theorem dL_cutsToLower_4 : decode cL_cutsToLower 4 = .ok (.iload_n 1, 1) := by decide +kernel
theorem dL_cutsToLower_5 : decode cL_cutsToLower 5 = .ok (.iload_n 2, 1) := by decide +kernel
theorem dL_cutsToLower_6 : decode cL_cutsToLower 6 = .ok (.iload_n 3, 1) := by decide +kernel
theorem dL_cutsToLower_7 : decode cL_cutsToLower 7 = .ok (.invokevirtual 72, 3) := by decide +kernel
theorem dL_cutsToLower_10 : decode cL_cutsToLower 10 = .ok (.i2l, 1) := by decide +kernel
theorem dL_cutsToLower_11 : decode cL_cutsToLower 11 = .ok (.lastore, 1) := by decide +kernel
theorem dL_cutsToLower_12 : decode cL_cutsToLower 12 = .ok (.goto 11, 3) := by decide +kernel
theorem dL_cutsToLower_15 : decode cL_cutsToLower 15 = .ok (.astore 5, 2) := by decide +kernel
theorem dL_cutsToLower_17 : decode cL_cutsToLower 17 = .ok (.iconst 1, 1) := by decide +kernel
theorem dL_cutsToLower_18 : decode cL_cutsToLower 18 = .ok (.ireturn, 1) := by decide +kernel
theorem dL_cutsToLower_19 : decode cL_cutsToLower 19 = .ok (.astore 5, 2) := by decide +kernel
theorem dL_cutsToLower_21 : decode cL_cutsToLower 21 = .ok (.iconst 2, 1) := by decide +kernel
theorem dL_cutsToLower_22 : decode cL_cutsToLower 22 = .ok (.ireturn, 1) := by decide +kernel
theorem dL_cutsToLower_23 : decode cL_cutsToLower 23 = .ok (.iconst 0, 1) := by decide +kernel
theorem dL_cutsToLower_24 : decode cL_cutsToLower 24 = .ok (.ireturn, 1) := by decide +kernel
set_option maxRecDepth 20000 in
theorem ggL_cutsToLowerBySpreading_X10_cutsToLowerBySpreading : GoodIn wsL_cutsToLowerBySpreading wsX10_cutsToLowerBySpreading := goodIn_ca (goodIn_ca (goodIn_ca (goodIn_ca (goodIn_ca (goodIn_ca (goodIn_r _ [7, 8, 9, 10, 11, 12, 13, 14, 15, 16, 17, 18, 19, 20, 21, 22, 23, 24, 25, 26, 27, 28, 29, 30, 31, 32, 6, 33, 34, 35, 36, 37, 38, 39, 40, 41, 42, 43, 44, 45, 46, 47, 48, 49, 50, 51, 52, 53, 54, 55, 56, 57, 58, 59, 60, 61, 62, 63, 64, 65, 66, 67, 68, 69, 70, 71, 72, 73, 74, 75, 76, 77, 78, 79, 80, 81, 82, 83, 84, 85, 86, 87, 88, 89, 90, 91, 92, 93, 94, 95, 96, 97, 98, 99, 100, 101, 102, 103, 104] (by decide +kernel) (by decide +kernel)) (goodIn_sub (fun _ h => List.mem_cons_of_mem _ (List.mem_append_left _ (List.mem_append_left _ (List.mem_append_left _ (List.mem_append_left _ (List.mem_append_left _ (List.mem_append_right _ h))))))) (by decide +kernel))) (goodIn_sub (fun _ h => List.mem_cons_of_mem _ (List.mem_append_left _ (List.mem_append_left _ (List.mem_append_left _ (List.mem_append_left _ (List.mem_append_right _ h)))))) (by decide +kernel))) (goodIn_sub (fun _ h => List.mem_cons_of_mem _ (List.mem_append_left _ (List.mem_append_left _ (List.mem_append_left _ (List.mem_append_right _ h))))) (by decide +kernel))) (goodIn_sub (fun _ h => List.mem_cons_of_mem _ (List.mem_append_left _ (List.mem_append_left _ (List.mem_append_right _ h)))) (by decide +kernel))) (goodIn_sub (fun _ h => List.mem_cons_of_mem _ (List.mem_append_left _ (List.mem_append_right _ h))) (by decide +kernel))) (goodIn_sub (fun _ h => List.mem_cons_of_mem _ (List.mem_append_right _ h)) (by decide +kernel))
set_option maxRecDepth 20000 in
theorem gL_cutsToLowerBySpreading_X10_cutsToLowerBySpreading : GoodIn wsL_cutsToLowerBySpreading (wsV RL 75 RX10 yX10_cutsToLowerBySpreading wsX10_cutsToLowerBySpreading) := goodIn_app (goodIn_of _ (by decide +kernel)) ggL_cutsToLowerBySpreading_X10_cutsToLowerBySpreading
theorem dL_cutsToLowerBySpreading_0 : decode cL_cutsToLowerBySpreading 0 = .ok (.aload 4, 2) := by decide +kernel
theorem dL_cutsToLowerBySpreading_2 : decode cL_cutsToLowerBySpreading 2 = .ok (.iconst 0, 1) := by decide +kernel
theorem dL_cutsToLowerBySpreading_3 : decode cL_cutsToLowerBySpreading 3 = .ok (.aload_n 0, 1) := by decide +kernel
theorem dL_cutsToLowerBySpreading_4 : decode cL_cutsToLowerBySpreading 4 = .ok (.iload_n 1, 1) := by decide +kernel
theorem dL_cutsToLowerBySpreading_5 : decode cL_cutsToLowerBySpreading 5 = .ok (.iload_n 2, 1) := by decide +kernel
theorem dL_cutsToLowerBySpreading_6 : decode cL_cutsToLowerBySpreading 6 = .ok (.iload_n 3, 1) := by decide +kernel
theorem dL_cutsToLowerBySpreading_7 : decode cL_cutsToLowerBySpreading 7 = .ok (.invokevirtual 75, 3) := by decide +kernel
theorem dL_cutsToLowerBySpreading_10 : decode cL_cutsToLowerBySpreading 10 = .ok (.i2l, 1) := by decide +kernel
theorem dL_cutsToLowerBySpreading_11 : decode cL_cutsToLowerBySpreading 11 = .ok (.lastore, 1) := by decide +kernel
theorem dL_cutsToLowerBySpreading_12 : decode cL_cutsToLowerBySpreading 12 = .ok (.goto 11, 3) := by decide +kernel
theorem dL_cutsToLowerBySpreading_15 : decode cL_cutsToLowerBySpreading 15 = .ok (.astore 5, 2) := by decide +kernel
theorem dL_cutsToLowerBySpreading_17 : decode cL_cutsToLowerBySpreading 17 = .ok (.iconst 1, 1) := by decide +kernel
theorem dL_cutsToLowerBySpreading_18 : decode cL_cutsToLowerBySpreading 18 = .ok (.ireturn, 1) := by decide +kernel
theorem dL_cutsToLowerBySpreading_19 : decode cL_cutsToLowerBySpreading 19 = .ok (.astore 5, 2) := by decide +kernel
theorem dL_cutsToLowerBySpreading_21 : decode cL_cutsToLowerBySpreading 21 = .ok (.iconst 2, 1) := by decide +kernel
theorem dL_cutsToLowerBySpreading_22 : decode cL_cutsToLowerBySpreading 22 = .ok (.ireturn, 1) := by decide +kernel
theorem dL_cutsToLowerBySpreading_23 : decode cL_cutsToLowerBySpreading 23 = .ok (.iconst 0, 1) := by decide +kernel
theorem dL_cutsToLowerBySpreading_24 : decode cL_cutsToLowerBySpreading 24 = .ok (.ireturn, 1) := by decide +kernel
set_option maxRecDepth 20000 in
theorem ggL_seamSize_X10_seamSize : GoodIn wsL_seamSize wsX10_seamSize := goodIn_ca (goodIn_ca (goodIn_ca (goodIn_ca (goodIn_ca (goodIn_ca (goodIn_r _ [6, 7, 8, 9, 10, 11, 12, 13, 14, 15, 16, 17, 18, 19, 5, 20, 21, 22, 23, 24, 25, 26, 27, 28, 29, 30, 31, 32, 33, 34, 35, 36, 37, 38, 39, 40, 41, 42, 43, 44, 45, 46, 47, 48, 49, 50, 51, 52, 53, 54, 55, 56, 57, 58, 59, 60, 61, 62, 63, 64, 65, 66, 67, 68, 69, 70, 71, 72, 73, 74, 75, 76, 77, 78, 79, 80, 81, 82, 83, 84, 85, 86, 87, 88, 89, 90, 91, 92, 93, 94, 95, 96, 97, 98, 99, 100, 101, 102] (by decide +kernel) (by decide +kernel)) (goodIn_sub (fun _ h => List.mem_cons_of_mem _ (List.mem_append_left _ (List.mem_append_left _ (List.mem_append_left _ (List.mem_append_left _ (List.mem_append_left _ (List.mem_append_right _ h))))))) (by decide +kernel))) (goodIn_sub (fun _ h => List.mem_cons_of_mem _ (List.mem_append_left _ (List.mem_append_left _ (List.mem_append_left _ (List.mem_append_left _ (List.mem_append_right _ h)))))) (by decide +kernel))) (goodIn_sub (fun _ h => List.mem_cons_of_mem _ (List.mem_append_left _ (List.mem_append_left _ (List.mem_append_left _ (List.mem_append_right _ h))))) (by decide +kernel))) (goodIn_sub (fun _ h => List.mem_cons_of_mem _ (List.mem_append_left _ (List.mem_append_left _ (List.mem_append_right _ h)))) (by decide +kernel))) (goodIn_sub (fun _ h => List.mem_cons_of_mem _ (List.mem_append_left _ (List.mem_append_right _ h))) (by decide +kernel))) (goodIn_sub (fun _ h => List.mem_cons_of_mem _ (List.mem_append_right _ h)) (by decide +kernel))
set_option maxRecDepth 20000 in
theorem gL_seamSize_X10_seamSize : GoodIn wsL_seamSize (wsV RL 78 RX10 yX10_seamSize wsX10_seamSize) := goodIn_app (goodIn_of _ (by decide +kernel)) ggL_seamSize_X10_seamSize
theorem dL_seamSize_0 : decode cL_seamSize 0 = .ok (.aload_n 3, 1) := by decide +kernel
theorem dL_seamSize_1 : decode cL_seamSize 1 = .ok (.iconst 0, 1) := by decide +kernel
theorem dL_seamSize_2 : decode cL_seamSize 2 = .ok (.aload_n 0, 1) := by decide +kernel
theorem dL_seamSize_3 : decode cL_seamSize 3 = .ok (.iload_n 1, 1) := by decide +kernel
theorem dL_seamSize_4 : decode cL_seamSize 4 = .ok (.iload_n 2, 1) := by decide +kernel
theorem dL_seamSize_5 : decode cL_seamSize 5 = .ok (.invokevirtual 78, 3) := by decide +kernel
theorem dL_seamSize_8 : decode cL_seamSize 8 = .ok (.i2l, 1) := by decide +kernel
theorem dL_seamSize_9 : decode cL_seamSize 9 = .ok (.lastore, 1) := by decide +kernel
theorem dL_seamSize_10 : decode cL_seamSize 10 = .ok (.goto 7, 3) := by decide +kernel
theorem dL_seamSize_13 : decode cL_seamSize 13 = .ok (.astore 4, 2) := by decide +kernel
theorem dL_seamSize_15 : decode cL_seamSize 15 = .ok (.iconst 1, 1) := by decide +kernel
theorem dL_seamSize_16 : decode cL_seamSize 16 = .ok (.ireturn, 1) := by decide +kernel
theorem dL_seamSize_17 : decode cL_seamSize 17 = .ok (.iconst 0, 1) := by decide +kernel
theorem dL_seamSize_18 : decode cL_seamSize 18 = .ok (.ireturn, 1) := by decide +kernel
set_option maxRecDepth 20000 in
theorem ggL_seamVolume_X10_seamVolume : GoodIn wsL_seamVolume wsX10_seamVolume := goodIn_ca (goodIn_ca (goodIn_ca (goodIn_ca (goodIn_ca (goodIn_ca (goodIn_r _ [6, 7, 8, 9, 10, 11, 12, 13, 14, 15, 16, 17, 18, 19, 5, 20, 21, 22, 23, 24, 25, 26, 27, 28, 29, 30, 31, 32, 33, 34, 35, 36, 37, 38, 39, 40, 41, 42, 43, 44, 45, 46, 47, 48, 49, 50, 51, 52, 53, 54, 55, 56, 57, 58, 59, 60, 61, 62, 63, 64, 65, 66, 67, 68, 69, 70, 71, 72, 73, 74, 75, 76, 77, 78, 79, 80, 81, 82, 83, 84, 85, 86, 87, 88, 89, 90, 91, 92, 93, 94, 95, 96, 97, 98, 99, 100, 101, 102] (by decide +kernel) (by decide +kernel)) (goodIn_sub (fun _ h => List.mem_cons_of_mem _ (List.mem_append_left _ (List.mem_append_left _ (List.mem_append_left _ (List.mem_append_left _ (List.mem_append_left _ (List.mem_append_right _ h))))))) (by decide +kernel))) (goodIn_sub (fun _ h => List.mem_cons_of_mem _ (List.mem_append_left _ (List.mem_append_left _ (List.mem_append_left _ (List.mem_append_left _ (List.mem_append_right _ h)))))) (by decide +kernel))) (goodIn_sub (fun _ h => List.mem_cons_of_mem _ (List.mem_append_left _ (List.mem_append_left _ (List.mem_append_left _ (List.mem_append_right _ h))))) (by decide +kernel))) (goodIn_sub (fun _ h => List.mem_cons_of_mem _ (List.mem_append_left _ (List.mem_append_left _ (List.mem_append_right _ h)))) (by decide +kernel))) (goodIn_sub (fun _ h => List.mem_cons_of_mem _ (List.mem_append_left _ (List.mem_append_right _ h))) (by decide +kernel))) (goodIn_sub (fun _ h => List.mem_cons_of_mem _ (List.mem_append_right _ h)) (by decide +kernel))
set_option maxRecDepth 20000 in
theorem gL_seamVolume_X10_seamVolume : GoodIn wsL_seamVolume (wsV RL 81 RX10 yX10_seamVolume wsX10_seamVolume) := goodIn_app (goodIn_of _ (by decide +kernel)) ggL_seamVolume_X10_seamVolume
theorem dL_seamVolume_0 : decode cL_seamVolume 0 = .ok (.aload_n 3, 1) := by decide +kernel
theorem dL_seamVolume_1 : decode cL_seamVolume 1 = .ok (.iconst 0, 1) := by decide +kernel
theorem dL_seamVolume_2 : decode cL_seamVolume 2 = .ok (.aload_n 0, 1) := by decide +kernel
theorem dL_seamVolume_3 : decode cL_seamVolume 3 = .ok (.iload_n 1, 1) := by decide +kernel
theorem dL_seamVolume_4 : decode cL_seamVolume 4 = .ok (.iload_n 2, 1) := by decide +kernel
theorem dL_seamVolume_5 : decode cL_seamVolume 5 = .ok (.invokevirtual 81, 3) := by decide +kernel
theorem dL_seamVolume_8 : decode cL_seamVolume 8 = .ok (.i2l, 1) := by decide +kernel
theorem dL_seamVolume_9 : decode cL_seamVolume 9 = .ok (.lastore, 1) := by decide +kernel
theorem dL_seamVolume_10 : decode cL_seamVolume 10 = .ok (.goto 7, 3) := by decide +kernel
theorem dL_seamVolume_13 : decode cL_seamVolume 13 = .ok (.astore 4, 2) := by decide +kernel
theorem dL_seamVolume_15 : decode cL_seamVolume 15 = .ok (.iconst 1, 1) := by decide +kernel
theorem dL_seamVolume_16 : decode cL_seamVolume 16 = .ok (.ireturn, 1) := by decide +kernel
theorem dL_seamVolume_17 : decode cL_seamVolume 17 = .ok (.iconst 0, 1) := by decide +kernel
theorem dL_seamVolume_18 : decode cL_seamVolume 18 = .ok (.ireturn, 1) := by decide +kernel
set_option maxRecDepth 20000 in
theorem ggL_footpath_X10_footpath : GoodIn wsL_footpath wsX10_footpath := goodIn_ca (goodIn_ca (goodIn_ca (goodIn_ca (goodIn_ca (goodIn_ca (goodIn_r _ [7, 8, 9, 10, 11, 12, 13, 14, 15, 16, 17, 18, 19, 20, 21, 22, 6, 23, 24, 25, 26, 27, 28, 29, 30, 31, 32, 33, 34, 35, 36, 37, 38, 39, 40, 41, 42, 43, 44, 45, 46, 47, 48, 49, 50, 51, 52, 53, 54, 55, 56, 57, 58, 59, 60, 61, 62, 63, 64, 65, 66, 67, 68, 69, 70, 71, 72, 73, 74, 75, 76, 77, 78, 79, 80, 81, 82, 83, 84, 85, 86, 87, 88, 89, 90, 91, 92, 93, 94, 95, 96, 97, 98, 99] (by decide +kernel) (by decide +kernel)) (goodIn_sub (fun _ h => List.mem_cons_of_mem _ (List.mem_append_left _ (List.mem_append_left _ (List.mem_append_left _ (List.mem_append_left _ (List.mem_append_right _ h)))))) (by decide +kernel))) (goodIn_sub (fun _ h => List.mem_cons_of_mem _ (List.mem_append_left _ (List.mem_append_left _ (List.mem_append_left _ (List.mem_append_left _ (List.mem_append_left _ (List.mem_append_right _ h))))))) (by decide +kernel))) (goodIn_sub (fun _ h => List.mem_cons_of_mem _ (List.mem_append_left _ (List.mem_append_left _ (List.mem_append_left _ (List.mem_append_right _ h))))) (by decide +kernel))) (goodIn_sub (fun _ h => List.mem_cons_of_mem _ (List.mem_append_left _ (List.mem_append_left _ (List.mem_append_right _ h)))) (by decide +kernel))) (goodIn_sub (fun _ h => List.mem_cons_of_mem _ (List.mem_append_left _ (List.mem_append_right _ h))) (by decide +kernel))) (goodIn_sub (fun _ h => List.mem_cons_of_mem _ (List.mem_append_right _ h)) (by decide +kernel))
set_option maxRecDepth 20000 in
theorem gL_footpath_X10_footpath : GoodIn wsL_footpath (wsV RL 84 RX10 yX10_footpath wsX10_footpath) := goodIn_app (goodIn_of _ (by decide +kernel)) ggL_footpath_X10_footpath
theorem dL_footpath_0 : decode cL_footpath 0 = .ok (.aload 5, 2) := by decide +kernel
theorem dL_footpath_2 : decode cL_footpath 2 = .ok (.iconst 0, 1) := by decide +kernel
theorem dL_footpath_3 : decode cL_footpath 3 = .ok (.aload_n 0, 1) := by decide +kernel
theorem dL_footpath_4 : decode cL_footpath 4 = .ok (.iload_n 1, 1) := by decide +kernel
theorem dL_footpath_5 : decode cL_footpath 5 = .ok (.iload_n 2, 1) := by decide +kernel
theorem dL_footpath_6 : decode cL_footpath 6 = .ok (.iload_n 3, 1) := by decide +kernel
theorem dL_footpath_7 : decode cL_footpath 7 = .ok (.iload 4, 2) := by decide +kernel
theorem dL_footpath_9 : decode cL_footpath 9 = .ok (.invokevirtual 84, 3) := by decide +kernel
theorem dL_footpath_12 : decode cL_footpath 12 = .ok (.i2l, 1) := by decide +kernel
theorem dL_footpath_13 : decode cL_footpath 13 = .ok (.lastore, 1) := by decide +kernel
theorem dL_footpath_14 : decode cL_footpath 14 = .ok (.goto 11, 3) := by decide +kernel
theorem dL_footpath_17 : decode cL_footpath 17 = .ok (.astore 6, 2) := by decide +kernel
theorem dL_footpath_19 : decode cL_footpath 19 = .ok (.iconst 1, 1) := by decide +kernel
theorem dL_footpath_20 : decode cL_footpath 20 = .ok (.ireturn, 1) := by decide +kernel
theorem dL_footpath_21 : decode cL_footpath 21 = .ok (.astore 6, 2) := by decide +kernel
theorem dL_footpath_23 : decode cL_footpath 23 = .ok (.iconst 2, 1) := by decide +kernel
theorem dL_footpath_24 : decode cL_footpath 24 = .ok (.ireturn, 1) := by decide +kernel
theorem dL_footpath_25 : decode cL_footpath 25 = .ok (.iconst 0, 1) := by decide +kernel
theorem dL_footpath_26 : decode cL_footpath 26 = .ok (.ireturn, 1) := by decide +kernel
set_option maxRecDepth 20000 in
theorem ggL_liftableCells_X10_liftableCells : GoodIn wsL_liftableCells wsX10_liftableCells := goodIn_ca (goodIn_ca (goodIn_r _ [6, 7, 8, 9, 10, 11, 12, 13, 14, 15, 16, 17, 18, 19, 20, 21, 22, 23, 24, 25, 26, 27, 28, 29, 30, 31, 32, 33, 34, 35, 36, 37, 38, 39, 40, 41, 42, 43, 44, 45, 46, 47, 48, 49, 50, 51, 52, 53, 54, 55, 56, 57, 58, 59, 60, 61, 62, 63, 64, 65, 66, 67, 68, 69, 70, 71, 72, 73, 74, 75, 76, 77, 78, 79, 80, 81, 82, 83, 84, 85, 86, 87, 88, 89, 90, 91, 92, 93, 94, 95, 96, 97] (by decide +kernel) (by decide +kernel)) (goodIn_sub (fun _ h => List.mem_cons_of_mem _ (List.mem_append_right _ h)) (by decide +kernel))) (goodIn_sub (fun _ h => List.mem_cons_of_mem _ (List.mem_append_left _ (List.mem_append_right _ h))) (by decide +kernel))
set_option maxRecDepth 20000 in
theorem gL_liftableCells_X10_liftableCells : GoodIn wsL_liftableCells (wsV RL 87 RX10 yX10_liftableCells wsX10_liftableCells) := goodIn_app (goodIn_of _ (by decide +kernel)) ggL_liftableCells_X10_liftableCells
theorem dL_liftableCells_0 : decode cL_liftableCells 0 = .ok (.aload_n 2, 1) := by decide +kernel
theorem dL_liftableCells_1 : decode cL_liftableCells 1 = .ok (.iconst 0, 1) := by decide +kernel
theorem dL_liftableCells_2 : decode cL_liftableCells 2 = .ok (.aload_n 0, 1) := by decide +kernel
theorem dL_liftableCells_3 : decode cL_liftableCells 3 = .ok (.iload_n 1, 1) := by decide +kernel
theorem dL_liftableCells_4 : decode cL_liftableCells 4 = .ok (.invokevirtual 87, 3) := by decide +kernel
theorem dL_liftableCells_7 : decode cL_liftableCells 7 = .ok (.i2l, 1) := by decide +kernel
theorem dL_liftableCells_8 : decode cL_liftableCells 8 = .ok (.lastore, 1) := by decide +kernel
theorem dL_liftableCells_9 : decode cL_liftableCells 9 = .ok (.goto 6, 3) := by decide +kernel
theorem dL_liftableCells_12 : decode cL_liftableCells 12 = .ok (.astore_n 3, 1) := by decide +kernel
theorem dL_liftableCells_13 : decode cL_liftableCells 13 = .ok (.iconst 1, 1) := by decide +kernel
theorem dL_liftableCells_14 : decode cL_liftableCells 14 = .ok (.ireturn, 1) := by decide +kernel
theorem dL_liftableCells_15 : decode cL_liftableCells 15 = .ok (.iconst 0, 1) := by decide +kernel
theorem dL_liftableCells_16 : decode cL_liftableCells 16 = .ok (.ireturn, 1) := by decide +kernel
set_option maxRecDepth 20000 in
theorem ggL_bestWinch_X10_bestWinch : GoodIn wsL_bestWinch wsX10_bestWinch := goodIn_ca (goodIn_ca (goodIn_ca (goodIn_ca (goodIn_ca (goodIn_ca (goodIn_r _ [7, 8, 9, 10, 11, 12, 13, 14, 15, 16, 17, 18, 19, 20, 21, 6, 22, 23, 24, 25, 26, 27, 28, 29, 30, 31, 32, 33, 34, 35, 36, 37, 38, 39, 40, 41, 42, 43, 44, 45, 46, 47, 48, 49, 50, 51, 52, 53, 54, 55, 56, 57, 58, 59, 60, 61, 62, 63, 64, 65, 66, 67, 68, 69, 70, 71, 72, 73, 74, 75, 76, 77, 78, 79, 80, 81, 82, 83, 84, 85, 86, 87, 88, 89, 90, 91, 92, 93, 94, 95, 96, 97, 98, 99, 100, 101, 102, 103, 104, 105, 106, 107, 108, 109, 110, 111, 112, 113, 114, 115] (by decide +kernel) (by decide +kernel)) (goodIn_sub (fun _ h => List.mem_cons_of_mem _ (List.mem_append_left _ (List.mem_append_left _ (List.mem_append_left _ (List.mem_append_left _ (List.mem_append_right _ h)))))) (by decide +kernel))) (goodIn_sub (fun _ h => List.mem_cons_of_mem _ (List.mem_append_left _ (List.mem_append_left _ (List.mem_append_left _ (List.mem_append_left _ (List.mem_append_left _ (List.mem_append_right _ h))))))) (by decide +kernel))) (goodIn_sub (fun _ h => List.mem_cons_of_mem _ (List.mem_append_left _ (List.mem_append_left _ (List.mem_append_left _ (List.mem_append_right _ h))))) (by decide +kernel))) (goodIn_sub (fun _ h => List.mem_cons_of_mem _ (List.mem_append_left _ (List.mem_append_left _ (List.mem_append_right _ h)))) (by decide +kernel))) (goodIn_sub (fun _ h => List.mem_cons_of_mem _ (List.mem_append_left _ (List.mem_append_right _ h))) (by decide +kernel))) (goodIn_sub (fun _ h => List.mem_cons_of_mem _ (List.mem_append_right _ h)) (by decide +kernel))
set_option maxRecDepth 20000 in
theorem gL_bestWinch_X10_bestWinch : GoodIn wsL_bestWinch (wsV RL 90 RX10 yX10_bestWinch wsX10_bestWinch) := goodIn_app (goodIn_of _ (by decide +kernel)) ggL_bestWinch_X10_bestWinch
theorem dL_bestWinch_0 : decode cL_bestWinch 0 = .ok (.aload_n 3, 1) := by decide +kernel
theorem dL_bestWinch_1 : decode cL_bestWinch 1 = .ok (.iconst 0, 1) := by decide +kernel
theorem dL_bestWinch_2 : decode cL_bestWinch 2 = .ok (.aload_n 0, 1) := by decide +kernel
theorem dL_bestWinch_3 : decode cL_bestWinch 3 = .ok (.iload_n 1, 1) := by decide +kernel
theorem dL_bestWinch_4 : decode cL_bestWinch 4 = .ok (.iload_n 2, 1) := by decide +kernel
theorem dL_bestWinch_5 : decode cL_bestWinch 5 = .ok (.invokevirtual 90, 3) := by decide +kernel
theorem dL_bestWinch_8 : decode cL_bestWinch 8 = .ok (.i2l, 1) := by decide +kernel
theorem dL_bestWinch_9 : decode cL_bestWinch 9 = .ok (.lastore, 1) := by decide +kernel
theorem dL_bestWinch_10 : decode cL_bestWinch 10 = .ok (.goto 11, 3) := by decide +kernel
theorem dL_bestWinch_13 : decode cL_bestWinch 13 = .ok (.astore 4, 2) := by decide +kernel
theorem dL_bestWinch_15 : decode cL_bestWinch 15 = .ok (.iconst 1, 1) := by decide +kernel
theorem dL_bestWinch_16 : decode cL_bestWinch 16 = .ok (.ireturn, 1) := by decide +kernel
theorem dL_bestWinch_17 : decode cL_bestWinch 17 = .ok (.astore 4, 2) := by decide +kernel
theorem dL_bestWinch_19 : decode cL_bestWinch 19 = .ok (.iconst 2, 1) := by decide +kernel
theorem dL_bestWinch_20 : decode cL_bestWinch 20 = .ok (.ireturn, 1) := by decide +kernel
theorem dL_bestWinch_21 : decode cL_bestWinch 21 = .ok (.iconst 0, 1) := by decide +kernel
theorem dL_bestWinch_22 : decode cL_bestWinch 22 = .ok (.ireturn, 1) := by decide +kernel
set_option maxRecDepth 20000 in
theorem ggL_inYard_X10_inYard : GoodIn wsL_inYard wsX10_inYard := goodIn_ca (goodIn_ca (goodIn_r _ [6, 7, 8, 9, 10, 11, 12, 13, 14, 15, 16, 17, 18, 19, 20, 21, 22, 23, 24, 25, 26, 27, 28, 29, 30, 31, 32, 33, 34, 35, 36, 37, 38, 39, 40, 41, 42] (by decide +kernel) (by decide +kernel)) (goodIn_sub (fun _ h => List.mem_cons_of_mem _ (List.mem_append_right _ h)) (by decide +kernel))) (goodIn_sub (fun _ h => List.mem_cons_of_mem _ (List.mem_append_left _ (List.mem_append_right _ h))) (by decide +kernel))
set_option maxRecDepth 20000 in
theorem gL_inYard_X10_inYard : GoodIn wsL_inYard (wsV RL 93 RX10 yX10_inYard wsX10_inYard) := goodIn_app (goodIn_of _ (by decide +kernel)) ggL_inYard_X10_inYard
theorem dL_inYard_0 : decode cL_inYard 0 = .ok (.aload_n 2, 1) := by decide +kernel
theorem dL_inYard_1 : decode cL_inYard 1 = .ok (.iconst 0, 1) := by decide +kernel
theorem dL_inYard_2 : decode cL_inYard 2 = .ok (.aload_n 0, 1) := by decide +kernel
theorem dL_inYard_3 : decode cL_inYard 3 = .ok (.iload_n 1, 1) := by decide +kernel
theorem dL_inYard_4 : decode cL_inYard 4 = .ok (.invokevirtual 93, 3) := by decide +kernel
theorem dL_inYard_7 : decode cL_inYard 7 = .ok (.i2l, 1) := by decide +kernel
theorem dL_inYard_8 : decode cL_inYard 8 = .ok (.lastore, 1) := by decide +kernel
theorem dL_inYard_9 : decode cL_inYard 9 = .ok (.goto 6, 3) := by decide +kernel
theorem dL_inYard_12 : decode cL_inYard 12 = .ok (.astore_n 3, 1) := by decide +kernel
theorem dL_inYard_13 : decode cL_inYard 13 = .ok (.iconst 1, 1) := by decide +kernel
theorem dL_inYard_14 : decode cL_inYard 14 = .ok (.ireturn, 1) := by decide +kernel
theorem dL_inYard_15 : decode cL_inYard 15 = .ok (.iconst 0, 1) := by decide +kernel
theorem dL_inYard_16 : decode cL_inYard 16 = .ok (.ireturn, 1) := by decide +kernel
set_option maxRecDepth 20000 in
theorem ggL_liftedShare_X10_liftedShare : GoodIn wsL_liftedShare wsX10_liftedShare := goodIn_ca (goodIn_r _ [6, 7, 8, 9, 10, 11, 12, 13, 14, 15, 16, 17, 18, 19, 20, 21, 22, 23, 24, 25, 26, 27, 28, 29, 30, 31, 32, 33, 34, 35, 36, 37, 38, 39, 40, 41, 42, 43, 44] (by decide +kernel) (by decide +kernel)) (goodIn_sub (fun _ h => List.mem_cons_of_mem _ (List.mem_append_right _ h)) (by decide +kernel))
set_option maxRecDepth 20000 in
theorem gL_liftedShare_X10_liftedShare : GoodIn wsL_liftedShare (wsV RL 96 RX10 yX10_liftedShare wsX10_liftedShare) := goodIn_app (goodIn_of _ (by decide +kernel)) ggL_liftedShare_X10_liftedShare
theorem dL_liftedShare_0 : decode cL_liftedShare 0 = .ok (.aload_n 1, 1) := by decide +kernel
theorem dL_liftedShare_1 : decode cL_liftedShare 1 = .ok (.iconst 0, 1) := by decide +kernel
theorem dL_liftedShare_2 : decode cL_liftedShare 2 = .ok (.aload_n 0, 1) := by decide +kernel
theorem dL_liftedShare_3 : decode cL_liftedShare 3 = .ok (.invokevirtual 96, 3) := by decide +kernel
theorem dL_liftedShare_6 : decode cL_liftedShare 6 = .ok (.f2d, 1) := by decide +kernel
theorem dL_liftedShare_7 : decode cL_liftedShare 7 = .ok (.dastore, 1) := by decide +kernel
theorem dL_liftedShare_8 : decode cL_liftedShare 8 = .ok (.goto 6, 3) := by decide +kernel
theorem dL_liftedShare_11 : decode cL_liftedShare 11 = .ok (.astore_n 2, 1) := by decide +kernel
theorem dL_liftedShare_12 : decode cL_liftedShare 12 = .ok (.iconst 1, 1) := by decide +kernel
theorem dL_liftedShare_13 : decode cL_liftedShare 13 = .ok (.ireturn, 1) := by decide +kernel
theorem dL_liftedShare_14 : decode cL_liftedShare 14 = .ok (.iconst 0, 1) := by decide +kernel
theorem dL_liftedShare_15 : decode cL_liftedShare 15 = .ok (.ireturn, 1) := by decide +kernel
set_option maxRecDepth 20000 in
theorem ggL_append_X10_append : GoodIn wsL_append wsX10_append := goodIn_ca (goodIn_ca (goodIn_r _ [6, 7, 8, 9, 10, 11, 12, 13, 14, 15, 16, 17, 18, 19, 20, 21, 22, 23, 24, 25, 26, 27, 28, 29, 30, 31, 32] (by decide +kernel) (by decide +kernel)) (goodIn_sub (fun _ h => List.mem_cons_of_mem _ (List.mem_append_right _ h)) (by decide +kernel))) (goodIn_sub (fun _ h => List.mem_cons_of_mem _ (List.mem_append_left _ (List.mem_append_right _ h))) (by decide +kernel))
set_option maxRecDepth 20000 in
theorem gL_append_X10_append : GoodIn wsL_append (wsV RL 102 RX10 yX10_append wsX10_append) := goodIn_app (goodIn_of _ (by decide +kernel)) ggL_append_X10_append
theorem dL_append_0 : decode cL_append 0 = .ok (.aload_n 2, 1) := by decide +kernel
theorem dL_append_1 : decode cL_append 1 = .ok (.iconst 0, 1) := by decide +kernel
theorem dL_append_2 : decode cL_append 2 = .ok (.aload_n 0, 1) := by decide +kernel
theorem dL_append_3 : decode cL_append 3 = .ok (.iload_n 1, 1) := by decide +kernel
theorem dL_append_4 : decode cL_append 4 = .ok (.invokevirtual 102, 3) := by decide +kernel
theorem dL_append_7 : decode cL_append 7 = .ok (.i2l, 1) := by decide +kernel
theorem dL_append_8 : decode cL_append 8 = .ok (.lastore, 1) := by decide +kernel
theorem dL_append_9 : decode cL_append 9 = .ok (.goto 6, 3) := by decide +kernel
theorem dL_append_12 : decode cL_append 12 = .ok (.astore_n 3, 1) := by decide +kernel
theorem dL_append_13 : decode cL_append 13 = .ok (.iconst 1, 1) := by decide +kernel
theorem dL_append_14 : decode cL_append 14 = .ok (.ireturn, 1) := by decide +kernel
theorem dL_append_15 : decode cL_append 15 = .ok (.iconst 0, 1) := by decide +kernel
theorem dL_append_16 : decode cL_append 16 = .ok (.ireturn, 1) := by decide +kernel
set_option maxRecDepth 20000 in
theorem ggL_run_X10_run : GoodIn wsL_run wsX10_run := goodIn_ca (goodIn_ca (goodIn_ca (goodIn_r _ [7, 8, 9, 10, 11, 12, 13, 14, 15, 16, 17, 18, 19, 20, 21, 22, 23, 24, 25, 26, 27, 28, 29, 30, 31, 32, 33, 34, 35, 36, 37, 38, 39, 40, 41, 42, 43, 44, 45, 46, 47, 48, 49, 50, 51, 52, 53, 54, 55, 56, 57, 58, 59, 60, 61, 62, 63, 64, 65, 66, 67, 68, 69, 70, 71, 72, 73, 74, 75, 76, 77, 78, 79, 80, 81, 82, 83, 84, 85, 86, 87, 88, 89, 90, 91, 92, 93, 94, 95, 96, 97, 98, 99, 100, 101, 102, 103, 104, 105, 106, 107, 108, 109, 110, 111, 112, 113, 114, 115, 116, 117, 118, 119, 120, 121, 122, 123, 124, 125, 126, 127, 128, 129, 130, 131, 132, 133, 134, 135, 136, 137, 138, 139, 140, 141, 142, 143, 144, 145, 146, 147, 148, 149, 150, 151, 152, 153, 154, 155, 156, 157, 158, 159, 160, 161, 162, 163, 164, 165, 166, 167, 168, 169, 170, 171, 172, 173, 174, 175, 176, 177, 178, 179, 180, 181, 182, 183, 184, 185, 186, 187, 188, 189, 190, 191, 192, 193, 194, 195, 196, 197, 198, 199, 200, 201, 202, 203, 204, 205, 206, 207, 208, 209, 210, 211, 212, 213, 214, 215, 216, 217, 218, 219, 220, 221, 222, 223, 224, 225, 226, 227, 228, 229, 230, 231, 232, 233, 234, 235, 236, 237, 238, 239, 240, 241, 242, 243, 244, 245, 246, 247, 248, 249, 250, 251, 252, 253, 254, 255, 256, 257, 258, 259, 260, 261, 262, 263, 264, 265, 266, 267, 268, 269, 270, 271, 272, 273, 274, 275, 276, 277, 278, 279, 280, 281, 282, 283, 284, 285, 286, 287, 288, 289, 290, 291, 292, 293, 294, 295, 296, 297, 298, 299, 300, 301, 302, 303, 304, 305, 306, 307, 308, 309, 310, 311, 312, 313, 314, 315, 316, 317, 318, 319, 320, 321, 322, 323, 324, 325, 326, 327, 328, 329, 330, 331, 332, 333, 334, 335, 336, 337, 338, 339, 340, 341, 342, 343, 344, 345, 346, 347, 348, 349, 350, 351, 352, 353, 354, 355, 356, 357, 358, 359, 360, 361, 362, 363, 364, 365, 366, 367, 368, 369, 370, 371, 372, 373, 374, 375, 376, 377, 378, 379, 380, 381, 382, 383, 384, 385, 386, 387, 388, 389, 390, 391, 392, 393, 394, 395, 396, 397, 398, 399, 400, 401, 402, 403, 404, 405, 406, 407, 408, 409, 410, 411, 412, 413, 414, 415, 416, 417, 418, 419, 420, 421, 422, 423, 424, 425, 426, 427, 428, 429, 430, 431, 432, 433, 434, 435, 436, 437, 438, 439, 440, 441, 442, 443, 444, 445, 446, 447, 448] (by decide +kernel) (by decide +kernel)) (goodIn_sub (fun _ h => List.mem_cons_of_mem _ (List.mem_append_left _ (List.mem_append_right _ h))) (by decide +kernel))) (goodIn_sub (fun _ h => List.mem_cons_of_mem _ (List.mem_append_right _ h)) (by decide +kernel))) (goodIn_sub (fun _ h => List.mem_cons_of_mem _ (List.mem_append_left _ (List.mem_append_left _ (List.mem_append_right _ h)))) (by decide +kernel))
set_option maxRecDepth 20000 in
theorem gL_run_X10_run : GoodIn wsL_run (wsV RL 106 RX10 yX10_run wsX10_run) := goodIn_app (goodIn_of _ (by decide +kernel)) ggL_run_X10_run
theorem dL_run_0 : decode cL_run 0 = .ok (.aload_n 1, 1) := by decide +kernel
theorem dL_run_1 : decode cL_run 1 = .ok (.iconst 0, 1) := by decide +kernel
theorem dL_run_2 : decode cL_run 2 = .ok (.aload_n 0, 1) := by decide +kernel
theorem dL_run_3 : decode cL_run 3 = .ok (.invokevirtual 106, 3) := by decide +kernel
theorem dL_run_6 : decode cL_run 6 = .ok (.i2l, 1) := by decide +kernel
theorem dL_run_7 : decode cL_run 7 = .ok (.lastore, 1) := by decide +kernel
theorem dL_run_8 : decode cL_run 8 = .ok (.goto 9, 3) := by decide +kernel
theorem dL_run_11 : decode cL_run 11 = .ok (.astore_n 2, 1) := by decide +kernel
theorem dL_run_12 : decode cL_run 12 = .ok (.iconst 1, 1) := by decide +kernel
theorem dL_run_13 : decode cL_run 13 = .ok (.ireturn, 1) := by decide +kernel
theorem dL_run_14 : decode cL_run 14 = .ok (.astore_n 2, 1) := by decide +kernel
theorem dL_run_15 : decode cL_run 15 = .ok (.iconst 2, 1) := by decide +kernel
theorem dL_run_16 : decode cL_run 16 = .ok (.ireturn, 1) := by decide +kernel
theorem dL_run_17 : decode cL_run 17 = .ok (.iconst 0, 1) := by decide +kernel
theorem dL_run_18 : decode cL_run 18 = .ok (.ireturn, 1) := by decide +kernel
set_option maxRecDepth 20000 in
theorem ggL_errorPosition_X10_errorPosition : GoodIn wsL_errorPosition wsX10_errorPosition := goodIn_ca (goodIn_r _ [6, 7, 8, 9, 10, 11, 12, 13, 14, 15, 16, 17, 18] (by decide +kernel) (by decide +kernel)) (goodIn_sub (fun _ h => List.mem_cons_of_mem _ (List.mem_append_right _ h)) (by decide +kernel))
set_option maxRecDepth 20000 in
theorem gL_errorPosition_X10_errorPosition : GoodIn wsL_errorPosition (wsV RL 110 RX10 yX10_errorPosition wsX10_errorPosition) := goodIn_app (goodIn_of _ (by decide +kernel)) ggL_errorPosition_X10_errorPosition
theorem dL_errorPosition_0 : decode cL_errorPosition 0 = .ok (.aload_n 1, 1) := by decide +kernel
theorem dL_errorPosition_1 : decode cL_errorPosition 1 = .ok (.iconst 0, 1) := by decide +kernel
theorem dL_errorPosition_2 : decode cL_errorPosition 2 = .ok (.aload_n 0, 1) := by decide +kernel
theorem dL_errorPosition_3 : decode cL_errorPosition 3 = .ok (.invokevirtual 110, 3) := by decide +kernel
theorem dL_errorPosition_6 : decode cL_errorPosition 6 = .ok (.i2l, 1) := by decide +kernel
theorem dL_errorPosition_7 : decode cL_errorPosition 7 = .ok (.lastore, 1) := by decide +kernel
theorem dL_errorPosition_8 : decode cL_errorPosition 8 = .ok (.goto 6, 3) := by decide +kernel
theorem dL_errorPosition_11 : decode cL_errorPosition 11 = .ok (.astore_n 2, 1) := by decide +kernel
theorem dL_errorPosition_12 : decode cL_errorPosition 12 = .ok (.iconst 1, 1) := by decide +kernel
theorem dL_errorPosition_13 : decode cL_errorPosition 13 = .ok (.ireturn, 1) := by decide +kernel
theorem dL_errorPosition_14 : decode cL_errorPosition 14 = .ok (.iconst 0, 1) := by decide +kernel
theorem dL_errorPosition_15 : decode cL_errorPosition 15 = .ok (.ireturn, 1) := by decide +kernel
set_option maxRecDepth 20000 in
theorem ggL_failedCommand_X10_failedCommand : GoodIn wsL_failedCommand wsX10_failedCommand := goodIn_ca (goodIn_r _ [6, 7, 8, 9, 10, 11, 12, 13, 14, 15, 16, 17, 18] (by decide +kernel) (by decide +kernel)) (goodIn_sub (fun _ h => List.mem_cons_of_mem _ (List.mem_append_right _ h)) (by decide +kernel))
set_option maxRecDepth 20000 in
theorem gL_failedCommand_X10_failedCommand : GoodIn wsL_failedCommand (wsV RL 113 RX10 yX10_failedCommand wsX10_failedCommand) := goodIn_app (goodIn_of _ (by decide +kernel)) ggL_failedCommand_X10_failedCommand
theorem dL_failedCommand_0 : decode cL_failedCommand 0 = .ok (.aload_n 1, 1) := by decide +kernel
theorem dL_failedCommand_1 : decode cL_failedCommand 1 = .ok (.iconst 0, 1) := by decide +kernel
theorem dL_failedCommand_2 : decode cL_failedCommand 2 = .ok (.aload_n 0, 1) := by decide +kernel
theorem dL_failedCommand_3 : decode cL_failedCommand 3 = .ok (.invokevirtual 113, 3) := by decide +kernel
theorem dL_failedCommand_6 : decode cL_failedCommand 6 = .ok (.i2l, 1) := by decide +kernel
theorem dL_failedCommand_7 : decode cL_failedCommand 7 = .ok (.lastore, 1) := by decide +kernel
theorem dL_failedCommand_8 : decode cL_failedCommand 8 = .ok (.goto 6, 3) := by decide +kernel
theorem dL_failedCommand_11 : decode cL_failedCommand 11 = .ok (.astore_n 2, 1) := by decide +kernel
theorem dL_failedCommand_12 : decode cL_failedCommand 12 = .ok (.iconst 1, 1) := by decide +kernel
theorem dL_failedCommand_13 : decode cL_failedCommand 13 = .ok (.ireturn, 1) := by decide +kernel
theorem dL_failedCommand_14 : decode cL_failedCommand 14 = .ok (.iconst 0, 1) := by decide +kernel
theorem dL_failedCommand_15 : decode cL_failedCommand 15 = .ok (.ireturn, 1) := by decide +kernel
set_option maxRecDepth 20000 in
theorem ggL_writeRow_X10_writeRow : GoodIn wsL_writeRow wsX10_writeRow := goodIn_ca (goodIn_ca (goodIn_r _ [6, 7, 8, 9, 10, 11, 12, 13, 14, 15, 16, 17, 18, 19, 20, 21, 22, 23, 24, 25, 26, 27, 28, 29, 30, 31, 32, 33, 34, 35, 36, 37, 38, 39, 40, 41, 42, 43, 44, 45, 46, 47, 48, 49, 50, 51, 52, 53, 54, 55, 56, 57, 58, 59, 60, 61, 62, 63, 64, 65, 66, 67, 68, 69, 70, 71, 72, 73, 74, 75, 76, 77, 78, 79, 80, 81, 82, 83, 84, 85] (by decide +kernel) (by decide +kernel)) (goodIn_sub (fun _ h => List.mem_cons_of_mem _ (List.mem_append_right _ h)) (by decide +kernel))) (goodIn_sub (fun _ h => List.mem_cons_of_mem _ (List.mem_append_left _ (List.mem_append_right _ h))) (by decide +kernel))
set_option maxRecDepth 20000 in
theorem gL_writeRow_X10_writeRow : GoodIn wsL_writeRow (wsV RL 116 RX10 yX10_writeRow wsX10_writeRow) := goodIn_app (goodIn_of _ (by decide +kernel)) ggL_writeRow_X10_writeRow
theorem dL_writeRow_0 : decode cL_writeRow 0 = .ok (.aload_n 2, 1) := by decide +kernel
theorem dL_writeRow_1 : decode cL_writeRow 1 = .ok (.iconst 0, 1) := by decide +kernel
theorem dL_writeRow_2 : decode cL_writeRow 2 = .ok (.aload_n 0, 1) := by decide +kernel
theorem dL_writeRow_3 : decode cL_writeRow 3 = .ok (.iload_n 1, 1) := by decide +kernel
theorem dL_writeRow_4 : decode cL_writeRow 4 = .ok (.invokevirtual 116, 3) := by decide +kernel
theorem dL_writeRow_7 : decode cL_writeRow 7 = .ok (.i2l, 1) := by decide +kernel
theorem dL_writeRow_8 : decode cL_writeRow 8 = .ok (.lastore, 1) := by decide +kernel
theorem dL_writeRow_9 : decode cL_writeRow 9 = .ok (.goto 6, 3) := by decide +kernel
theorem dL_writeRow_12 : decode cL_writeRow 12 = .ok (.astore_n 3, 1) := by decide +kernel
theorem dL_writeRow_13 : decode cL_writeRow 13 = .ok (.iconst 1, 1) := by decide +kernel
theorem dL_writeRow_14 : decode cL_writeRow 14 = .ok (.ireturn, 1) := by decide +kernel
theorem dL_writeRow_15 : decode cL_writeRow 15 = .ok (.iconst 0, 1) := by decide +kernel
theorem dL_writeRow_16 : decode cL_writeRow 16 = .ok (.ireturn, 1) := by decide +kernel
set_option maxRecDepth 20000 in
theorem ggL_outputAt_X10_outputAt : GoodIn wsL_outputAt wsX10_outputAt := goodIn_ca (goodIn_ca (goodIn_r _ [6, 7, 8, 9, 10, 11, 12, 13, 14, 15, 16, 17, 18, 19, 20, 21, 22, 23, 24, 25, 26, 27, 28, 29, 30, 31] (by decide +kernel) (by decide +kernel)) (goodIn_sub (fun _ h => List.mem_cons_of_mem _ (List.mem_append_right _ h)) (by decide +kernel))) (goodIn_sub (fun _ h => List.mem_cons_of_mem _ (List.mem_append_left _ (List.mem_append_right _ h))) (by decide +kernel))
set_option maxRecDepth 20000 in
theorem gL_outputAt_X10_outputAt : GoodIn wsL_outputAt (wsV RL 119 RX10 yX10_outputAt wsX10_outputAt) := goodIn_app (goodIn_of _ (by decide +kernel)) ggL_outputAt_X10_outputAt
theorem dL_outputAt_0 : decode cL_outputAt 0 = .ok (.aload_n 2, 1) := by decide +kernel
theorem dL_outputAt_1 : decode cL_outputAt 1 = .ok (.iconst 0, 1) := by decide +kernel
theorem dL_outputAt_2 : decode cL_outputAt 2 = .ok (.aload_n 0, 1) := by decide +kernel
theorem dL_outputAt_3 : decode cL_outputAt 3 = .ok (.iload_n 1, 1) := by decide +kernel
theorem dL_outputAt_4 : decode cL_outputAt 4 = .ok (.invokevirtual 119, 3) := by decide +kernel
theorem dL_outputAt_7 : decode cL_outputAt 7 = .ok (.i2l, 1) := by decide +kernel
theorem dL_outputAt_8 : decode cL_outputAt 8 = .ok (.lastore, 1) := by decide +kernel
theorem dL_outputAt_9 : decode cL_outputAt 9 = .ok (.goto 6, 3) := by decide +kernel
theorem dL_outputAt_12 : decode cL_outputAt 12 = .ok (.astore_n 3, 1) := by decide +kernel
theorem dL_outputAt_13 : decode cL_outputAt 13 = .ok (.iconst 1, 1) := by decide +kernel
theorem dL_outputAt_14 : decode cL_outputAt 14 = .ok (.ireturn, 1) := by decide +kernel
theorem dL_outputAt_15 : decode cL_outputAt 15 = .ok (.iconst 0, 1) := by decide +kernel
theorem dL_outputAt_16 : decode cL_outputAt 16 = .ok (.ireturn, 1) := by decide +kernel
set_option maxRecDepth 20000 in
theorem ggL_undo_X10_undo : GoodIn wsL_undo wsX10_undo := goodIn_ca (goodIn_ca (goodIn_r _ [6, 7, 8, 9, 10, 11, 12, 13, 14, 15, 16, 17, 18, 19, 20, 21, 22, 23, 24, 25, 26, 27, 28, 29, 30, 31, 32, 33, 34, 35, 36, 37, 38, 39, 40, 41, 42, 43, 44, 45, 46, 47, 48, 49, 50, 51, 52, 53, 54, 55, 56, 57, 58, 59, 60, 61, 62, 63, 64, 65, 66, 67, 68, 69, 70, 71, 72, 73] (by decide +kernel) (by decide +kernel)) (goodIn_sub (fun _ h => List.mem_cons_of_mem _ (List.mem_append_right _ h)) (by decide +kernel))) (goodIn_sub (fun _ h => List.mem_cons_of_mem _ (List.mem_append_left _ (List.mem_append_right _ h))) (by decide +kernel))
set_option maxRecDepth 20000 in
theorem gL_undo_X10_undo : GoodIn wsL_undo (wsV RL 123 RX10 yX10_undo wsX10_undo) := goodIn_app (goodIn_of _ (by decide +kernel)) ggL_undo_X10_undo
theorem dL_undo_0 : decode cL_undo 0 = .ok (.aload_n 1, 1) := by decide +kernel
theorem dL_undo_1 : decode cL_undo 1 = .ok (.iconst 0, 1) := by decide +kernel
theorem dL_undo_2 : decode cL_undo 2 = .ok (.aload_n 0, 1) := by decide +kernel
theorem dL_undo_3 : decode cL_undo 3 = .ok (.invokevirtual 123, 3) := by decide +kernel
theorem dL_undo_6 : decode cL_undo 6 = .ok (.i2l, 1) := by decide +kernel
theorem dL_undo_7 : decode cL_undo 7 = .ok (.lastore, 1) := by decide +kernel
theorem dL_undo_8 : decode cL_undo 8 = .ok (.goto 6, 3) := by decide +kernel
theorem dL_undo_11 : decode cL_undo 11 = .ok (.astore_n 2, 1) := by decide +kernel
theorem dL_undo_12 : decode cL_undo 12 = .ok (.iconst 1, 1) := by decide +kernel
theorem dL_undo_13 : decode cL_undo 13 = .ok (.ireturn, 1) := by decide +kernel
theorem dL_undo_14 : decode cL_undo 14 = .ok (.iconst 0, 1) := by decide +kernel
theorem dL_undo_15 : decode cL_undo 15 = .ok (.ireturn, 1) := by decide +kernel
set_option maxRecDepth 20000 in
theorem ggL_restore_X10_restore : GoodIn wsL_restore wsX10_restore := goodIn_ca (goodIn_ca (goodIn_r _ [6, 7, 8, 9, 10, 11, 12, 13, 14, 15, 16, 17, 18, 19, 20, 21, 22, 23, 24, 25, 26, 27, 28, 29, 30, 31, 32, 33, 34, 35, 36, 37, 38, 39, 40, 41, 42, 43, 44, 45, 46, 47, 48, 49, 50, 51, 52, 53, 54, 55, 56, 57, 58, 59, 60, 61, 62, 63, 64, 65, 66, 67, 68] (by decide +kernel) (by decide +kernel)) (goodIn_sub (fun _ h => List.mem_cons_of_mem _ (List.mem_append_left _ (List.mem_append_right _ h))) (by decide +kernel))) (goodIn_sub (fun _ h => List.mem_cons_of_mem _ (List.mem_append_right _ h)) (by decide +kernel))
set_option maxRecDepth 20000 in
theorem gL_restore_X10_restore : GoodIn wsL_restore (wsV RL 126 RX10 yX10_restore wsX10_restore) := goodIn_app (goodIn_of _ (by decide +kernel)) ggL_restore_X10_restore
theorem dL_restore_0 : decode cL_restore 0 = .ok (.aload_n 0, 1) := by decide +kernel
theorem dL_restore_1 : decode cL_restore 1 = .ok (.invokevirtual 126, 3) := by decide +kernel
theorem dL_restore_4 : decode cL_restore 4 = .ok (.goto 6, 3) := by decide +kernel
theorem dL_restore_7 : decode cL_restore 7 = .ok (.astore_n 1, 1) := by decide +kernel
theorem dL_restore_8 : decode cL_restore 8 = .ok (.iconst 1, 1) := by decide +kernel
theorem dL_restore_9 : decode cL_restore 9 = .ok (.ireturn, 1) := by decide +kernel
theorem dL_restore_10 : decode cL_restore 10 = .ok (.iconst 0, 1) := by decide +kernel
theorem dL_restore_11 : decode cL_restore 11 = .ok (.ireturn, 1) := by decide +kernel
