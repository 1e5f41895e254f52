set_option maxRecDepth 20000 in
theorem gk_ggL_law_L_areLinesRight_0 : GoodIn wsL_law [.code yL_areLinesRight cL_areLinesRight 9 (some .boolean)] := goodIn_r _ [916] (by decide +kernel) (by decide +kernel)
set_option maxRecDepth 20000 in
theorem gk_ggL_law_L_areLinesRight_1 : GoodIn wsL_law wsL_areLinesRight_r1 := goodIn_r _ [859, 860, 861, 2, 862, 148, 149, 29, 12, 863, 140, 135, 141, 864, 865, 866, 28, 867, 98, 868, 869, 870, 871, 97] (by decide +kernel) (by decide +kernel)
set_option maxRecDepth 20000 in
theorem gk_ggL_law_L_areLinesRight_2 : GoodIn wsL_law wsL_areLinesRight_r2 := goodIn_r _ [872, 192, 193, 873, 874, 875, 876, 877, 584, 585, 11, 586, 38, 878, 772, 773, 774, 39, 879, 643, 644, 645, 41, 880] (by decide +kernel) (by decide +kernel)
set_option maxRecDepth 20000 in
theorem gk_ggL_law_L_areLinesRight_3 : GoodIn wsL_law wsL_areLinesRight_r3 := goodIn_r _ [270, 271, 272, 183, 44, 881, 696, 697, 698, 42, 882, 883, 884, 885, 886, 887, 888, 889, 890, 891, 892, 893, 578, 579] (by decide +kernel) (by decide +kernel)
set_option maxRecDepth 20000 in
theorem gk_ggL_law_L_areLinesRight_4 : GoodIn wsL_law wsL_areLinesRight_r4 := goodIn_r _ [580, 581, 237, 134, 136, 137, 138, 139, 145, 146, 147, 150, 151, 152, 153, 154, 155, 156, 157, 158, 159, 160, 161, 162] (by decide +kernel) (by decide +kernel)
set_option maxRecDepth 20000 in
theorem gk_ggL_law_L_areLinesRight_5 : GoodIn wsL_law wsL_areLinesRight_r5 := goodIn_r _ [163, 164, 165, 582, 583, 805, 806, 807, 808, 809, 699, 700, 701, 702, 703, 242, 243, 101, 244, 691, 692, 693, 694, 695] (by decide +kernel) (by decide +kernel)
set_option maxRecDepth 20000 in
theorem gk_ggL_law_L_areLinesRight_6 : GoodIn wsL_law wsL_areLinesRight_r6 := goodIn_r _ [559, 560, 561, 562, 563, 564, 565, 566] (by decide +kernel) (by decide +kernel)
set_option maxRecDepth 20000 in
theorem gk_ggL_law_L_areLinesRight_wsX100 : GoodIn wsL_law wsX100 := goodIn_r _ [917, 918, 919, 920, 921, 922, 923, 924, 925] (by decide +kernel) (by decide +kernel)
set_option maxRecDepth 20000 in
theorem gk_ggL_law_L_areLinesRight_wsX50 : GoodIn wsL_law wsX50 := goodIn_r _ [952, 953] (by decide +kernel) (by decide +kernel)
set_option maxRecDepth 20000 in
theorem gk_ggL_law_L_areLinesRight_wsX70 : GoodIn wsL_law wsX70 := goodIn_r _ [926, 927, 928, 929, 930, 931, 932, 933, 934, 935, 936, 937, 938, 939, 940] (by decide +kernel) (by decide +kernel)
set_option maxRecDepth 20000 in
theorem ggL_law_L_areLinesRight : GoodIn wsL_law wsL_areLinesRight := goodIn_ca (goodIn_ca (goodIn_ca (goodIn_ca (goodIn_ca (goodIn_ca (goodIn_cons gk_ggL_law_L_areLinesRight_0 (goodIn_app (goodIn_app (goodIn_app (goodIn_app gk_ggL_law_L_areLinesRight_1 (goodIn_app gk_ggL_law_L_areLinesRight_2 (goodIn_app gk_ggL_law_L_areLinesRight_3 (goodIn_app gk_ggL_law_L_areLinesRight_4 (goodIn_app gk_ggL_law_L_areLinesRight_5 gk_ggL_law_L_areLinesRight_6))))) gk_ggL_law_L_areLinesRight_wsX100) gk_ggL_law_L_areLinesRight_wsX50) gk_ggL_law_L_areLinesRight_wsX70)) (goodIn_sub (fun _ h => List.mem_append_left _ (List.mem_append_left _ (List.mem_append_left _ (List.mem_append_left _ (List.mem_append_left _ (List.mem_append_right _ h)))))) (by decide +kernel))) (goodIn_sub (fun _ h => List.mem_append_left _ (List.mem_append_left _ (List.mem_append_left _ (List.mem_append_left _ (List.mem_append_left _ (List.mem_append_left _ (List.mem_append_left _ (List.mem_append_right _ h)))))))) (by decide +kernel))) (goodIn_sub (fun _ h => List.mem_append_left _ (List.mem_append_left _ (List.mem_append_left _ (List.mem_append_left _ (List.mem_append_right _ h))))) (by decide +kernel))) (goodIn_sub (fun _ h => List.mem_append_left _ (List.mem_append_left _ (List.mem_append_left _ (List.mem_append_right _ h)))) (by decide +kernel))) (goodIn_sub (fun _ h => List.mem_append_left _ (List.mem_append_left _ (List.mem_append_right _ h))) (by decide +kernel))) (goodIn_sub (fun _ h => List.mem_append_left _ (List.mem_append_right _ h)) (by decide +kernel))
set_option maxRecDepth 20000 in
theorem gL_law_L_areLinesRight : GoodIn wsL_law (va_wsS RL 235 yL_areLinesRight wsL_areLinesRight) := goodIn_app (goodIn_of _ (by decide +kernel)) ggL_law_L_areLinesRight
