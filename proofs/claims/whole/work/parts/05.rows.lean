theorem dX8_continuesSeam_21 : decode cX8_continuesSeam 21 = .ok (.aload_n 0, 1) := by decide +kernel
theorem dX8_continuesSeam_22 : decode cX8_continuesSeam 22 = .ok (.iload_n 1, 1) := by decide +kernel
theorem dX8_continuesSeam_23 : decode cX8_continuesSeam 23 = .ok (.invokevirtual 56, 3) := by decide +kernel
theorem dX8_continuesSeam_26 : decode cX8_continuesSeam 26 = .ok (.aload_n 0, 1) := by decide +kernel
theorem dX8_continuesSeam_27 : decode cX8_continuesSeam 27 = .ok (.iload_n 2, 1) := by decide +kernel
theorem dX8_continuesSeam_28 : decode cX8_continuesSeam 28 = .ok (.invokevirtual 56, 3) := by decide +kernel
theorem dX8_continuesSeam_31 : decode cX8_continuesSeam 31 = .ok (.if_icmp .ne 7, 3) := by decide +kernel
theorem dX8_continuesSeam_34 : decode cX8_continuesSeam 34 = .ok (.iconst 1, 1) := by decide +kernel
theorem dX8_continuesSeam_35 : decode cX8_continuesSeam 35 = .ok (.goto 4, 3) := by decide +kernel
theorem dX8_continuesSeam_38 : decode cX8_continuesSeam 38 = .ok (.iconst 0, 1) := by decide +kernel
theorem dX8_continuesSeam_39 : decode cX8_continuesSeam 39 = .ok (.ireturn, 1) := by decide +kernel
set_option maxRecDepth 20000 in
theorem ggX8_seamsByMerging_X7_countAt : GoodIn wsX8_seamsByMerging wsX7_countAt := goodIn_ca (goodIn_r _ [6, 7, 34, 35, 36, 37, 38, 39, 40, 41, 42, 43, 44, 45, 46, 47, 48] (by decide +kernel) (by decide +kernel)) (goodIn_sub (fun _ h => List.mem_cons_of_mem _ (List.mem_append_right _ h)) (by decide +kernel))
set_option maxRecDepth 20000 in
theorem gX8_seamsByMerging_X7_countAt : GoodIn wsX8_seamsByMerging (wsV RX8 59 RX7 yX7_countAt wsX7_countAt) := goodIn_app (goodIn_of _ (by decide +kernel)) ggX8_seamsByMerging_X7_countAt
set_option maxRecDepth 20000 in
theorem ggX8_seamsByMerging_X3_neighbour : GoodIn wsX8_seamsByMerging wsX3_neighbour := goodIn_r _ [11] (by decide +kernel) (by decide +kernel)
set_option maxRecDepth 20000 in
theorem gX8_seamsByMerging_X3_neighbour : GoodIn wsX8_seamsByMerging (va_wsS RX8 34 yX3_neighbour wsX3_neighbour) := goodIn_app (goodIn_of _ (by decide +kernel)) ggX8_seamsByMerging_X3_neighbour
set_option maxRecDepth 20000 in
theorem ggX8_seamsByMerging_X8_continuesSeam : GoodIn wsX8_seamsByMerging wsX8_continuesSeam := goodIn_ca (goodIn_r _ [15, 16, 17, 18, 5, 19, 7, 20, 21, 22, 23, 24, 34, 35, 36, 37, 38, 39, 40, 41, 42, 43, 44, 45, 46, 47, 48] (by decide +kernel) (by decide +kernel)) (goodIn_sub (fun _ h => List.mem_cons_of_mem _ (List.mem_append_right _ h)) (by decide +kernel))
set_option maxRecDepth 20000 in
theorem gX8_seamsByMerging_X8_continuesSeam : GoodIn wsX8_seamsByMerging (va_wsS RX8 52 yX8_continuesSeam wsX8_continuesSeam) := goodIn_app (goodIn_of _ (by decide +kernel)) ggX8_seamsByMerging_X8_continuesSeam
set_option maxRecDepth 20000 in
theorem ggX8_seamsByMerging_X8_relabel : GoodIn wsX8_seamsByMerging wsX8_relabel := goodIn_ca (goodIn_r _ [28, 1, 29, 30, 31, 32, 33] (by decide +kernel) (by decide +kernel)) (goodIn_sub (fun _ h => List.mem_cons_of_mem _ (List.mem_append_right _ h)) (by decide +kernel))
set_option maxRecDepth 20000 in
theorem gX8_seamsByMerging_X8_relabel : GoodIn wsX8_seamsByMerging (wsV RX8 62 RX8 yX8_relabel wsX8_relabel) := goodIn_app (goodIn_of _ (by decide +kernel)) ggX8_seamsByMerging_X8_relabel
theorem dX8_seamsByMerging_0 : decode cX8_seamsByMerging 0 = .ok (.iconst 0, 1) := by decide +kernel
theorem dX8_seamsByMerging_1 : decode cX8_seamsByMerging 1 = .ok (.istore_n 2, 1) := by decide +kernel
theorem dX8_seamsByMerging_2 : decode cX8_seamsByMerging 2 = .ok (.iload_n 2, 1) := by decide +kernel
theorem dX8_seamsByMerging_3 : decode cX8_seamsByMerging 3 = .ok (.bipush 30, 2) := by decide +kernel
theorem dX8_seamsByMerging_5 : decode cX8_seamsByMerging 5 = .ok (.if_icmp .ge 16, 3) := by decide +kernel
theorem dX8_seamsByMerging_8 : decode cX8_seamsByMerging 8 = .ok (.aload_n 0, 1) := by decide +kernel
theorem dX8_seamsByMerging_9 : decode cX8_seamsByMerging 9 = .ok (.getfield 20, 3) := by decide +kernel
theorem dX8_seamsByMerging_12 : decode cX8_seamsByMerging 12 = .ok (.iload_n 2, 1) := by decide +kernel
theorem dX8_seamsByMerging_13 : decode cX8_seamsByMerging 13 = .ok (.iload_n 2, 1) := by decide +kernel
theorem dX8_seamsByMerging_14 : decode cX8_seamsByMerging 14 = .ok (.iastore, 1) := by decide +kernel
theorem dX8_seamsByMerging_15 : decode cX8_seamsByMerging 15 = .ok (.iinc 2 1, 3) := by decide +kernel
theorem dX8_seamsByMerging_18 : decode cX8_seamsByMerging 18 = .ok (.goto (-16), 3) := by decide +kernel
theorem dX8_seamsByMerging_21 : decode cX8_seamsByMerging 21 = .ok (.bipush 30, 2) := by decide +kernel
theorem dX8_seamsByMerging_23 : decode cX8_seamsByMerging 23 = .ok (.aload_n 1, 1) := by decide +kernel
theorem dX8_seamsByMerging_24 : decode cX8_seamsByMerging 24 = .ok (.iconst 0, 1) := by decide +kernel
theorem dX8_seamsByMerging_25 : decode cX8_seamsByMerging 25 = .ok (.invokevirtual 59, 3) := by decide +kernel
theorem dX8_seamsByMerging_28 : decode cX8_seamsByMerging 28 = .ok (.isub, 1) := by decide +kernel
theorem dX8_seamsByMerging_29 : decode cX8_seamsByMerging 29 = .ok (.istore_n 2, 1) := by decide +kernel
theorem dX8_seamsByMerging_30 : decode cX8_seamsByMerging 30 = .ok (.iconst 0, 1) := by decide +kernel
theorem dX8_seamsByMerging_31 : decode cX8_seamsByMerging 31 = .ok (.istore_n 3, 1) := by decide +kernel
theorem dX8_seamsByMerging_32 : decode cX8_seamsByMerging 32 = .ok (.iload_n 3, 1) := by decide +kernel
theorem dX8_seamsByMerging_33 : decode cX8_seamsByMerging 33 = .ok (.bipush 30, 2) := by decide +kernel
theorem dX8_seamsByMerging_35 : decode cX8_seamsByMerging 35 = .ok (.if_icmp .ge 78, 3) := by decide +kernel
theorem dX8_seamsByMerging_38 : decode cX8_seamsByMerging 38 = .ok (.iconst 0, 1) := by decide +kernel
theorem dX8_seamsByMerging_39 : decode cX8_seamsByMerging 39 = .ok (.istore 4, 2) := by decide +kernel
theorem dX8_seamsByMerging_41 : decode cX8_seamsByMerging 41 = .ok (.iload 4, 2) := by decide +kernel
theorem dX8_seamsByMerging_43 : decode cX8_seamsByMerging 43 = .ok (.iconst 4, 1) := by decide +kernel
theorem dX8_seamsByMerging_44 : decode cX8_seamsByMerging 44 = .ok (.if_icmp .ge 63, 3) := by decide +kernel
theorem dX8_seamsByMerging_47 : decode cX8_seamsByMerging 47 = .ok (.iload_n 3, 1) := by decide +kernel
theorem dX8_seamsByMerging_48 : decode cX8_seamsByMerging 48 = .ok (.iload 4, 2) := by decide +kernel
theorem dX8_seamsByMerging_50 : decode cX8_seamsByMerging 50 = .ok (.invokestatic 34, 3) := by decide +kernel
theorem dX8_seamsByMerging_53 : decode cX8_seamsByMerging 53 = .ok (.istore 5, 2) := by decide +kernel
theorem dX8_seamsByMerging_55 : decode cX8_seamsByMerging 55 = .ok (.aload_n 1, 1) := by decide +kernel
theorem dX8_seamsByMerging_56 : decode cX8_seamsByMerging 56 = .ok (.iload_n 3, 1) := by decide +kernel
theorem dX8_seamsByMerging_57 : decode cX8_seamsByMerging 57 = .ok (.iload 5, 2) := by decide +kernel
theorem dX8_seamsByMerging_59 : decode cX8_seamsByMerging 59 = .ok (.invokestatic 52, 3) := by decide +kernel
theorem dX8_seamsByMerging_62 : decode cX8_seamsByMerging 62 = .ok (.ifCond .eq 39, 3) := by decide +kernel
theorem dX8_seamsByMerging_65 : decode cX8_seamsByMerging 65 = .ok (.aload_n 0, 1) := by decide +kernel
theorem dX8_seamsByMerging_66 : decode cX8_seamsByMerging 66 = .ok (.getfield 20, 3) := by decide +kernel
theorem dX8_seamsByMerging_69 : decode cX8_seamsByMerging 69 = .ok (.iload_n 3, 1) := by decide +kernel
theorem dX8_seamsByMerging_70 : decode cX8_seamsByMerging 70 = .ok (.iaload, 1) := by decide +kernel
theorem dX8_seamsByMerging_71 : decode cX8_seamsByMerging 71 = .ok (.aload_n 0, 1) := by decide +kernel
theorem dX8_seamsByMerging_72 : decode cX8_seamsByMerging 72 = .ok (.getfield 20, 3) := by decide +kernel
theorem dX8_seamsByMerging_75 : decode cX8_seamsByMerging 75 = .ok (.iload 5, 2) := by decide +kernel
theorem dX8_seamsByMerging_77 : decode cX8_seamsByMerging 77 = .ok (.iaload, 1) := by decide +kernel
theorem dX8_seamsByMerging_78 : decode cX8_seamsByMerging 78 = .ok (.if_icmp .eq 23, 3) := by decide +kernel
theorem dX8_seamsByMerging_81 : decode cX8_seamsByMerging 81 = .ok (.aload_n 0, 1) := by decide +kernel
theorem dX8_seamsByMerging_82 : decode cX8_seamsByMerging 82 = .ok (.aload_n 0, 1) := by decide +kernel
theorem dX8_seamsByMerging_83 : decode cX8_seamsByMerging 83 = .ok (.getfield 20, 3) := by decide +kernel
theorem dX8_seamsByMerging_86 : decode cX8_seamsByMerging 86 = .ok (.iload 5, 2) := by decide +kernel
theorem dX8_seamsByMerging_88 : decode cX8_seamsByMerging 88 = .ok (.iaload, 1) := by decide +kernel
theorem dX8_seamsByMerging_89 : decode cX8_seamsByMerging 89 = .ok (.aload_n 0, 1) := by decide +kernel
theorem dX8_seamsByMerging_90 : decode cX8_seamsByMerging 90 = .ok (.getfield 20, 3) := by decide +kernel
theorem dX8_seamsByMerging_93 : decode cX8_seamsByMerging 93 = .ok (.iload_n 3, 1) := by decide +kernel
theorem dX8_seamsByMerging_94 : decode cX8_seamsByMerging 94 = .ok (.iaload, 1) := by decide +kernel
theorem dX8_seamsByMerging_95 : decode cX8_seamsByMerging 95 = .ok (.invokevirtual 62, 3) := by decide +kernel
theorem dX8_seamsByMerging_98 : decode cX8_seamsByMerging 98 = .ok (.iinc 2 (-1), 3) := by decide +kernel
theorem dX8_seamsByMerging_101 : decode cX8_seamsByMerging 101 = .ok (.iinc 4 1, 3) := by decide +kernel
theorem dX8_seamsByMerging_104 : decode cX8_seamsByMerging 104 = .ok (.goto (-63), 3) := by decide +kernel
theorem dX8_seamsByMerging_107 : decode cX8_seamsByMerging 107 = .ok (.iinc 3 1, 3) := by decide +kernel
theorem dX8_seamsByMerging_110 : decode cX8_seamsByMerging 110 = .ok (.goto (-78), 3) := by decide +kernel
theorem dX8_seamsByMerging_113 : decode cX8_seamsByMerging 113 = .ok (.iload_n 2, 1) := by decide +kernel
theorem dX8_seamsByMerging_114 : decode cX8_seamsByMerging 114 = .ok (.ireturn, 1) := by decide +kernel
theorem dX8_relabel_0 : decode cX8_relabel 0 = .ok (.iconst 0, 1) := by decide +kernel
theorem dX8_relabel_1 : decode cX8_relabel 1 = .ok (.istore_n 3, 1) := by decide +kernel
theorem dX8_relabel_2 : decode cX8_relabel 2 = .ok (.iload_n 3, 1) := by decide +kernel
theorem dX8_relabel_3 : decode cX8_relabel 3 = .ok (.bipush 30, 2) := by decide +kernel
theorem dX8_relabel_5 : decode cX8_relabel 5 = .ok (.if_icmp .ge 26, 3) := by decide +kernel
theorem dX8_relabel_8 : decode cX8_relabel 8 = .ok (.aload_n 0, 1) := by decide +kernel
theorem dX8_relabel_9 : decode cX8_relabel 9 = .ok (.getfield 20, 3) := by decide +kernel
theorem dX8_relabel_12 : decode cX8_relabel 12 = .ok (.iload_n 3, 1) := by decide +kernel
theorem dX8_relabel_13 : decode cX8_relabel 13 = .ok (.iaload, 1) := by decide +kernel
theorem dX8_relabel_14 : decode cX8_relabel 14 = .ok (.iload_n 1, 1) := by decide +kernel
theorem dX8_relabel_15 : decode cX8_relabel 15 = .ok (.if_icmp .ne 10, 3) := by decide +kernel
theorem dX8_relabel_18 : decode cX8_relabel 18 = .ok (.aload_n 0, 1) := by decide +kernel
theorem dX8_relabel_19 : decode cX8_relabel 19 = .ok (.getfield 20, 3) := by decide +kernel
theorem dX8_relabel_22 : decode cX8_relabel 22 = .ok (.iload_n 3, 1) := by decide +kernel
theorem dX8_relabel_23 : decode cX8_relabel 23 = .ok (.iload_n 2, 1) := by decide +kernel
theorem dX8_relabel_24 : decode cX8_relabel 24 = .ok (.iastore, 1) := by decide +kernel
theorem dX8_relabel_25 : decode cX8_relabel 25 = .ok (.iinc 3 1, 3) := by decide +kernel
theorem dX8_relabel_28 : decode cX8_relabel 28 = .ok (.goto (-26), 3) := by decide +kernel
theorem dX8_relabel_31 : decode cX8_relabel 31 = .ok (.return_, 1) := by decide +kernel
set_option maxRecDepth 20000 in
theorem ggX8_shortestPath_X7_hasLedgeAt : GoodIn wsX8_shortestPath wsX7_hasLedgeAt := goodIn_ca (goodIn_r _ [7, 8, 31, 32, 33, 34, 35, 36, 37, 38, 39, 40, 41, 42, 43, 44, 45] (by decide +kernel) (by decide +kernel)) (goodIn_sub (fun _ h => List.mem_cons_of_mem _ (List.mem_append_right _ h)) (by decide +kernel))
set_option maxRecDepth 20000 in
theorem gX8_shortestPath_X7_hasLedgeAt : GoodIn wsX8_shortestPath (wsV RX8 66 RX7 yX7_hasLedgeAt wsX7_hasLedgeAt) := goodIn_app (goodIn_of _ (by decide +kernel)) ggX8_shortestPath_X7_hasLedgeAt
set_option maxRecDepth 20000 in
theorem ggX8_shortestPath_X3_neighbour : GoodIn wsX8_shortestPath wsX3_neighbour := goodIn_r _ [12] (by decide +kernel) (by decide +kernel)
set_option maxRecDepth 20000 in
theorem gX8_shortestPath_X3_neighbour : GoodIn wsX8_shortestPath (va_wsS RX8 34 yX3_neighbour wsX3_neighbour) := goodIn_app (goodIn_of _ (by decide +kernel)) ggX8_shortestPath_X3_neighbour
set_option maxRecDepth 20000 in
theorem ggX8_shortestPath_X8_canWalk : GoodIn wsX8_shortestPath wsX8_canWalk := goodIn_ca (goodIn_r _ [16, 17, 18, 19, 20, 3, 4, 5, 6, 7, 8, 21, 22, 23, 24, 25, 31, 32, 33, 34, 35, 36, 37, 38, 39, 40, 41, 42, 43, 44, 45] (by decide +kernel) (by decide +kernel)) (goodIn_sub (fun _ h => List.mem_cons_of_mem _ (List.mem_append_right _ h)) (by decide +kernel))
set_option maxRecDepth 20000 in
theorem gX8_shortestPath_X8_canWalk : GoodIn wsX8_shortestPath (va_wsS RX8 70 yX8_canWalk wsX8_canWalk) := goodIn_app (goodIn_of _ (by decide +kernel)) ggX8_shortestPath_X8_canWalk
theorem dX8_shortestPath_0 : decode cX8_shortestPath 0 = .ok (.iconst 0, 1) := by decide +kernel
theorem dX8_shortestPath_1 : decode cX8_shortestPath 1 = .ok (.istore 4, 2) := by decide +kernel
theorem dX8_shortestPath_3 : decode cX8_shortestPath 3 = .ok (.iload 4, 2) := by decide +kernel
theorem dX8_shortestPath_5 : decode cX8_shortestPath 5 = .ok (.bipush 30, 2) := by decide +kernel
theorem dX8_shortestPath_7 : decode cX8_shortestPath 7 = .ok (.if_icmp .ge 17, 3) := by decide +kernel
theorem dX8_shortestPath_10 : decode cX8_shortestPath 10 = .ok (.aload_n 0, 1) := by decide +kernel
theorem dX8_shortestPath_11 : decode cX8_shortestPath 11 = .ok (.getfield 23, 3) := by decide +kernel
theorem dX8_shortestPath_14 : decode cX8_shortestPath 14 = .ok (.iload 4, 2) := by decide +kernel
theorem dX8_shortestPath_16 : decode cX8_shortestPath 16 = .ok (.iconst (-1), 1) := by decide +kernel
theorem dX8_shortestPath_17 : decode cX8_shortestPath 17 = .ok (.iastore, 1) := by decide +kernel
theorem dX8_shortestPath_18 : decode cX8_shortestPath 18 = .ok (.iinc 4 1, 3) := by decide +kernel
theorem dX8_shortestPath_21 : decode cX8_shortestPath 21 = .ok (.goto (-18), 3) := by decide +kernel
theorem dX8_shortestPath_24 : decode cX8_shortestPath 24 = .ok (.aload_n 1, 1) := by decide +kernel
theorem dX8_shortestPath_25 : decode cX8_shortestPath 25 = .ok (.iload_n 2, 1) := by decide +kernel
theorem dX8_shortestPath_26 : decode cX8_shortestPath 26 = .ok (.invokevirtual 66, 3) := by decide +kernel
theorem dX8_shortestPath_29 : decode cX8_shortestPath 29 = .ok (.ifCond .eq 5, 3) := by decide +kernel
theorem dX8_shortestPath_32 : decode cX8_shortestPath 32 = .ok (.iconst (-1), 1) := by decide +kernel
theorem dX8_shortestPath_33 : decode cX8_shortestPath 33 = .ok (.ireturn, 1) := by decide +kernel
theorem dX8_shortestPath_34 : decode cX8_shortestPath 34 = .ok (.aload_n 0, 1) := by decide +kernel
theorem dX8_shortestPath_35 : decode cX8_shortestPath 35 = .ok (.getfield 23, 3) := by decide +kernel
theorem dX8_shortestPath_38 : decode cX8_shortestPath 38 = .ok (.iload_n 2, 1) := by decide +kernel
theorem dX8_shortestPath_39 : decode cX8_shortestPath 39 = .ok (.iconst 0, 1) := by decide +kernel
theorem dX8_shortestPath_40 : decode cX8_shortestPath 40 = .ok (.iastore, 1) := by decide +kernel
theorem dX8_shortestPath_41 : decode cX8_shortestPath 41 = .ok (.aload_n 0, 1) := by decide +kernel
theorem dX8_shortestPath_42 : decode cX8_shortestPath 42 = .ok (.getfield 11, 3) := by decide +kernel
theorem dX8_shortestPath_45 : decode cX8_shortestPath 45 = .ok (.iconst 0, 1) := by decide +kernel
theorem dX8_shortestPath_46 : decode cX8_shortestPath 46 = .ok (.iload_n 2, 1) := by decide +kernel
theorem dX8_shortestPath_47 : decode cX8_shortestPath 47 = .ok (.iastore, 1) := by decide +kernel
theorem dX8_shortestPath_48 : decode cX8_shortestPath 48 = .ok (.iconst 1, 1) := by decide +kernel
theorem dX8_shortestPath_49 : decode cX8_shortestPath 49 = .ok (.istore 4, 2) := by decide +kernel
theorem dX8_shortestPath_51 : decode cX8_shortestPath 51 = .ok (.iconst 0, 1) := by decide +kernel
theorem dX8_shortestPath_52 : decode cX8_shortestPath 52 = .ok (.istore 5, 2) := by decide +kernel
theorem dX8_shortestPath_54 : decode cX8_shortestPath 54 = .ok (.iload 5, 2) := by decide +kernel
theorem dX8_shortestPath_56 : decode cX8_shortestPath 56 = .ok (.iload 4, 2) := by decide +kernel
theorem dX8_shortestPath_58 : decode cX8_shortestPath 58 = .ok (.if_icmp .ge 118, 3) := by decide +kernel
theorem dX8_shortestPath_61 : decode cX8_shortestPath 61 = .ok (.iload 5, 2) := by decide +kernel
theorem dX8_shortestPath_63 : decode cX8_shortestPath 63 = .ok (.aload_n 0, 1) := by decide +kernel
theorem dX8_shortestPath_64 : decode cX8_shortestPath 64 = .ok (.getfield 11, 3) := by decide +kernel
theorem dX8_shortestPath_67 : decode cX8_shortestPath 67 = .ok (.arraylength, 1) := by decide +kernel
theorem dX8_shortestPath_68 : decode cX8_shortestPath 68 = .ok (.if_icmp .ge 108, 3) := by decide +kernel
theorem dX8_shortestPath_71 : decode cX8_shortestPath 71 = .ok (.iconst 0, 1) := by decide +kernel
theorem dX8_shortestPath_72 : decode cX8_shortestPath 72 = .ok (.istore 6, 2) := by decide +kernel
theorem dX8_shortestPath_74 : decode cX8_shortestPath 74 = .ok (.iload 6, 2) := by decide +kernel
theorem dX8_shortestPath_76 : decode cX8_shortestPath 76 = .ok (.iconst 4, 1) := by decide +kernel
theorem dX8_shortestPath_77 : decode cX8_shortestPath 77 = .ok (.if_icmp .ge 93, 3) := by decide +kernel
theorem dX8_shortestPath_80 : decode cX8_shortestPath 80 = .ok (.aload_n 0, 1) := by decide +kernel
theorem dX8_shortestPath_81 : decode cX8_shortestPath 81 = .ok (.getfield 11, 3) := by decide +kernel
theorem dX8_shortestPath_84 : decode cX8_shortestPath 84 = .ok (.iload 5, 2) := by decide +kernel
theorem dX8_shortestPath_86 : decode cX8_shortestPath 86 = .ok (.iaload, 1) := by decide +kernel
theorem dX8_shortestPath_87 : decode cX8_shortestPath 87 = .ok (.iload 6, 2) := by decide +kernel
theorem dX8_shortestPath_89 : decode cX8_shortestPath 89 = .ok (.invokestatic 34, 3) := by decide +kernel
theorem dX8_shortestPath_92 : decode cX8_shortestPath 92 = .ok (.istore 7, 2) := by decide +kernel
theorem dX8_shortestPath_94 : decode cX8_shortestPath 94 = .ok (.aload_n 1, 1) := by decide +kernel
theorem dX8_shortestPath_95 : decode cX8_shortestPath 95 = .ok (.aload_n 0, 1) := by decide +kernel
theorem dX8_shortestPath_96 : decode cX8_shortestPath 96 = .ok (.getfield 11, 3) := by decide +kernel
theorem dX8_shortestPath_99 : decode cX8_shortestPath 99 = .ok (.iload 5, 2) := by decide +kernel
theorem dX8_shortestPath_101 : decode cX8_shortestPath 101 = .ok (.iaload, 1) := by decide +kernel
theorem dX8_shortestPath_102 : decode cX8_shortestPath 102 = .ok (.iload 7, 2) := by decide +kernel
theorem dX8_shortestPath_104 : decode cX8_shortestPath 104 = .ok (.invokestatic 70, 3) := by decide +kernel
theorem dX8_shortestPath_107 : decode cX8_shortestPath 107 = .ok (.ifCond .eq 57, 3) := by decide +kernel
theorem dX8_shortestPath_110 : decode cX8_shortestPath 110 = .ok (.aload_n 0, 1) := by decide +kernel
theorem dX8_shortestPath_111 : decode cX8_shortestPath 111 = .ok (.getfield 23, 3) := by decide +kernel
theorem dX8_shortestPath_114 : decode cX8_shortestPath 114 = .ok (.iload 7, 2) := by decide +kernel
theorem dX8_shortestPath_116 : decode cX8_shortestPath 116 = .ok (.iaload, 1) := by decide +kernel
theorem dX8_shortestPath_117 : decode cX8_shortestPath 117 = .ok (.iconst (-1), 1) := by decide +kernel
theorem dX8_shortestPath_118 : decode cX8_shortestPath 118 = .ok (.if_icmp .ne 46, 3) := by decide +kernel
theorem dX8_shortestPath_121 : decode cX8_shortestPath 121 = .ok (.iload 4, 2) := by decide +kernel
theorem dX8_shortestPath_123 : decode cX8_shortestPath 123 = .ok (.aload_n 0, 1) := by decide +kernel
theorem dX8_shortestPath_124 : decode cX8_shortestPath 124 = .ok (.getfield 11, 3) := by decide +kernel
theorem dX8_shortestPath_127 : decode cX8_shortestPath 127 = .ok (.arraylength, 1) := by decide +kernel
theorem dX8_shortestPath_128 : decode cX8_shortestPath 128 = .ok (.if_icmp .ge 36, 3) := by decide +kernel
theorem dX8_shortestPath_131 : decode cX8_shortestPath 131 = .ok (.aload_n 0, 1) := by decide +kernel
theorem dX8_shortestPath_132 : decode cX8_shortestPath 132 = .ok (.getfield 23, 3) := by decide +kernel
theorem dX8_shortestPath_135 : decode cX8_shortestPath 135 = .ok (.iload 7, 2) := by decide +kernel
theorem dX8_shortestPath_137 : decode cX8_shortestPath 137 = .ok (.aload_n 0, 1) := by decide +kernel
theorem dX8_shortestPath_138 : decode cX8_shortestPath 138 = .ok (.getfield 23, 3) := by decide +kernel
theorem dX8_shortestPath_141 : decode cX8_shortestPath 141 = .ok (.aload_n 0, 1) := by decide +kernel
theorem dX8_shortestPath_142 : decode cX8_shortestPath 142 = .ok (.getfield 11, 3) := by decide +kernel
theorem dX8_shortestPath_145 : decode cX8_shortestPath 145 = .ok (.iload 5, 2) := by decide +kernel
theorem dX8_shortestPath_147 : decode cX8_shortestPath 147 = .ok (.iaload, 1) := by decide +kernel
theorem dX8_shortestPath_148 : decode cX8_shortestPath 148 = .ok (.iaload, 1) := by decide +kernel
theorem dX8_shortestPath_149 : decode cX8_shortestPath 149 = .ok (.iconst 1, 1) := by decide +kernel
theorem dX8_shortestPath_150 : decode cX8_shortestPath 150 = .ok (.iadd, 1) := by decide +kernel
theorem dX8_shortestPath_151 : decode cX8_shortestPath 151 = .ok (.iastore, 1) := by decide +kernel
theorem dX8_shortestPath_152 : decode cX8_shortestPath 152 = .ok (.aload_n 0, 1) := by decide +kernel
theorem dX8_shortestPath_153 : decode cX8_shortestPath 153 = .ok (.getfield 11, 3) := by decide +kernel
theorem dX8_shortestPath_156 : decode cX8_shortestPath 156 = .ok (.iload 4, 2) := by decide +kernel
theorem dX8_shortestPath_158 : decode cX8_shortestPath 158 = .ok (.iload 7, 2) := by decide +kernel
theorem dX8_shortestPath_160 : decode cX8_shortestPath 160 = .ok (.iastore, 1) := by decide +kernel
theorem dX8_shortestPath_161 : decode cX8_shortestPath 161 = .ok (.iinc 4 1, 3) := by decide +kernel
theorem dX8_shortestPath_164 : decode cX8_shortestPath 164 = .ok (.iinc 6 1, 3) := by decide +kernel
theorem dX8_shortestPath_167 : decode cX8_shortestPath 167 = .ok (.goto (-93), 3) := by decide +kernel
theorem dX8_shortestPath_170 : decode cX8_shortestPath 170 = .ok (.iinc 5 1, 3) := by decide +kernel
theorem dX8_shortestPath_173 : decode cX8_shortestPath 173 = .ok (.goto (-119), 3) := by decide +kernel
theorem dX8_shortestPath_176 : decode cX8_shortestPath 176 = .ok (.aload_n 0, 1) := by decide +kernel
theorem dX8_shortestPath_177 : decode cX8_shortestPath 177 = .ok (.getfield 23, 3) := by decide +kernel
theorem dX8_shortestPath_180 : decode cX8_shortestPath 180 = .ok (.iload_n 3, 1) := by decide +kernel
theorem dX8_shortestPath_181 : decode cX8_shortestPath 181 = .ok (.iaload, 1) := by decide +kernel
theorem dX8_shortestPath_182 : decode cX8_shortestPath 182 = .ok (.ireturn, 1) := by decide +kernel
set_option maxRecDepth 20000 in
theorem ggX8_canWalk_X7_hasLedgeAt : GoodIn wsX8_canWalk wsX7_hasLedgeAt := goodIn_ca (goodIn_r _ [9, 10, 16, 17, 18, 19, 20, 21, 22, 23, 24, 25, 26, 27, 28, 29, 30] (by decide +kernel) (by decide +kernel)) (goodIn_sub (fun _ h => List.mem_cons_of_mem _ (List.mem_append_right _ h)) (by decide +kernel))
set_option maxRecDepth 20000 in
theorem gX8_canWalk_X7_hasLedgeAt : GoodIn wsX8_canWalk (wsV RX8 66 RX7 yX7_hasLedgeAt wsX7_hasLedgeAt) := goodIn_app (goodIn_of _ (by decide +kernel)) ggX8_canWalk_X7_hasLedgeAt
set_option maxRecDepth 20000 in
theorem ggX8_canWalk_X7_heightAt : GoodIn wsX8_canWalk wsX7_heightAt := goodIn_ca (goodIn_r _ [14, 15, 16, 17, 18, 19, 20, 21, 22, 23, 24, 25, 26, 27, 28, 29, 30] (by decide +kernel) (by decide +kernel)) (goodIn_sub (fun _ h => List.mem_cons_of_mem _ (List.mem_append_right _ h)) (by decide +kernel))
set_option maxRecDepth 20000 in
theorem gX8_canWalk_X7_heightAt : GoodIn wsX8_canWalk (wsV RX8 30 RX7 yX7_heightAt wsX7_heightAt) := goodIn_app (goodIn_of _ (by decide +kernel)) ggX8_canWalk_X7_heightAt
theorem dX8_canWalk_0 : decode cX8_canWalk 0 = .ok (.iload_n 2, 1) := by decide +kernel
theorem dX8_canWalk_1 : decode cX8_canWalk 1 = .ok (.iconst (-1), 1) := by decide +kernel
theorem dX8_canWalk_2 : decode cX8_canWalk 2 = .ok (.if_icmp .eq 33, 3) := by decide +kernel
theorem dX8_canWalk_5 : decode cX8_canWalk 5 = .ok (.aload_n 0, 1) := by decide +kernel
theorem dX8_canWalk_6 : decode cX8_canWalk 6 = .ok (.iload_n 2, 1) := by decide +kernel
theorem dX8_canWalk_7 : decode cX8_canWalk 7 = .ok (.invokevirtual 66, 3) := by decide +kernel
theorem dX8_canWalk_10 : decode cX8_canWalk 10 = .ok (.ifCond .ne 25, 3) := by decide +kernel
theorem dX8_canWalk_13 : decode cX8_canWalk 13 = .ok (.aload_n 0, 1) := by decide +kernel
theorem dX8_canWalk_14 : decode cX8_canWalk 14 = .ok (.iload_n 1, 1) := by decide +kernel
theorem dX8_canWalk_15 : decode cX8_canWalk 15 = .ok (.invokevirtual 30, 3) := by decide +kernel
theorem dX8_canWalk_18 : decode cX8_canWalk 18 = .ok (.aload_n 0, 1) := by decide +kernel
theorem dX8_canWalk_19 : decode cX8_canWalk 19 = .ok (.iload_n 2, 1) := by decide +kernel
theorem dX8_canWalk_20 : decode cX8_canWalk 20 = .ok (.invokevirtual 30, 3) := by decide +kernel
theorem dX8_canWalk_23 : decode cX8_canWalk 23 = .ok (.isub, 1) := by decide +kernel
theorem dX8_canWalk_24 : decode cX8_canWalk 24 = .ok (.invokestatic 73, 3) := by decide +kernel
theorem dX8_canWalk_27 : decode cX8_canWalk 27 = .ok (.iconst 1, 1) := by decide +kernel
theorem dX8_canWalk_28 : decode cX8_canWalk 28 = .ok (.if_icmp .gt 7, 3) := by decide +kernel
theorem dX8_canWalk_31 : decode cX8_canWalk 31 = .ok (.iconst 1, 1) := by decide +kernel
theorem dX8_canWalk_32 : decode cX8_canWalk 32 = .ok (.goto 4, 3) := by decide +kernel
theorem dX8_canWalk_35 : decode cX8_canWalk 35 = .ok (.iconst 0, 1) := by decide +kernel
theorem dX8_canWalk_36 : decode cX8_canWalk 36 = .ok (.ireturn, 1) := by decide +kernel
theorem dX9_total_0 : decode cX9_total 0 = .ok (.getstatic 51, 3) := by decide +kernel
theorem dX9_total_3 : decode cX9_total 3 = .ok (.arraylength, 1) := by decide +kernel
theorem dX9_total_4 : decode cX9_total 4 = .ok (.ireturn, 1) := by decide +kernel
theorem dX9_at_0 : decode cX9_at 0 = .ok (.getstatic 51, 3) := by decide +kernel
theorem dX9_at_3 : decode cX9_at 3 = .ok (.iload_n 0, 1) := by decide +kernel
theorem dX9_at_4 : decode cX9_at 4 = .ok (.aaload, 1) := by decide +kernel
theorem dX9_at_5 : decode cX9_at 5 = .ok (.areturn, 1) := by decide +kernel
set_option maxRecDepth 20000 in
theorem ggX9_length_J0_length_8abf5 : GoodIn wsX9_length wsJ0_length_8abf5 := goodIn_r _ [6, 7, 8, 9, 10, 5, 11, 12, 13, 14, 15] (by decide +kernel) (by decide +kernel)
set_option maxRecDepth 20000 in
theorem gX9_length_J0_length_8abf5 : GoodIn wsX9_length (wsV RX9 54 RJ0 yJ0_length_8abf5 wsJ0_length_8abf5) := goodIn_app (goodIn_of _ (by decide +kernel)) ggX9_length_J0_length_8abf5
theorem dX9_length_0 : decode cX9_length 0 = .ok (.aload_n 0, 1) := by decide +kernel
theorem dX9_length_1 : decode cX9_length 1 = .ok (.getfield 47, 3) := by decide +kernel
theorem dX9_length_4 : decode cX9_length 4 = .ok (.invokevirtual 54, 3) := by decide +kernel
theorem dX9_length_7 : decode cX9_length 7 = .ok (.ireturn, 1) := by decide +kernel
set_option maxRecDepth 20000 in
theorem ggX9_takesDigitAt_J0_charAt_5068e : GoodIn wsX9_takesDigitAt wsJ0_charAt_5068e := goodIn_r _ [6, 7, 8, 9, 10, 5, 11, 12, 13, 14, 15, 16, 17, 18, 19, 20, 21, 22, 23, 24, 25, 26, 27, 28, 29, 30, 31, 32, 33, 34, 35, 36, 37, 38, 39, 40, 41, 42, 43, 44] (by decide +kernel) (by decide +kernel)
set_option maxRecDepth 20000 in
theorem gX9_takesDigitAt_J0_charAt_5068e : GoodIn wsX9_takesDigitAt (wsV RX9 60 RJ0 yJ0_charAt_5068e wsJ0_charAt_5068e) := goodIn_app (goodIn_of _ (by decide +kernel)) ggX9_takesDigitAt_J0_charAt_5068e
theorem dX9_takesDigitAt_0 : decode cX9_takesDigitAt 0 = .ok (.aload_n 0, 1) := by decide +kernel
theorem dX9_takesDigitAt_1 : decode cX9_takesDigitAt 1 = .ok (.getfield 47, 3) := by decide +kernel
theorem dX9_takesDigitAt_4 : decode cX9_takesDigitAt 4 = .ok (.iload_n 1, 1) := by decide +kernel
theorem dX9_takesDigitAt_5 : decode cX9_takesDigitAt 5 = .ok (.invokevirtual 60, 3) := by decide +kernel
theorem dX9_takesDigitAt_8 : decode cX9_takesDigitAt 8 = .ok (.bipush 35, 2) := by decide +kernel
theorem dX9_takesDigitAt_10 : decode cX9_takesDigitAt 10 = .ok (.if_icmp .ne 7, 3) := by decide +kernel
theorem dX9_takesDigitAt_13 : decode cX9_takesDigitAt 13 = .ok (.iconst 1, 1) := by decide +kernel
theorem dX9_takesDigitAt_14 : decode cX9_takesDigitAt 14 = .ok (.goto 4, 3) := by decide +kernel
theorem dX9_takesDigitAt_17 : decode cX9_takesDigitAt 17 = .ok (.iconst 0, 1) := by decide +kernel
theorem dX9_takesDigitAt_18 : decode cX9_takesDigitAt 18 = .ok (.ireturn, 1) := by decide +kernel
set_option maxRecDepth 20000 in
theorem ggX9_allows_X9_takesDigitAt : GoodIn wsX9_allows wsX9_takesDigitAt := goodIn_r _ [6, 1, 7, 8, 9, 10, 11, 12, 13, 14, 15, 16, 17, 18, 19, 20, 21, 22, 23, 24, 25, 26, 27, 28, 29, 30, 31, 32, 33, 34, 35, 36, 37, 38, 39, 40, 41, 42, 43, 44, 45, 46, 47, 51, 52] (by decide +kernel) (by decide +kernel)
set_option maxRecDepth 20000 in
theorem gX9_allows_X9_takesDigitAt : GoodIn wsX9_allows (wsV RX9 64 RX9 yX9_takesDigitAt wsX9_takesDigitAt) := goodIn_app (goodIn_of _ (by decide +kernel)) ggX9_allows_X9_takesDigitAt
set_option maxRecDepth 20000 in
theorem ggX9_allows_X9_isDigit : GoodIn wsX9_allows wsX9_isDigit := goodIn_r _ [50] (by decide +kernel) (by decide +kernel)
set_option maxRecDepth 20000 in
theorem gX9_allows_X9_isDigit : GoodIn wsX9_allows (va_wsS RX9 68 yX9_isDigit wsX9_isDigit) := goodIn_app (goodIn_of _ (by decide +kernel)) ggX9_allows_X9_isDigit
set_option maxRecDepth 20000 in
theorem ggX9_allows_J0_charAt_5068e : GoodIn wsX9_allows wsJ0_charAt_5068e := goodIn_r _ [11, 12, 13, 14, 15, 10, 16, 17, 18, 19, 20, 21, 22, 23, 24, 25, 26, 27, 28, 29, 30, 31, 32, 33, 34, 35, 36, 37, 38, 39, 40, 41, 42, 43, 44, 45, 46, 47, 51, 52] (by decide +kernel) (by decide +kernel)
set_option maxRecDepth 20000 in
theorem gX9_allows_J0_charAt_5068e : GoodIn wsX9_allows (wsV RX9 60 RJ0 yJ0_charAt_5068e wsJ0_charAt_5068e) := goodIn_app (goodIn_of _ (by decide +kernel)) ggX9_allows_J0_charAt_5068e
theorem dX9_allows_0 : decode cX9_allows 0 = .ok (.aload_n 0, 1) := by decide +kernel
theorem dX9_allows_1 : decode cX9_allows 1 = .ok (.iload_n 1, 1) := by decide +kernel
theorem dX9_allows_2 : decode cX9_allows 2 = .ok (.invokevirtual 64, 3) := by decide +kernel
theorem dX9_allows_5 : decode cX9_allows 5 = .ok (.ifCond .eq 10, 3) := by decide +kernel
theorem dX9_allows_8 : decode cX9_allows 8 = .ok (.iload_n 2, 1) := by decide +kernel
theorem dX9_allows_9 : decode cX9_allows 9 = .ok (.invokestatic 68, 3) := by decide +kernel
theorem dX9_allows_12 : decode cX9_allows 12 = .ok (.goto 20, 3) := by decide +kernel
theorem dX9_allows_15 : decode cX9_allows 15 = .ok (.aload_n 0, 1) := by decide +kernel
theorem dX9_allows_16 : decode cX9_allows 16 = .ok (.getfield 47, 3) := by decide +kernel
theorem dX9_allows_19 : decode cX9_allows 19 = .ok (.iload_n 1, 1) := by decide +kernel
theorem dX9_allows_20 : decode cX9_allows 20 = .ok (.invokevirtual 60, 3) := by decide +kernel
theorem dX9_allows_23 : decode cX9_allows 23 = .ok (.iload_n 2, 1) := by decide +kernel
theorem dX9_allows_24 : decode cX9_allows 24 = .ok (.if_icmp .ne 7, 3) := by decide +kernel
theorem dX9_allows_27 : decode cX9_allows 27 = .ok (.iconst 1, 1) := by decide +kernel
theorem dX9_allows_28 : decode cX9_allows 28 = .ok (.goto 4, 3) := by decide +kernel
theorem dX9_allows_31 : decode cX9_allows 31 = .ok (.iconst 0, 1) := by decide +kernel
theorem dX9_allows_32 : decode cX9_allows 32 = .ok (.ireturn, 1) := by decide +kernel
theorem dX9_isDigit_0 : decode cX9_isDigit 0 = .ok (.iload_n 0, 1) := by decide +kernel
theorem dX9_isDigit_1 : decode cX9_isDigit 1 = .ok (.bipush 48, 2) := by decide +kernel
theorem dX9_isDigit_3 : decode cX9_isDigit 3 = .ok (.if_icmp .lt 13, 3) := by decide +kernel
theorem dX9_isDigit_6 : decode cX9_isDigit 6 = .ok (.iload_n 0, 1) := by decide +kernel
theorem dX9_isDigit_7 : decode cX9_isDigit 7 = .ok (.bipush 57, 2) := by decide +kernel
theorem dX9_isDigit_9 : decode cX9_isDigit 9 = .ok (.if_icmp .gt 7, 3) := by decide +kernel
theorem dX9_isDigit_12 : decode cX9_isDigit 12 = .ok (.iconst 1, 1) := by decide +kernel
theorem dX9_isDigit_13 : decode cX9_isDigit 13 = .ok (.goto 4, 3) := by decide +kernel
theorem dX9_isDigit_16 : decode cX9_isDigit 16 = .ok (.iconst 0, 1) := by decide +kernel
theorem dX9_isDigit_17 : decode cX9_isDigit 17 = .ok (.ireturn, 1) := by decide +kernel
set_option maxRecDepth 20000 in
theorem ggX10_init_X7_init : GoodIn wsX10_init wsX7_init := goodIn_ca (goodIn_r _ [30, 31, 2, 3, 32, 33, 34, 35, 36, 37, 38, 39, 40, 41, 42, 43, 44, 94, 95, 96, 97, 98, 99, 100, 101, 102, 103, 104, 105, 106, 107, 108] (by decide +kernel) (by decide +kernel)) (goodIn_sub (fun _ h => List.mem_cons_of_mem _ (List.mem_append_right _ h)) (by decide +kernel))
set_option maxRecDepth 20000 in
theorem gX10_init_X7_init : GoodIn wsX10_init (wsX7_init) := ggX10_init_X7_init
set_option maxRecDepth 20000 in
theorem ggX10_init_X8_init : GoodIn wsX10_init wsX8_init := goodIn_r _ [47, 48, 2, 3, 32, 49, 50, 51, 52, 35, 53, 118, 119, 120, 121, 122] (by decide +kernel) (by decide +kernel)
set_option maxRecDepth 20000 in
theorem gX10_init_X8_init : GoodIn wsX10_init (wsX8_init) := ggX10_init_X8_init
set_option maxRecDepth 20000 in
theorem ggX10_init_X4_init : GoodIn wsX10_init wsX4_init := goodIn_r _ [56, 57, 2, 3, 58, 59, 60, 61, 123, 124, 125] (by decide +kernel) (by decide +kernel)
set_option maxRecDepth 20000 in
theorem gX10_init_X4_init : GoodIn wsX10_init (wsX4_init) := ggX10_init_X4_init
set_option maxRecDepth 20000 in
theorem ggX10_init_X6_init : GoodIn wsX10_init wsX6_init := goodIn_r _ [64, 65, 2, 3, 66, 67, 68, 69, 70, 71, 72, 73, 74, 75, 76, 77, 78, 79, 80, 81, 82, 83, 84, 85, 86, 87, 126, 127, 128, 131, 132, 133] (by decide +kernel) (by decide +kernel)
set_option maxRecDepth 20000 in
theorem gX10_init_X6_init : GoodIn wsX10_init (wsX6_init) := ggX10_init_X6_init
set_option maxRecDepth 20000 in
theorem ggX10_init_X5_init : GoodIn wsX10_init wsX5_init := goodIn_r _ [90, 91, 2, 3, 66, 92, 93, 129, 130] (by decide +kernel) (by decide +kernel)
set_option maxRecDepth 20000 in
theorem gX10_init_X5_init : GoodIn wsX10_init (wsX5_init) := ggX10_init_X5_init
theorem dX10_init_0 : decode cX10_init 0 = .ok (.aload_n 0, 1) := by decide +kernel
theorem dX10_init_1 : decode cX10_init 1 = .ok (.invokespecial 1, 3) := by decide +kernel
theorem dX10_init_4 : decode cX10_init 4 = .ok (.aload_n 0, 1) := by decide +kernel
theorem dX10_init_5 : decode cX10_init 5 = .ok (.new 7, 3) := by decide +kernel
theorem dX10_init_8 : decode cX10_init 8 = .ok (.dup, 1) := by decide +kernel
theorem dX10_init_9 : decode cX10_init 9 = .ok (.invokespecial 9, 3) := by decide +kernel
theorem dX10_init_12 : decode cX10_init 12 = .ok (.putfield 10, 3) := by decide +kernel
theorem dX10_init_15 : decode cX10_init 15 = .ok (.aload_n 0, 1) := by decide +kernel
theorem dX10_init_16 : decode cX10_init 16 = .ok (.new 7, 3) := by decide +kernel
theorem dX10_init_19 : decode cX10_init 19 = .ok (.dup, 1) := by decide +kernel
theorem dX10_init_20 : decode cX10_init 20 = .ok (.invokespecial 9, 3) := by decide +kernel
theorem dX10_init_23 : decode cX10_init 23 = .ok (.putfield 16, 3) := by decide +kernel
theorem dX10_init_26 : decode cX10_init 26 = .ok (.aload_n 0, 1) := by decide +kernel
theorem dX10_init_27 : decode cX10_init 27 = .ok (.new 19, 3) := by decide +kernel
theorem dX10_init_30 : decode cX10_init 30 = .ok (.dup, 1) := by decide +kernel
theorem dX10_init_31 : decode cX10_init 31 = .ok (.invokespecial 21, 3) := by decide +kernel
theorem dX10_init_34 : decode cX10_init 34 = .ok (.putfield 22, 3) := by decide +kernel
theorem dX10_init_37 : decode cX10_init 37 = .ok (.aload_n 0, 1) := by decide +kernel
theorem dX10_init_38 : decode cX10_init 38 = .ok (.new 26, 3) := by decide +kernel
theorem dX10_init_41 : decode cX10_init 41 = .ok (.dup, 1) := by decide +kernel
theorem dX10_init_42 : decode cX10_init 42 = .ok (.invokespecial 28, 3) := by decide +kernel
theorem dX10_init_45 : decode cX10_init 45 = .ok (.putfield 29, 3) := by decide +kernel
theorem dX10_init_48 : decode cX10_init 48 = .ok (.aload_n 0, 1) := by decide +kernel
theorem dX10_init_49 : decode cX10_init 49 = .ok (.new 33, 3) := by decide +kernel
theorem dX10_init_52 : decode cX10_init 52 = .ok (.dup, 1) := by decide +kernel
theorem dX10_init_53 : decode cX10_init 53 = .ok (.invokespecial 35, 3) := by decide +kernel
theorem dX10_init_56 : decode cX10_init 56 = .ok (.putfield 36, 3) := by decide +kernel
theorem dX10_init_59 : decode cX10_init 59 = .ok (.aload_n 0, 1) := by decide +kernel
theorem dX10_init_60 : decode cX10_init 60 = .ok (.new 40, 3) := by decide +kernel
theorem dX10_init_63 : decode cX10_init 63 = .ok (.dup, 1) := by decide +kernel
theorem dX10_init_64 : decode cX10_init 64 = .ok (.invokespecial 42, 3) := by decide +kernel
theorem dX10_init_67 : decode cX10_init 67 = .ok (.putfield 43, 3) := by decide +kernel
theorem dX10_init_70 : decode cX10_init 70 = .ok (.aload_n 0, 1) := by decide +kernel
theorem dX10_init_71 : decode cX10_init 71 = .ok (.aconst_null, 1) := by decide +kernel
theorem dX10_init_72 : decode cX10_init 72 = .ok (.putfield 47, 3) := by decide +kernel
theorem dX10_init_75 : decode cX10_init 75 = .ok (.aload_n 0, 1) := by decide +kernel
theorem dX10_init_76 : decode cX10_init 76 = .ok (.iconst (-1), 1) := by decide +kernel
theorem dX10_init_77 : decode cX10_init 77 = .ok (.putfield 50, 3) := by decide +kernel
theorem dX10_init_80 : decode cX10_init 80 = .ok (.aload_n 0, 1) := by decide +kernel
theorem dX10_init_81 : decode cX10_init 81 = .ok (.iconst (-1), 1) := by decide +kernel
theorem dX10_init_82 : decode cX10_init 82 = .ok (.putfield 54, 3) := by decide +kernel
theorem dX10_init_85 : decode cX10_init 85 = .ok (.return_, 1) := by decide +kernel
set_option maxRecDepth 20000 in
theorem ggX10_setStone_X7_stoneFault : GoodIn wsX10_setStone wsX7_stoneFault := goodIn_r _ [7, 8, 9, 10, 11, 12, 13, 14, 15, 16, 17, 18, 19, 20, 21, 6, 22] (by decide +kernel) (by decide +kernel)
set_option maxRecDepth 20000 in
theorem gX10_setStone_X7_stoneFault : GoodIn wsX10_setStone (wsV RX10 57 RX7 yX7_stoneFault wsX7_stoneFault) := goodIn_app (goodIn_of _ (by decide +kernel)) ggX10_setStone_X7_stoneFault
set_option maxRecDepth 20000 in
theorem ggX10_setStone_X10_refuse : GoodIn wsX10_setStone wsX10_refuse := goodIn_ca (goodIn_ca (goodIn_ca (goodIn_ca (goodIn_ca (goodIn_ca (goodIn_r _ [26, 27, 28, 29, 30, 31, 32, 33, 34, 35, 36, 37, 38, 39, 40, 41, 42, 43, 44] (by decide +kernel) (by decide +kernel)) (goodIn_sub (fun _ h => List.mem_cons_of_mem _ (List.mem_append_left _ (List.mem_append_left _ (List.mem_append_left _ (List.mem_append_left _ (List.mem_append_left _ (List.mem_append_right _ h))))))) (by decide +kernel))) (goodIn_sub (fun _ h => List.mem_cons_of_mem _ (List.mem_append_left _ (List.mem_append_left _ (List.mem_append_left _ (List.mem_append_left _ (List.mem_append_right _ h)))))) (by decide +kernel))) (goodIn_sub (fun _ h => List.mem_cons_of_mem _ (List.mem_append_left _ (List.mem_append_left _ (List.mem_append_left _ (List.mem_append_right _ h))))) (by decide +kernel))) (goodIn_sub (fun _ h => List.mem_cons_of_mem _ (List.mem_append_left _ (List.mem_append_left _ (List.mem_append_right _ h)))) (by decide +kernel))) (goodIn_sub (fun _ h => List.mem_cons_of_mem _ (List.mem_append_left _ (List.mem_append_right _ h))) (by decide +kernel))) (goodIn_sub (fun _ h => List.mem_cons_of_mem _ (List.mem_append_right _ h)) (by decide +kernel))
set_option maxRecDepth 20000 in
theorem gX10_setStone_X10_refuse : GoodIn wsX10_setStone (va_wsS RX10 61 yX10_refuse wsX10_refuse) := goodIn_app (goodIn_of _ (by decide +kernel)) ggX10_setStone_X10_refuse
set_option maxRecDepth 20000 in
theorem ggX10_setStone_X4_record : GoodIn wsX10_setStone wsX4_record := goodIn_ca (goodIn_r _ [49, 50, 51, 52, 53, 6, 54, 55, 56, 57, 58, 59, 60, 61, 62, 63, 64, 65, 66, 67, 68, 69, 70, 71, 72, 73, 74, 75, 76, 77, 78, 79, 80, 81, 82, 83, 84, 85, 86, 87, 88, 89, 106, 107, 108, 109, 110, 111, 112, 113, 114, 115, 116, 117, 118, 119, 120, 121, 122, 123] (by decide +kernel) (by decide +kernel)) (goodIn_sub (fun _ h => List.mem_cons_of_mem _ (List.mem_append_left _ (List.mem_append_left _ (List.mem_append_left _ (List.mem_append_left _ (List.mem_append_left _ (List.mem_append_right _ h))))))) (by decide +kernel))
set_option maxRecDepth 20000 in
theorem gX10_setStone_X4_record : GoodIn wsX10_setStone (wsV RX10 65 RX4 yX4_record wsX4_record) := goodIn_app (goodIn_of _ (by decide +kernel)) ggX10_setStone_X4_record
set_option maxRecDepth 20000 in
theorem ggX10_setStone_X7_changeStone : GoodIn wsX10_setStone wsX7_changeStone := goodIn_ca (goodIn_r _ [93, 67, 94, 95, 13, 96, 109, 110, 111, 112, 113, 114, 115, 116, 117, 118, 119, 120, 121, 122, 123] (by decide +kernel) (by decide +kernel)) (goodIn_sub (fun _ h => List.mem_cons_of_mem _ (List.mem_append_left _ (List.mem_append_left _ (List.mem_append_left _ (List.mem_append_left _ (List.mem_append_left _ (List.mem_append_right _ h))))))) (by decide +kernel))
set_option maxRecDepth 20000 in
theorem gX10_setStone_X7_changeStone : GoodIn wsX10_setStone (wsV RX10 69 RX7 yX7_changeStone wsX7_changeStone) := goodIn_app (goodIn_of _ (by decide +kernel)) ggX10_setStone_X7_changeStone
theorem dX10_setStone_0 : decode cX10_setStone 0 = .ok (.aload_n 0, 1) := by decide +kernel
theorem dX10_setStone_1 : decode cX10_setStone 1 = .ok (.getfield 10, 3) := by decide +kernel
theorem dX10_setStone_4 : decode cX10_setStone 4 = .ok (.iload_n 1, 1) := by decide +kernel
theorem dX10_setStone_5 : decode cX10_setStone 5 = .ok (.iload_n 2, 1) := by decide +kernel
theorem dX10_setStone_6 : decode cX10_setStone 6 = .ok (.iload_n 3, 1) := by decide +kernel
theorem dX10_setStone_7 : decode cX10_setStone 7 = .ok (.invokevirtual 57, 3) := by decide +kernel
theorem dX10_setStone_10 : decode cX10_setStone 10 = .ok (.invokestatic 61, 3) := by decide +kernel
theorem dX10_setStone_13 : decode cX10_setStone 13 = .ok (.aload_n 0, 1) := by decide +kernel
theorem dX10_setStone_14 : decode cX10_setStone 14 = .ok (.getfield 29, 3) := by decide +kernel
theorem dX10_setStone_17 : decode cX10_setStone 17 = .ok (.aload_n 0, 1) := by decide +kernel
theorem dX10_setStone_18 : decode cX10_setStone 18 = .ok (.getfield 10, 3) := by decide +kernel
theorem dX10_setStone_21 : decode cX10_setStone 21 = .ok (.invokevirtual 65, 3) := by decide +kernel
theorem dX10_setStone_24 : decode cX10_setStone 24 = .ok (.aload_n 0, 1) := by decide +kernel
theorem dX10_setStone_25 : decode cX10_setStone 25 = .ok (.getfield 10, 3) := by decide +kernel
theorem dX10_setStone_28 : decode cX10_setStone 28 = .ok (.iload_n 1, 1) := by decide +kernel
theorem dX10_setStone_29 : decode cX10_setStone 29 = .ok (.iload_n 2, 1) := by decide +kernel
theorem dX10_setStone_30 : decode cX10_setStone 30 = .ok (.iload_n 3, 1) := by decide +kernel
theorem dX10_setStone_31 : decode cX10_setStone 31 = .ok (.invokevirtual 69, 3) := by decide +kernel
theorem dX10_setStone_34 : decode cX10_setStone 34 = .ok (.ireturn, 1) := by decide +kernel
set_option maxRecDepth 20000 in
theorem ggX10_cut_X7_cutFault : GoodIn wsX10_cut wsX7_cutFault := goodIn_ca (goodIn_r _ [7, 8, 9, 10, 11, 12, 13, 14, 15, 16, 17, 18, 19, 20, 21, 22, 23, 24, 25, 26, 27, 28, 29, 30, 6, 31, 32, 33, 34, 35, 36, 37, 38, 39, 40, 41, 117, 118, 119, 120, 121, 122, 123, 124, 125, 126, 127, 128, 129, 130, 131] (by decide +kernel) (by decide +kernel)) (goodIn_sub (fun _ h => List.mem_cons_of_mem _ (List.mem_append_left _ (List.mem_append_left _ (List.mem_append_left _ (List.mem_append_left _ (List.mem_append_left _ (List.mem_append_right _ h))))))) (by decide +kernel))
set_option maxRecDepth 20000 in
theorem gX10_cut_X7_cutFault : GoodIn wsX10_cut (wsV RX10 73 RX7 yX7_cutFault wsX7_cutFault) := goodIn_app (goodIn_of _ (by decide +kernel)) ggX10_cut_X7_cutFault
set_option maxRecDepth 20000 in
theorem ggX10_cut_X10_refuse : GoodIn wsX10_cut wsX10_refuse := goodIn_ca (goodIn_ca (goodIn_ca (goodIn_ca (goodIn_ca (goodIn_ca (goodIn_r _ [45, 46, 47, 48, 49, 50, 51, 52, 53, 54, 55, 56, 57, 58, 59, 60, 61, 62, 63] (by decide +kernel) (by decide +kernel)) (goodIn_sub (fun _ h => List.mem_cons_of_mem _ (List.mem_append_left _ (List.mem_append_left _ (List.mem_append_left _ (List.mem_append_left _ (List.mem_append_left _ (List.mem_append_right _ h))))))) (by decide +kernel))) (goodIn_sub (fun _ h => List.mem_cons_of_mem _ (List.mem_append_left _ (List.mem_append_left _ (List.mem_append_left _ (List.mem_append_left _ (List.mem_append_right _ h)))))) (by decide +kernel))) (goodIn_sub (fun _ h => List.mem_cons_of_mem _ (List.mem_append_left _ (List.mem_append_left _ (List.mem_append_left _ (List.mem_append_right _ h))))) (by decide +kernel))) (goodIn_sub (fun _ h => List.mem_cons_of_mem _ (List.mem_append_left _ (List.mem_append_left _ (List.mem_append_right _ h)))) (by decide +kernel))) (goodIn_sub (fun _ h => List.mem_cons_of_mem _ (List.mem_append_left _ (List.mem_append_right _ h))) (by decide +kernel))) (goodIn_sub (fun _ h => List.mem_cons_of_mem _ (List.mem_append_right _ h)) (by decide +kernel))
set_option maxRecDepth 20000 in
theorem gX10_cut_X10_refuse : GoodIn wsX10_cut (va_wsS RX10 61 yX10_refuse wsX10_refuse) := goodIn_app (goodIn_of _ (by decide +kernel)) ggX10_cut_X10_refuse
set_option maxRecDepth 20000 in
theorem ggX10_cut_X4_record : GoodIn wsX10_cut wsX4_record := goodIn_ca (goodIn_r _ [68, 69, 70, 71, 72, 6, 73, 74, 75, 34, 76, 77, 78, 79, 80, 81, 82, 83, 11, 84, 85, 10, 12, 86, 87, 88, 89, 90, 14, 91, 92, 93, 94, 95, 96, 97, 98, 99, 100, 101, 102, 103, 132, 133, 134, 117, 118, 119, 120, 121, 122, 123, 124, 125, 126, 127, 128, 129, 130, 131] (by decide +kernel) (by decide +kernel)) (goodIn_sub (fun _ h => List.mem_cons_of_mem _ (List.mem_append_left _ (List.mem_append_left _ (List.mem_append_left _ (List.mem_append_left _ (List.mem_append_left _ (List.mem_append_right _ h))))))) (by decide +kernel))
set_option maxRecDepth 20000 in
theorem gX10_cut_X4_record : GoodIn wsX10_cut (wsV RX10 65 RX4 yX4_record wsX4_record) := goodIn_app (goodIn_of _ (by decide +kernel)) ggX10_cut_X4_record
set_option maxRecDepth 20000 in
theorem ggX10_cut_X7_cutCell : GoodIn wsX10_cut wsX7_cutCell := goodIn_ca (goodIn_r _ [107, 86, 12, 84, 101, 11, 25, 26, 18, 27, 117, 118, 119, 120, 121, 122, 123, 124, 125, 126, 127, 128, 129, 130, 131] (by decide +kernel) (by decide +kernel)) (goodIn_sub (fun _ h => List.mem_cons_of_mem _ (List.mem_append_left _ (List.mem_append_left _ (List.mem_append_left _ (List.mem_append_left _ (List.mem_append_left _ (List.mem_append_right _ h))))))) (by decide +kernel))
set_option maxRecDepth 20000 in
theorem gX10_cut_X7_cutCell : GoodIn wsX10_cut (wsV RX10 77 RX7 yX7_cutCell wsX7_cutCell) := goodIn_app (goodIn_of _ (by decide +kernel)) ggX10_cut_X7_cutCell
theorem dX10_cut_0 : decode cX10_cut 0 = .ok (.aload_n 0, 1) := by decide +kernel
theorem dX10_cut_1 : decode cX10_cut 1 = .ok (.getfield 10, 3) := by decide +kernel
theorem dX10_cut_4 : decode cX10_cut 4 = .ok (.iload_n 1, 1) := by decide +kernel
theorem dX10_cut_5 : decode cX10_cut 5 = .ok (.iload_n 2, 1) := by decide +kernel
theorem dX10_cut_6 : decode cX10_cut 6 = .ok (.invokevirtual 73, 3) := by decide +kernel
theorem dX10_cut_9 : decode cX10_cut 9 = .ok (.invokestatic 61, 3) := by decide +kernel
theorem dX10_cut_12 : decode cX10_cut 12 = .ok (.aload_n 0, 1) := by decide +kernel
theorem dX10_cut_13 : decode cX10_cut 13 = .ok (.getfield 29, 3) := by decide +kernel
theorem dX10_cut_16 : decode cX10_cut 16 = .ok (.aload_n 0, 1) := by decide +kernel
theorem dX10_cut_17 : decode cX10_cut 17 = .ok (.getfield 10, 3) := by decide +kernel
theorem dX10_cut_20 : decode cX10_cut 20 = .ok (.invokevirtual 65, 3) := by decide +kernel
theorem dX10_cut_23 : decode cX10_cut 23 = .ok (.aload_n 0, 1) := by decide +kernel
theorem dX10_cut_24 : decode cX10_cut 24 = .ok (.getfield 10, 3) := by decide +kernel
theorem dX10_cut_27 : decode cX10_cut 27 = .ok (.iload_n 1, 1) := by decide +kernel
theorem dX10_cut_28 : decode cX10_cut 28 = .ok (.iload_n 2, 1) := by decide +kernel
theorem dX10_cut_29 : decode cX10_cut 29 = .ok (.invokevirtual 77, 3) := by decide +kernel
theorem dX10_cut_32 : decode cX10_cut 32 = .ok (.ireturn, 1) := by decide +kernel
set_option maxRecDepth 20000 in
theorem ggX10_fill_X7_fillFault : GoodIn wsX10_fill wsX7_fillFault := goodIn_ca (goodIn_r _ [7, 8, 9, 10, 11, 12, 13, 14, 15, 16, 17, 18, 19, 20, 21, 22, 23, 24, 25, 26, 27, 28, 29, 30, 31, 6, 32, 33, 34, 35, 36, 37, 38, 39, 40, 41, 42, 117, 118, 119, 120, 121, 122, 123, 124, 125, 126, 127, 128, 129, 130, 131] (by decide +kernel) (by decide +kernel)) (goodIn_sub (fun _ h => List.mem_cons_of_mem _ (List.mem_append_left _ (List.mem_append_left _ (List.mem_append_left _ (List.mem_append_left _ (List.mem_append_left _ (List.mem_append_right _ h))))))) (by decide +kernel))
set_option maxRecDepth 20000 in
theorem gX10_fill_X7_fillFault : GoodIn wsX10_fill (wsV RX10 81 RX7 yX7_fillFault wsX7_fillFault) := goodIn_app (goodIn_of _ (by decide +kernel)) ggX10_fill_X7_fillFault
set_option maxRecDepth 20000 in
theorem ggX10_fill_X10_refuse : GoodIn wsX10_fill wsX10_refuse := goodIn_ca (goodIn_ca (goodIn_ca (goodIn_ca (goodIn_ca (goodIn_ca (goodIn_r _ [46, 47, 48, 49, 50, 51, 52, 53, 54, 55, 56, 57, 58, 59, 60, 61, 62, 63, 64] (by decide +kernel) (by decide +kernel)) (goodIn_sub (fun _ h => List.mem_cons_of_mem _ (List.mem_append_left _ (List.mem_append_left _ (List.mem_append_left _ (List.mem_append_left _ (List.mem_append_left _ (List.mem_append_right _ h))))))) (by decide +kernel))) (goodIn_sub (fun _ h => List.mem_cons_of_mem _ (List.mem_append_left _ (List.mem_append_left _ (List.mem_append_left _ (List.mem_append_left _ (List.mem_append_right _ h)))))) (by decide +kernel))) (goodIn_sub (fun _ h => List.mem_cons_of_mem _ (List.mem_append_left _ (List.mem_append_left _ (List.mem_append_left _ (List.mem_append_right _ h))))) (by decide +kernel))) (goodIn_sub (fun _ h => List.mem_cons_of_mem _ (List.mem_append_left _ (List.mem_append_left _ (List.mem_append_right _ h)))) (by decide +kernel))) (goodIn_sub (fun _ h => List.mem_cons_of_mem _ (List.mem_append_left _ (List.mem_append_right _ h))) (by decide +kernel))) (goodIn_sub (fun _ h => List.mem_cons_of_mem _ (List.mem_append_right _ h)) (by decide +kernel))
set_option maxRecDepth 20000 in
theorem gX10_fill_X10_refuse : GoodIn wsX10_fill (va_wsS RX10 61 yX10_refuse wsX10_refuse) := goodIn_app (goodIn_of _ (by decide +kernel)) ggX10_fill_X10_refuse
set_option maxRecDepth 20000 in
theorem ggX10_fill_X4_record : GoodIn wsX10_fill wsX4_record := goodIn_ca (goodIn_r _ [69, 70, 71, 72, 73, 6, 74, 75, 76, 35, 77, 78, 79, 80, 81, 82, 83, 84, 11, 85, 86, 10, 12, 87, 88, 89, 90, 91, 15, 13, 92, 93, 94, 95, 96, 97, 98, 99, 100, 101, 102, 103, 132, 133, 134, 117, 118, 119, 120, 121, 122, 123, 124, 125, 126, 127, 128, 129, 130, 131] (by decide +kernel) (by decide +kernel)) (goodIn_sub (fun _ h => List.mem_cons_of_mem _ (List.mem_append_left _ (List.mem_append_left _ (List.mem_append_left _ (List.mem_append_left _ (List.mem_append_left _ (List.mem_append_right _ h))))))) (by decide +kernel))
set_option maxRecDepth 20000 in
theorem gX10_fill_X4_record : GoodIn wsX10_fill (wsV RX10 65 RX4 yX4_record wsX4_record) := goodIn_app (goodIn_of _ (by decide +kernel)) ggX10_fill_X4_record
set_option maxRecDepth 20000 in
theorem ggX10_fill_X7_fillCell : GoodIn wsX10_fill wsX7_fillCell := goodIn_ca (goodIn_r _ [107, 13, 11, 26, 27, 19, 28, 117, 118, 119, 120, 121, 122, 123, 124, 125, 126, 127, 128, 129, 130, 131] (by decide +kernel) (by decide +kernel)) (goodIn_sub (fun _ h => List.mem_cons_of_mem _ (List.mem_append_left _ (List.mem_append_left _ (List.mem_append_left _ (List.mem_append_left _ (List.mem_append_left _ (List.mem_append_right _ h))))))) (by decide +kernel))
set_option maxRecDepth 20000 in
theorem gX10_fill_X7_fillCell : GoodIn wsX10_fill (wsV RX10 84 RX7 yX7_fillCell wsX7_fillCell) := goodIn_app (goodIn_of _ (by decide +kernel)) ggX10_fill_X7_fillCell
theorem dX10_fill_0 : decode cX10_fill 0 = .ok (.aload_n 0, 1) := by decide +kernel
theorem dX10_fill_1 : decode cX10_fill 1 = .ok (.getfield 10, 3) := by decide +kernel
theorem dX10_fill_4 : decode cX10_fill 4 = .ok (.iload_n 1, 1) := by decide +kernel
theorem dX10_fill_5 : decode cX10_fill 5 = .ok (.iload_n 2, 1) := by decide +kernel
theorem dX10_fill_6 : decode cX10_fill 6 = .ok (.invokevirtual 81, 3) := by decide +kernel
theorem dX10_fill_9 : decode cX10_fill 9 = .ok (.invokestatic 61, 3) := by decide +kernel
theorem dX10_fill_12 : decode cX10_fill 12 = .ok (.aload_n 0, 1) := by decide +kernel
theorem dX10_fill_13 : decode cX10_fill 13 = .ok (.getfield 29, 3) := by decide +kernel
theorem dX10_fill_16 : decode cX10_fill 16 = .ok (.aload_n 0, 1) := by decide +kernel
theorem dX10_fill_17 : decode cX10_fill 17 = .ok (.getfield 10, 3) := by decide +kernel
theorem dX10_fill_20 : decode cX10_fill 20 = .ok (.invokevirtual 65, 3) := by decide +kernel
theorem dX10_fill_23 : decode cX10_fill 23 = .ok (.aload_n 0, 1) := by decide +kernel
theorem dX10_fill_24 : decode cX10_fill 24 = .ok (.getfield 10, 3) := by decide +kernel
theorem dX10_fill_27 : decode cX10_fill 27 = .ok (.iload_n 1, 1) := by decide +kernel
theorem dX10_fill_28 : decode cX10_fill 28 = .ok (.iload_n 2, 1) := by decide +kernel
theorem dX10_fill_29 : decode cX10_fill 29 = .ok (.invokevirtual 84, 3) := by decide +kernel
theorem dX10_fill_32 : decode cX10_fill 32 = .ok (.ireturn, 1) := by decide +kernel
set_option maxRecDepth 20000 in
theorem ggX10_toggleLedge_X3_cellFault : GoodIn wsX10_toggleLedge wsX3_cellFault := goodIn_r _ [6, 7, 8, 9, 10, 5, 11] (by decide +kernel) (by decide +kernel)
set_option maxRecDepth 20000 in
theorem gX10_toggleLedge_X3_cellFault : GoodIn wsX10_toggleLedge (va_wsS RX10 87 yX3_cellFault wsX3_cellFault) := goodIn_app (goodIn_of _ (by decide +kernel)) ggX10_toggleLedge_X3_cellFault
set_option maxRecDepth 20000 in
theorem ggX10_toggleLedge_X10_refuse : GoodIn wsX10_toggleLedge wsX10_refuse := goodIn_ca (goodIn_ca (goodIn_ca (goodIn_ca (goodIn_ca (goodIn_ca (goodIn_r _ [15, 16, 17, 18, 19, 20, 21, 22, 23, 24, 25, 26, 27, 28, 29, 30, 31, 32, 33] (by decide +kernel) (by decide +kernel)) (goodIn_sub (fun _ h => List.mem_cons_of_mem _ (List.mem_append_left _ (List.mem_append_left _ (List.mem_append_left _ (List.mem_append_left _ (List.mem_append_left _ (List.mem_append_right _ h))))))) (by decide +kernel))) (goodIn_sub (fun _ h => List.mem_cons_of_mem _ (List.mem_append_left _ (List.mem_append_left _ (List.mem_append_left _ (List.mem_append_left _ (List.mem_append_right _ h)))))) (by decide +kernel))) (goodIn_sub (fun _ h => List.mem_cons_of_mem _ (List.mem_append_left _ (List.mem_append_left _ (List.mem_append_left _ (List.mem_append_right _ h))))) (by decide +kernel))) (goodIn_sub (fun _ h => List.mem_cons_of_mem _ (List.mem_append_left _ (List.mem_append_left _ (List.mem_append_right _ h)))) (by decide +kernel))) (goodIn_sub (fun _ h => List.mem_cons_of_mem _ (List.mem_append_left _ (List.mem_append_right _ h))) (by decide +kernel))) (goodIn_sub (fun _ h => List.mem_cons_of_mem _ (List.mem_append_right _ h)) (by decide +kernel))
set_option maxRecDepth 20000 in
theorem gX10_toggleLedge_X10_refuse : GoodIn wsX10_toggleLedge (va_wsS RX10 61 yX10_refuse wsX10_refuse) := goodIn_app (goodIn_of _ (by decide +kernel)) ggX10_toggleLedge_X10_refuse
set_option maxRecDepth 20000 in
theorem ggX10_toggleLedge_X4_record : GoodIn wsX10_toggleLedge wsX4_record := goodIn_ca (goodIn_r _ [38, 39, 40, 41, 42, 43, 44, 45, 46, 47, 48, 49, 50, 51, 52, 53, 54, 55, 56, 57, 58, 59, 60, 61, 62, 63, 64, 65, 66, 67, 68, 69, 70, 71, 72, 73, 74, 75, 76, 77, 78, 79, 96, 97, 98, 99, 100, 101, 102, 103, 104, 105, 106, 107, 108, 109, 110, 111, 112, 113] (by decide +kernel) (by decide +kernel)) (goodIn_sub (fun _ h => List.mem_cons_of_mem _ (List.mem_append_left _ (List.mem_append_left _ (List.mem_append_left _ (List.mem_append_left _ (List.mem_append_left _ (List.mem_append_right _ h))))))) (by decide +kernel))
set_option maxRecDepth 20000 in
theorem gX10_toggleLedge_X4_record : GoodIn wsX10_toggleLedge (wsV RX10 65 RX4 yX4_record wsX4_record) := goodIn_app (goodIn_of _ (by decide +kernel)) ggX10_toggleLedge_X4_record
set_option maxRecDepth 20000 in
theorem ggX10_toggleLedge_X7_switchLedge : GoodIn wsX10_toggleLedge wsX7_switchLedge := goodIn_ca (goodIn_r _ [83, 59, 84, 85, 5, 86, 99, 100, 101, 102, 103, 104, 105, 106, 107, 108, 109, 110, 111, 112, 113] (by decide +kernel) (by decide +kernel)) (goodIn_sub (fun _ h => List.mem_cons_of_mem _ (List.mem_append_left _ (List.mem_append_left _ (List.mem_append_left _ (List.mem_append_left _ (List.mem_append_left _ (List.mem_append_right _ h))))))) (by decide +kernel))
set_option maxRecDepth 20000 in
theorem gX10_toggleLedge_X7_switchLedge : GoodIn wsX10_toggleLedge (wsV RX10 92 RX7 yX7_switchLedge wsX7_switchLedge) := goodIn_app (goodIn_of _ (by decide +kernel)) ggX10_toggleLedge_X7_switchLedge
theorem dX10_toggleLedge_0 : decode cX10_toggleLedge 0 = .ok (.iload_n 1, 1) := by decide +kernel
theorem dX10_toggleLedge_1 : decode cX10_toggleLedge 1 = .ok (.iload_n 2, 1) := by decide +kernel
theorem dX10_toggleLedge_2 : decode cX10_toggleLedge 2 = .ok (.invokestatic 87, 3) := by decide +kernel
theorem dX10_toggleLedge_5 : decode cX10_toggleLedge 5 = .ok (.invokestatic 61, 3) := by decide +kernel
theorem dX10_toggleLedge_8 : decode cX10_toggleLedge 8 = .ok (.aload_n 0, 1) := by decide +kernel
theorem dX10_toggleLedge_9 : decode cX10_toggleLedge 9 = .ok (.getfield 29, 3) := by decide +kernel
theorem dX10_toggleLedge_12 : decode cX10_toggleLedge 12 = .ok (.aload_n 0, 1) := by decide +kernel
theorem dX10_toggleLedge_13 : decode cX10_toggleLedge 13 = .ok (.getfield 10, 3) := by decide +kernel
theorem dX10_toggleLedge_16 : decode cX10_toggleLedge 16 = .ok (.invokevirtual 65, 3) := by decide +kernel
theorem dX10_toggleLedge_19 : decode cX10_toggleLedge 19 = .ok (.aload_n 0, 1) := by decide +kernel
theorem dX10_toggleLedge_20 : decode cX10_toggleLedge 20 = .ok (.getfield 10, 3) := by decide +kernel
theorem dX10_toggleLedge_23 : decode cX10_toggleLedge 23 = .ok (.iload_n 1, 1) := by decide +kernel
theorem dX10_toggleLedge_24 : decode cX10_toggleLedge 24 = .ok (.iload_n 2, 1) := by decide +kernel
theorem dX10_toggleLedge_25 : decode cX10_toggleLedge 25 = .ok (.invokevirtual 92, 3) := by decide +kernel
theorem dX10_toggleLedge_28 : decode cX10_toggleLedge 28 = .ok (.ireturn, 1) := by decide +kernel
set_option maxRecDepth 20000 in
theorem ggX10_setStepLimit_X7_limitFault : GoodIn wsX10_setStepLimit wsX7_limitFault := goodIn_ca (goodIn_r _ [7, 8, 9, 10, 11, 12, 13, 6, 14, 15, 16, 17, 18, 19, 20, 21, 22, 23, 24, 25, 26, 27, 28, 29, 30, 109, 110, 111, 112, 113, 114, 115, 116, 117, 118, 119, 120, 121, 122, 123] (by decide +kernel) (by decide +kernel)) (goodIn_sub (fun _ h => List.mem_cons_of_mem _ (List.mem_append_left _ (List.mem_append_left _ (List.mem_append_left _ (List.mem_append_left _ (List.mem_append_left _ (List.mem_append_right _ h))))))) (by decide +kernel))
set_option maxRecDepth 20000 in
theorem gX10_setStepLimit_X7_limitFault : GoodIn wsX10_setStepLimit (wsV RX10 96 RX7 yX7_limitFault wsX7_limitFault) := goodIn_app (goodIn_of _ (by decide +kernel)) ggX10_setStepLimit_X7_limitFault
set_option maxRecDepth 20000 in
theorem ggX10_setStepLimit_X10_refuse : GoodIn wsX10_setStepLimit wsX10_refuse := goodIn_ca (goodIn_ca (goodIn_ca (goodIn_ca (goodIn_ca (goodIn_ca (goodIn_r _ [34, 35, 36, 37, 38, 39, 40, 41, 42, 43, 44, 45, 46, 47, 48, 49, 50, 51, 52] (by decide +kernel) (by decide +kernel)) (goodIn_sub (fun _ h => List.mem_cons_of_mem _ (List.mem_append_left _ (List.mem_append_left _ (List.mem_append_left _ (List.mem_append_left _ (List.mem_append_left _ (List.mem_append_right _ h))))))) (by decide +kernel))) (goodIn_sub (fun _ h => List.mem_cons_of_mem _ (List.mem_append_left _ (List.mem_append_left _ (List.mem_append_left _ (List.mem_append_left _ (List.mem_append_right _ h)))))) (by decide +kernel))) (goodIn_sub (fun _ h => List.mem_cons_of_mem _ (List.mem_append_left _ (List.mem_append_left _ (List.mem_append_left _ (List.mem_append_right _ h))))) (by decide +kernel))) (goodIn_sub (fun _ h => List.mem_cons_of_mem _ (List.mem_append_left _ (List.mem_append_left _ (List.mem_append_right _ h)))) (by decide +kernel))) (goodIn_sub (fun _ h => List.mem_cons_of_mem _ (List.mem_append_left _ (List.mem_append_right _ h))) (by decide +kernel))) (goodIn_sub (fun _ h => List.mem_cons_of_mem _ (List.mem_append_right _ h)) (by decide +kernel))
set_option maxRecDepth 20000 in
theorem gX10_setStepLimit_X10_refuse : GoodIn wsX10_setStepLimit (va_wsS RX10 61 yX10_refuse wsX10_refuse) := goodIn_app (goodIn_of _ (by decide +kernel)) ggX10_setStepLimit_X10_refuse
set_option maxRecDepth 20000 in
theorem ggX10_setStepLimit_X4_record : GoodIn wsX10_setStepLimit wsX4_record := goodIn_ca (goodIn_r _ [57, 58, 59, 60, 61, 6, 62, 63, 64, 22, 65, 66, 67, 68, 69, 70, 71, 72, 15, 73, 74, 75, 76, 77, 78, 79, 80, 81, 82, 83, 84, 85, 86, 87, 88, 89, 90, 91, 92, 93, 94, 95, 124, 125, 126, 109, 110, 111, 112, 113, 114, 115, 116, 117, 118, 119, 120, 121, 122, 123] (by decide +kernel) (by decide +kernel)) (goodIn_sub (fun _ h => List.mem_cons_of_mem _ (List.mem_append_left _ (List.mem_append_left _ (List.mem_append_left _ (List.mem_append_left _ (List.mem_append_left _ (List.mem_append_right _ h))))))) (by decide +kernel))
set_option maxRecDepth 20000 in
theorem gX10_setStepLimit_X4_record : GoodIn wsX10_setStepLimit (wsV RX10 65 RX4 yX4_record wsX4_record) := goodIn_app (goodIn_of _ (by decide +kernel)) ggX10_setStepLimit_X4_record
set_option maxRecDepth 20000 in
theorem ggX10_setStepLimit_X7_changeLimit : GoodIn wsX10_setStepLimit wsX7_changeLimit := goodIn_r _ [99, 82, 109, 110, 111, 112, 113, 114, 115, 116, 117, 118, 119, 120, 121, 122, 123] (by decide +kernel) (by decide +kernel)
set_option maxRecDepth 20000 in
theorem gX10_setStepLimit_X7_changeLimit : GoodIn wsX10_setStepLimit (wsV RX10 100 RX7 yX7_changeLimit wsX7_changeLimit) := goodIn_app (goodIn_of _ (by decide +kernel)) ggX10_setStepLimit_X7_changeLimit
theorem dX10_setStepLimit_0 : decode cX10_setStepLimit 0 = .ok (.aload_n 0, 1) := by decide +kernel
theorem dX10_setStepLimit_1 : decode cX10_setStepLimit 1 = .ok (.getfield 10, 3) := by decide +kernel
theorem dX10_setStepLimit_4 : decode cX10_setStepLimit 4 = .ok (.iload_n 1, 1) := by decide +kernel
theorem dX10_setStepLimit_5 : decode cX10_setStepLimit 5 = .ok (.invokevirtual 96, 3) := by decide +kernel
theorem dX10_setStepLimit_8 : decode cX10_setStepLimit 8 = .ok (.invokestatic 61, 3) := by decide +kernel
theorem dX10_setStepLimit_11 : decode cX10_setStepLimit 11 = .ok (.aload_n 0, 1) := by decide +kernel
theorem dX10_setStepLimit_12 : decode cX10_setStepLimit 12 = .ok (.getfield 29, 3) := by decide +kernel
theorem dX10_setStepLimit_15 : decode cX10_setStepLimit 15 = .ok (.aload_n 0, 1) := by decide +kernel
theorem dX10_setStepLimit_16 : decode cX10_setStepLimit 16 = .ok (.getfield 10, 3) := by decide +kernel
theorem dX10_setStepLimit_19 : decode cX10_setStepLimit 19 = .ok (.invokevirtual 65, 3) := by decide +kernel
theorem dX10_setStepLimit_22 : decode cX10_setStepLimit 22 = .ok (.aload_n 0, 1) := by decide +kernel
theorem dX10_setStepLimit_23 : decode cX10_setStepLimit 23 = .ok (.getfield 10, 3) := by decide +kernel
theorem dX10_setStepLimit_26 : decode cX10_setStepLimit 26 = .ok (.iload_n 1, 1) := by decide +kernel
theorem dX10_setStepLimit_27 : decode cX10_setStepLimit 27 = .ok (.invokevirtual 100, 3) := by decide +kernel
theorem dX10_setStepLimit_30 : decode cX10_setStepLimit 30 = .ok (.ireturn, 1) := by decide +kernel
set_option maxRecDepth 20000 in
theorem ggX10_addWinch_X7_winchFault : GoodIn wsX10_addWinch wsX7_winchFault := goodIn_ca (goodIn_r _ [7, 8, 9, 10, 11, 12, 13, 14, 15, 16, 17, 18, 19, 20, 21, 22, 23, 24, 25, 26, 27, 6, 28, 29, 108, 109, 110, 111, 112, 113, 114, 115, 116, 117, 118, 119, 120, 121, 122] (by decide +kernel) (by decide +kernel)) (goodIn_sub (fun _ h => List.mem_cons_of_mem _ (List.mem_append_left _ (List.mem_append_left _ (List.mem_append_left _ (List.mem_append_left _ (List.mem_append_left _ (List.mem_append_right _ h))))))) (by decide +kernel))
set_option maxRecDepth 20000 in
theorem gX10_addWinch_X7_winchFault : GoodIn wsX10_addWinch (wsV RX10 104 RX7 yX7_winchFault wsX7_winchFault) := goodIn_app (goodIn_of _ (by decide +kernel)) ggX10_addWinch_X7_winchFault
set_option maxRecDepth 20000 in
theorem ggX10_addWinch_X10_refuse : GoodIn wsX10_addWinch wsX10_refuse := goodIn_ca (goodIn_ca (goodIn_ca (goodIn_ca (goodIn_ca (goodIn_ca (goodIn_r _ [33, 34, 35, 36, 37, 38, 39, 40, 41, 42, 43, 44, 45, 46, 47, 48, 49, 50, 51] (by decide +kernel) (by decide +kernel)) (goodIn_sub (fun _ h => List.mem_cons_of_mem _ (List.mem_append_left _ (List.mem_append_left _ (List.mem_append_left _ (List.mem_append_left _ (List.mem_append_left _ (List.mem_append_right _ h))))))) (by decide +kernel))) (goodIn_sub (fun _ h => List.mem_cons_of_mem _ (List.mem_append_left _ (List.mem_append_left _ (List.mem_append_left _ (List.mem_append_left _ (List.mem_append_right _ h)))))) (by decide +kernel))) (goodIn_sub (fun _ h => List.mem_cons_of_mem _ (List.mem_append_left _ (List.mem_append_left _ (List.mem_append_left _ (List.mem_append_right _ h))))) (by decide +kernel))) (goodIn_sub (fun _ h => List.mem_cons_of_mem _ (List.mem_append_left _ (List.mem_append_left _ (List.mem_append_right _ h)))) (by decide +kernel))) (goodIn_sub (fun _ h => List.mem_cons_of_mem _ (List.mem_append_left _ (List.mem_append_right _ h))) (by decide +kernel))) (goodIn_sub (fun _ h => List.mem_cons_of_mem _ (List.mem_append_right _ h)) (by decide +kernel))
set_option maxRecDepth 20000 in
theorem gX10_addWinch_X10_refuse : GoodIn wsX10_addWinch (va_wsS RX10 61 yX10_refuse wsX10_refuse) := goodIn_app (goodIn_of _ (by decide +kernel)) ggX10_addWinch_X10_refuse
set_option maxRecDepth 20000 in
theorem ggX10_addWinch_X4_record : GoodIn wsX10_addWinch wsX4_record := goodIn_ca (goodIn_r _ [56, 57, 58, 59, 60, 6, 61, 62, 63, 64, 65, 66, 67, 68, 69, 70, 71, 72, 73, 74, 75, 76, 77, 78, 29, 79, 80, 81, 82, 83, 84, 85, 86, 87, 88, 89, 90, 91, 11, 92, 93, 94, 123, 124, 125, 108, 109, 110, 111, 112, 113, 114, 115, 116, 117, 118, 119, 120, 121, 122] (by decide +kernel) (by decide +kernel)) (goodIn_sub (fun _ h => List.mem_cons_of_mem _ (List.mem_append_left _ (List.mem_append_left _ (List.mem_append_left _ (List.mem_append_left _ (List.mem_append_left _ (List.mem_append_right _ h))))))) (by decide +kernel))
set_option maxRecDepth 20000 in
theorem gX10_addWinch_X4_record : GoodIn wsX10_addWinch (wsV RX10 65 RX4 yX4_record wsX4_record) := goodIn_app (goodIn_of _ (by decide +kernel)) ggX10_addWinch_X4_record
set_option maxRecDepth 20000 in
theorem ggX10_addWinch_X7_placeWinch : GoodIn wsX10_addWinch wsX7_placeWinch := goodIn_ca (goodIn_r _ [98, 11, 29, 79, 80, 22, 23, 15, 24, 108, 109, 110, 111, 112, 113, 114, 115, 116, 117, 118, 119, 120, 121, 122] (by decide +kernel) (by decide +kernel)) (goodIn_sub (fun _ h => List.mem_cons_of_mem _ (List.mem_append_left _ (List.mem_append_left _ (List.mem_append_left _ (List.mem_append_left _ (List.mem_append_left _ (List.mem_append_right _ h))))))) (by decide +kernel))
set_option maxRecDepth 20000 in
theorem gX10_addWinch_X7_placeWinch : GoodIn wsX10_addWinch (wsV RX10 108 RX7 yX7_placeWinch wsX7_placeWinch) := goodIn_app (goodIn_of _ (by decide +kernel)) ggX10_addWinch_X7_placeWinch
theorem dX10_addWinch_0 : decode cX10_addWinch 0 = .ok (.aload_n 0, 1) := by decide +kernel
theorem dX10_addWinch_1 : decode cX10_addWinch 1 = .ok (.getfield 10, 3) := by decide +kernel
theorem dX10_addWinch_4 : decode cX10_addWinch 4 = .ok (.iload_n 1, 1) := by decide +kernel
theorem dX10_addWinch_5 : decode cX10_addWinch 5 = .ok (.iload_n 2, 1) := by decide +kernel
theorem dX10_addWinch_6 : decode cX10_addWinch 6 = .ok (.iload_n 3, 1) := by decide +kernel
theorem dX10_addWinch_7 : decode cX10_addWinch 7 = .ok (.iload 4, 2) := by decide +kernel
theorem dX10_addWinch_9 : decode cX10_addWinch 9 = .ok (.invokevirtual 104, 3) := by decide +kernel
theorem dX10_addWinch_12 : decode cX10_addWinch 12 = .ok (.invokestatic 61, 3) := by decide +kernel
theorem dX10_addWinch_15 : decode cX10_addWinch 15 = .ok (.aload_n 0, 1) := by decide +kernel
theorem dX10_addWinch_16 : decode cX10_addWinch 16 = .ok (.getfield 29, 3) := by decide +kernel
theorem dX10_addWinch_19 : decode cX10_addWinch 19 = .ok (.aload_n 0, 1) := by decide +kernel
theorem dX10_addWinch_20 : decode cX10_addWinch 20 = .ok (.getfield 10, 3) := by decide +kernel
theorem dX10_addWinch_23 : decode cX10_addWinch 23 = .ok (.invokevirtual 65, 3) := by decide +kernel
theorem dX10_addWinch_26 : decode cX10_addWinch 26 = .ok (.aload_n 0, 1) := by decide +kernel
theorem dX10_addWinch_27 : decode cX10_addWinch 27 = .ok (.getfield 10, 3) := by decide +kernel
theorem dX10_addWinch_30 : decode cX10_addWinch 30 = .ok (.iload_n 1, 1) := by decide +kernel
theorem dX10_addWinch_31 : decode cX10_addWinch 31 = .ok (.iload_n 2, 1) := by decide +kernel
theorem dX10_addWinch_32 : decode cX10_addWinch 32 = .ok (.iload_n 3, 1) := by decide +kernel
theorem dX10_addWinch_33 : decode cX10_addWinch 33 = .ok (.iload 4, 2) := by decide +kernel
theorem dX10_addWinch_35 : decode cX10_addWinch 35 = .ok (.invokevirtual 108, 3) := by decide +kernel
theorem dX10_addWinch_38 : decode cX10_addWinch 38 = .ok (.ireturn, 1) := by decide +kernel
set_option maxRecDepth 20000 in
theorem ggX10_lift_X7_liftFault : GoodIn wsX10_lift wsX7_liftFault := goodIn_ca (goodIn_r _ [7, 8, 9, 10, 11, 12, 13, 14, 15, 16, 17, 18, 6, 19, 20, 21, 22, 23, 24, 25, 26, 27, 28, 29, 30, 31, 32, 33, 34, 35, 36, 37, 38, 39, 40, 41, 42, 43, 44, 45, 46, 47, 48, 49, 50, 51, 52, 53, 54, 55, 56, 57, 58, 59, 132, 133, 134, 135, 136, 137, 138, 139, 140, 141, 142, 143, 144, 145, 146] (by decide +kernel) (by decide +kernel)) (goodIn_sub (fun _ h => List.mem_cons_of_mem _ (List.mem_append_left _ (List.mem_append_left _ (List.mem_append_left _ (List.mem_append_left _ (List.mem_append_left _ (List.mem_append_right _ h))))))) (by decide +kernel))
set_option maxRecDepth 20000 in
theorem gX10_lift_X7_liftFault : GoodIn wsX10_lift (wsV RX10 112 RX7 yX7_liftFault wsX7_liftFault) := goodIn_app (goodIn_of _ (by decide +kernel)) ggX10_lift_X7_liftFault
set_option maxRecDepth 20000 in
theorem ggX10_lift_X10_refuse : GoodIn wsX10_lift wsX10_refuse := goodIn_ca (goodIn_ca (goodIn_ca (goodIn_ca (goodIn_ca (goodIn_ca (goodIn_r _ [63, 64, 65, 66, 67, 68, 69, 70, 71, 72, 73, 74, 75, 76, 77, 78, 79, 80, 81] (by decide +kernel) (by decide +kernel)) (goodIn_sub (fun _ h => List.mem_cons_of_mem _ (List.mem_append_left _ (List.mem_append_left _ (List.mem_append_left _ (List.mem_append_left _ (List.mem_append_left _ (List.mem_append_right _ h))))))) (by decide +kernel))) (goodIn_sub (fun _ h => List.mem_cons_of_mem _ (List.mem_append_left _ (List.mem_append_left _ (List.mem_append_left _ (List.mem_append_left _ (List.mem_append_right _ h)))))) (by decide +kernel))) (goodIn_sub (fun _ h => List.mem_cons_of_mem _ (List.mem_append_left _ (List.mem_append_left _ (List.mem_append_left _ (List.mem_append_right _ h))))) (by decide +kernel))) (goodIn_sub (fun _ h => List.mem_cons_of_mem _ (List.mem_append_left _ (List.mem_append_left _ (List.mem_append_right _ h)))) (by decide +kernel))) (goodIn_sub (fun _ h => List.mem_cons_of_mem _ (List.mem_append_left _ (List.mem_append_right _ h))) (by decide +kernel))) (goodIn_sub (fun _ h => List.mem_cons_of_mem _ (List.mem_append_right _ h)) (by decide +kernel))
set_option maxRecDepth 20000 in
theorem gX10_lift_X10_refuse : GoodIn wsX10_lift (va_wsS RX10 61 yX10_refuse wsX10_refuse) := goodIn_app (goodIn_of _ (by decide +kernel)) ggX10_lift_X10_refuse
set_option maxRecDepth 20000 in
theorem ggX10_lift_X4_record : GoodIn wsX10_lift wsX4_record := goodIn_ca (goodIn_r _ [86, 87, 88, 89, 90, 6, 91, 92, 93, 44, 94, 95, 96, 97, 98, 99, 100, 101, 102, 103, 104, 10, 25, 56, 12, 14, 13, 105, 106, 107, 108, 109, 110, 111, 112, 113, 114, 115, 20, 116, 117, 118, 147, 148, 149, 132, 133, 134, 135, 136, 137, 138, 139, 140, 141, 142, 143, 144, 145, 146] (by decide +kernel) (by decide +kernel)) (goodIn_sub (fun _ h => List.mem_cons_of_mem _ (List.mem_append_left _ (List.mem_append_left _ (List.mem_append_left _ (List.mem_append_left _ (List.mem_append_left _ (List.mem_append_right _ h))))))) (by decide +kernel))
set_option maxRecDepth 20000 in
theorem gX10_lift_X4_record : GoodIn wsX10_lift (wsV RX10 65 RX4 yX4_record wsX4_record) := goodIn_app (goodIn_of _ (by decide +kernel)) ggX10_lift_X4_record
set_option maxRecDepth 20000 in
theorem ggX10_lift_X7_liftBlock : GoodIn wsX10_lift wsX7_liftBlock := goodIn_ca (goodIn_r _ [122, 102, 25, 105, 117, 118, 36, 37, 29, 38, 52, 53, 54, 6, 55, 56, 57, 58, 59, 132, 133, 134, 135, 136, 137, 138, 139, 140, 141, 142, 143, 144, 145, 146] (by decide +kernel) (by decide +kernel)) (goodIn_sub (fun _ h => List.mem_cons_of_mem _ (List.mem_append_left _ (List.mem_append_left _ (List.mem_append_left _ (List.mem_append_left _ (List.mem_append_left _ (List.mem_append_right _ h))))))) (by decide +kernel))
set_option maxRecDepth 20000 in
theorem gX10_lift_X7_liftBlock : GoodIn wsX10_lift (wsV RX10 115 RX7 yX7_liftBlock wsX7_liftBlock) := goodIn_app (goodIn_of _ (by decide +kernel)) ggX10_lift_X7_liftBlock
theorem dX10_lift_0 : decode cX10_lift 0 = .ok (.aload_n 0, 1) := by decide +kernel
theorem dX10_lift_1 : decode cX10_lift 1 = .ok (.getfield 10, 3) := by decide +kernel
theorem dX10_lift_4 : decode cX10_lift 4 = .ok (.iload_n 1, 1) := by decide +kernel
theorem dX10_lift_5 : decode cX10_lift 5 = .ok (.iload_n 2, 1) := by decide +kernel
theorem dX10_lift_6 : decode cX10_lift 6 = .ok (.iload_n 3, 1) := by decide +kernel
theorem dX10_lift_7 : decode cX10_lift 7 = .ok (.invokevirtual 112, 3) := by decide +kernel
theorem dX10_lift_10 : decode cX10_lift 10 = .ok (.invokestatic 61, 3) := by decide +kernel
theorem dX10_lift_13 : decode cX10_lift 13 = .ok (.aload_n 0, 1) := by decide +kernel
theorem dX10_lift_14 : decode cX10_lift 14 = .ok (.getfield 29, 3) := by decide +kernel
theorem dX10_lift_17 : decode cX10_lift 17 = .ok (.aload_n 0, 1) := by decide +kernel
theorem dX10_lift_18 : decode cX10_lift 18 = .ok (.getfield 10, 3) := by decide +kernel
theorem dX10_lift_21 : decode cX10_lift 21 = .ok (.invokevirtual 65, 3) := by decide +kernel
theorem dX10_lift_24 : decode cX10_lift 24 = .ok (.aload_n 0, 1) := by decide +kernel
theorem dX10_lift_25 : decode cX10_lift 25 = .ok (.getfield 10, 3) := by decide +kernel
theorem dX10_lift_28 : decode cX10_lift 28 = .ok (.iload_n 2, 1) := by decide +kernel
theorem dX10_lift_29 : decode cX10_lift 29 = .ok (.iload_n 3, 1) := by decide +kernel
theorem dX10_lift_30 : decode cX10_lift 30 = .ok (.invokevirtual 115, 3) := by decide +kernel
theorem dX10_lift_33 : decode cX10_lift 33 = .ok (.ireturn, 1) := by decide +kernel
set_option maxRecDepth 20000 in
theorem ggX10_crush_X7_crushFault : GoodIn wsX10_crush wsX7_crushFault := goodIn_ca (goodIn_r _ [7, 8, 9, 10, 11, 12, 13, 6, 14, 94, 95, 96, 97, 98, 99, 100, 101, 102, 103, 104, 105, 106, 107, 108] (by decide +kernel) (by decide +kernel)) (goodIn_sub (fun _ h => List.mem_cons_of_mem _ (List.mem_append_left _ (List.mem_append_left _ (List.mem_append_left _ (List.mem_append_left _ (List.mem_append_left _ (List.mem_append_right _ h))))))) (by decide +kernel))
set_option maxRecDepth 20000 in
theorem gX10_crush_X7_crushFault : GoodIn wsX10_crush (wsV RX10 118 RX7 yX7_crushFault wsX7_crushFault) := goodIn_app (goodIn_of _ (by decide +kernel)) ggX10_crush_X7_crushFault
set_option maxRecDepth 20000 in
theorem ggX10_crush_X10_refuse : GoodIn wsX10_crush wsX10_refuse := goodIn_ca (goodIn_ca (goodIn_ca (goodIn_ca (goodIn_ca (goodIn_ca (goodIn_r _ [18, 19, 20, 21, 22, 23, 24, 25, 26, 27, 28, 29, 30, 31, 32, 33, 34, 35, 36] (by decide +kernel) (by decide +kernel)) (goodIn_sub (fun _ h => List.mem_cons_of_mem _ (List.mem_append_left _ (List.mem_append_left _ (List.mem_append_left _ (List.mem_append_left _ (List.mem_append_left _ (List.mem_append_right _ h))))))) (by decide +kernel))) (goodIn_sub (fun _ h => List.mem_cons_of_mem _ (List.mem_append_left _ (List.mem_append_left _ (List.mem_append_left _ (List.mem_append_left _ (List.mem_append_right _ h)))))) (by decide +kernel))) (goodIn_sub (fun _ h => List.mem_cons_of_mem _ (List.mem_append_left _ (List.mem_append_left _ (List.mem_append_left _ (List.mem_append_right _ h))))) (by decide +kernel))) (goodIn_sub (fun _ h => List.mem_cons_of_mem _ (List.mem_append_left _ (List.mem_append_left _ (List.mem_append_right _ h)))) (by decide +kernel))) (goodIn_sub (fun _ h => List.mem_cons_of_mem _ (List.mem_append_left _ (List.mem_append_right _ h))) (by decide +kernel))) (goodIn_sub (fun _ h => List.mem_cons_of_mem _ (List.mem_append_right _ h)) (by decide +kernel))
set_option maxRecDepth 20000 in
theorem gX10_crush_X10_refuse : GoodIn wsX10_crush (va_wsS RX10 61 yX10_refuse wsX10_refuse) := goodIn_app (goodIn_of _ (by decide +kernel)) ggX10_crush_X10_refuse
set_option maxRecDepth 20000 in
theorem ggX10_crush_X4_record : GoodIn wsX10_crush wsX4_record := goodIn_ca (goodIn_r _ [41, 42, 43, 44, 45, 6, 46, 47, 48, 49, 50, 51, 52, 53, 54, 55, 56, 57, 58, 59, 60, 61, 62, 63, 64, 65, 66, 9, 67, 68, 69, 70, 71, 72, 73, 74, 75, 76, 77, 78, 79, 80, 109, 110, 111, 94, 95, 96, 97, 98, 99, 100, 101, 102, 103, 104, 105, 106, 107, 108] (by decide +kernel) (by decide +kernel)) (goodIn_sub (fun _ h => List.mem_cons_of_mem _ (List.mem_append_left _ (List.mem_append_left _ (List.mem_append_left _ (List.mem_append_left _ (List.mem_append_left _ (List.mem_append_right _ h))))))) (by decide +kernel))
set_option maxRecDepth 20000 in
theorem gX10_crush_X4_record : GoodIn wsX10_crush (wsV RX10 65 RX4 yX4_record wsX4_record) := goodIn_app (goodIn_of _ (by decide +kernel)) ggX10_crush_X4_record
set_option maxRecDepth 20000 in
theorem ggX10_crush_X7_crushBlocks : GoodIn wsX10_crush wsX7_crushBlocks := goodIn_ca (goodIn_r _ [84, 9, 68, 94, 95, 96, 97, 98, 99, 100, 101, 102, 103, 104, 105, 106, 107, 108] (by decide +kernel) (by decide +kernel)) (goodIn_sub (fun _ h => List.mem_cons_of_mem _ (List.mem_append_left _ (List.mem_append_left _ (List.mem_append_left _ (List.mem_append_left _ (List.mem_append_left _ (List.mem_append_right _ h))))))) (by decide +kernel))
set_option maxRecDepth 20000 in
theorem gX10_crush_X7_crushBlocks : GoodIn wsX10_crush (wsV RX10 121 RX7 yX7_crushBlocks wsX7_crushBlocks) := goodIn_app (goodIn_of _ (by decide +kernel)) ggX10_crush_X7_crushBlocks
theorem dX10_crush_0 : decode cX10_crush 0 = .ok (.aload_n 0, 1) := by decide +kernel
theorem dX10_crush_1 : decode cX10_crush 1 = .ok (.getfield 10, 3) := by decide +kernel
theorem dX10_crush_4 : decode cX10_crush 4 = .ok (.iload_n 1, 1) := by decide +kernel
theorem dX10_crush_5 : decode cX10_crush 5 = .ok (.iload_n 2, 1) := by decide +kernel
theorem dX10_crush_6 : decode cX10_crush 6 = .ok (.invokevirtual 118, 3) := by decide +kernel
theorem dX10_crush_9 : decode cX10_crush 9 = .ok (.invokestatic 61, 3) := by decide +kernel
theorem dX10_crush_12 : decode cX10_crush 12 = .ok (.aload_n 0, 1) := by decide +kernel
theorem dX10_crush_13 : decode cX10_crush 13 = .ok (.getfield 29, 3) := by decide +kernel
theorem dX10_crush_16 : decode cX10_crush 16 = .ok (.aload_n 0, 1) := by decide +kernel
theorem dX10_crush_17 : decode cX10_crush 17 = .ok (.getfield 10, 3) := by decide +kernel
theorem dX10_crush_20 : decode cX10_crush 20 = .ok (.invokevirtual 65, 3) := by decide +kernel
theorem dX10_crush_23 : decode cX10_crush 23 = .ok (.aload_n 0, 1) := by decide +kernel
theorem dX10_crush_24 : decode cX10_crush 24 = .ok (.getfield 10, 3) := by decide +kernel
theorem dX10_crush_27 : decode cX10_crush 27 = .ok (.iload_n 1, 1) := by decide +kernel
theorem dX10_crush_28 : decode cX10_crush 28 = .ok (.iload_n 2, 1) := by decide +kernel
theorem dX10_crush_29 : decode cX10_crush 29 = .ok (.invokevirtual 121, 3) := by decide +kernel
theorem dX10_crush_32 : decode cX10_crush 32 = .ok (.ireturn, 1) := by decide +kernel
set_option maxRecDepth 20000 in
theorem ggX10_height_X3_cellFault : GoodIn wsX10_height wsX3_cellFault := goodIn_r _ [5, 6, 7, 8, 9, 4, 10] (by decide +kernel) (by decide +kernel)
set_option maxRecDepth 20000 in
theorem gX10_height_X3_cellFault : GoodIn wsX10_height (va_wsS RX10 87 yX3_cellFault wsX3_cellFault) := goodIn_app (goodIn_of _ (by decide +kernel)) ggX10_height_X3_cellFault
set_option maxRecDepth 20000 in
theorem ggX10_height_X10_refuse : GoodIn wsX10_height wsX10_refuse := goodIn_ca (goodIn_ca (goodIn_ca (goodIn_ca (goodIn_ca (goodIn_ca (goodIn_r _ [14, 15, 16, 17, 18, 19, 20, 21, 22, 23, 24, 25, 26, 27, 28, 29, 30, 31, 32] (by decide +kernel) (by decide +kernel)) (goodIn_sub (fun _ h => List.mem_cons_of_mem _ (List.mem_append_left _ (List.mem_append_left _ (List.mem_append_left _ (List.mem_append_left _ (List.mem_append_left _ (List.mem_append_right _ h))))))) (by decide +kernel))) (goodIn_sub (fun _ h => List.mem_cons_of_mem _ (List.mem_append_left _ (List.mem_append_left _ (List.mem_append_left _ (List.mem_append_left _ (List.mem_append_right _ h)))))) (by decide +kernel))) (goodIn_sub (fun _ h => List.mem_cons_of_mem _ (List.mem_append_left _ (List.mem_append_left _ (List.mem_append_left _ (List.mem_append_right _ h))))) (by decide +kernel))) (goodIn_sub (fun _ h => List.mem_cons_of_mem _ (List.mem_append_left _ (List.mem_append_left _ (List.mem_append_right _ h)))) (by decide +kernel))) (goodIn_sub (fun _ h => List.mem_cons_of_mem _ (List.mem_append_left _ (List.mem_append_right _ h))) (by decide +kernel))) (goodIn_sub (fun _ h => List.mem_cons_of_mem _ (List.mem_append_right _ h)) (by decide +kernel))
set_option maxRecDepth 20000 in
theorem gX10_height_X10_refuse : GoodIn wsX10_height (va_wsS RX10 61 yX10_refuse wsX10_refuse) := goodIn_app (goodIn_of _ (by decide +kernel)) ggX10_height_X10_refuse
set_option maxRecDepth 20000 in
theorem ggX10_height_X3_cellAt : GoodIn wsX10_height wsX3_cellAt := goodIn_r _ [35] (by decide +kernel) (by decide +kernel)
set_option maxRecDepth 20000 in
theorem gX10_height_X3_cellAt : GoodIn wsX10_height (va_wsS RX10 124 yX3_cellAt wsX3_cellAt) := goodIn_app (goodIn_of _ (by decide +kernel)) ggX10_height_X3_cellAt
set_option maxRecDepth 20000 in
theorem ggX10_height_X7_heightAt : GoodIn wsX10_height wsX7_heightAt := goodIn_ca (goodIn_r _ [40, 41, 51, 52, 53, 54, 55, 56, 57, 58, 59, 60, 61, 62, 63, 64, 65] (by decide +kernel) (by decide +kernel)) (goodIn_sub (fun _ h => List.mem_cons_of_mem _ (List.mem_append_left _ (List.mem_append_left _ (List.mem_append_left _ (List.mem_append_left _ (List.mem_append_left _ (List.mem_append_right _ h))))))) (by decide +kernel))
set_option maxRecDepth 20000 in
theorem gX10_height_X7_heightAt : GoodIn wsX10_height (wsV RX10 127 RX7 yX7_heightAt wsX7_heightAt) := goodIn_app (goodIn_of _ (by decide +kernel)) ggX10_height_X7_heightAt
theorem dX10_height_0 : decode cX10_height 0 = .ok (.iload_n 1, 1) := by decide +kernel
theorem dX10_height_1 : decode cX10_height 1 = .ok (.iload_n 2, 1) := by decide +kernel
theorem dX10_height_2 : decode cX10_height 2 = .ok (.invokestatic 87, 3) := by decide +kernel
theorem dX10_height_5 : decode cX10_height 5 = .ok (.invokestatic 61, 3) := by decide +kernel
theorem dX10_height_8 : decode cX10_height 8 = .ok (.aload_n 0, 1) := by decide +kernel
theorem dX10_height_9 : decode cX10_height 9 = .ok (.getfield 10, 3) := by decide +kernel
theorem dX10_height_12 : decode cX10_height 12 = .ok (.iload_n 1, 1) := by decide +kernel
theorem dX10_height_13 : decode cX10_height 13 = .ok (.iload_n 2, 1) := by decide +kernel
theorem dX10_height_14 : decode cX10_height 14 = .ok (.invokestatic 124, 3) := by decide +kernel
theorem dX10_height_17 : decode cX10_height 17 = .ok (.invokevirtual 127, 3) := by decide +kernel
theorem dX10_height_20 : decode cX10_height 20 = .ok (.ireturn, 1) := by decide +kernel
set_option maxRecDepth 20000 in
theorem ggX10_stone_X3_cellFault : GoodIn wsX10_stone wsX3_cellFault := goodIn_r _ [5, 6, 7, 8, 9, 4, 10] (by decide +kernel) (by decide +kernel)
set_option maxRecDepth 20000 in
theorem gX10_stone_X3_cellFault : GoodIn wsX10_stone (va_wsS RX10 87 yX3_cellFault wsX3_cellFault) := goodIn_app (goodIn_of _ (by decide +kernel)) ggX10_stone_X3_cellFault
set_option maxRecDepth 20000 in
theorem ggX10_stone_X10_refuse : GoodIn wsX10_stone wsX10_refuse := goodIn_ca (goodIn_ca (goodIn_ca (goodIn_ca (goodIn_ca (goodIn_ca (goodIn_r _ [14, 15, 16, 17, 18, 19, 20, 21, 22, 23, 24, 25, 26, 27, 28, 29, 30, 31, 32] (by decide +kernel) (by decide +kernel)) (goodIn_sub (fun _ h => List.mem_cons_of_mem _ (List.mem_append_left _ (List.mem_append_left _ (List.mem_append_left _ (List.mem_append_left _ (List.mem_append_left _ (List.mem_append_right _ h))))))) (by decide +kernel))) (goodIn_sub (fun _ h => List.mem_cons_of_mem _ (List.mem_append_left _ (List.mem_append_left _ (List.mem_append_left _ (List.mem_append_left _ (List.mem_append_right _ h)))))) (by decide +kernel))) (goodIn_sub (fun _ h => List.mem_cons_of_mem _ (List.mem_append_left _ (List.mem_append_left _ (List.mem_append_left _ (List.mem_append_right _ h))))) (by decide +kernel))) (goodIn_sub (fun _ h => List.mem_cons_of_mem _ (List.mem_append_left _ (List.mem_append_left _ (List.mem_append_right _ h)))) (by decide +kernel))) (goodIn_sub (fun _ h => List.mem_cons_of_mem _ (List.mem_append_left _ (List.mem_append_right _ h))) (by decide +kernel))) (goodIn_sub (fun _ h => List.mem_cons_of_mem _ (List.mem_append_right _ h)) (by decide +kernel))
set_option maxRecDepth 20000 in
theorem gX10_stone_X10_refuse : GoodIn wsX10_stone (va_wsS RX10 61 yX10_refuse wsX10_refuse) := goodIn_app (goodIn_of _ (by decide +kernel)) ggX10_stone_X10_refuse
set_option maxRecDepth 20000 in
theorem ggX10_stone_X3_cellAt : GoodIn wsX10_stone wsX3_cellAt := goodIn_r _ [35] (by decide +kernel) (by decide +kernel)
set_option maxRecDepth 20000 in
theorem gX10_stone_X3_cellAt : GoodIn wsX10_stone (va_wsS RX10 124 yX3_cellAt wsX3_cellAt) := goodIn_app (goodIn_of _ (by decide +kernel)) ggX10_stone_X3_cellAt
set_option maxRecDepth 20000 in
theorem ggX10_stone_X7_stoneAt : GoodIn wsX10_stone wsX7_stoneAt := goodIn_ca (goodIn_r _ [40, 41, 51, 52, 53, 54, 55, 56, 57, 58, 59, 60, 61, 62, 63, 64, 65] (by decide +kernel) (by decide +kernel)) (goodIn_sub (fun _ h => List.mem_cons_of_mem _ (List.mem_append_left _ (List.mem_append_left _ (List.mem_append_left _ (List.mem_append_left _ (List.mem_append_left _ (List.mem_append_right _ h))))))) (by decide +kernel))
set_option maxRecDepth 20000 in
theorem gX10_stone_X7_stoneAt : GoodIn wsX10_stone (wsV RX10 130 RX7 yX7_stoneAt wsX7_stoneAt) := goodIn_app (goodIn_of _ (by decide +kernel)) ggX10_stone_X7_stoneAt
theorem dX10_stone_0 : decode cX10_stone 0 = .ok (.iload_n 1, 1) := by decide +kernel
theorem dX10_stone_1 : decode cX10_stone 1 = .ok (.iload_n 2, 1) := by decide +kernel
theorem dX10_stone_2 : decode cX10_stone 2 = .ok (.invokestatic 87, 3) := by decide +kernel
theorem dX10_stone_5 : decode cX10_stone 5 = .ok (.invokestatic 61, 3) := by decide +kernel
theorem dX10_stone_8 : decode cX10_stone 8 = .ok (.aload_n 0, 1) := by decide +kernel
theorem dX10_stone_9 : decode cX10_stone 9 = .ok (.getfield 10, 3) := by decide +kernel
theorem dX10_stone_12 : decode cX10_stone 12 = .ok (.iload_n 1, 1) := by decide +kernel
theorem dX10_stone_13 : decode cX10_stone 13 = .ok (.iload_n 2, 1) := by decide +kernel
theorem dX10_stone_14 : decode cX10_stone 14 = .ok (.invokestatic 124, 3) := by decide +kernel
theorem dX10_stone_17 : decode cX10_stone 17 = .ok (.invokevirtual 130, 3) := by decide +kernel
theorem dX10_stone_20 : decode cX10_stone 20 = .ok (.ireturn, 1) := by decide +kernel
set_option maxRecDepth 20000 in
theorem ggX10_isLedge_X3_cellFault : GoodIn wsX10_isLedge wsX3_cellFault := goodIn_r _ [5, 6, 7, 8, 9, 4, 10] (by decide +kernel) (by decide +kernel)
set_option maxRecDepth 20000 in
theorem gX10_isLedge_X3_cellFault : GoodIn wsX10_isLedge (va_wsS RX10 87 yX3_cellFault wsX3_cellFault) := goodIn_app (goodIn_of _ (by decide +kernel)) ggX10_isLedge_X3_cellFault
set_option maxRecDepth 20000 in
theorem ggX10_isLedge_X10_refuse : GoodIn wsX10_isLedge wsX10_refuse := goodIn_ca (goodIn_ca (goodIn_ca (goodIn_ca (goodIn_ca (goodIn_ca (goodIn_r _ [14, 15, 16, 17, 18, 19, 20, 21, 22, 23, 24, 25, 26, 27, 28, 29, 30, 31, 32] (by decide +kernel) (by decide +kernel)) (goodIn_sub (fun _ h => List.mem_cons_of_mem _ (List.mem_append_left _ (List.mem_append_left _ (List.mem_append_left _ (List.mem_append_left _ (List.mem_append_left _ (List.mem_append_right _ h))))))) (by decide +kernel))) (goodIn_sub (fun _ h => List.mem_cons_of_mem _ (List.mem_append_left _ (List.mem_append_left _ (List.mem_append_left _ (List.mem_append_left _ (List.mem_append_right _ h)))))) (by decide +kernel))) (goodIn_sub (fun _ h => List.mem_cons_of_mem _ (List.mem_append_left _ (List.mem_append_left _ (List.mem_append_left _ (List.mem_append_right _ h))))) (by decide +kernel))) (goodIn_sub (fun _ h => List.mem_cons_of_mem _ (List.mem_append_left _ (List.mem_append_left _ (List.mem_append_right _ h)))) (by decide +kernel))) (goodIn_sub (fun _ h => List.mem_cons_of_mem _ (List.mem_append_left _ (List.mem_append_right _ h))) (by decide +kernel))) (goodIn_sub (fun _ h => List.mem_cons_of_mem _ (List.mem_append_right _ h)) (by decide +kernel))
set_option maxRecDepth 20000 in
theorem gX10_isLedge_X10_refuse : GoodIn wsX10_isLedge (va_wsS RX10 61 yX10_refuse wsX10_refuse) := goodIn_app (goodIn_of _ (by decide +kernel)) ggX10_isLedge_X10_refuse
set_option maxRecDepth 20000 in
theorem ggX10_isLedge_X3_cellAt : GoodIn wsX10_isLedge wsX3_cellAt := goodIn_r _ [35] (by decide +kernel) (by decide +kernel)
set_option maxRecDepth 20000 in
theorem gX10_isLedge_X3_cellAt : GoodIn wsX10_isLedge (va_wsS RX10 124 yX3_cellAt wsX3_cellAt) := goodIn_app (goodIn_of _ (by decide +kernel)) ggX10_isLedge_X3_cellAt
set_option maxRecDepth 20000 in
theorem ggX10_isLedge_X7_hasLedgeAt : GoodIn wsX10_isLedge wsX7_hasLedgeAt := goodIn_ca (goodIn_r _ [40, 41, 51, 52, 53, 54, 55, 56, 57, 58, 59, 60, 61, 62, 63, 64, 65] (by decide +kernel) (by decide +kernel)) (goodIn_sub (fun _ h => List.mem_cons_of_mem _ (List.mem_append_left _ (List.mem_append_left _ (List.mem_append_left _ (List.mem_append_left _ (List.mem_append_left _ (List.mem_append_right _ h))))))) (by decide +kernel))
set_option maxRecDepth 20000 in
theorem gX10_isLedge_X7_hasLedgeAt : GoodIn wsX10_isLedge (wsV RX10 133 RX7 yX7_hasLedgeAt wsX7_hasLedgeAt) := goodIn_app (goodIn_of _ (by decide +kernel)) ggX10_isLedge_X7_hasLedgeAt
theorem dX10_isLedge_0 : decode cX10_isLedge 0 = .ok (.iload_n 1, 1) := by decide +kernel
theorem dX10_isLedge_1 : decode cX10_isLedge 1 = .ok (.iload_n 2, 1) := by decide +kernel
theorem dX10_isLedge_2 : decode cX10_isLedge 2 = .ok (.invokestatic 87, 3) := by decide +kernel
theorem dX10_isLedge_5 : decode cX10_isLedge 5 = .ok (.invokestatic 61, 3) := by decide +kernel
theorem dX10_isLedge_8 : decode cX10_isLedge 8 = .ok (.aload_n 0, 1) := by decide +kernel
theorem dX10_isLedge_9 : decode cX10_isLedge 9 = .ok (.getfield 10, 3) := by decide +kernel
theorem dX10_isLedge_12 : decode cX10_isLedge 12 = .ok (.iload_n 1, 1) := by decide +kernel
theorem dX10_isLedge_13 : decode cX10_isLedge 13 = .ok (.iload_n 2, 1) := by decide +kernel
theorem dX10_isLedge_14 : decode cX10_isLedge 14 = .ok (.invokestatic 124, 3) := by decide +kernel
theorem dX10_isLedge_17 : decode cX10_isLedge 17 = .ok (.invokevirtual 133, 3) := by decide +kernel
theorem dX10_isLedge_20 : decode cX10_isLedge 20 = .ok (.ireturn, 1) := by decide +kernel
set_option maxRecDepth 20000 in
theorem ggX10_looseBlocks_X3_cellFault : GoodIn wsX10_looseBlocks wsX3_cellFault := goodIn_r _ [5, 6, 7, 8, 9, 4, 10] (by decide +kernel) (by decide +kernel)
set_option maxRecDepth 20000 in
theorem gX10_looseBlocks_X3_cellFault : GoodIn wsX10_looseBlocks (va_wsS RX10 87 yX3_cellFault wsX3_cellFault) := goodIn_app (goodIn_of _ (by decide +kernel)) ggX10_looseBlocks_X3_cellFault
set_option maxRecDepth 20000 in
theorem ggX10_looseBlocks_X10_refuse : GoodIn wsX10_looseBlocks wsX10_refuse := goodIn_ca (goodIn_ca (goodIn_ca (goodIn_ca (goodIn_ca (goodIn_ca (goodIn_r _ [14, 15, 16, 17, 18, 19, 20, 21, 22, 23, 24, 25, 26, 27, 28, 29, 30, 31, 32] (by decide +kernel) (by decide +kernel)) (goodIn_sub (fun _ h => List.mem_cons_of_mem _ (List.mem_append_left _ (List.mem_append_left _ (List.mem_append_left _ (List.mem_append_left _ (List.mem_append_left _ (List.mem_append_right _ h))))))) (by decide +kernel))) (goodIn_sub (fun _ h => List.mem_cons_of_mem _ (List.mem_append_left _ (List.mem_append_left _ (List.mem_append_left _ (List.mem_append_left _ (List.mem_append_right _ h)))))) (by decide +kernel))) (goodIn_sub (fun _ h => List.mem_cons_of_mem _ (List.mem_append_left _ (List.mem_append_left _ (List.mem_append_left _ (List.mem_append_right _ h))))) (by decide +kernel))) (goodIn_sub (fun _ h => List.mem_cons_of_mem _ (List.mem_append_left _ (List.mem_append_left _ (List.mem_append_right _ h)))) (by decide +kernel))) (goodIn_sub (fun _ h => List.mem_cons_of_mem _ (List.mem_append_left _ (List.mem_append_right _ h))) (by decide +kernel))) (goodIn_sub (fun _ h => List.mem_cons_of_mem _ (List.mem_append_right _ h)) (by decide +kernel))
set_option maxRecDepth 20000 in
theorem gX10_looseBlocks_X10_refuse : GoodIn wsX10_looseBlocks (va_wsS RX10 61 yX10_refuse wsX10_refuse) := goodIn_app (goodIn_of _ (by decide +kernel)) ggX10_looseBlocks_X10_refuse
set_option maxRecDepth 20000 in
theorem ggX10_looseBlocks_X3_cellAt : GoodIn wsX10_looseBlocks wsX3_cellAt := goodIn_r _ [35] (by decide +kernel) (by decide +kernel)
set_option maxRecDepth 20000 in
theorem gX10_looseBlocks_X3_cellAt : GoodIn wsX10_looseBlocks (va_wsS RX10 124 yX3_cellAt wsX3_cellAt) := goodIn_app (goodIn_of _ (by decide +kernel)) ggX10_looseBlocks_X3_cellAt
set_option maxRecDepth 20000 in
theorem ggX10_looseBlocks_X7_blocksAt : GoodIn wsX10_looseBlocks wsX7_blocksAt := goodIn_ca (goodIn_r _ [40, 41, 51, 52, 53, 54, 55, 56, 57, 58, 59, 60, 61, 62, 63, 64, 65] (by decide +kernel) (by decide +kernel)) (goodIn_sub (fun _ h => List.mem_cons_of_mem _ (List.mem_append_left _ (List.mem_append_left _ (List.mem_append_left _ (List.mem_append_left _ (List.mem_append_left _ (List.mem_append_right _ h))))))) (by decide +kernel))
set_option maxRecDepth 20000 in
theorem gX10_looseBlocks_X7_blocksAt : GoodIn wsX10_looseBlocks (wsV RX10 137 RX7 yX7_blocksAt wsX7_blocksAt) := goodIn_app (goodIn_of _ (by decide +kernel)) ggX10_looseBlocks_X7_blocksAt
theorem dX10_looseBlocks_0 : decode cX10_looseBlocks 0 = .ok (.iload_n 1, 1) := by decide +kernel
theorem dX10_looseBlocks_1 : decode cX10_looseBlocks 1 = .ok (.iload_n 2, 1) := by decide +kernel
theorem dX10_looseBlocks_2 : decode cX10_looseBlocks 2 = .ok (.invokestatic 87, 3) := by decide +kernel
theorem dX10_looseBlocks_5 : decode cX10_looseBlocks 5 = .ok (.invokestatic 61, 3) := by decide +kernel
theorem dX10_looseBlocks_8 : decode cX10_looseBlocks 8 = .ok (.aload_n 0, 1) := by decide +kernel
theorem dX10_looseBlocks_9 : decode cX10_looseBlocks 9 = .ok (.getfield 10, 3) := by decide +kernel
theorem dX10_looseBlocks_12 : decode cX10_looseBlocks 12 = .ok (.iload_n 1, 1) := by decide +kernel
theorem dX10_looseBlocks_13 : decode cX10_looseBlocks 13 = .ok (.iload_n 2, 1) := by decide +kernel
theorem dX10_looseBlocks_14 : decode cX10_looseBlocks 14 = .ok (.invokestatic 124, 3) := by decide +kernel
theorem dX10_looseBlocks_17 : decode cX10_looseBlocks 17 = .ok (.invokevirtual 137, 3) := by decide +kernel
theorem dX10_looseBlocks_20 : decode cX10_looseBlocks 20 = .ok (.ireturn, 1) := by decide +kernel
set_option maxRecDepth 20000 in
theorem ggX10_topBlock_X7_topFault : GoodIn wsX10_topBlock wsX7_topFault := goodIn_ca (goodIn_r _ [6, 7, 8, 9, 10, 11, 12, 13, 14, 15, 16, 17, 18, 19, 20, 21, 22, 60, 61, 62, 63, 64, 65, 66, 67, 68, 69, 70, 71, 72, 73, 74] (by decide +kernel) (by decide +kernel)) (goodIn_sub (fun _ h => List.mem_cons_of_mem _ (List.mem_append_left _ (List.mem_append_left _ (List.mem_append_left _ (List.mem_append_left _ (List.mem_append_left _ (List.mem_append_right _ h))))))) (by decide +kernel))
set_option maxRecDepth 20000 in
theorem gX10_topBlock_X7_topFault : GoodIn wsX10_topBlock (wsV RX10 140 RX7 yX7_topFault wsX7_topFault) := goodIn_app (goodIn_of _ (by decide +kernel)) ggX10_topBlock_X7_topFault
set_option maxRecDepth 20000 in
theorem ggX10_topBlock_X10_refuse : GoodIn wsX10_topBlock wsX10_refuse := goodIn_ca (goodIn_ca (goodIn_ca (goodIn_ca (goodIn_ca (goodIn_ca (goodIn_r _ [26, 27, 28, 29, 30, 31, 32, 33, 34, 35, 36, 37, 38, 39, 40, 41, 42, 43, 44] (by decide +kernel) (by decide +kernel)) (goodIn_sub (fun _ h => List.mem_cons_of_mem _ (List.mem_append_left _ (List.mem_append_left _ (List.mem_append_left _ (List.mem_append_left _ (List.mem_append_left _ (List.mem_append_right _ h))))))) (by decide +kernel))) (goodIn_sub (fun _ h => List.mem_cons_of_mem _ (List.mem_append_left _ (List.mem_append_left _ (List.mem_append_left _ (List.mem_append_left _ (List.mem_append_right _ h)))))) (by decide +kernel))) (goodIn_sub (fun _ h => List.mem_cons_of_mem _ (List.mem_append_left _ (List.mem_append_left _ (List.mem_append_left _ (List.mem_append_right _ h))))) (by decide +kernel))) (goodIn_sub (fun _ h => List.mem_cons_of_mem _ (List.mem_append_left _ (List.mem_append_left _ (List.mem_append_right _ h)))) (by decide +kernel))) (goodIn_sub (fun _ h => List.mem_cons_of_mem _ (List.mem_append_left _ (List.mem_append_right _ h))) (by decide +kernel))) (goodIn_sub (fun _ h => List.mem_cons_of_mem _ (List.mem_append_right _ h)) (by decide +kernel))
set_option maxRecDepth 20000 in
theorem gX10_topBlock_X10_refuse : GoodIn wsX10_topBlock (va_wsS RX10 61 yX10_refuse wsX10_refuse) := goodIn_app (goodIn_of _ (by decide +kernel)) ggX10_topBlock_X10_refuse
set_option maxRecDepth 20000 in
theorem ggX10_topBlock_X3_cellAt : GoodIn wsX10_topBlock wsX3_cellAt := goodIn_r _ [22] (by decide +kernel) (by decide +kernel)
set_option maxRecDepth 20000 in
theorem gX10_topBlock_X3_cellAt : GoodIn wsX10_topBlock (va_wsS RX10 124 yX3_cellAt wsX3_cellAt) := goodIn_app (goodIn_of _ (by decide +kernel)) ggX10_topBlock_X3_cellAt
set_option maxRecDepth 20000 in
theorem ggX10_topBlock_X7_topStoneAt : GoodIn wsX10_topBlock wsX7_topStoneAt := goodIn_ca (goodIn_r _ [49, 50, 9, 60, 61, 62, 63, 64, 65, 66, 67, 68, 69, 70, 71, 72, 73, 74] (by decide +kernel) (by decide +kernel)) (goodIn_sub (fun _ h => List.mem_cons_of_mem _ (List.mem_append_left _ (List.mem_append_left _ (List.mem_append_left _ (List.mem_append_left _ (List.mem_append_left _ (List.mem_append_right _ h))))))) (by decide +kernel))
set_option maxRecDepth 20000 in
theorem gX10_topBlock_X7_topStoneAt : GoodIn wsX10_topBlock (wsV RX10 143 RX7 yX7_topStoneAt wsX7_topStoneAt) := goodIn_app (goodIn_of _ (by decide +kernel)) ggX10_topBlock_X7_topStoneAt
theorem dX10_topBlock_0 : decode cX10_topBlock 0 = .ok (.aload_n 0, 1) := by decide +kernel
theorem dX10_topBlock_1 : decode cX10_topBlock 1 = .ok (.getfield 10, 3) := by decide +kernel
theorem dX10_topBlock_4 : decode cX10_topBlock 4 = .ok (.iload_n 1, 1) := by decide +kernel
theorem dX10_topBlock_5 : decode cX10_topBlock 5 = .ok (.iload_n 2, 1) := by decide +kernel
theorem dX10_topBlock_6 : decode cX10_topBlock 6 = .ok (.invokevirtual 140, 3) := by decide +kernel
theorem dX10_topBlock_9 : decode cX10_topBlock 9 = .ok (.invokestatic 61, 3) := by decide +kernel
theorem dX10_topBlock_12 : decode cX10_topBlock 12 = .ok (.aload_n 0, 1) := by decide +kernel
theorem dX10_topBlock_13 : decode cX10_topBlock 13 = .ok (.getfield 10, 3) := by decide +kernel
theorem dX10_topBlock_16 : decode cX10_topBlock 16 = .ok (.iload_n 1, 1) := by decide +kernel
theorem dX10_topBlock_17 : decode cX10_topBlock 17 = .ok (.iload_n 2, 1) := by decide +kernel
theorem dX10_topBlock_18 : decode cX10_topBlock 18 = .ok (.invokestatic 124, 3) := by decide +kernel
theorem dX10_topBlock_21 : decode cX10_topBlock 21 = .ok (.invokevirtual 143, 3) := by decide +kernel
theorem dX10_topBlock_24 : decode cX10_topBlock 24 = .ok (.ireturn, 1) := by decide +kernel
set_option maxRecDepth 20000 in
theorem ggX10_steepestStep_X3_cellFault : GoodIn wsX10_steepestStep wsX3_cellFault := goodIn_r _ [5, 6, 7, 8, 9, 4, 10] (by decide +kernel) (by decide +kernel)
set_option maxRecDepth 20000 in
theorem gX10_steepestStep_X3_cellFault : GoodIn wsX10_steepestStep (va_wsS RX10 87 yX3_cellFault wsX3_cellFault) := goodIn_app (goodIn_of _ (by decide +kernel)) ggX10_steepestStep_X3_cellFault
set_option maxRecDepth 20000 in
theorem ggX10_steepestStep_X10_refuse : GoodIn wsX10_steepestStep wsX10_refuse := goodIn_ca (goodIn_ca (goodIn_ca (goodIn_ca (goodIn_ca (goodIn_ca (goodIn_r _ [14, 15, 16, 17, 18, 19, 20, 21, 22, 23, 24, 25, 26, 27, 28, 29, 30, 31, 32] (by decide +kernel) (by decide +kernel)) (goodIn_sub (fun _ h => List.mem_cons_of_mem _ (List.mem_append_left _ (List.mem_append_left _ (List.mem_append_left _ (List.mem_append_left _ (List.mem_append_left _ (List.mem_append_right _ h))))))) (by decide +kernel))) (goodIn_sub (fun _ h => List.mem_cons_of_mem _ (List.mem_append_left _ (List.mem_append_left _ (List.mem_append_left _ (List.mem_append_left _ (List.mem_append_right _ h)))))) (by decide +kernel))) (goodIn_sub (fun _ h => List.mem_cons_of_mem _ (List.mem_append_left _ (List.mem_append_left _ (List.mem_append_left _ (List.mem_append_right _ h))))) (by decide +kernel))) (goodIn_sub (fun _ h => List.mem_cons_of_mem _ (List.mem_append_left _ (List.mem_append_left _ (List.mem_append_right _ h)))) (by decide +kernel))) (goodIn_sub (fun _ h => List.mem_cons_of_mem _ (List.mem_append_left _ (List.mem_append_right _ h))) (by decide +kernel))) (goodIn_sub (fun _ h => List.mem_cons_of_mem _ (List.mem_append_right _ h)) (by decide +kernel))
set_option maxRecDepth 20000 in
theorem gX10_steepestStep_X10_refuse : GoodIn wsX10_steepestStep (va_wsS RX10 61 yX10_refuse wsX10_refuse) := goodIn_app (goodIn_of _ (by decide +kernel)) ggX10_steepestStep_X10_refuse
set_option maxRecDepth 20000 in
theorem ggX10_steepestStep_X3_cellAt : GoodIn wsX10_steepestStep wsX3_cellAt := goodIn_r _ [35] (by decide +kernel) (by decide +kernel)
set_option maxRecDepth 20000 in
theorem gX10_steepestStep_X3_cellAt : GoodIn wsX10_steepestStep (va_wsS RX10 124 yX3_cellAt wsX3_cellAt) := goodIn_app (goodIn_of _ (by decide +kernel)) ggX10_steepestStep_X3_cellAt
set_option maxRecDepth 20000 in
theorem ggX10_steepestStep_X7_steepestAt : GoodIn wsX10_steepestStep wsX7_steepestAt := goodIn_ca (goodIn_r _ [40, 41, 42, 43, 44, 39, 45, 46, 47, 48, 49, 50, 51, 52, 53, 54, 4, 55, 65, 66, 67, 68, 69, 70, 71, 72, 73, 74, 75, 76, 77, 78, 79] (by decide +kernel) (by decide +kernel)) (goodIn_sub (fun _ h => List.mem_cons_of_mem _ (List.mem_append_left _ (List.mem_append_left _ (List.mem_append_left _ (List.mem_append_left _ (List.mem_append_left _ (List.mem_append_right _ h))))))) (by decide +kernel))
set_option maxRecDepth 20000 in
theorem gX10_steepestStep_X7_steepestAt : GoodIn wsX10_steepestStep (wsV RX10 146 RX7 yX7_steepestAt wsX7_steepestAt) := goodIn_app (goodIn_of _ (by decide +kernel)) ggX10_steepestStep_X7_steepestAt
theorem dX10_steepestStep_0 : decode cX10_steepestStep 0 = .ok (.iload_n 1, 1) := by decide +kernel
theorem dX10_steepestStep_1 : decode cX10_steepestStep 1 = .ok (.iload_n 2, 1) := by decide +kernel
theorem dX10_steepestStep_2 : decode cX10_steepestStep 2 = .ok (.invokestatic 87, 3) := by decide +kernel
theorem dX10_steepestStep_5 : decode cX10_steepestStep 5 = .ok (.invokestatic 61, 3) := by decide +kernel
theorem dX10_steepestStep_8 : decode cX10_steepestStep 8 = .ok (.aload_n 0, 1) := by decide +kernel
theorem dX10_steepestStep_9 : decode cX10_steepestStep 9 = .ok (.getfield 10, 3) := by decide +kernel
theorem dX10_steepestStep_12 : decode cX10_steepestStep 12 = .ok (.iload_n 1, 1) := by decide +kernel
theorem dX10_steepestStep_13 : decode cX10_steepestStep 13 = .ok (.iload_n 2, 1) := by decide +kernel
theorem dX10_steepestStep_14 : decode cX10_steepestStep 14 = .ok (.invokestatic 124, 3) := by decide +kernel
theorem dX10_steepestStep_17 : decode cX10_steepestStep 17 = .ok (.invokevirtual 146, 3) := by decide +kernel
theorem dX10_steepestStep_20 : decode cX10_steepestStep 20 = .ok (.ireturn, 1) := by decide +kernel
set_option maxRecDepth 20000 in
theorem ggX10_canCut_X3_cellFault : GoodIn wsX10_canCut wsX3_cellFault := goodIn_r _ [6, 7, 8, 9, 10, 5, 11] (by decide +kernel) (by decide +kernel)
set_option maxRecDepth 20000 in
theorem gX10_canCut_X3_cellFault : GoodIn wsX10_canCut (va_wsS RX10 87 yX3_cellFault wsX3_cellFault) := goodIn_app (goodIn_of _ (by decide +kernel)) ggX10_canCut_X3_cellFault
set_option maxRecDepth 20000 in
theorem ggX10_canCut_X10_refuse : GoodIn wsX10_canCut wsX10_refuse := goodIn_ca (goodIn_ca (goodIn_ca (goodIn_ca (goodIn_ca (goodIn_ca (goodIn_r _ [15, 16, 17, 18, 19, 20, 21, 22, 23, 24, 25, 26, 27, 28, 29, 30, 31, 32, 33] (by decide +kernel) (by decide +kernel)) (goodIn_sub (fun _ h => List.mem_cons_of_mem _ (List.mem_append_left _ (List.mem_append_left _ (List.mem_append_left _ (List.mem_append_left _ (List.mem_append_left _ (List.mem_append_right _ h))))))) (by decide +kernel))) (goodIn_sub (fun _ h => List.mem_cons_of_mem _ (List.mem_append_left _ (List.mem_append_left _ (List.mem_append_left _ (List.mem_append_left _ (List.mem_append_right _ h)))))) (by decide +kernel))) (goodIn_sub (fun _ h => List.mem_cons_of_mem _ (List.mem_append_left _ (List.mem_append_left _ (List.mem_append_left _ (List.mem_append_right _ h))))) (by decide +kernel))) (goodIn_sub (fun _ h => List.mem_cons_of_mem _ (List.mem_append_left _ (List.mem_append_left _ (List.mem_append_right _ h)))) (by decide +kernel))) (goodIn_sub (fun _ h => List.mem_cons_of_mem _ (List.mem_append_left _ (List.mem_append_right _ h))) (by decide +kernel))) (goodIn_sub (fun _ h => List.mem_cons_of_mem _ (List.mem_append_right _ h)) (by decide +kernel))
set_option maxRecDepth 20000 in
theorem gX10_canCut_X10_refuse : GoodIn wsX10_canCut (va_wsS RX10 61 yX10_refuse wsX10_refuse) := goodIn_app (goodIn_of _ (by decide +kernel)) ggX10_canCut_X10_refuse
set_option maxRecDepth 20000 in
theorem ggX10_canCut_X7_cutFault : GoodIn wsX10_canCut wsX7_cutFault := goodIn_ca (goodIn_r _ [38, 39, 40, 41, 42, 43, 44, 45, 46, 47, 4, 5, 6, 7, 8, 9, 10, 11, 48, 49, 50, 51, 52, 53, 37, 54, 55, 56, 57, 58, 59, 60, 61, 62, 63, 64, 74, 75, 76, 77, 78, 79, 80, 81, 82, 83, 84, 85, 86, 87, 88] (by decide +kernel) (by decide +kernel)) (goodIn_sub (fun _ h => List.mem_cons_of_mem _ (List.mem_append_left _ (List.mem_append_left _ (List.mem_append_left _ (List.mem_append_left _ (List.mem_append_left _ (List.mem_append_right _ h))))))) (by decide +kernel))
set_option maxRecDepth 20000 in
theorem gX10_canCut_X7_cutFault : GoodIn wsX10_canCut (wsV RX10 73 RX7 yX7_cutFault wsX7_cutFault) := goodIn_app (goodIn_of _ (by decide +kernel)) ggX10_canCut_X7_cutFault
theorem dX10_canCut_0 : decode cX10_canCut 0 = .ok (.iload_n 1, 1) := by decide +kernel
theorem dX10_canCut_1 : decode cX10_canCut 1 = .ok (.iload_n 2, 1) := by decide +kernel
theorem dX10_canCut_2 : decode cX10_canCut 2 = .ok (.invokestatic 87, 3) := by decide +kernel
theorem dX10_canCut_5 : decode cX10_canCut 5 = .ok (.invokestatic 61, 3) := by decide +kernel
theorem dX10_canCut_8 : decode cX10_canCut 8 = .ok (.aload_n 0, 1) := by decide +kernel
theorem dX10_canCut_9 : decode cX10_canCut 9 = .ok (.getfield 10, 3) := by decide +kernel
theorem dX10_canCut_12 : decode cX10_canCut 12 = .ok (.iload_n 1, 1) := by decide +kernel
theorem dX10_canCut_13 : decode cX10_canCut 13 = .ok (.iload_n 2, 1) := by decide +kernel
theorem dX10_canCut_14 : decode cX10_canCut 14 = .ok (.invokevirtual 73, 3) := by decide +kernel
theorem dX10_canCut_17 : decode cX10_canCut 17 = .ok (.getstatic 149, 3) := by decide +kernel
theorem dX10_canCut_20 : decode cX10_canCut 20 = .ok (.if_acmp .ne 7, 3) := by decide +kernel
theorem dX10_canCut_23 : decode cX10_canCut 23 = .ok (.iconst 1, 1) := by decide +kernel
theorem dX10_canCut_24 : decode cX10_canCut 24 = .ok (.goto 4, 3) := by decide +kernel
theorem dX10_canCut_27 : decode cX10_canCut 27 = .ok (.iconst 0, 1) := by decide +kernel
theorem dX10_canCut_28 : decode cX10_canCut 28 = .ok (.ireturn, 1) := by decide +kernel
set_option maxRecDepth 20000 in
theorem ggX10_cuttableCells_X7_countCuttable : GoodIn wsX10_cuttableCells wsX7_countCuttable := goodIn_ca (goodIn_r _ [6, 7, 8, 9, 10, 11, 12, 13, 14, 15, 16, 17, 5, 18, 19, 20, 21, 22, 23, 24, 25, 26, 27, 28, 29, 30, 31, 32, 33, 34, 35, 36, 37, 38, 39, 40, 41, 42, 43, 44, 45, 46, 47, 48, 49, 50, 60, 61, 62, 63, 64, 65, 66, 67, 68, 69, 70, 71, 72, 73, 74] (by decide +kernel) (by decide +kernel)) (goodIn_sub (fun _ h => List.mem_cons_of_mem _ (List.mem_append_right _ h)) (by decide +kernel))
set_option maxRecDepth 20000 in
theorem gX10_cuttableCells_X7_countCuttable : GoodIn wsX10_cuttableCells (wsV RX10 155 RX7 yX7_countCuttable wsX7_countCuttable) := goodIn_app (goodIn_of _ (by decide +kernel)) ggX10_cuttableCells_X7_countCuttable
theorem dX10_cuttableCells_0 : decode cX10_cuttableCells 0 = .ok (.aload_n 0, 1) := by decide +kernel
theorem dX10_cuttableCells_1 : decode cX10_cuttableCells 1 = .ok (.getfield 10, 3) := by decide +kernel
theorem dX10_cuttableCells_4 : decode cX10_cuttableCells 4 = .ok (.invokevirtual 155, 3) := by decide +kernel
theorem dX10_cuttableCells_7 : decode cX10_cuttableCells 7 = .ok (.ireturn, 1) := by decide +kernel
set_option maxRecDepth 20000 in
theorem ggX10_cellsAt_X7_heightFault : GoodIn wsX10_cellsAt wsX7_heightFault := goodIn_r _ [5, 6, 7] (by decide +kernel) (by decide +kernel)
set_option maxRecDepth 20000 in
theorem gX10_cellsAt_X7_heightFault : GoodIn wsX10_cellsAt (va_wsS RX10 159 yX7_heightFault wsX7_heightFault) := goodIn_app (goodIn_of _ (by decide +kernel)) ggX10_cellsAt_X7_heightFault
set_option maxRecDepth 20000 in
theorem ggX10_cellsAt_X10_refuse : GoodIn wsX10_cellsAt wsX10_refuse := goodIn_ca (goodIn_ca (goodIn_ca (goodIn_ca (goodIn_ca (goodIn_ca (goodIn_r _ [11, 12, 13, 14, 15, 16, 17, 18, 19, 20, 21, 22, 23, 24, 25, 26, 27, 28, 29] (by decide +kernel) (by decide +kernel)) (goodIn_sub (fun _ h => List.mem_cons_of_mem _ (List.mem_append_left _ (List.mem_append_left _ (List.mem_append_left _ (List.mem_append_left _ (List.mem_append_left _ (List.mem_append_right _ h))))))) (by decide +kernel))) (goodIn_sub (fun _ h => List.mem_cons_of_mem _ (List.mem_append_left _ (List.mem_append_left _ (List.mem_append_left _ (List.mem_append_left _ (List.mem_append_right _ h)))))) (by decide +kernel))) (goodIn_sub (fun _ h => List.mem_cons_of_mem _ (List.mem_append_left _ (List.mem_append_left _ (List.mem_append_left _ (List.mem_append_right _ h))))) (by decide +kernel))) (goodIn_sub (fun _ h => List.mem_cons_of_mem _ (List.mem_append_left _ (List.mem_append_left _ (List.mem_append_right _ h)))) (by decide +kernel))) (goodIn_sub (fun _ h => List.mem_cons_of_mem _ (List.mem_append_left _ (List.mem_append_right _ h))) (by decide +kernel))) (goodIn_sub (fun _ h => List.mem_cons_of_mem _ (List.mem_append_right _ h)) (by decide +kernel))
set_option maxRecDepth 20000 in
theorem gX10_cellsAt_X10_refuse : GoodIn wsX10_cellsAt (va_wsS RX10 61 yX10_refuse wsX10_refuse) := goodIn_app (goodIn_of _ (by decide +kernel)) ggX10_cellsAt_X10_refuse
set_option maxRecDepth 20000 in
theorem ggX10_cellsAt_X7_countAt : GoodIn wsX10_cellsAt wsX7_countAt := goodIn_ca (goodIn_r _ [33, 34, 44, 45, 46, 47, 48, 49, 50, 51, 52, 53, 54, 55, 56, 57, 58] (by decide +kernel) (by decide +kernel)) (goodIn_sub (fun _ h => List.mem_cons_of_mem _ (List.mem_append_left _ (List.mem_append_left _ (List.mem_append_left _ (List.mem_append_left _ (List.mem_append_left _ (List.mem_append_right _ h))))))) (by decide +kernel))
set_option maxRecDepth 20000 in
theorem gX10_cellsAt_X7_countAt : GoodIn wsX10_cellsAt (wsV RX10 162 RX7 yX7_countAt wsX7_countAt) := goodIn_app (goodIn_of _ (by decide +kernel)) ggX10_cellsAt_X7_countAt
theorem dX10_cellsAt_0 : decode cX10_cellsAt 0 = .ok (.iload_n 1, 1) := by decide +kernel
theorem dX10_cellsAt_1 : decode cX10_cellsAt 1 = .ok (.invokestatic 159, 3) := by decide +kernel
theorem dX10_cellsAt_4 : decode cX10_cellsAt 4 = .ok (.invokestatic 61, 3) := by decide +kernel
theorem dX10_cellsAt_7 : decode cX10_cellsAt 7 = .ok (.aload_n 0, 1) := by decide +kernel
theorem dX10_cellsAt_8 : decode cX10_cellsAt 8 = .ok (.getfield 10, 3) := by decide +kernel
theorem dX10_cellsAt_11 : decode cX10_cellsAt 11 = .ok (.iload_n 1, 1) := by decide +kernel
theorem dX10_cellsAt_12 : decode cX10_cellsAt 12 = .ok (.invokevirtual 162, 3) := by decide +kernel
theorem dX10_cellsAt_15 : decode cX10_cellsAt 15 = .ok (.ireturn, 1) := by decide +kernel
set_option maxRecDepth 20000 in
theorem ggX10_cutsToLower_X7_lowerFault : GoodIn wsX10_cutsToLower wsX7_lowerFault := goodIn_ca (goodIn_r _ [6, 7, 8, 9, 10, 11, 12, 13, 14, 15, 16, 17, 18, 19, 20, 21, 22, 76, 77, 78, 79, 80, 81, 82, 83, 84, 85, 86, 87, 88, 89, 90] (by decide +kernel) (by decide +kernel)) (goodIn_sub (fun _ h => List.mem_cons_of_mem _ (List.mem_append_left _ (List.mem_append_left _ (List.mem_append_left _ (List.mem_append_left _ (List.mem_append_left _ (List.mem_append_right _ h))))))) (by decide +kernel))
set_option maxRecDepth 20000 in
theorem gX10_cutsToLower_X7_lowerFault : GoodIn wsX10_cutsToLower (wsV RX10 165 RX7 yX7_lowerFault wsX7_lowerFault) := goodIn_app (goodIn_of _ (by decide +kernel)) ggX10_cutsToLower_X7_lowerFault
set_option maxRecDepth 20000 in
theorem ggX10_cutsToLower_X10_refuse : GoodIn wsX10_cutsToLower wsX10_refuse := goodIn_ca (goodIn_ca (goodIn_ca (goodIn_ca (goodIn_ca (goodIn_ca (goodIn_r _ [26, 27, 28, 29, 30, 31, 32, 33, 34, 35, 36, 37, 38, 39, 40, 41, 42, 43, 44] (by decide +kernel) (by decide +kernel)) (goodIn_sub (fun _ h => List.mem_cons_of_mem _ (List.mem_append_left _ (List.mem_append_left _ (List.mem_append_left _ (List.mem_append_left _ (List.mem_append_left _ (List.mem_append_right _ h))))))) (by decide +kernel))) (goodIn_sub (fun _ h => List.mem_cons_of_mem _ (List.mem_append_left _ (List.mem_append_left _ (List.mem_append_left _ (List.mem_append_left _ (List.mem_append_right _ h)))))) (by decide +kernel))) (goodIn_sub (fun _ h => List.mem_cons_of_mem _ (List.mem_append_left _ (List.mem_append_left _ (List.mem_append_left _ (List.mem_append_right _ h))))) (by decide +kernel))) (goodIn_sub (fun _ h => List.mem_cons_of_mem _ (List.mem_append_left _ (List.mem_append_left _ (List.mem_append_right _ h)))) (by decide +kernel))) (goodIn_sub (fun _ h => List.mem_cons_of_mem _ (List.mem_append_left _ (List.mem_append_right _ h))) (by decide +kernel))) (goodIn_sub (fun _ h => List.mem_cons_of_mem _ (List.mem_append_right _ h)) (by decide +kernel))
set_option maxRecDepth 20000 in
theorem gX10_cutsToLower_X10_refuse : GoodIn wsX10_cutsToLower (va_wsS RX10 61 yX10_refuse wsX10_refuse) := goodIn_app (goodIn_of _ (by decide +kernel)) ggX10_cutsToLower_X10_refuse
set_option maxRecDepth 20000 in
theorem ggX10_cutsToLower_X3_cellAt : GoodIn wsX10_cutsToLower wsX3_cellAt := goodIn_r _ [22] (by decide +kernel) (by decide +kernel)
set_option maxRecDepth 20000 in
theorem gX10_cutsToLower_X3_cellAt : GoodIn wsX10_cutsToLower (va_wsS RX10 124 yX3_cellAt wsX3_cellAt) := goodIn_app (goodIn_of _ (by decide +kernel)) ggX10_cutsToLower_X3_cellAt
set_option maxRecDepth 20000 in
theorem ggX10_cutsToLower_X7_cutsByDistance : GoodIn wsX10_cutsToLower wsX7_cutsByDistance := goodIn_ca (goodIn_r _ [49, 50, 9, 51, 52, 53, 54, 55, 56, 13, 57, 58, 59, 60, 61, 62, 63, 64, 65, 66, 76, 77, 78, 79, 80, 81, 82, 83, 84, 85, 86, 87, 88, 89, 90] (by decide +kernel) (by decide +kernel)) (goodIn_sub (fun _ h => List.mem_cons_of_mem _ (List.mem_append_left _ (List.mem_append_left _ (List.mem_append_left _ (List.mem_append_left _ (List.mem_append_left _ (List.mem_append_right _ h))))))) (by decide +kernel))
set_option maxRecDepth 20000 in
theorem gX10_cutsToLower_X7_cutsByDistance : GoodIn wsX10_cutsToLower (wsV RX10 168 RX7 yX7_cutsByDistance wsX7_cutsByDistance) := goodIn_app (goodIn_of _ (by decide +kernel)) ggX10_cutsToLower_X7_cutsByDistance
theorem dX10_cutsToLower_0 : decode cX10_cutsToLower 0 = .ok (.aload_n 0, 1) := by decide +kernel
theorem dX10_cutsToLower_1 : decode cX10_cutsToLower 1 = .ok (.getfield 10, 3) := by decide +kernel
theorem dX10_cutsToLower_4 : decode cX10_cutsToLower 4 = .ok (.iload_n 1, 1) := by decide +kernel
theorem dX10_cutsToLower_5 : decode cX10_cutsToLower 5 = .ok (.iload_n 2, 1) := by decide +kernel
theorem dX10_cutsToLower_6 : decode cX10_cutsToLower 6 = .ok (.iload_n 3, 1) := by decide +kernel
theorem dX10_cutsToLower_7 : decode cX10_cutsToLower 7 = .ok (.invokevirtual 165, 3) := by decide +kernel
theorem dX10_cutsToLower_10 : decode cX10_cutsToLower 10 = .ok (.invokestatic 61, 3) := by decide +kernel
theorem dX10_cutsToLower_13 : decode cX10_cutsToLower 13 = .ok (.aload_n 0, 1) := by decide +kernel
theorem dX10_cutsToLower_14 : decode cX10_cutsToLower 14 = .ok (.getfield 10, 3) := by decide +kernel
theorem dX10_cutsToLower_17 : decode cX10_cutsToLower 17 = .ok (.iload_n 1, 1) := by decide +kernel
theorem dX10_cutsToLower_18 : decode cX10_cutsToLower 18 = .ok (.iload_n 2, 1) := by decide +kernel
theorem dX10_cutsToLower_19 : decode cX10_cutsToLower 19 = .ok (.invokestatic 124, 3) := by decide +kernel
theorem dX10_cutsToLower_22 : decode cX10_cutsToLower 22 = .ok (.iload_n 3, 1) := by decide +kernel
theorem dX10_cutsToLower_23 : decode cX10_cutsToLower 23 = .ok (.invokevirtual 168, 3) := by decide +kernel
theorem dX10_cutsToLower_26 : decode cX10_cutsToLower 26 = .ok (.ireturn, 1) := by decide +kernel
set_option maxRecDepth 20000 in
theorem ggX10_cutsToLowerBySpreading_X7_lowerFault : GoodIn wsX10_cutsToLowerBySpreading wsX7_lowerFault := goodIn_ca (goodIn_r _ [7, 8, 9, 10, 11, 12, 13, 14, 15, 16, 17, 18, 19, 20, 21, 22, 23, 79, 80, 81, 82, 83, 84, 85, 86, 87, 88, 89, 90, 91, 92, 93] (by decide +kernel) (by decide +kernel)) (goodIn_sub (fun _ h => List.mem_cons_of_mem _ (List.mem_append_left _ (List.mem_append_left _ (List.mem_append_left _ (List.mem_append_left _ (List.mem_append_left _ (List.mem_append_right _ h))))))) (by decide +kernel))
set_option maxRecDepth 20000 in
theorem gX10_cutsToLowerBySpreading_X7_lowerFault : GoodIn wsX10_cutsToLowerBySpreading (wsV RX10 165 RX7 yX7_lowerFault wsX7_lowerFault) := goodIn_app (goodIn_of _ (by decide +kernel)) ggX10_cutsToLowerBySpreading_X7_lowerFault
set_option maxRecDepth 20000 in
theorem ggX10_cutsToLowerBySpreading_X10_refuse : GoodIn wsX10_cutsToLowerBySpreading wsX10_refuse := goodIn_ca (goodIn_ca (goodIn_ca (goodIn_ca (goodIn_ca (goodIn_ca (goodIn_r _ [27, 28, 29, 30, 31, 32, 33, 34, 35, 36, 37, 38, 39, 40, 41, 42, 43, 44, 45] (by decide +kernel) (by decide +kernel)) (goodIn_sub (fun _ h => List.mem_cons_of_mem _ (List.mem_append_left _ (List.mem_append_left _ (List.mem_append_left _ (List.mem_append_left _ (List.mem_append_left _ (List.mem_append_right _ h))))))) (by decide +kernel))) (goodIn_sub (fun _ h => List.mem_cons_of_mem _ (List.mem_append_left _ (List.mem_append_left _ (List.mem_append_left _ (List.mem_append_left _ (List.mem_append_right _ h)))))) (by decide +kernel))) (goodIn_sub (fun _ h => List.mem_cons_of_mem _ (List.mem_append_left _ (List.mem_append_left _ (List.mem_append_left _ (List.mem_append_right _ h))))) (by decide +kernel))) (goodIn_sub (fun _ h => List.mem_cons_of_mem _ (List.mem_append_left _ (List.mem_append_left _ (List.mem_append_right _ h)))) (by decide +kernel))) (goodIn_sub (fun _ h => List.mem_cons_of_mem _ (List.mem_append_left _ (List.mem_append_right _ h))) (by decide +kernel))) (goodIn_sub (fun _ h => List.mem_cons_of_mem _ (List.mem_append_right _ h)) (by decide +kernel))
set_option maxRecDepth 20000 in
theorem gX10_cutsToLowerBySpreading_X10_refuse : GoodIn wsX10_cutsToLowerBySpreading (va_wsS RX10 61 yX10_refuse wsX10_refuse) := goodIn_app (goodIn_of _ (by decide +kernel)) ggX10_cutsToLowerBySpreading_X10_refuse
set_option maxRecDepth 20000 in
theorem ggX10_cutsToLowerBySpreading_X3_cellAt : GoodIn wsX10_cutsToLowerBySpreading wsX3_cellAt := goodIn_r _ [23] (by decide +kernel) (by decide +kernel)
set_option maxRecDepth 20000 in
theorem gX10_cutsToLowerBySpreading_X3_cellAt : GoodIn wsX10_cutsToLowerBySpreading (va_wsS RX10 124 yX3_cellAt wsX3_cellAt) := goodIn_app (goodIn_of _ (by decide +kernel)) ggX10_cutsToLowerBySpreading_X3_cellAt
set_option maxRecDepth 20000 in
theorem ggX10_cutsToLowerBySpreading_X8_cutsBySpreading : GoodIn wsX10_cutsToLowerBySpreading wsX8_cutsBySpreading := goodIn_ca (goodIn_r _ [51, 52, 53, 54, 55, 56, 6, 57, 10, 58, 59, 14, 60, 61, 62, 63, 64, 65, 66, 67, 68, 50, 69, 94, 95, 96, 97, 98, 79, 80, 81, 82, 83, 84, 85, 86, 87, 88, 89, 90, 91, 92, 93] (by decide +kernel) (by decide +kernel)) (goodIn_sub (fun _ h => List.mem_cons_of_mem _ (List.mem_append_left _ (List.mem_append_left _ (List.mem_append_left _ (List.mem_append_left _ (List.mem_append_left _ (List.mem_append_right _ h))))))) (by decide +kernel))
set_option maxRecDepth 20000 in
theorem gX10_cutsToLowerBySpreading_X8_cutsBySpreading : GoodIn wsX10_cutsToLowerBySpreading (wsV RX10 171 RX8 yX8_cutsBySpreading wsX8_cutsBySpreading) := goodIn_app (goodIn_of _ (by decide +kernel)) ggX10_cutsToLowerBySpreading_X8_cutsBySpreading
theorem dX10_cutsToLowerBySpreading_0 : decode cX10_cutsToLowerBySpreading 0 = .ok (.aload_n 0, 1) := by decide +kernel
theorem dX10_cutsToLowerBySpreading_1 : decode cX10_cutsToLowerBySpreading 1 = .ok (.getfield 10, 3) := by decide +kernel
theorem dX10_cutsToLowerBySpreading_4 : decode cX10_cutsToLowerBySpreading 4 = .ok (.iload_n 1, 1) := by decide +kernel
theorem dX10_cutsToLowerBySpreading_5 : decode cX10_cutsToLowerBySpreading 5 = .ok (.iload_n 2, 1) := by decide +kernel
theorem dX10_cutsToLowerBySpreading_6 : decode cX10_cutsToLowerBySpreading 6 = .ok (.iload_n 3, 1) := by decide +kernel
theorem dX10_cutsToLowerBySpreading_7 : decode cX10_cutsToLowerBySpreading 7 = .ok (.invokevirtual 165, 3) := by decide +kernel
theorem dX10_cutsToLowerBySpreading_10 : decode cX10_cutsToLowerBySpreading 10 = .ok (.invokestatic 61, 3) := by decide +kernel
theorem dX10_cutsToLowerBySpreading_13 : decode cX10_cutsToLowerBySpreading 13 = .ok (.aload_n 0, 1) := by decide +kernel
theorem dX10_cutsToLowerBySpreading_14 : decode cX10_cutsToLowerBySpreading 14 = .ok (.getfield 22, 3) := by decide +kernel
theorem dX10_cutsToLowerBySpreading_17 : decode cX10_cutsToLowerBySpreading 17 = .ok (.aload_n 0, 1) := by decide +kernel
theorem dX10_cutsToLowerBySpreading_18 : decode cX10_cutsToLowerBySpreading 18 = .ok (.getfield 10, 3) := by decide +kernel
theorem dX10_cutsToLowerBySpreading_21 : decode cX10_cutsToLowerBySpreading 21 = .ok (.iload_n 1, 1) := by decide +kernel
theorem dX10_cutsToLowerBySpreading_22 : decode cX10_cutsToLowerBySpreading 22 = .ok (.iload_n 2, 1) := by decide +kernel
theorem dX10_cutsToLowerBySpreading_23 : decode cX10_cutsToLowerBySpreading 23 = .ok (.invokestatic 124, 3) := by decide +kernel
theorem dX10_cutsToLowerBySpreading_26 : decode cX10_cutsToLowerBySpreading 26 = .ok (.iload_n 3, 1) := by decide +kernel
theorem dX10_cutsToLowerBySpreading_27 : decode cX10_cutsToLowerBySpreading 27 = .ok (.invokevirtual 171, 3) := by decide +kernel
theorem dX10_cutsToLowerBySpreading_30 : decode cX10_cutsToLowerBySpreading 30 = .ok (.ireturn, 1) := by decide +kernel
set_option maxRecDepth 20000 in
theorem ggX10_seamSize_X3_cellFault : GoodIn wsX10_seamSize wsX3_cellFault := goodIn_r _ [6, 7, 8, 9, 10, 5, 11] (by decide +kernel) (by decide +kernel)
set_option maxRecDepth 20000 in
theorem gX10_seamSize_X3_cellFault : GoodIn wsX10_seamSize (va_wsS RX10 87 yX3_cellFault wsX3_cellFault) := goodIn_app (goodIn_of _ (by decide +kernel)) ggX10_seamSize_X3_cellFault
set_option maxRecDepth 20000 in
theorem ggX10_seamSize_X10_refuse : GoodIn wsX10_seamSize wsX10_refuse := goodIn_ca (goodIn_ca (goodIn_ca (goodIn_ca (goodIn_ca (goodIn_ca (goodIn_r _ [15, 16, 17, 18, 19, 20, 21, 22, 23, 24, 25, 26, 27, 28, 29, 30, 31, 32, 33] (by decide +kernel) (by decide +kernel)) (goodIn_sub (fun _ h => List.mem_cons_of_mem _ (List.mem_append_left _ (List.mem_append_left _ (List.mem_append_left _ (List.mem_append_left _ (List.mem_append_left _ (List.mem_append_right _ h))))))) (by decide +kernel))) (goodIn_sub (fun _ h => List.mem_cons_of_mem _ (List.mem_append_left _ (List.mem_append_left _ (List.mem_append_left _ (List.mem_append_left _ (List.mem_append_right _ h)))))) (by decide +kernel))) (goodIn_sub (fun _ h => List.mem_cons_of_mem _ (List.mem_append_left _ (List.mem_append_left _ (List.mem_append_left _ (List.mem_append_right _ h))))) (by decide +kernel))) (goodIn_sub (fun _ h => List.mem_cons_of_mem _ (List.mem_append_left _ (List.mem_append_left _ (List.mem_append_right _ h)))) (by decide +kernel))) (goodIn_sub (fun _ h => List.mem_cons_of_mem _ (List.mem_append_left _ (List.mem_append_right _ h))) (by decide +kernel))) (goodIn_sub (fun _ h => List.mem_cons_of_mem _ (List.mem_append_right _ h)) (by decide +kernel))
set_option maxRecDepth 20000 in
theorem gX10_seamSize_X10_refuse : GoodIn wsX10_seamSize (va_wsS RX10 61 yX10_refuse wsX10_refuse) := goodIn_app (goodIn_of _ (by decide +kernel)) ggX10_seamSize_X10_refuse
set_option maxRecDepth 20000 in
theorem ggX10_seamSize_X3_cellAt : GoodIn wsX10_seamSize wsX3_cellAt := goodIn_r _ [36] (by decide +kernel) (by decide +kernel)
set_option maxRecDepth 20000 in
theorem gX10_seamSize_X3_cellAt : GoodIn wsX10_seamSize (va_wsS RX10 124 yX3_cellAt wsX3_cellAt) := goodIn_app (goodIn_of _ (by decide +kernel)) ggX10_seamSize_X3_cellAt
set_option maxRecDepth 20000 in
theorem ggX10_seamSize_X8_sizeOfSeam : GoodIn wsX10_seamSize wsX8_sizeOfSeam := goodIn_ca (goodIn_r _ [41, 42, 43, 44, 40, 45, 46, 47, 48, 49, 50, 51, 52, 53, 54, 55, 56, 57, 58, 59, 5, 60, 61, 62, 63, 64, 65, 66, 67, 68, 78, 79, 80, 81, 82, 83, 84, 85, 86, 87, 88, 89, 90, 91, 92, 93, 94, 95, 96, 97] (by decide +kernel) (by decide +kernel)) (goodIn_sub (fun _ h => List.mem_cons_of_mem _ (List.mem_append_left _ (List.mem_append_left _ (List.mem_append_left _ (List.mem_append_left _ (List.mem_append_left _ (List.mem_append_right _ h))))))) (by decide +kernel))
set_option maxRecDepth 20000 in
theorem gX10_seamSize_X8_sizeOfSeam : GoodIn wsX10_seamSize (wsV RX10 175 RX8 yX8_sizeOfSeam wsX8_sizeOfSeam) := goodIn_app (goodIn_of _ (by decide +kernel)) ggX10_seamSize_X8_sizeOfSeam
theorem dX10_seamSize_0 : decode cX10_seamSize 0 = .ok (.iload_n 1, 1) := by decide +kernel
theorem dX10_seamSize_1 : decode cX10_seamSize 1 = .ok (.iload_n 2, 1) := by decide +kernel
theorem dX10_seamSize_2 : decode cX10_seamSize 2 = .ok (.invokestatic 87, 3) := by decide +kernel
theorem dX10_seamSize_5 : decode cX10_seamSize 5 = .ok (.invokestatic 61, 3) := by decide +kernel
theorem dX10_seamSize_8 : decode cX10_seamSize 8 = .ok (.aload_n 0, 1) := by decide +kernel
theorem dX10_seamSize_9 : decode cX10_seamSize 9 = .ok (.getfield 22, 3) := by decide +kernel
theorem dX10_seamSize_12 : decode cX10_seamSize 12 = .ok (.aload_n 0, 1) := by decide +kernel
theorem dX10_seamSize_13 : decode cX10_seamSize 13 = .ok (.getfield 10, 3) := by decide +kernel
theorem dX10_seamSize_16 : decode cX10_seamSize 16 = .ok (.iload_n 1, 1) := by decide +kernel
theorem dX10_seamSize_17 : decode cX10_seamSize 17 = .ok (.iload_n 2, 1) := by decide +kernel
theorem dX10_seamSize_18 : decode cX10_seamSize 18 = .ok (.invokestatic 124, 3) := by decide +kernel
theorem dX10_seamSize_21 : decode cX10_seamSize 21 = .ok (.invokevirtual 175, 3) := by decide +kernel
theorem dX10_seamSize_24 : decode cX10_seamSize 24 = .ok (.ireturn, 1) := by decide +kernel
set_option maxRecDepth 20000 in
theorem ggX10_seamVolume_X3_cellFault : GoodIn wsX10_seamVolume wsX3_cellFault := goodIn_r _ [6, 7, 8, 9, 10, 5, 11] (by decide +kernel) (by decide +kernel)
set_option maxRecDepth 20000 in
theorem gX10_seamVolume_X3_cellFault : GoodIn wsX10_seamVolume (va_wsS RX10 87 yX3_cellFault wsX3_cellFault) := goodIn_app (goodIn_of _ (by decide +kernel)) ggX10_seamVolume_X3_cellFault
set_option maxRecDepth 20000 in
theorem ggX10_seamVolume_X10_refuse : GoodIn wsX10_seamVolume wsX10_refuse := goodIn_ca (goodIn_ca (goodIn_ca (goodIn_ca (goodIn_ca (goodIn_ca (goodIn_r _ [15, 16, 17, 18, 19, 20, 21, 22, 23, 24, 25, 26, 27, 28, 29, 30, 31, 32, 33] (by decide +kernel) (by decide +kernel)) (goodIn_sub (fun _ h => List.mem_cons_of_mem _ (List.mem_append_left _ (List.mem_append_left _ (List.mem_append_left _ (List.mem_append_left _ (List.mem_append_left _ (List.mem_append_right _ h))))))) (by decide +kernel))) (goodIn_sub (fun _ h => List.mem_cons_of_mem _ (List.mem_append_left _ (List.mem_append_left _ (List.mem_append_left _ (List.mem_append_left _ (List.mem_append_right _ h)))))) (by decide +kernel))) (goodIn_sub (fun _ h => List.mem_cons_of_mem _ (List.mem_append_left _ (List.mem_append_left _ (List.mem_append_left _ (List.mem_append_right _ h))))) (by decide +kernel))) (goodIn_sub (fun _ h => List.mem_cons_of_mem _ (List.mem_append_left _ (List.mem_append_left _ (List.mem_append_right _ h)))) (by decide +kernel))) (goodIn_sub (fun _ h => List.mem_cons_of_mem _ (List.mem_append_left _ (List.mem_append_right _ h))) (by decide +kernel))) (goodIn_sub (fun _ h => List.mem_cons_of_mem _ (List.mem_append_right _ h)) (by decide +kernel))
set_option maxRecDepth 20000 in
theorem gX10_seamVolume_X10_refuse : GoodIn wsX10_seamVolume (va_wsS RX10 61 yX10_refuse wsX10_refuse) := goodIn_app (goodIn_of _ (by decide +kernel)) ggX10_seamVolume_X10_refuse
set_option maxRecDepth 20000 in
theorem ggX10_seamVolume_X3_cellAt : GoodIn wsX10_seamVolume wsX3_cellAt := goodIn_r _ [36] (by decide +kernel) (by decide +kernel)
set_option maxRecDepth 20000 in
theorem gX10_seamVolume_X3_cellAt : GoodIn wsX10_seamVolume (va_wsS RX10 124 yX3_cellAt wsX3_cellAt) := goodIn_app (goodIn_of _ (by decide +kernel)) ggX10_seamVolume_X3_cellAt
set_option maxRecDepth 20000 in
theorem ggX10_seamVolume_X8_volumeOfSeam : GoodIn wsX10_seamVolume wsX8_volumeOfSeam := goodIn_ca (goodIn_r _ [41, 42, 43, 44, 45, 40, 46, 47, 48, 49, 50, 51, 52, 53, 54, 55, 56, 57, 58, 59, 5, 60, 61, 62, 63, 64, 65, 66, 67, 68, 78, 79, 80, 81, 82, 83, 84, 85, 86, 87, 88, 89, 90, 91, 92, 93, 94, 95, 96, 97] (by decide +kernel) (by decide +kernel)) (goodIn_sub (fun _ h => List.mem_cons_of_mem _ (List.mem_append_left _ (List.mem_append_left _ (List.mem_append_left _ (List.mem_append_left _ (List.mem_append_left _ (List.mem_append_right _ h))))))) (by decide +kernel))
set_option maxRecDepth 20000 in
theorem gX10_seamVolume_X8_volumeOfSeam : GoodIn wsX10_seamVolume (wsV RX10 179 RX8 yX8_volumeOfSeam wsX8_volumeOfSeam) := goodIn_app (goodIn_of _ (by decide +kernel)) ggX10_seamVolume_X8_volumeOfSeam
theorem dX10_seamVolume_0 : decode cX10_seamVolume 0 = .ok (.iload_n 1, 1) := by decide +kernel
theorem dX10_seamVolume_1 : decode cX10_seamVolume 1 = .ok (.iload_n 2, 1) := by decide +kernel
theorem dX10_seamVolume_2 : decode cX10_seamVolume 2 = .ok (.invokestatic 87, 3) := by decide +kernel
theorem dX10_seamVolume_5 : decode cX10_seamVolume 5 = .ok (.invokestatic 61, 3) := by decide +kernel
theorem dX10_seamVolume_8 : decode cX10_seamVolume 8 = .ok (.aload_n 0, 1) := by decide +kernel
theorem dX10_seamVolume_9 : decode cX10_seamVolume 9 = .ok (.getfield 22, 3) := by decide +kernel
theorem dX10_seamVolume_12 : decode cX10_seamVolume 12 = .ok (.aload_n 0, 1) := by decide +kernel
theorem dX10_seamVolume_13 : decode cX10_seamVolume 13 = .ok (.getfield 10, 3) := by decide +kernel
theorem dX10_seamVolume_16 : decode cX10_seamVolume 16 = .ok (.iload_n 1, 1) := by decide +kernel
theorem dX10_seamVolume_17 : decode cX10_seamVolume 17 = .ok (.iload_n 2, 1) := by decide +kernel
theorem dX10_seamVolume_18 : decode cX10_seamVolume 18 = .ok (.invokestatic 124, 3) := by decide +kernel
theorem dX10_seamVolume_21 : decode cX10_seamVolume 21 = .ok (.invokevirtual 179, 3) := by decide +kernel
theorem dX10_seamVolume_24 : decode cX10_seamVolume 24 = .ok (.ireturn, 1) := by decide +kernel
set_option maxRecDepth 20000 in
theorem ggX10_seamCount_X8_seamsBySearch : GoodIn wsX10_seamCount wsX8_seamsBySearch := goodIn_ca (goodIn_r _ [7, 8, 9, 10, 6, 11, 12, 13, 14, 15, 16, 17, 18, 19, 20, 21, 22, 23, 24, 25, 26, 27, 28, 29, 30, 31, 32, 33, 34, 35, 45, 46, 47, 48, 49, 50, 51, 52, 53, 54, 55, 56, 57, 58, 59, 60, 61, 62, 63, 64] (by decide +kernel) (by decide +kernel)) (goodIn_sub (fun _ h => List.mem_cons_of_mem _ (List.mem_append_right _ h)) (by decide +kernel))
set_option maxRecDepth 20000 in
theorem gX10_seamCount_X8_seamsBySearch : GoodIn wsX10_seamCount (wsV RX10 182 RX8 yX8_seamsBySearch wsX8_seamsBySearch) := goodIn_app (goodIn_of _ (by decide +kernel)) ggX10_seamCount_X8_seamsBySearch
theorem dX10_seamCount_0 : decode cX10_seamCount 0 = .ok (.aload_n 0, 1) := by decide +kernel
theorem dX10_seamCount_1 : decode cX10_seamCount 1 = .ok (.getfield 22, 3) := by decide +kernel
theorem dX10_seamCount_4 : decode cX10_seamCount 4 = .ok (.aload_n 0, 1) := by decide +kernel
theorem dX10_seamCount_5 : decode cX10_seamCount 5 = .ok (.getfield 10, 3) := by decide +kernel
theorem dX10_seamCount_8 : decode cX10_seamCount 8 = .ok (.invokevirtual 182, 3) := by decide +kernel
theorem dX10_seamCount_11 : decode cX10_seamCount 11 = .ok (.ireturn, 1) := by decide +kernel
set_option maxRecDepth 20000 in
theorem ggX10_seamCountByMerging_X8_seamsByMerging : GoodIn wsX10_seamCountByMerging wsX8_seamsByMerging := goodIn_ca (goodIn_r _ [7, 8, 9, 10, 11, 12, 13, 14, 15, 16, 17, 18, 19, 20, 6, 21, 22, 23, 24, 25, 26, 27, 28, 29, 30, 31, 32, 33, 34, 44, 45, 46, 47, 48, 49, 50, 51, 52, 53, 54, 55, 56, 57, 58, 59, 60, 61, 62, 63] (by decide +kernel) (by decide +kernel)) (goodIn_sub (fun _ h => List.mem_cons_of_mem _ (List.mem_append_right _ h)) (by decide +kernel))
set_option maxRecDepth 20000 in
theorem gX10_seamCountByMerging_X8_seamsByMerging : GoodIn wsX10_seamCountByMerging (wsV RX10 186 RX8 yX8_seamsByMerging wsX8_seamsByMerging) := goodIn_app (goodIn_of _ (by decide +kernel)) ggX10_seamCountByMerging_X8_seamsByMerging
theorem dX10_seamCountByMerging_0 : decode cX10_seamCountByMerging 0 = .ok (.aload_n 0, 1) := by decide +kernel
theorem dX10_seamCountByMerging_1 : decode cX10_seamCountByMerging 1 = .ok (.getfield 22, 3) := by decide +kernel
theorem dX10_seamCountByMerging_4 : decode cX10_seamCountByMerging 4 = .ok (.aload_n 0, 1) := by decide +kernel
theorem dX10_seamCountByMerging_5 : decode cX10_seamCountByMerging 5 = .ok (.getfield 10, 3) := by decide +kernel
theorem dX10_seamCountByMerging_8 : decode cX10_seamCountByMerging 8 = .ok (.invokevirtual 186, 3) := by decide +kernel
theorem dX10_seamCountByMerging_11 : decode cX10_seamCountByMerging 11 = .ok (.ireturn, 1) := by decide +kernel
set_option maxRecDepth 20000 in
theorem ggX10_footpath_X3_cellFault : GoodIn wsX10_footpath wsX3_cellFault := goodIn_r _ [8, 9, 10, 11, 12, 7, 13] (by decide +kernel) (by decide +kernel)
set_option maxRecDepth 20000 in
theorem gX10_footpath_X3_cellFault : GoodIn wsX10_footpath (va_wsS RX10 87 yX3_cellFault wsX3_cellFault) := goodIn_app (goodIn_of _ (by decide +kernel)) ggX10_footpath_X3_cellFault
set_option maxRecDepth 20000 in
theorem ggX10_footpath_X10_refuse : GoodIn wsX10_footpath wsX10_refuse := goodIn_ca (goodIn_ca (goodIn_ca (goodIn_ca (goodIn_ca (goodIn_ca (goodIn_r _ [17, 18, 19, 20, 21, 1, 2, 22, 23, 24, 25, 26, 27, 28, 29, 30, 31, 32, 33] (by decide +kernel) (by decide +kernel)) (goodIn_sub (fun _ h => List.mem_cons_of_mem _ (List.mem_append_left _ (List.mem_append_left _ (List.mem_append_left _ (List.mem_append_left _ (List.mem_append_right _ h)))))) (by decide +kernel))) (goodIn_sub (fun _ h => List.mem_cons_of_mem _ (List.mem_append_left _ (List.mem_append_left _ (List.mem_append_left _ (List.mem_append_right _ h))))) (by decide +kernel))) (goodIn_sub (fun _ h => List.mem_cons_of_mem _ (List.mem_append_left _ (List.mem_append_left _ (List.mem_append_right _ h)))) (by decide +kernel))) (goodIn_sub (fun _ h => List.mem_cons_of_mem _ (List.mem_append_left _ (List.mem_append_left _ (List.mem_append_left _ (List.mem_append_left _ (List.mem_append_left _ (List.mem_append_right _ h))))))) (by decide +kernel))) (goodIn_sub (fun _ h => List.mem_cons_of_mem _ (List.mem_append_left _ (List.mem_append_right _ h))) (by decide +kernel))) (goodIn_sub (fun _ h => List.mem_cons_of_mem _ (List.mem_append_right _ h)) (by decide +kernel))
set_option maxRecDepth 20000 in
theorem gX10_footpath_X10_refuse : GoodIn wsX10_footpath (va_wsS RX10 61 yX10_refuse wsX10_refuse) := goodIn_app (goodIn_of _ (by decide +kernel)) ggX10_footpath_X10_refuse
set_option maxRecDepth 20000 in
theorem ggX10_footpath_X3_cellAt : GoodIn wsX10_footpath wsX3_cellAt := goodIn_r _ [36] (by decide +kernel) (by decide +kernel)
set_option maxRecDepth 20000 in
theorem gX10_footpath_X3_cellAt : GoodIn wsX10_footpath (va_wsS RX10 124 yX3_cellAt wsX3_cellAt) := goodIn_app (goodIn_of _ (by decide +kernel)) ggX10_footpath_X3_cellAt
set_option maxRecDepth 20000 in
theorem ggX10_footpath_X8_shortestPath : GoodIn wsX10_footpath wsX8_shortestPath := goodIn_ca (goodIn_r _ [41, 42, 43, 44, 45, 46, 47, 48, 49, 50, 51, 7, 52, 53, 54, 40, 55, 56, 57, 58, 59, 60, 61, 62, 63, 64, 74, 75, 76, 77, 78, 79, 80, 81, 82, 83, 84, 85, 86, 87, 88, 89, 90, 91, 92, 93] (by decide +kernel) (by decide +kernel)) (goodIn_sub (fun _ h => List.mem_cons_of_mem _ (List.mem_append_left _ (List.mem_append_left _ (List.mem_append_left _ (List.mem_append_left _ (List.mem_append_right _ h)))))) (by decide +kernel))
set_option maxRecDepth 20000 in
theorem gX10_footpath_X8_shortestPath : GoodIn wsX10_footpath (wsV RX10 189 RX8 yX8_shortestPath wsX8_shortestPath) := goodIn_app (goodIn_of _ (by decide +kernel)) ggX10_footpath_X8_shortestPath
theorem dX10_footpath_0 : decode cX10_footpath 0 = .ok (.iload_n 1, 1) := by decide +kernel
theorem dX10_footpath_1 : decode cX10_footpath 1 = .ok (.iload_n 2, 1) := by decide +kernel
theorem dX10_footpath_2 : decode cX10_footpath 2 = .ok (.invokestatic 87, 3) := by decide +kernel
theorem dX10_footpath_5 : decode cX10_footpath 5 = .ok (.invokestatic 61, 3) := by decide +kernel
theorem dX10_footpath_8 : decode cX10_footpath 8 = .ok (.iload_n 3, 1) := by decide +kernel
theorem dX10_footpath_9 : decode cX10_footpath 9 = .ok (.iload 4, 2) := by decide +kernel
theorem dX10_footpath_11 : decode cX10_footpath 11 = .ok (.invokestatic 87, 3) := by decide +kernel
theorem dX10_footpath_14 : decode cX10_footpath 14 = .ok (.invokestatic 61, 3) := by decide +kernel
theorem dX10_footpath_17 : decode cX10_footpath 17 = .ok (.aload_n 0, 1) := by decide +kernel
theorem dX10_footpath_18 : decode cX10_footpath 18 = .ok (.getfield 22, 3) := by decide +kernel
theorem dX10_footpath_21 : decode cX10_footpath 21 = .ok (.aload_n 0, 1) := by decide +kernel
theorem dX10_footpath_22 : decode cX10_footpath 22 = .ok (.getfield 10, 3) := by decide +kernel
theorem dX10_footpath_25 : decode cX10_footpath 25 = .ok (.iload_n 1, 1) := by decide +kernel
theorem dX10_footpath_26 : decode cX10_footpath 26 = .ok (.iload_n 2, 1) := by decide +kernel
theorem dX10_footpath_27 : decode cX10_footpath 27 = .ok (.invokestatic 124, 3) := by decide +kernel
theorem dX10_footpath_30 : decode cX10_footpath 30 = .ok (.iload_n 3, 1) := by decide +kernel
theorem dX10_footpath_31 : decode cX10_footpath 31 = .ok (.iload 4, 2) := by decide +kernel
theorem dX10_footpath_33 : decode cX10_footpath 33 = .ok (.invokestatic 124, 3) := by decide +kernel
theorem dX10_footpath_36 : decode cX10_footpath 36 = .ok (.invokevirtual 189, 3) := by decide +kernel
theorem dX10_footpath_39 : decode cX10_footpath 39 = .ok (.istore 5, 2) := by decide +kernel
theorem dX10_footpath_41 : decode cX10_footpath 41 = .ok (.iload 5, 2) := by decide +kernel
theorem dX10_footpath_43 : decode cX10_footpath 43 = .ok (.iconst (-1), 1) := by decide +kernel
theorem dX10_footpath_44 : decode cX10_footpath 44 = .ok (.if_icmp .ne 13, 3) := by decide +kernel
theorem dX10_footpath_47 : decode cX10_footpath 47 = .ok (.new 192, 3) := by decide +kernel
theorem dX10_footpath_50 : decode cX10_footpath 50 = .ok (.dup, 1) := by decide +kernel
theorem dX10_footpath_51 : decode cX10_footpath 51 = .ok (.ldc 194, 2) := by decide +kernel
theorem dX10_footpath_53 : decode cX10_footpath 53 = .ok (.invokespecial 196, 3) := by decide +kernel
theorem dX10_footpath_56 : decode cX10_footpath 56 = .ok (.athrow, 1) := by decide +kernel
theorem dX10_footpath_57 : decode cX10_footpath 57 = .ok (.iload 5, 2) := by decide +kernel
theorem dX10_footpath_59 : decode cX10_footpath 59 = .ok (.ireturn, 1) := by decide +kernel
set_option maxRecDepth 20000 in
theorem ggX10_winchCount_X7_countWinches : GoodIn wsX10_winchCount wsX7_countWinches := goodIn_r _ [6, 7, 17, 18, 19, 20, 21, 22, 23, 24, 25, 26, 27, 28, 29, 30, 31] (by decide +kernel) (by decide +kernel)
set_option maxRecDepth 20000 in
theorem gX10_winchCount_X7_countWinches : GoodIn wsX10_winchCount (wsV RX10 199 RX7 yX7_countWinches wsX7_countWinches) := goodIn_app (goodIn_of _ (by decide +kernel)) ggX10_winchCount_X7_countWinches
theorem dX10_winchCount_0 : decode cX10_winchCount 0 = .ok (.aload_n 0, 1) := by decide +kernel
theorem dX10_winchCount_1 : decode cX10_winchCount 1 = .ok (.getfield 10, 3) := by decide +kernel
theorem dX10_winchCount_4 : decode cX10_winchCount 4 = .ok (.invokevirtual 199, 3) := by decide +kernel
theorem dX10_winchCount_7 : decode cX10_winchCount 7 = .ok (.ireturn, 1) := by decide +kernel
set_option maxRecDepth 20000 in
theorem ggX10_liftableCells_X7_hasWinch : GoodIn wsX10_liftableCells wsX7_hasWinch := goodIn_r _ [8, 9, 77, 78, 79, 80, 81, 82, 83, 84, 85, 86, 87, 88, 89, 90, 91] (by decide +kernel) (by decide +kernel)
set_option maxRecDepth 20000 in
theorem gX10_liftableCells_X7_hasWinch : GoodIn wsX10_liftableCells (wsV RX10 202 RX7 yX7_hasWinch wsX7_hasWinch) := goodIn_app (goodIn_of _ (by decide +kernel)) ggX10_liftableCells_X7_hasWinch
set_option maxRecDepth 20000 in
theorem ggX10_liftableCells_X7_countLiftable : GoodIn wsX10_liftableCells wsX7_countLiftable := goodIn_ca (goodIn_r _ [13, 14, 15, 16, 17, 18, 19, 20, 21, 22, 23, 24, 7, 25, 26, 27, 28, 29, 30, 31, 32, 33, 5, 6, 8, 9, 34, 35, 36, 37, 38, 39, 40, 41, 42, 43, 44, 45, 46, 47, 48, 49, 50, 51, 52, 53, 54, 55, 56, 57, 58, 59, 60, 61, 62, 63, 64, 65, 66, 67, 77, 78, 79, 80, 81, 82, 83, 84, 85, 86, 87, 88, 89, 90, 91] (by decide +kernel) (by decide +kernel)) (goodIn_sub (fun _ h => List.mem_cons_of_mem _ (List.mem_append_right _ h)) (by decide +kernel))
set_option maxRecDepth 20000 in
theorem gX10_liftableCells_X7_countLiftable : GoodIn wsX10_liftableCells (wsV RX10 210 RX7 yX7_countLiftable wsX7_countLiftable) := goodIn_app (goodIn_of _ (by decide +kernel)) ggX10_liftableCells_X7_countLiftable
theorem dX10_liftableCells_0 : decode cX10_liftableCells 0 = .ok (.aload_n 0, 1) := by decide +kernel
theorem dX10_liftableCells_1 : decode cX10_liftableCells 1 = .ok (.getfield 10, 3) := by decide +kernel
theorem dX10_liftableCells_4 : decode cX10_liftableCells 4 = .ok (.iload_n 1, 1) := by decide +kernel
theorem dX10_liftableCells_5 : decode cX10_liftableCells 5 = .ok (.invokevirtual 202, 3) := by decide +kernel
theorem dX10_liftableCells_8 : decode cX10_liftableCells 8 = .ok (.ifCond .ne 13, 3) := by decide +kernel
theorem dX10_liftableCells_11 : decode cX10_liftableCells 11 = .ok (.new 205, 3) := by decide +kernel
theorem dX10_liftableCells_14 : decode cX10_liftableCells 14 = .ok (.dup, 1) := by decide +kernel
theorem dX10_liftableCells_15 : decode cX10_liftableCells 15 = .ok (.ldc 207, 2) := by decide +kernel
theorem dX10_liftableCells_17 : decode cX10_liftableCells 17 = .ok (.invokespecial 209, 3) := by decide +kernel
theorem dX10_liftableCells_20 : decode cX10_liftableCells 20 = .ok (.athrow, 1) := by decide +kernel
theorem dX10_liftableCells_21 : decode cX10_liftableCells 21 = .ok (.aload_n 0, 1) := by decide +kernel
theorem dX10_liftableCells_22 : decode cX10_liftableCells 22 = .ok (.getfield 10, 3) := by decide +kernel
theorem dX10_liftableCells_25 : decode cX10_liftableCells 25 = .ok (.iload_n 1, 1) := by decide +kernel
theorem dX10_liftableCells_26 : decode cX10_liftableCells 26 = .ok (.invokevirtual 210, 3) := by decide +kernel
theorem dX10_liftableCells_29 : decode cX10_liftableCells 29 = .ok (.ireturn, 1) := by decide +kernel
set_option maxRecDepth 20000 in
theorem ggX10_bestWinch_X3_cellFault : GoodIn wsX10_bestWinch wsX3_cellFault := goodIn_r _ [7, 8, 9, 10, 11, 6, 12] (by decide +kernel) (by decide +kernel)
set_option maxRecDepth 20000 in
theorem gX10_bestWinch_X3_cellFault : GoodIn wsX10_bestWinch (va_wsS RX10 87 yX3_cellFault wsX3_cellFault) := goodIn_app (goodIn_of _ (by decide +kernel)) ggX10_bestWinch_X3_cellFault
set_option maxRecDepth 20000 in
theorem ggX10_bestWinch_X10_refuse : GoodIn wsX10_bestWinch wsX10_refuse := goodIn_ca (goodIn_ca (goodIn_ca (goodIn_ca (goodIn_ca (goodIn_ca (goodIn_r _ [16, 17, 18, 19, 20, 1, 2, 21, 22, 23, 24, 25, 26, 27, 28, 29, 30, 31, 32] (by decide +kernel) (by decide +kernel)) (goodIn_sub (fun _ h => List.mem_cons_of_mem _ (List.mem_append_left _ (List.mem_append_left _ (List.mem_append_left _ (List.mem_append_left _ (List.mem_append_right _ h)))))) (by decide +kernel))) (goodIn_sub (fun _ h => List.mem_cons_of_mem _ (List.mem_append_left _ (List.mem_append_left _ (List.mem_append_left _ (List.mem_append_right _ h))))) (by decide +kernel))) (goodIn_sub (fun _ h => List.mem_cons_of_mem _ (List.mem_append_left _ (List.mem_append_left _ (List.mem_append_right _ h)))) (by decide +kernel))) (goodIn_sub (fun _ h => List.mem_cons_of_mem _ (List.mem_append_left _ (List.mem_append_left _ (List.mem_append_left _ (List.mem_append_left _ (List.mem_append_left _ (List.mem_append_right _ h))))))) (by decide +kernel))) (goodIn_sub (fun _ h => List.mem_cons_of_mem _ (List.mem_append_left _ (List.mem_append_right _ h))) (by decide +kernel))) (goodIn_sub (fun _ h => List.mem_cons_of_mem _ (List.mem_append_right _ h)) (by decide +kernel))
set_option maxRecDepth 20000 in
theorem gX10_bestWinch_X10_refuse : GoodIn wsX10_bestWinch (va_wsS RX10 61 yX10_refuse wsX10_refuse) := goodIn_app (goodIn_of _ (by decide +kernel)) ggX10_bestWinch_X10_refuse
set_option maxRecDepth 20000 in
theorem ggX10_bestWinch_X7_leastAbleWinch : GoodIn wsX10_bestWinch wsX7_leastAbleWinch := goodIn_ca (goodIn_r _ [37, 38, 39, 40, 41, 42, 43, 36, 44, 45, 46, 47, 48, 49, 50, 51, 52, 53, 54, 55, 56, 57, 58, 59, 60, 61, 5, 6, 7, 8, 9, 10, 11, 12, 62, 63, 64, 65, 66, 67, 68, 69, 70, 71, 72, 73, 74, 75, 76, 77, 78, 79, 80, 81, 82, 83, 84, 85, 95, 96, 97, 98, 99, 100, 101, 102, 103, 104, 105, 106, 107, 108, 109] (by decide +kernel) (by decide +kernel)) (goodIn_sub (fun _ h => List.mem_cons_of_mem _ (List.mem_append_left _ (List.mem_append_left _ (List.mem_append_left _ (List.mem_append_left _ (List.mem_append_right _ h)))))) (by decide +kernel))
set_option maxRecDepth 20000 in
theorem gX10_bestWinch_X7_leastAbleWinch : GoodIn wsX10_bestWinch (wsV RX10 213 RX7 yX7_leastAbleWinch wsX7_leastAbleWinch) := goodIn_app (goodIn_of _ (by decide +kernel)) ggX10_bestWinch_X7_leastAbleWinch
theorem dX10_bestWinch_0 : decode cX10_bestWinch 0 = .ok (.iload_n 1, 1) := by decide +kernel
theorem dX10_bestWinch_1 : decode cX10_bestWinch 1 = .ok (.iload_n 2, 1) := by decide +kernel
theorem dX10_bestWinch_2 : decode cX10_bestWinch 2 = .ok (.invokestatic 87, 3) := by decide +kernel
theorem dX10_bestWinch_5 : decode cX10_bestWinch 5 = .ok (.invokestatic 61, 3) := by decide +kernel
theorem dX10_bestWinch_8 : decode cX10_bestWinch 8 = .ok (.aload_n 0, 1) := by decide +kernel
theorem dX10_bestWinch_9 : decode cX10_bestWinch 9 = .ok (.getfield 10, 3) := by decide +kernel
theorem dX10_bestWinch_12 : decode cX10_bestWinch 12 = .ok (.iload_n 1, 1) := by decide +kernel
theorem dX10_bestWinch_13 : decode cX10_bestWinch 13 = .ok (.iload_n 2, 1) := by decide +kernel
theorem dX10_bestWinch_14 : decode cX10_bestWinch 14 = .ok (.invokevirtual 213, 3) := by decide +kernel
theorem dX10_bestWinch_17 : decode cX10_bestWinch 17 = .ok (.istore_n 3, 1) := by decide +kernel
theorem dX10_bestWinch_18 : decode cX10_bestWinch 18 = .ok (.iload_n 3, 1) := by decide +kernel
theorem dX10_bestWinch_19 : decode cX10_bestWinch 19 = .ok (.iconst (-1), 1) := by decide +kernel
theorem dX10_bestWinch_20 : decode cX10_bestWinch 20 = .ok (.if_icmp .ne 13, 3) := by decide +kernel
theorem dX10_bestWinch_23 : decode cX10_bestWinch 23 = .ok (.new 192, 3) := by decide +kernel
theorem dX10_bestWinch_26 : decode cX10_bestWinch 26 = .ok (.dup, 1) := by decide +kernel
theorem dX10_bestWinch_27 : decode cX10_bestWinch 27 = .ok (.ldc 216, 2) := by decide +kernel
theorem dX10_bestWinch_29 : decode cX10_bestWinch 29 = .ok (.invokespecial 196, 3) := by decide +kernel
theorem dX10_bestWinch_32 : decode cX10_bestWinch 32 = .ok (.athrow, 1) := by decide +kernel
theorem dX10_bestWinch_33 : decode cX10_bestWinch 33 = .ok (.iload_n 3, 1) := by decide +kernel
theorem dX10_bestWinch_34 : decode cX10_bestWinch 34 = .ok (.ireturn, 1) := by decide +kernel
set_option maxRecDepth 20000 in
theorem ggX10_inYard_X7_isStone : GoodIn wsX10_inYard wsX7_isStone := goodIn_r _ [7] (by decide +kernel) (by decide +kernel)
set_option maxRecDepth 20000 in
theorem gX10_inYard_X7_isStone : GoodIn wsX10_inYard (va_wsS RX10 218 yX7_isStone wsX7_isStone) := goodIn_app (goodIn_of _ (by decide +kernel)) ggX10_inYard_X7_isStone
set_option maxRecDepth 20000 in
theorem ggX10_inYard_X7_yardBlocks : GoodIn wsX10_inYard wsX7_yardBlocks := goodIn_ca (goodIn_r _ [11, 12, 22, 23, 24, 25, 26, 27, 28, 29, 30, 31, 32, 33, 34, 35, 36] (by decide +kernel) (by decide +kernel)) (goodIn_sub (fun _ h => List.mem_cons_of_mem _ (List.mem_append_right _ h)) (by decide +kernel))
set_option maxRecDepth 20000 in
theorem gX10_inYard_X7_yardBlocks : GoodIn wsX10_inYard (wsV RX10 226 RX7 yX7_yardBlocks wsX7_yardBlocks) := goodIn_app (goodIn_of _ (by decide +kernel)) ggX10_inYard_X7_yardBlocks
theorem dX10_inYard_0 : decode cX10_inYard 0 = .ok (.iload_n 1, 1) := by decide +kernel
theorem dX10_inYard_1 : decode cX10_inYard 1 = .ok (.invokestatic 218, 3) := by decide +kernel
theorem dX10_inYard_4 : decode cX10_inYard 4 = .ok (.ifCond .ne 13, 3) := by decide +kernel
theorem dX10_inYard_7 : decode cX10_inYard 7 = .ok (.new 221, 3) := by decide +kernel
theorem dX10_inYard_10 : decode cX10_inYard 10 = .ok (.dup, 1) := by decide +kernel
theorem dX10_inYard_11 : decode cX10_inYard 11 = .ok (.ldc 223, 2) := by decide +kernel
theorem dX10_inYard_13 : decode cX10_inYard 13 = .ok (.invokespecial 225, 3) := by decide +kernel
theorem dX10_inYard_16 : decode cX10_inYard 16 = .ok (.athrow, 1) := by decide +kernel
theorem dX10_inYard_17 : decode cX10_inYard 17 = .ok (.aload_n 0, 1) := by decide +kernel
theorem dX10_inYard_18 : decode cX10_inYard 18 = .ok (.getfield 10, 3) := by decide +kernel
theorem dX10_inYard_21 : decode cX10_inYard 21 = .ok (.iload_n 1, 1) := by decide +kernel
theorem dX10_inYard_22 : decode cX10_inYard 22 = .ok (.invokevirtual 226, 3) := by decide +kernel
theorem dX10_inYard_25 : decode cX10_inYard 25 = .ok (.ireturn, 1) := by decide +kernel
set_option maxRecDepth 20000 in
theorem ggX10_yardWeight_X7_weightOfYard : GoodIn wsX10_yardWeight wsX7_weightOfYard := goodIn_ca (goodIn_r _ [6, 7, 8, 9, 5, 10, 20, 21, 22, 23, 24, 25, 26, 27, 28, 29, 30, 31, 32, 33, 34] (by decide +kernel) (by decide +kernel)) (goodIn_sub (fun _ h => List.mem_cons_of_mem _ (List.mem_append_right _ h)) (by decide +kernel))
set_option maxRecDepth 20000 in
theorem gX10_yardWeight_X7_weightOfYard : GoodIn wsX10_yardWeight (wsV RX10 229 RX7 yX7_weightOfYard wsX7_weightOfYard) := goodIn_app (goodIn_of _ (by decide +kernel)) ggX10_yardWeight_X7_weightOfYard
theorem dX10_yardWeight_0 : decode cX10_yardWeight 0 = .ok (.aload_n 0, 1) := by decide +kernel
theorem dX10_yardWeight_1 : decode cX10_yardWeight 1 = .ok (.getfield 10, 3) := by decide +kernel
theorem dX10_yardWeight_4 : decode cX10_yardWeight 4 = .ok (.invokevirtual 229, 3) := by decide +kernel
theorem dX10_yardWeight_7 : decode cX10_yardWeight 7 = .ok (.ireturn, 1) := by decide +kernel
set_option maxRecDepth 20000 in
theorem ggX10_rubble_X7_loads : GoodIn wsX10_rubble wsX7_loads := goodIn_r _ [6, 7, 17, 18, 19, 20, 21, 22, 23, 24, 25, 26, 27, 28, 29, 30, 31] (by decide +kernel) (by decide +kernel)
set_option maxRecDepth 20000 in
theorem gX10_rubble_X7_loads : GoodIn wsX10_rubble (wsV RX10 232 RX7 yX7_loads wsX7_loads) := goodIn_app (goodIn_of _ (by decide +kernel)) ggX10_rubble_X7_loads
theorem dX10_rubble_0 : decode cX10_rubble 0 = .ok (.aload_n 0, 1) := by decide +kernel
theorem dX10_rubble_1 : decode cX10_rubble 1 = .ok (.getfield 10, 3) := by decide +kernel
theorem dX10_rubble_4 : decode cX10_rubble 4 = .ok (.invokevirtual 232, 3) := by decide +kernel
theorem dX10_rubble_7 : decode cX10_rubble 7 = .ok (.ireturn, 1) := by decide +kernel
set_option maxRecDepth 20000 in
theorem ggX10_stepLimit_X7_limit : GoodIn wsX10_stepLimit wsX7_limit := goodIn_r _ [6, 7, 17, 18, 19, 20, 21, 22, 23, 24, 25, 26, 27, 28, 29, 30, 31] (by decide +kernel) (by decide +kernel)
set_option maxRecDepth 20000 in
theorem gX10_stepLimit_X7_limit : GoodIn wsX10_stepLimit (wsV RX10 235 RX7 yX7_limit wsX7_limit) := goodIn_app (goodIn_of _ (by decide +kernel)) ggX10_stepLimit_X7_limit
theorem dX10_stepLimit_0 : decode cX10_stepLimit 0 = .ok (.aload_n 0, 1) := by decide +kernel
theorem dX10_stepLimit_1 : decode cX10_stepLimit 1 = .ok (.getfield 10, 3) := by decide +kernel
theorem dX10_stepLimit_4 : decode cX10_stepLimit 4 = .ok (.invokevirtual 235, 3) := by decide +kernel
theorem dX10_stepLimit_7 : decode cX10_stepLimit 7 = .ok (.ireturn, 1) := by decide +kernel
set_option maxRecDepth 20000 in
theorem ggX10_cutTotal_X7_cutsDone : GoodIn wsX10_cutTotal wsX7_cutsDone := goodIn_r _ [6, 7, 17, 18, 19, 20, 21, 22, 23, 24, 25, 26, 27, 28, 29, 30, 31] (by decide +kernel) (by decide +kernel)
set_option maxRecDepth 20000 in
theorem gX10_cutTotal_X7_cutsDone : GoodIn wsX10_cutTotal (wsV RX10 238 RX7 yX7_cutsDone wsX7_cutsDone) := goodIn_app (goodIn_of _ (by decide +kernel)) ggX10_cutTotal_X7_cutsDone
theorem dX10_cutTotal_0 : decode cX10_cutTotal 0 = .ok (.aload_n 0, 1) := by decide +kernel
theorem dX10_cutTotal_1 : decode cX10_cutTotal 1 = .ok (.getfield 10, 3) := by decide +kernel
theorem dX10_cutTotal_4 : decode cX10_cutTotal 4 = .ok (.invokevirtual 238, 3) := by decide +kernel
theorem dX10_cutTotal_7 : decode cX10_cutTotal 7 = .ok (.ireturn, 1) := by decide +kernel
set_option maxRecDepth 20000 in
theorem ggX10_workTotal_X7_workDone : GoodIn wsX10_workTotal wsX7_workDone := goodIn_r _ [6, 7, 17, 18, 19, 20, 21, 22, 23, 24, 25, 26, 27, 28, 29, 30, 31] (by decide +kernel) (by decide +kernel)
set_option maxRecDepth 20000 in
theorem gX10_workTotal_X7_workDone : GoodIn wsX10_workTotal (wsV RX10 241 RX7 yX7_workDone wsX7_workDone) := goodIn_app (goodIn_of _ (by decide +kernel)) ggX10_workTotal_X7_workDone
theorem dX10_workTotal_0 : decode cX10_workTotal 0 = .ok (.aload_n 0, 1) := by decide +kernel
theorem dX10_workTotal_1 : decode cX10_workTotal 1 = .ok (.getfield 10, 3) := by decide +kernel
theorem dX10_workTotal_4 : decode cX10_workTotal 4 = .ok (.invokevirtual 241, 3) := by decide +kernel
theorem dX10_workTotal_7 : decode cX10_workTotal 7 = .ok (.lreturn, 1) := by decide +kernel
set_option maxRecDepth 20000 in
theorem ggX10_meanHeight_X7_heightSum : GoodIn wsX10_meanHeight wsX7_heightSum := goodIn_ca (goodIn_r _ [7, 8, 18, 19, 20, 21, 22, 23, 24, 25, 26, 27, 28, 29, 30, 31, 32] (by decide +kernel) (by decide +kernel)) (goodIn_sub (fun _ h => List.mem_cons_of_mem _ (List.mem_append_right _ h)) (by decide +kernel))
set_option maxRecDepth 20000 in
theorem gX10_meanHeight_X7_heightSum : GoodIn wsX10_meanHeight (wsV RX10 245 RX7 yX7_heightSum wsX7_heightSum) := goodIn_app (goodIn_of _ (by decide +kernel)) ggX10_meanHeight_X7_heightSum
theorem dX10_meanHeight_0 : decode cX10_meanHeight 0 = .ok (.aload_n 0, 1) := by decide +kernel
theorem dX10_meanHeight_1 : decode cX10_meanHeight 1 = .ok (.getfield 10, 3) := by decide +kernel
theorem dX10_meanHeight_4 : decode cX10_meanHeight 4 = .ok (.invokevirtual 245, 3) := by decide +kernel
theorem dX10_meanHeight_7 : decode cX10_meanHeight 7 = .ok (.i2d, 1) := by decide +kernel
theorem dX10_meanHeight_8 : decode cX10_meanHeight 8 = .ok (.ldc2_w 248, 3) := by decide +kernel
theorem dX10_meanHeight_11 : decode cX10_meanHeight 11 = .ok (.ddiv, 1) := by decide +kernel
theorem dX10_meanHeight_12 : decode cX10_meanHeight 12 = .ok (.dreturn, 1) := by decide +kernel
set_option maxRecDepth 20000 in
theorem ggX10_liftedShare_X7_cutsDone : GoodIn wsX10_liftedShare wsX7_cutsDone := goodIn_r _ [8, 9, 24, 25, 26, 27, 28, 29, 30, 31, 32, 33, 34, 35, 36, 37, 38] (by decide +kernel) (by decide +kernel)
set_option maxRecDepth 20000 in
theorem gX10_liftedShare_X7_cutsDone : GoodIn wsX10_liftedShare (wsV RX10 238 RX7 yX7_cutsDone wsX7_cutsDone) := goodIn_app (goodIn_of _ (by decide +kernel)) ggX10_liftedShare_X7_cutsDone
set_option maxRecDepth 20000 in
theorem ggX10_liftedShare_X7_liftsDone : GoodIn wsX10_liftedShare wsX7_liftsDone := goodIn_r _ [13, 14, 24, 25, 26, 27, 28, 29, 30, 31, 32, 33, 34, 35, 36, 37, 38] (by decide +kernel) (by decide +kernel)
set_option maxRecDepth 20000 in
theorem gX10_liftedShare_X7_liftsDone : GoodIn wsX10_liftedShare (wsV RX10 255 RX7 yX7_liftsDone wsX7_liftsDone) := goodIn_app (goodIn_of _ (by decide +kernel)) ggX10_liftedShare_X7_liftsDone
theorem dX10_liftedShare_0 : decode cX10_liftedShare 0 = .ok (.aload_n 0, 1) := by decide +kernel
theorem dX10_liftedShare_1 : decode cX10_liftedShare 1 = .ok (.getfield 10, 3) := by decide +kernel
theorem dX10_liftedShare_4 : decode cX10_liftedShare 4 = .ok (.invokevirtual 238, 3) := by decide +kernel
theorem dX10_liftedShare_7 : decode cX10_liftedShare 7 = .ok (.istore_n 1, 1) := by decide +kernel
theorem dX10_liftedShare_8 : decode cX10_liftedShare 8 = .ok (.iload_n 1, 1) := by decide +kernel
theorem dX10_liftedShare_9 : decode cX10_liftedShare 9 = .ok (.ifCond .ne 13, 3) := by decide +kernel
theorem dX10_liftedShare_12 : decode cX10_liftedShare 12 = .ok (.new 250, 3) := by decide +kernel
theorem dX10_liftedShare_15 : decode cX10_liftedShare 15 = .ok (.dup, 1) := by decide +kernel
theorem dX10_liftedShare_16 : decode cX10_liftedShare 16 = .ok (.ldc 252, 2) := by decide +kernel
theorem dX10_liftedShare_18 : decode cX10_liftedShare 18 = .ok (.invokespecial 254, 3) := by decide +kernel
theorem dX10_liftedShare_21 : decode cX10_liftedShare 21 = .ok (.athrow, 1) := by decide +kernel
theorem dX10_liftedShare_22 : decode cX10_liftedShare 22 = .ok (.aload_n 0, 1) := by decide +kernel
theorem dX10_liftedShare_23 : decode cX10_liftedShare 23 = .ok (.getfield 10, 3) := by decide +kernel
theorem dX10_liftedShare_26 : decode cX10_liftedShare 26 = .ok (.invokevirtual 255, 3) := by decide +kernel
theorem dX10_liftedShare_29 : decode cX10_liftedShare 29 = .ok (.i2f, 1) := by decide +kernel
theorem dX10_liftedShare_30 : decode cX10_liftedShare 30 = .ok (.iload_n 1, 1) := by decide +kernel
theorem dX10_liftedShare_31 : decode cX10_liftedShare 31 = .ok (.i2f, 1) := by decide +kernel
theorem dX10_liftedShare_32 : decode cX10_liftedShare 32 = .ok (.fdiv, 1) := by decide +kernel
theorem dX10_liftedShare_33 : decode cX10_liftedShare 33 = .ok (.freturn, 1) := by decide +kernel
set_option maxRecDepth 20000 in
theorem ggX10_isConsistent_X7_limit : GoodIn wsX10_isConsistent wsX7_limit := goodIn_r _ [7, 8, 123, 124, 125, 126, 127, 128, 129, 130, 131, 132, 133, 134, 135, 136, 137] (by decide +kernel) (by decide +kernel)
set_option maxRecDepth 20000 in
theorem gX10_isConsistent_X7_limit : GoodIn wsX10_isConsistent (wsV RX10 235 RX7 yX7_limit wsX7_limit) := goodIn_app (goodIn_of _ (by decide +kernel)) ggX10_isConsistent_X7_limit
set_option maxRecDepth 20000 in
theorem ggX10_isConsistent_X7_stepsWithin : GoodIn wsX10_isConsistent wsX7_stepsWithin := goodIn_ca (goodIn_r _ [12, 13, 14, 15, 16, 6, 17, 18, 19, 20, 21, 22, 23, 24, 25, 26, 27, 28, 123, 124, 125, 126, 127, 128, 129, 130, 131, 132, 133, 134, 135, 136, 137] (by decide +kernel) (by decide +kernel)) (goodIn_sub (fun _ h => List.mem_cons_of_mem _ (List.mem_append_right _ h)) (by decide +kernel))
set_option maxRecDepth 20000 in
theorem gX10_isConsistent_X7_stepsWithin : GoodIn wsX10_isConsistent (wsV RX10 258 RX7 yX7_stepsWithin wsX7_stepsWithin) := goodIn_app (goodIn_of _ (by decide +kernel)) ggX10_isConsistent_X7_stepsWithin
set_option maxRecDepth 20000 in
theorem ggX10_isConsistent_X8_seamsBySearch : GoodIn wsX10_isConsistent wsX8_seamsBySearch := goodIn_ca (goodIn_r _ [33, 34, 35, 36, 32, 37, 38, 39, 40, 41, 42, 43, 44, 45, 46, 6, 47, 13, 48, 26, 27, 28, 49, 50, 51, 52, 53, 54, 55, 56, 138, 139, 140, 141, 142, 123, 124, 125, 126, 127, 128, 129, 130, 131, 132, 133, 134, 135, 136, 137] (by decide +kernel) (by decide +kernel)) (goodIn_sub (fun _ h => List.mem_cons_of_mem _ (List.mem_append_right _ h)) (by decide +kernel))
set_option maxRecDepth 20000 in
theorem gX10_isConsistent_X8_seamsBySearch : GoodIn wsX10_isConsistent (wsV RX10 182 RX8 yX8_seamsBySearch wsX8_seamsBySearch) := goodIn_app (goodIn_of _ (by decide +kernel)) ggX10_isConsistent_X8_seamsBySearch
set_option maxRecDepth 20000 in
theorem ggX10_isConsistent_X8_seamsByMerging : GoodIn wsX10_isConsistent wsX8_seamsByMerging := goodIn_ca (goodIn_r _ [60, 61, 62, 63, 64, 6, 65, 13, 48, 26, 27, 28, 49, 50, 32, 51, 44, 45, 46, 47, 52, 53, 54, 55, 56, 66, 67, 68, 69, 138, 139, 140, 141, 142, 123, 124, 125, 126, 127, 128, 129, 130, 131, 132, 133, 134, 135, 136, 137] (by decide +kernel) (by decide +kernel)) (goodIn_sub (fun _ h => List.mem_cons_of_mem _ (List.mem_append_right _ h)) (by decide +kernel))
set_option maxRecDepth 20000 in
theorem gX10_isConsistent_X8_seamsByMerging : GoodIn wsX10_isConsistent (wsV RX10 186 RX8 yX8_seamsByMerging wsX8_seamsByMerging) := goodIn_app (goodIn_of _ (by decide +kernel)) ggX10_isConsistent_X8_seamsByMerging
set_option maxRecDepth 20000 in
theorem ggX10_isConsistent_X10_neededCutsAgree : GoodIn wsX10_isConsistent wsX10_neededCutsAgree := goodIn_ca (goodIn_r _ [74, 1, 2, 75, 76, 77, 6, 78, 8, 13, 22, 23, 20, 24, 79, 80, 27, 81, 82, 19, 21, 83, 84, 85, 86, 87, 88, 89, 90, 91, 32, 92, 93, 43, 44, 45, 46, 47, 48, 26, 28, 94, 4, 5, 7, 95, 96, 97, 98, 114, 115, 116, 117, 118, 119, 120, 121, 122, 123, 124, 125, 126, 127, 128, 129, 130, 131, 132, 133, 134, 135, 136, 137, 138, 139, 140, 141, 142] (by decide +kernel) (by decide +kernel)) (goodIn_sub (fun _ h => List.mem_cons_of_mem _ (List.mem_append_right _ h)) (by decide +kernel))
set_option maxRecDepth 20000 in
theorem gX10_isConsistent_X10_neededCutsAgree : GoodIn wsX10_isConsistent (wsV RX10 261 RX10 yX10_neededCutsAgree wsX10_neededCutsAgree) := goodIn_app (goodIn_of _ (by decide +kernel)) ggX10_isConsistent_X10_neededCutsAgree
set_option maxRecDepth 20000 in
theorem ggX10_isConsistent_X7_cutsDone : GoodIn wsX10_isConsistent wsX7_cutsDone := goodIn_r _ [102, 103, 123, 124, 125, 126, 127, 128, 129, 130, 131, 132, 133, 134, 135, 136, 137] (by decide +kernel) (by decide +kernel)
set_option maxRecDepth 20000 in
theorem gX10_isConsistent_X7_cutsDone : GoodIn wsX10_isConsistent (wsV RX10 238 RX7 yX7_cutsDone wsX7_cutsDone) := goodIn_app (goodIn_of _ (by decide +kernel)) ggX10_isConsistent_X7_cutsDone
set_option maxRecDepth 20000 in
theorem ggX10_isConsistent_X7_liftsDone : GoodIn wsX10_isConsistent wsX7_liftsDone := goodIn_r _ [107, 108, 123, 124, 125, 126, 127, 128, 129, 130, 131, 132, 133, 134, 135, 136, 137] (by decide +kernel) (by decide +kernel)
set_option maxRecDepth 20000 in
theorem gX10_isConsistent_X7_liftsDone : GoodIn wsX10_isConsistent (wsV RX10 255 RX7 yX7_liftsDone wsX7_liftsDone) := goodIn_app (goodIn_of _ (by decide +kernel)) ggX10_isConsistent_X7_liftsDone
set_option maxRecDepth 20000 in
theorem ggX10_isConsistent_X7_blockSum : GoodIn wsX10_isConsistent wsX7_blockSum := goodIn_ca (goodIn_r _ [112, 113, 123, 124, 125, 126, 127, 128, 129, 130, 131, 132, 133, 134, 135, 136, 137] (by decide +kernel) (by decide +kernel)) (goodIn_sub (fun _ h => List.mem_cons_of_mem _ (List.mem_append_right _ h)) (by decide +kernel))
set_option maxRecDepth 20000 in
theorem gX10_isConsistent_X7_blockSum : GoodIn wsX10_isConsistent (wsV RX10 265 RX7 yX7_blockSum wsX7_blockSum) := goodIn_app (goodIn_of _ (by decide +kernel)) ggX10_isConsistent_X7_blockSum
theorem dX10_isConsistent_0 : decode cX10_isConsistent 0 = .ok (.aload_n 0, 1) := by decide +kernel
theorem dX10_isConsistent_1 : decode cX10_isConsistent 1 = .ok (.getfield 10, 3) := by decide +kernel
theorem dX10_isConsistent_4 : decode cX10_isConsistent 4 = .ok (.aload_n 0, 1) := by decide +kernel
theorem dX10_isConsistent_5 : decode cX10_isConsistent 5 = .ok (.getfield 10, 3) := by decide +kernel
theorem dX10_isConsistent_8 : decode cX10_isConsistent 8 = .ok (.invokevirtual 235, 3) := by decide +kernel
theorem dX10_isConsistent_11 : decode cX10_isConsistent 11 = .ok (.invokevirtual 258, 3) := by decide +kernel
theorem dX10_isConsistent_14 : decode cX10_isConsistent 14 = .ok (.ifCond .eq 64, 3) := by decide +kernel
theorem dX10_isConsistent_17 : decode cX10_isConsistent 17 = .ok (.aload_n 0, 1) := by decide +kernel
theorem dX10_isConsistent_18 : decode cX10_isConsistent 18 = .ok (.getfield 22, 3) := by decide +kernel
theorem dX10_isConsistent_21 : decode cX10_isConsistent 21 = .ok (.aload_n 0, 1) := by decide +kernel
theorem dX10_isConsistent_22 : decode cX10_isConsistent 22 = .ok (.getfield 10, 3) := by decide +kernel
theorem dX10_isConsistent_25 : decode cX10_isConsistent 25 = .ok (.invokevirtual 182, 3) := by decide +kernel
theorem dX10_isConsistent_28 : decode cX10_isConsistent 28 = .ok (.aload_n 0, 1) := by decide +kernel
theorem dX10_isConsistent_29 : decode cX10_isConsistent 29 = .ok (.getfield 22, 3) := by decide +kernel
theorem dX10_isConsistent_32 : decode cX10_isConsistent 32 = .ok (.aload_n 0, 1) := by decide +kernel
theorem dX10_isConsistent_33 : decode cX10_isConsistent 33 = .ok (.getfield 10, 3) := by decide +kernel
theorem dX10_isConsistent_36 : decode cX10_isConsistent 36 = .ok (.invokevirtual 186, 3) := by decide +kernel
theorem dX10_isConsistent_39 : decode cX10_isConsistent 39 = .ok (.if_icmp .ne 39, 3) := by decide +kernel
theorem dX10_isConsistent_42 : decode cX10_isConsistent 42 = .ok (.aload_n 0, 1) := by decide +kernel
theorem dX10_isConsistent_43 : decode cX10_isConsistent 43 = .ok (.invokevirtual 261, 3) := by decide +kernel
theorem dX10_isConsistent_46 : decode cX10_isConsistent 46 = .ok (.ifCond .eq 32, 3) := by decide +kernel
theorem dX10_isConsistent_49 : decode cX10_isConsistent 49 = .ok (.aload_n 0, 1) := by decide +kernel
theorem dX10_isConsistent_50 : decode cX10_isConsistent 50 = .ok (.getfield 10, 3) := by decide +kernel
theorem dX10_isConsistent_53 : decode cX10_isConsistent 53 = .ok (.invokevirtual 238, 3) := by decide +kernel
theorem dX10_isConsistent_56 : decode cX10_isConsistent 56 = .ok (.aload_n 0, 1) := by decide +kernel
theorem dX10_isConsistent_57 : decode cX10_isConsistent 57 = .ok (.getfield 10, 3) := by decide +kernel
theorem dX10_isConsistent_60 : decode cX10_isConsistent 60 = .ok (.invokevirtual 255, 3) := by decide +kernel
theorem dX10_isConsistent_63 : decode cX10_isConsistent 63 = .ok (.aload_n 0, 1) := by decide +kernel
theorem dX10_isConsistent_64 : decode cX10_isConsistent 64 = .ok (.getfield 10, 3) := by decide +kernel
theorem dX10_isConsistent_67 : decode cX10_isConsistent 67 = .ok (.invokevirtual 265, 3) := by decide +kernel
theorem dX10_isConsistent_70 : decode cX10_isConsistent 70 = .ok (.iadd, 1) := by decide +kernel
theorem dX10_isConsistent_71 : decode cX10_isConsistent 71 = .ok (.if_icmp .ne 7, 3) := by decide +kernel
theorem dX10_isConsistent_74 : decode cX10_isConsistent 74 = .ok (.iconst 1, 1) := by decide +kernel
theorem dX10_isConsistent_75 : decode cX10_isConsistent 75 = .ok (.goto 4, 3) := by decide +kernel
theorem dX10_isConsistent_78 : decode cX10_isConsistent 78 = .ok (.iconst 0, 1) := by decide +kernel
theorem dX10_isConsistent_79 : decode cX10_isConsistent 79 = .ok (.ireturn, 1) := by decide +kernel
set_option maxRecDepth 20000 in
theorem ggX10_neededCutsAgree_X7_cutsByDistance : GoodIn wsX10_neededCutsAgree wsX7_cutsByDistance := goodIn_ca (goodIn_r _ [7, 8, 9, 10, 11, 12, 13, 14, 15, 16, 17, 18, 19, 20, 21, 22, 23, 24, 25, 26, 58, 59, 60, 61, 62, 63, 64, 65, 66, 67, 68, 69, 70, 71, 72] (by decide +kernel) (by decide +kernel)) (goodIn_sub (fun _ h => List.mem_cons_of_mem _ (List.mem_append_right _ h)) (by decide +kernel))
set_option maxRecDepth 20000 in
theorem gX10_neededCutsAgree_X7_cutsByDistance : GoodIn wsX10_neededCutsAgree (wsV RX10 168 RX7 yX7_cutsByDistance wsX7_cutsByDistance) := goodIn_app (goodIn_of _ (by decide +kernel)) ggX10_neededCutsAgree_X7_cutsByDistance
set_option maxRecDepth 20000 in
theorem ggX10_neededCutsAgree_X8_cutsBySpreading : GoodIn wsX10_neededCutsAgree wsX8_cutsBySpreading := goodIn_ca (goodIn_r _ [31, 32, 33, 34, 35, 36, 6, 37, 9, 38, 39, 16, 40, 41, 42, 43, 44, 8, 45, 46, 47, 30, 48, 73, 74, 75, 76, 77, 58, 59, 60, 61, 62, 63, 64, 65, 66, 67, 68, 69, 70, 71, 72] (by decide +kernel) (by decide +kernel)) (goodIn_sub (fun _ h => List.mem_cons_of_mem _ (List.mem_append_right _ h)) (by decide +kernel))
set_option maxRecDepth 20000 in
theorem gX10_neededCutsAgree_X8_cutsBySpreading : GoodIn wsX10_neededCutsAgree (wsV RX10 171 RX8 yX8_cutsBySpreading wsX8_cutsBySpreading) := goodIn_app (goodIn_of _ (by decide +kernel)) ggX10_neededCutsAgree_X8_cutsBySpreading
theorem dX10_neededCutsAgree_0 : decode cX10_neededCutsAgree 0 = .ok (.iconst 0, 1) := by decide +kernel
theorem dX10_neededCutsAgree_1 : decode cX10_neededCutsAgree 1 = .ok (.istore_n 1, 1) := by decide +kernel
theorem dX10_neededCutsAgree_2 : decode cX10_neededCutsAgree 2 = .ok (.iload_n 1, 1) := by decide +kernel
theorem dX10_neededCutsAgree_3 : decode cX10_neededCutsAgree 3 = .ok (.bipush 30, 2) := by decide +kernel
theorem dX10_neededCutsAgree_5 : decode cX10_neededCutsAgree 5 = .ok (.if_icmp .ge 36, 3) := by decide +kernel
theorem dX10_neededCutsAgree_8 : decode cX10_neededCutsAgree 8 = .ok (.aload_n 0, 1) := by decide +kernel
theorem dX10_neededCutsAgree_9 : decode cX10_neededCutsAgree 9 = .ok (.getfield 10, 3) := by decide +kernel
theorem dX10_neededCutsAgree_12 : decode cX10_neededCutsAgree 12 = .ok (.iload_n 1, 1) := by decide +kernel
theorem dX10_neededCutsAgree_13 : decode cX10_neededCutsAgree 13 = .ok (.iconst 0, 1) := by decide +kernel
theorem dX10_neededCutsAgree_14 : decode cX10_neededCutsAgree 14 = .ok (.invokevirtual 168, 3) := by decide +kernel
theorem dX10_neededCutsAgree_17 : decode cX10_neededCutsAgree 17 = .ok (.aload_n 0, 1) := by decide +kernel
theorem dX10_neededCutsAgree_18 : decode cX10_neededCutsAgree 18 = .ok (.getfield 22, 3) := by decide +kernel
theorem dX10_neededCutsAgree_21 : decode cX10_neededCutsAgree 21 = .ok (.aload_n 0, 1) := by decide +kernel
theorem dX10_neededCutsAgree_22 : decode cX10_neededCutsAgree 22 = .ok (.getfield 10, 3) := by decide +kernel
theorem dX10_neededCutsAgree_25 : decode cX10_neededCutsAgree 25 = .ok (.iload_n 1, 1) := by decide +kernel
theorem dX10_neededCutsAgree_26 : decode cX10_neededCutsAgree 26 = .ok (.iconst 0, 1) := by decide +kernel
theorem dX10_neededCutsAgree_27 : decode cX10_neededCutsAgree 27 = .ok (.invokevirtual 171, 3) := by decide +kernel
theorem dX10_neededCutsAgree_30 : decode cX10_neededCutsAgree 30 = .ok (.if_icmp .eq 5, 3) := by decide +kernel
theorem dX10_neededCutsAgree_33 : decode cX10_neededCutsAgree 33 = .ok (.iconst 0, 1) := by decide +kernel
theorem dX10_neededCutsAgree_34 : decode cX10_neededCutsAgree 34 = .ok (.ireturn, 1) := by decide +kernel
theorem dX10_neededCutsAgree_35 : decode cX10_neededCutsAgree 35 = .ok (.iinc 1 1, 3) := by decide +kernel
theorem dX10_neededCutsAgree_38 : decode cX10_neededCutsAgree 38 = .ok (.goto (-36), 3) := by decide +kernel
theorem dX10_neededCutsAgree_41 : decode cX10_neededCutsAgree 41 = .ok (.iconst 1, 1) := by decide +kernel
theorem dX10_neededCutsAgree_42 : decode cX10_neededCutsAgree 42 = .ok (.ireturn, 1) := by decide +kernel
set_option maxRecDepth 20000 in
theorem ggX10_append_X6_isFull : GoodIn wsX10_append wsX6_isFull := goodIn_r _ [8, 9, 24, 25, 26] (by decide +kernel) (by decide +kernel)
set_option maxRecDepth 20000 in
theorem gX10_append_X6_isFull : GoodIn wsX10_append (wsV RX10 268 RX6 yX6_isFull wsX6_isFull) := goodIn_app (goodIn_of _ (by decide +kernel)) ggX10_append_X6_isFull
set_option maxRecDepth 20000 in
theorem ggX10_append_X6_add : GoodIn wsX10_append wsX6_add := goodIn_ca (goodIn_r _ [13, 14, 9, 24, 25, 26] (by decide +kernel) (by decide +kernel)) (goodIn_sub (fun _ h => List.mem_cons_of_mem _ (List.mem_append_right _ h)) (by decide +kernel))
set_option maxRecDepth 20000 in
theorem gX10_append_X6_add : GoodIn wsX10_append (wsV RX10 276 RX6 yX6_add wsX6_add) := goodIn_app (goodIn_of _ (by decide +kernel)) ggX10_append_X6_add
theorem dX10_append_0 : decode cX10_append 0 = .ok (.aload_n 0, 1) := by decide +kernel
theorem dX10_append_1 : decode cX10_append 1 = .ok (.getfield 36, 3) := by decide +kernel
theorem dX10_append_4 : decode cX10_append 4 = .ok (.invokevirtual 268, 3) := by decide +kernel
theorem dX10_append_7 : decode cX10_append 7 = .ok (.ifCond .eq 14, 3) := by decide +kernel
theorem dX10_append_10 : decode cX10_append 10 = .ok (.new 271, 3) := by decide +kernel
theorem dX10_append_13 : decode cX10_append 13 = .ok (.dup, 1) := by decide +kernel
theorem dX10_append_14 : decode cX10_append 14 = .ok (.ldc_w 273, 3) := by decide +kernel
theorem dX10_append_17 : decode cX10_append 17 = .ok (.invokespecial 275, 3) := by decide +kernel
theorem dX10_append_20 : decode cX10_append 20 = .ok (.athrow, 1) := by decide +kernel
theorem dX10_append_21 : decode cX10_append 21 = .ok (.aload_n 0, 1) := by decide +kernel
theorem dX10_append_22 : decode cX10_append 22 = .ok (.getfield 36, 3) := by decide +kernel
theorem dX10_append_25 : decode cX10_append 25 = .ok (.iload_n 1, 1) := by decide +kernel
theorem dX10_append_26 : decode cX10_append 26 = .ok (.invokevirtual 276, 3) := by decide +kernel
theorem dX10_append_29 : decode cX10_append 29 = .ok (.ireturn, 1) := by decide +kernel
set_option maxRecDepth 20000 in
theorem ggX10_run_X6_read : GoodIn wsX10_run wsX6_read := goodIn_ca (goodIn_r _ [15, 16, 17, 18, 19, 20, 21, 22, 23, 24, 25, 26, 27, 28, 29, 30, 14, 31, 32, 33, 34, 35, 36, 37, 38, 39, 40, 41, 42, 43, 44, 45, 46, 47, 48, 49, 50, 51, 52, 53, 54, 55, 56, 57, 58, 59, 60, 61, 62, 63, 64, 65, 66, 67, 68, 69, 70, 71, 72, 73, 74, 75, 76, 77, 78, 79, 80, 81, 82, 83, 84, 85, 86, 87, 88, 89, 90, 91, 92, 93, 94, 95, 96, 97, 98, 99, 100, 101, 102, 103, 104, 105, 106, 107, 108, 109, 110, 111, 112, 113, 114, 115, 116, 117, 118, 119, 120, 121, 122, 123, 124, 125, 126, 127, 128, 129, 130, 131, 132, 133, 134, 135, 136, 137, 138, 139, 140, 141, 142, 143, 144, 145, 146, 147, 148, 149, 150, 151, 152, 153, 154, 155, 156, 157, 158, 159, 160, 161, 162, 163, 164, 165, 166, 167, 168, 169, 170, 171, 172, 173, 174, 175, 176, 177, 178, 179, 180, 181, 182, 183, 184, 185, 186, 187, 188, 189, 190, 191, 192, 413, 414, 415, 416, 417, 418, 419, 420, 421, 422, 423] (by decide +kernel) (by decide +kernel)) (goodIn_sub (fun _ h => List.mem_cons_of_mem _ (List.mem_append_right _ h)) (by decide +kernel))
set_option maxRecDepth 20000 in
theorem gX10_run_X6_read : GoodIn wsX10_run (wsV RX10 280 RX6 yX6_read wsX6_read) := goodIn_app (goodIn_of _ (by decide +kernel)) ggX10_run_X6_read
set_option maxRecDepth 20000 in
theorem ggX10_run_X6_empty : GoodIn wsX10_run wsX6_empty := goodIn_r _ [196, 17, 413, 414, 415] (by decide +kernel) (by decide +kernel)
set_option maxRecDepth 20000 in
theorem gX10_run_X6_empty : GoodIn wsX10_run (wsV RX10 283 RX6 yX6_empty wsX6_empty) := goodIn_app (goodIn_of _ (by decide +kernel)) ggX10_run_X6_empty
set_option maxRecDepth 20000 in
theorem ggX10_run_X7_copyFrom : GoodIn wsX10_run wsX7_copyFrom := goodIn_ca (goodIn_r _ [201, 202, 203, 180, 181, 182, 204, 205, 206, 207, 208, 209, 210, 211, 212, 213, 214, 215, 216, 217, 424, 425, 426, 427, 428, 429, 430, 431, 432, 433, 434, 435, 436, 437, 438] (by decide +kernel) (by decide +kernel)) (goodIn_sub (fun _ h => List.mem_cons_of_mem _ (List.mem_append_right _ h)) (by decide +kernel))
set_option maxRecDepth 20000 in
theorem gX10_run_X7_copyFrom : GoodIn wsX10_run (wsV RX10 288 RX7 yX7_copyFrom wsX7_copyFrom) := goodIn_app (goodIn_of _ (by decide +kernel)) ggX10_run_X7_copyFrom
set_option maxRecDepth 20000 in
theorem ggX10_run_X6_carryOut : GoodIn wsX10_run wsX6_carryOut := goodIn_ca (goodIn_r _ [221, 16, 222, 223, 224, 225, 226, 22, 227, 27, 228, 229, 230, 231, 232, 233, 234, 235, 236, 86, 87, 88, 237, 238, 239, 240, 26, 241, 242, 243, 123, 244, 245, 131, 133, 246, 247, 248, 249, 250, 251, 252, 253, 254, 255, 200, 256, 257, 258, 259, 260, 261, 262, 263, 264, 265, 266, 267, 268, 269, 270, 271, 272, 273, 274, 275, 211, 202, 205, 276, 213, 277, 278, 279, 280, 281, 282, 283, 284, 285, 286, 115, 287, 288, 114, 116, 289, 290, 291, 292, 293, 294, 295, 214, 296, 297, 298, 299, 300, 301, 302, 303, 304, 305, 306, 307, 308, 212, 309, 310, 311, 312, 207, 313, 314, 315, 316, 209, 208, 317, 318, 319, 320, 321, 322, 323, 324, 325, 326, 327, 328, 329, 330, 331, 332, 333, 334, 335, 336, 337, 338, 339, 206, 340, 341, 342, 343, 344, 345, 346, 210, 347, 348, 349, 350, 351, 352, 353, 354, 204, 355, 356, 357, 358, 215, 359, 360, 361, 362, 363, 364, 365, 366, 367, 368, 369, 370, 371, 372, 373, 374, 375, 376, 377, 378, 216, 217, 379, 380, 381, 382, 413, 414, 415, 416, 417, 418, 421, 422, 423, 424, 425, 426, 427, 428, 429, 430, 431, 432, 433, 434, 435, 436, 437, 438] (by decide +kernel) (by decide +kernel)) (goodIn_sub (fun _ h => List.mem_cons_of_mem _ (List.mem_append_right _ h)) (by decide +kernel))
set_option maxRecDepth 20000 in
theorem gX10_run_X6_carryOut : GoodIn wsX10_run (wsV RX10 291 RX6 yX6_carryOut wsX6_carryOut) := goodIn_app (goodIn_of _ (by decide +kernel)) ggX10_run_X6_carryOut
set_option maxRecDepth 20000 in
theorem ggX10_run_X4_record : GoodIn wsX10_run wsX4_record := goodIn_ca (goodIn_r _ [387, 388, 389, 390, 391, 200, 392, 393, 177, 115, 178, 394, 395, 396, 397, 129, 130, 132, 202, 204, 398, 211, 205, 206, 207, 208, 209, 210, 213, 214, 399, 198, 199, 201, 203, 180, 181, 182, 212, 215, 216, 217, 439, 440, 441, 424, 425, 426, 427, 428, 429, 430, 431, 432, 433, 434, 435, 436, 437, 438] (by decide +kernel) (by decide +kernel)) (goodIn_sub (fun _ h => List.mem_cons_of_mem _ (List.mem_append_right _ h)) (by decide +kernel))
set_option maxRecDepth 20000 in
theorem gX10_run_X4_record : GoodIn wsX10_run (wsV RX10 65 RX4 yX4_record wsX4_record) := goodIn_app (goodIn_of _ (by decide +kernel)) ggX10_run_X4_record
set_option maxRecDepth 20000 in
theorem ggX10_run_X6_commandCount : GoodIn wsX10_run wsX6_commandCount := goodIn_r _ [403, 16, 224, 225, 226, 22, 227, 27, 413, 414, 415, 416, 417, 418] (by decide +kernel) (by decide +kernel)
set_option maxRecDepth 20000 in
theorem gX10_run_X6_commandCount : GoodIn wsX10_run (wsV RX10 299 RX6 yX6_commandCount wsX6_commandCount) := goodIn_app (goodIn_of _ (by decide +kernel)) ggX10_run_X6_commandCount
theorem dX10_run_0 : decode cX10_run 0 = .ok (.aload_n 0, 1) := by decide +kernel
theorem dX10_run_1 : decode cX10_run 1 = .ok (.getfield 36, 3) := by decide +kernel
theorem dX10_run_4 : decode cX10_run 4 = .ok (.invokevirtual 280, 3) := by decide +kernel
theorem dX10_run_7 : decode cX10_run 7 = .ok (.istore_n 1, 1) := by decide +kernel
theorem dX10_run_8 : decode cX10_run 8 = .ok (.aload_n 0, 1) := by decide +kernel
theorem dX10_run_9 : decode cX10_run 9 = .ok (.getfield 36, 3) := by decide +kernel
theorem dX10_run_12 : decode cX10_run 12 = .ok (.invokevirtual 283, 3) := by decide +kernel
theorem dX10_run_15 : decode cX10_run 15 = .ok (.iload_n 1, 1) := by decide +kernel
theorem dX10_run_16 : decode cX10_run 16 = .ok (.iconst (-1), 1) := by decide +kernel
theorem dX10_run_17 : decode cX10_run 17 = .ok (.if_icmp .eq 19, 3) := by decide +kernel
theorem dX10_run_20 : decode cX10_run 20 = .ok (.aload_n 0, 1) := by decide +kernel
theorem dX10_run_21 : decode cX10_run 21 = .ok (.iload_n 1, 1) := by decide +kernel
theorem dX10_run_22 : decode cX10_run 22 = .ok (.putfield 50, 3) := by decide +kernel
theorem dX10_run_25 : decode cX10_run 25 = .ok (.new 221, 3) := by decide +kernel
theorem dX10_run_28 : decode cX10_run 28 = .ok (.dup, 1) := by decide +kernel
theorem dX10_run_29 : decode cX10_run 29 = .ok (.ldc_w 286, 3) := by decide +kernel
theorem dX10_run_32 : decode cX10_run 32 = .ok (.invokespecial 225, 3) := by decide +kernel
theorem dX10_run_35 : decode cX10_run 35 = .ok (.athrow, 1) := by decide +kernel
theorem dX10_run_36 : decode cX10_run 36 = .ok (.aload_n 0, 1) := by decide +kernel
theorem dX10_run_37 : decode cX10_run 37 = .ok (.getfield 16, 3) := by decide +kernel
theorem dX10_run_40 : decode cX10_run 40 = .ok (.aload_n 0, 1) := by decide +kernel
theorem dX10_run_41 : decode cX10_run 41 = .ok (.getfield 10, 3) := by decide +kernel
theorem dX10_run_44 : decode cX10_run 44 = .ok (.invokevirtual 288, 3) := by decide +kernel
theorem dX10_run_47 : decode cX10_run 47 = .ok (.aload_n 0, 1) := by decide +kernel
theorem dX10_run_48 : decode cX10_run 48 = .ok (.getfield 36, 3) := by decide +kernel
theorem dX10_run_51 : decode cX10_run 51 = .ok (.aload_n 0, 1) := by decide +kernel
theorem dX10_run_52 : decode cX10_run 52 = .ok (.getfield 10, 3) := by decide +kernel
theorem dX10_run_55 : decode cX10_run 55 = .ok (.invokevirtual 291, 3) := by decide +kernel
theorem dX10_run_58 : decode cX10_run 58 = .ok (.istore_n 2, 1) := by decide +kernel
theorem dX10_run_59 : decode cX10_run 59 = .ok (.iload_n 2, 1) := by decide +kernel
theorem dX10_run_60 : decode cX10_run 60 = .ok (.iconst (-1), 1) := by decide +kernel
theorem dX10_run_61 : decode cX10_run 61 = .ok (.if_icmp .eq 30, 3) := by decide +kernel
theorem dX10_run_64 : decode cX10_run 64 = .ok (.aload_n 0, 1) := by decide +kernel
theorem dX10_run_65 : decode cX10_run 65 = .ok (.getfield 10, 3) := by decide +kernel
theorem dX10_run_68 : decode cX10_run 68 = .ok (.aload_n 0, 1) := by decide +kernel
theorem dX10_run_69 : decode cX10_run 69 = .ok (.getfield 16, 3) := by decide +kernel
theorem dX10_run_72 : decode cX10_run 72 = .ok (.invokevirtual 288, 3) := by decide +kernel
theorem dX10_run_75 : decode cX10_run 75 = .ok (.aload_n 0, 1) := by decide +kernel
theorem dX10_run_76 : decode cX10_run 76 = .ok (.iload_n 2, 1) := by decide +kernel
theorem dX10_run_77 : decode cX10_run 77 = .ok (.putfield 54, 3) := by decide +kernel
theorem dX10_run_80 : decode cX10_run 80 = .ok (.new 294, 3) := by decide +kernel
theorem dX10_run_83 : decode cX10_run 83 = .ok (.dup, 1) := by decide +kernel
theorem dX10_run_84 : decode cX10_run 84 = .ok (.ldc_w 296, 3) := by decide +kernel
theorem dX10_run_87 : decode cX10_run 87 = .ok (.invokespecial 298, 3) := by decide +kernel
theorem dX10_run_90 : decode cX10_run 90 = .ok (.athrow, 1) := by decide +kernel
theorem dX10_run_91 : decode cX10_run 91 = .ok (.aload_n 0, 1) := by decide +kernel
theorem dX10_run_92 : decode cX10_run 92 = .ok (.getfield 29, 3) := by decide +kernel
theorem dX10_run_95 : decode cX10_run 95 = .ok (.aload_n 0, 1) := by decide +kernel
theorem dX10_run_96 : decode cX10_run 96 = .ok (.getfield 16, 3) := by decide +kernel
theorem dX10_run_99 : decode cX10_run 99 = .ok (.invokevirtual 65, 3) := by decide +kernel
theorem dX10_run_102 : decode cX10_run 102 = .ok (.aload_n 0, 1) := by decide +kernel
theorem dX10_run_103 : decode cX10_run 103 = .ok (.getfield 36, 3) := by decide +kernel
theorem dX10_run_106 : decode cX10_run 106 = .ok (.invokevirtual 299, 3) := by decide +kernel
theorem dX10_run_109 : decode cX10_run 109 = .ok (.ireturn, 1) := by decide +kernel
theorem dX10_errorPosition_0 : decode cX10_errorPosition 0 = .ok (.aload_n 0, 1) := by decide +kernel
theorem dX10_errorPosition_1 : decode cX10_errorPosition 1 = .ok (.getfield 50, 3) := by decide +kernel
theorem dX10_errorPosition_4 : decode cX10_errorPosition 4 = .ok (.iconst (-1), 1) := by decide +kernel
theorem dX10_errorPosition_5 : decode cX10_errorPosition 5 = .ok (.if_icmp .ne 14, 3) := by decide +kernel
theorem dX10_errorPosition_8 : decode cX10_errorPosition 8 = .ok (.new 192, 3) := by decide +kernel
theorem dX10_errorPosition_11 : decode cX10_errorPosition 11 = .ok (.dup, 1) := by decide +kernel
theorem dX10_errorPosition_12 : decode cX10_errorPosition 12 = .ok (.ldc_w 302, 3) := by decide +kernel
theorem dX10_errorPosition_15 : decode cX10_errorPosition 15 = .ok (.invokespecial 196, 3) := by decide +kernel
theorem dX10_errorPosition_18 : decode cX10_errorPosition 18 = .ok (.athrow, 1) := by decide +kernel
theorem dX10_errorPosition_19 : decode cX10_errorPosition 19 = .ok (.aload_n 0, 1) := by decide +kernel
theorem dX10_errorPosition_20 : decode cX10_errorPosition 20 = .ok (.getfield 50, 3) := by decide +kernel
theorem dX10_errorPosition_23 : decode cX10_errorPosition 23 = .ok (.ireturn, 1) := by decide +kernel
theorem dX10_failedCommand_0 : decode cX10_failedCommand 0 = .ok (.aload_n 0, 1) := by decide +kernel
theorem dX10_failedCommand_1 : decode cX10_failedCommand 1 = .ok (.getfield 54, 3) := by decide +kernel
theorem dX10_failedCommand_4 : decode cX10_failedCommand 4 = .ok (.iconst (-1), 1) := by decide +kernel
theorem dX10_failedCommand_5 : decode cX10_failedCommand 5 = .ok (.if_icmp .ne 14, 3) := by decide +kernel
theorem dX10_failedCommand_8 : decode cX10_failedCommand 8 = .ok (.new 192, 3) := by decide +kernel
theorem dX10_failedCommand_11 : decode cX10_failedCommand 11 = .ok (.dup, 1) := by decide +kernel
theorem dX10_failedCommand_12 : decode cX10_failedCommand 12 = .ok (.ldc_w 304, 3) := by decide +kernel
theorem dX10_failedCommand_15 : decode cX10_failedCommand 15 = .ok (.invokespecial 196, 3) := by decide +kernel
theorem dX10_failedCommand_18 : decode cX10_failedCommand 18 = .ok (.athrow, 1) := by decide +kernel
theorem dX10_failedCommand_19 : decode cX10_failedCommand 19 = .ok (.aload_n 0, 1) := by decide +kernel
theorem dX10_failedCommand_20 : decode cX10_failedCommand 20 = .ok (.getfield 54, 3) := by decide +kernel
theorem dX10_failedCommand_23 : decode cX10_failedCommand 23 = .ok (.ireturn, 1) := by decide +kernel
set_option maxRecDepth 20000 in
theorem ggX10_writeRow_X3_hasRow : GoodIn wsX10_writeRow wsX3_hasRow := goodIn_r _ [8] (by decide +kernel) (by decide +kernel)
set_option maxRecDepth 20000 in
theorem gX10_writeRow_X3_hasRow : GoodIn wsX10_writeRow (va_wsS RX10 306 yX3_hasRow wsX3_hasRow) := goodIn_app (goodIn_of _ (by decide +kernel)) ggX10_writeRow_X3_hasRow
set_option maxRecDepth 20000 in
theorem ggX10_writeRow_X5_write : GoodIn wsX10_writeRow wsX5_write := goodIn_ca (goodIn_r _ [13, 14, 15, 16, 17, 12, 18, 19, 20, 21, 7, 22, 23, 24, 25, 26, 27, 28, 29, 30, 31, 32, 33, 34, 35, 36, 37, 38, 39, 40, 41, 42, 43, 44, 45, 46, 47, 48, 49, 50, 51, 52, 53, 63, 64, 65, 66, 67, 68, 69, 70, 71, 72, 73, 74, 75, 76, 77, 78, 79] (by decide +kernel) (by decide +kernel)) (goodIn_sub (fun _ h => List.mem_cons_of_mem _ (List.mem_append_right _ h)) (by decide +kernel))
set_option maxRecDepth 20000 in
theorem gX10_writeRow_X5_write : GoodIn wsX10_writeRow (wsV RX10 311 RX5 yX5_write wsX5_write) := goodIn_app (goodIn_of _ (by decide +kernel)) ggX10_writeRow_X5_write
theorem dX10_writeRow_0 : decode cX10_writeRow 0 = .ok (.iload_n 1, 1) := by decide +kernel
theorem dX10_writeRow_1 : decode cX10_writeRow 1 = .ok (.invokestatic 306, 3) := by decide +kernel
theorem dX10_writeRow_4 : decode cX10_writeRow 4 = .ok (.ifCond .ne 14, 3) := by decide +kernel
theorem dX10_writeRow_7 : decode cX10_writeRow 7 = .ok (.new 205, 3) := by decide +kernel
theorem dX10_writeRow_10 : decode cX10_writeRow 10 = .ok (.dup, 1) := by decide +kernel
theorem dX10_writeRow_11 : decode cX10_writeRow 11 = .ok (.ldc_w 309, 3) := by decide +kernel
theorem dX10_writeRow_14 : decode cX10_writeRow 14 = .ok (.invokespecial 209, 3) := by decide +kernel
theorem dX10_writeRow_17 : decode cX10_writeRow 17 = .ok (.athrow, 1) := by decide +kernel
theorem dX10_writeRow_18 : decode cX10_writeRow 18 = .ok (.aload_n 0, 1) := by decide +kernel
theorem dX10_writeRow_19 : decode cX10_writeRow 19 = .ok (.getfield 43, 3) := by decide +kernel
theorem dX10_writeRow_22 : decode cX10_writeRow 22 = .ok (.aload_n 0, 1) := by decide +kernel
theorem dX10_writeRow_23 : decode cX10_writeRow 23 = .ok (.getfield 10, 3) := by decide +kernel
theorem dX10_writeRow_26 : decode cX10_writeRow 26 = .ok (.iload_n 1, 1) := by decide +kernel
theorem dX10_writeRow_27 : decode cX10_writeRow 27 = .ok (.invokevirtual 311, 3) := by decide +kernel
theorem dX10_writeRow_30 : decode cX10_writeRow 30 = .ok (.ireturn, 1) := by decide +kernel
set_option maxRecDepth 20000 in
theorem ggX10_outputAt_X5_hasSign : GoodIn wsX10_outputAt wsX5_hasSign := goodIn_r _ [8, 9, 24, 25] (by decide +kernel) (by decide +kernel)
set_option maxRecDepth 20000 in
theorem gX10_outputAt_X5_hasSign : GoodIn wsX10_outputAt (wsV RX10 314 RX5 yX5_hasSign wsX5_hasSign) := goodIn_app (goodIn_of _ (by decide +kernel)) ggX10_outputAt_X5_hasSign
set_option maxRecDepth 20000 in
theorem ggX10_outputAt_X5_signAt : GoodIn wsX10_outputAt wsX5_signAt := goodIn_ca (goodIn_r _ [13, 14, 24, 25] (by decide +kernel) (by decide +kernel)) (goodIn_sub (fun _ h => List.mem_cons_of_mem _ (List.mem_append_right _ h)) (by decide +kernel))
set_option maxRecDepth 20000 in
theorem gX10_outputAt_X5_signAt : GoodIn wsX10_outputAt (wsV RX10 319 RX5 yX5_signAt wsX5_signAt) := goodIn_app (goodIn_of _ (by decide +kernel)) ggX10_outputAt_X5_signAt
theorem dX10_outputAt_0 : decode cX10_outputAt 0 = .ok (.aload_n 0, 1) := by decide +kernel
theorem dX10_outputAt_1 : decode cX10_outputAt 1 = .ok (.getfield 43, 3) := by decide +kernel
theorem dX10_outputAt_4 : decode cX10_outputAt 4 = .ok (.iload_n 1, 1) := by decide +kernel
theorem dX10_outputAt_5 : decode cX10_outputAt 5 = .ok (.invokevirtual 314, 3) := by decide +kernel
theorem dX10_outputAt_8 : decode cX10_outputAt 8 = .ok (.ifCond .ne 14, 3) := by decide +kernel
theorem dX10_outputAt_11 : decode cX10_outputAt 11 = .ok (.new 205, 3) := by decide +kernel
theorem dX10_outputAt_14 : decode cX10_outputAt 14 = .ok (.dup, 1) := by decide +kernel
theorem dX10_outputAt_15 : decode cX10_outputAt 15 = .ok (.ldc_w 317, 3) := by decide +kernel
theorem dX10_outputAt_18 : decode cX10_outputAt 18 = .ok (.invokespecial 209, 3) := by decide +kernel
theorem dX10_outputAt_21 : decode cX10_outputAt 21 = .ok (.athrow, 1) := by decide +kernel
theorem dX10_outputAt_22 : decode cX10_outputAt 22 = .ok (.aload_n 0, 1) := by decide +kernel
theorem dX10_outputAt_23 : decode cX10_outputAt 23 = .ok (.getfield 43, 3) := by decide +kernel
theorem dX10_outputAt_26 : decode cX10_outputAt 26 = .ok (.iload_n 1, 1) := by decide +kernel
theorem dX10_outputAt_27 : decode cX10_outputAt 27 = .ok (.invokevirtual 319, 3) := by decide +kernel
theorem dX10_outputAt_30 : decode cX10_outputAt 30 = .ok (.ireturn, 1) := by decide +kernel
set_option maxRecDepth 20000 in
theorem ggX10_undo_X4_isEmpty : GoodIn wsX10_undo wsX4_isEmpty := goodIn_r _ [9, 10, 50, 51, 52] (by decide +kernel) (by decide +kernel)
set_option maxRecDepth 20000 in
theorem gX10_undo_X4_isEmpty : GoodIn wsX10_undo (wsV RX10 323 RX4 yX4_isEmpty wsX4_isEmpty) := goodIn_app (goodIn_of _ (by decide +kernel)) ggX10_undo_X4_isEmpty
set_option maxRecDepth 20000 in
theorem ggX10_undo_X4_stepBack : GoodIn wsX10_undo wsX4_stepBack := goodIn_ca (goodIn_r _ [14, 15, 10, 16, 17, 18, 19, 20, 21, 22, 23, 24, 25, 26, 27, 28, 29, 30, 31, 32, 33, 34, 35, 36, 37, 38, 39, 40, 50, 51, 52, 53, 54, 55, 56, 57, 58, 59, 60, 61, 62, 63, 64, 65, 66, 67] (by decide +kernel) (by decide +kernel)) (goodIn_sub (fun _ h => List.mem_cons_of_mem _ (List.mem_append_right _ h)) (by decide +kernel))
set_option maxRecDepth 20000 in
theorem gX10_undo_X4_stepBack : GoodIn wsX10_undo (wsV RX10 328 RX4 yX4_stepBack wsX4_stepBack) := goodIn_app (goodIn_of _ (by decide +kernel)) ggX10_undo_X4_stepBack
theorem dX10_undo_0 : decode cX10_undo 0 = .ok (.aload_n 0, 1) := by decide +kernel
theorem dX10_undo_1 : decode cX10_undo 1 = .ok (.getfield 29, 3) := by decide +kernel
theorem dX10_undo_4 : decode cX10_undo 4 = .ok (.invokevirtual 323, 3) := by decide +kernel
theorem dX10_undo_7 : decode cX10_undo 7 = .ok (.ifCond .eq 14, 3) := by decide +kernel
theorem dX10_undo_10 : decode cX10_undo 10 = .ok (.new 271, 3) := by decide +kernel
theorem dX10_undo_13 : decode cX10_undo 13 = .ok (.dup, 1) := by decide +kernel
theorem dX10_undo_14 : decode cX10_undo 14 = .ok (.ldc_w 326, 3) := by decide +kernel
theorem dX10_undo_17 : decode cX10_undo 17 = .ok (.invokespecial 275, 3) := by decide +kernel
theorem dX10_undo_20 : decode cX10_undo 20 = .ok (.athrow, 1) := by decide +kernel
theorem dX10_undo_21 : decode cX10_undo 21 = .ok (.aload_n 0, 1) := by decide +kernel
theorem dX10_undo_22 : decode cX10_undo 22 = .ok (.getfield 29, 3) := by decide +kernel
theorem dX10_undo_25 : decode cX10_undo 25 = .ok (.aload_n 0, 1) := by decide +kernel
theorem dX10_undo_26 : decode cX10_undo 26 = .ok (.getfield 10, 3) := by decide +kernel
theorem dX10_undo_29 : decode cX10_undo 29 = .ok (.invokevirtual 328, 3) := by decide +kernel
theorem dX10_undo_32 : decode cX10_undo 32 = .ok (.ireturn, 1) := by decide +kernel
set_option maxRecDepth 20000 in
theorem ggX10_save_X7_init : GoodIn wsX10_save wsX7_init := goodIn_ca (goodIn_r _ [8, 9, 10, 11, 12, 13, 14, 15, 16, 17, 18, 19, 20, 21, 22, 23, 24, 46, 47, 48, 49, 50, 51, 52, 53, 54, 55, 56, 57, 58, 59, 60] (by decide +kernel) (by decide +kernel)) (goodIn_sub (fun _ h => List.mem_cons_of_mem _ (List.mem_append_right _ h)) (by decide +kernel))
set_option maxRecDepth 20000 in
theorem gX10_save_X7_init : GoodIn wsX10_save (wsX7_init) := ggX10_save_X7_init
set_option maxRecDepth 20000 in
theorem ggX10_save_X7_copyFrom : GoodIn wsX10_save wsX7_copyFrom := goodIn_ca (goodIn_r _ [28, 13, 29, 30, 31, 32, 14, 17, 18, 19, 20, 21, 22, 16, 33, 23, 24, 34, 35, 36, 46, 47, 48, 49, 50, 51, 52, 53, 54, 55, 56, 57, 58, 59, 60] (by decide +kernel) (by decide +kernel)) (goodIn_sub (fun _ h => List.mem_cons_of_mem _ (List.mem_append_right _ h)) (by decide +kernel))
set_option maxRecDepth 20000 in
theorem gX10_save_X7_copyFrom : GoodIn wsX10_save (wsV RX10 288 RX7 yX7_copyFrom wsX7_copyFrom) := goodIn_app (goodIn_of _ (by decide +kernel)) ggX10_save_X7_copyFrom
theorem dX10_save_0 : decode cX10_save 0 = .ok (.aload_n 0, 1) := by decide +kernel
theorem dX10_save_1 : decode cX10_save 1 = .ok (.getfield 47, 3) := by decide +kernel
theorem dX10_save_4 : decode cX10_save 4 = .ok (.ifnonnull 14, 3) := by decide +kernel
theorem dX10_save_7 : decode cX10_save 7 = .ok (.aload_n 0, 1) := by decide +kernel
theorem dX10_save_8 : decode cX10_save 8 = .ok (.new 7, 3) := by decide +kernel
theorem dX10_save_11 : decode cX10_save 11 = .ok (.dup, 1) := by decide +kernel
theorem dX10_save_12 : decode cX10_save 12 = .ok (.invokespecial 9, 3) := by decide +kernel
theorem dX10_save_15 : decode cX10_save 15 = .ok (.putfield 47, 3) := by decide +kernel
theorem dX10_save_18 : decode cX10_save 18 = .ok (.aload_n 0, 1) := by decide +kernel
theorem dX10_save_19 : decode cX10_save 19 = .ok (.getfield 47, 3) := by decide +kernel
theorem dX10_save_22 : decode cX10_save 22 = .ok (.aload_n 0, 1) := by decide +kernel
theorem dX10_save_23 : decode cX10_save 23 = .ok (.getfield 10, 3) := by decide +kernel
theorem dX10_save_26 : decode cX10_save 26 = .ok (.invokevirtual 288, 3) := by decide +kernel
theorem dX10_save_29 : decode cX10_save 29 = .ok (.return_, 1) := by decide +kernel
set_option maxRecDepth 20000 in
theorem ggX10_restore_X7_copyFrom : GoodIn wsX10_restore wsX7_copyFrom := goodIn_ca (goodIn_r _ [10, 11, 12, 13, 14, 15, 16, 17, 18, 19, 20, 21, 22, 23, 24, 25, 26, 27, 28, 29, 45, 46, 47, 48, 49, 50, 51, 52, 53, 54, 55, 56, 57, 58, 59] (by decide +kernel) (by decide +kernel)) (goodIn_sub (fun _ h => List.mem_cons_of_mem _ (List.mem_append_right _ h)) (by decide +kernel))
set_option maxRecDepth 20000 in
theorem gX10_restore_X7_copyFrom : GoodIn wsX10_restore (wsV RX10 288 RX7 yX7_copyFrom wsX7_copyFrom) := goodIn_app (goodIn_of _ (by decide +kernel)) ggX10_restore_X7_copyFrom
set_option maxRecDepth 20000 in
theorem ggX10_restore_X4_forget : GoodIn wsX10_restore wsX4_forget := goodIn_r _ [34, 35, 60, 61, 62] (by decide +kernel) (by decide +kernel)
set_option maxRecDepth 20000 in
theorem gX10_restore_X4_forget : GoodIn wsX10_restore (wsV RX10 333 RX4 yX4_forget wsX4_forget) := goodIn_app (goodIn_of _ (by decide +kernel)) ggX10_restore_X4_forget
theorem dX10_restore_0 : decode cX10_restore 0 = .ok (.aload_n 0, 1) := by decide +kernel
theorem dX10_restore_1 : decode cX10_restore 1 = .ok (.getfield 47, 3) := by decide +kernel
theorem dX10_restore_4 : decode cX10_restore 4 = .ok (.ifnonnull 14, 3) := by decide +kernel
theorem dX10_restore_7 : decode cX10_restore 7 = .ok (.new 271, 3) := by decide +kernel
theorem dX10_restore_10 : decode cX10_restore 10 = .ok (.dup, 1) := by decide +kernel
theorem dX10_restore_11 : decode cX10_restore 11 = .ok (.ldc_w 331, 3) := by decide +kernel
theorem dX10_restore_14 : decode cX10_restore 14 = .ok (.invokespecial 275, 3) := by decide +kernel
theorem dX10_restore_17 : decode cX10_restore 17 = .ok (.athrow, 1) := by decide +kernel
theorem dX10_restore_18 : decode cX10_restore 18 = .ok (.aload_n 0, 1) := by decide +kernel
theorem dX10_restore_19 : decode cX10_restore 19 = .ok (.getfield 10, 3) := by decide +kernel
theorem dX10_restore_22 : decode cX10_restore 22 = .ok (.aload_n 0, 1) := by decide +kernel
theorem dX10_restore_23 : decode cX10_restore 23 = .ok (.getfield 47, 3) := by decide +kernel
theorem dX10_restore_26 : decode cX10_restore 26 = .ok (.invokevirtual 288, 3) := by decide +kernel
theorem dX10_restore_29 : decode cX10_restore 29 = .ok (.aload_n 0, 1) := by decide +kernel
theorem dX10_restore_30 : decode cX10_restore 30 = .ok (.getfield 29, 3) := by decide +kernel
theorem dX10_restore_33 : decode cX10_restore 33 = .ok (.invokevirtual 333, 3) := by decide +kernel
theorem dX10_restore_36 : decode cX10_restore 36 = .ok (.return_, 1) := by decide +kernel
set_option maxRecDepth 20000 in
theorem ggX10_refuse_Jx29ce0_ordinal_8abf5 : GoodIn wsX10_refuse wsJx29ce0_ordinal_8abf5 := goodIn_r _ [17, 18] (by decide +kernel) (by decide +kernel)
set_option maxRecDepth 20000 in
theorem gX10_refuse_Jx29ce0_ordinal_8abf5_u342X2 : GoodIn wsX10_refuse (va_wsU RX10 342 RX2 "java/lang/Enum" ⟨"TerraceQuarry$Fault", "ordinal", "()I"⟩ yJx29ce0_ordinal_8abf5 wsJx29ce0_ordinal_8abf5) := goodIn_app (goodIn_of _ (by decide +kernel)) ggX10_refuse_Jx29ce0_ordinal_8abf5
theorem dX10_refuse_0 : decode cX10_refuse 0 = .ok (.getstatic 336, 3) := by decide +kernel
theorem dX10_refuse_3 : decode cX10_refuse 3 = .ok (.aload_n 0, 1) := by decide +kernel
theorem dX10_refuse_4 : decode cX10_refuse 4 = .ok (.invokevirtual 342, 3) := by decide +kernel
theorem dX10_refuse_7 : decode cX10_refuse 7 = .ok (.iaload, 1) := by decide +kernel
theorem dX10_refuse_8 : decode cX10_refuse 8 = .ok (.tableswitch 91 1 5 #[36, 47, 58, 69, 80], 36) := by decide +kernel
theorem dX10_refuse_44 : decode cX10_refuse 44 = .ok (.new 205, 3) := by decide +kernel
theorem dX10_refuse_47 : decode cX10_refuse 47 = .ok (.dup, 1) := by decide +kernel
theorem dX10_refuse_48 : decode cX10_refuse 48 = .ok (.ldc_w 345, 3) := by decide +kernel
theorem dX10_refuse_51 : decode cX10_refuse 51 = .ok (.invokespecial 209, 3) := by decide +kernel
theorem dX10_refuse_54 : decode cX10_refuse 54 = .ok (.athrow, 1) := by decide +kernel
theorem dX10_refuse_55 : decode cX10_refuse 55 = .ok (.new 221, 3) := by decide +kernel
theorem dX10_refuse_58 : decode cX10_refuse 58 = .ok (.dup, 1) := by decide +kernel
theorem dX10_refuse_59 : decode cX10_refuse 59 = .ok (.ldc_w 347, 3) := by decide +kernel
theorem dX10_refuse_62 : decode cX10_refuse 62 = .ok (.invokespecial 225, 3) := by decide +kernel
theorem dX10_refuse_65 : decode cX10_refuse 65 = .ok (.athrow, 1) := by decide +kernel
theorem dX10_refuse_66 : decode cX10_refuse 66 = .ok (.new 192, 3) := by decide +kernel
theorem dX10_refuse_69 : decode cX10_refuse 69 = .ok (.dup, 1) := by decide +kernel
theorem dX10_refuse_70 : decode cX10_refuse 70 = .ok (.ldc_w 349, 3) := by decide +kernel
theorem dX10_refuse_73 : decode cX10_refuse 73 = .ok (.invokespecial 196, 3) := by decide +kernel
theorem dX10_refuse_76 : decode cX10_refuse 76 = .ok (.athrow, 1) := by decide +kernel
theorem dX10_refuse_77 : decode cX10_refuse 77 = .ok (.new 271, 3) := by decide +kernel
theorem dX10_refuse_80 : decode cX10_refuse 80 = .ok (.dup, 1) := by decide +kernel
theorem dX10_refuse_81 : decode cX10_refuse 81 = .ok (.ldc_w 351, 3) := by decide +kernel
theorem dX10_refuse_84 : decode cX10_refuse 84 = .ok (.invokespecial 275, 3) := by decide +kernel
theorem dX10_refuse_87 : decode cX10_refuse 87 = .ok (.athrow, 1) := by decide +kernel
theorem dX10_refuse_88 : decode cX10_refuse 88 = .ok (.new 294, 3) := by decide +kernel
theorem dX10_refuse_91 : decode cX10_refuse 91 = .ok (.dup, 1) := by decide +kernel
theorem dX10_refuse_92 : decode cX10_refuse 92 = .ok (.ldc_w 353, 3) := by decide +kernel
theorem dX10_refuse_95 : decode cX10_refuse 95 = .ok (.invokespecial 298, 3) := by decide +kernel
theorem dX10_refuse_98 : decode cX10_refuse 98 = .ok (.athrow, 1) := by decide +kernel
theorem dX10_refuse_99 : decode cX10_refuse 99 = .ok (.return_, 1) := by decide +kernel
set_option maxRecDepth 20000 in
theorem ggX11_init_X11_placeOf : GoodIn wsX11_init wsX11_placeOf := goodIn_r _ [18] (by decide +kernel) (by decide +kernel)
set_option maxRecDepth 20000 in
theorem gX11_init_X11_placeOf : GoodIn wsX11_init (va_wsS RX11 41 yX11_placeOf wsX11_placeOf) := goodIn_app (goodIn_of _ (by decide +kernel)) ggX11_init_X11_placeOf
theorem dX11_init_0 : decode cX11_init 0 = .ok (.aload_n 0, 1) := by decide +kernel
theorem dX11_init_1 : decode cX11_init 1 = .ok (.invokespecial 3, 3) := by decide +kernel
theorem dX11_init_4 : decode cX11_init 4 = .ok (.aload_n 0, 1) := by decide +kernel
theorem dX11_init_5 : decode cX11_init 5 = .ok (.sipush 229, 3) := by decide +kernel
theorem dX11_init_8 : decode cX11_init 8 = .ok (.newarray .int, 2) := by decide +kernel
theorem dX11_init_10 : decode cX11_init 10 = .ok (.putfield 9, 3) := by decide +kernel
theorem dX11_init_13 : decode cX11_init 13 = .ok (.aload_n 0, 1) := by decide +kernel
theorem dX11_init_14 : decode cX11_init 14 = .ok (.sipush 229, 3) := by decide +kernel
theorem dX11_init_17 : decode cX11_init 17 = .ok (.newarray .int, 2) := by decide +kernel
theorem dX11_init_19 : decode cX11_init 19 = .ok (.putfield 13, 3) := by decide +kernel
theorem dX11_init_22 : decode cX11_init 22 = .ok (.aload_n 0, 1) := by decide +kernel
theorem dX11_init_23 : decode cX11_init 23 = .ok (.sipush 229, 3) := by decide +kernel
theorem dX11_init_26 : decode cX11_init 26 = .ok (.newarray .int, 2) := by decide +kernel
theorem dX11_init_28 : decode cX11_init 28 = .ok (.putfield 16, 3) := by decide +kernel
theorem dX11_init_31 : decode cX11_init 31 = .ok (.aload_n 0, 1) := by decide +kernel
theorem dX11_init_32 : decode cX11_init 32 = .ok (.sipush 1832, 3) := by decide +kernel
theorem dX11_init_35 : decode cX11_init 35 = .ok (.newarray .int, 2) := by decide +kernel
theorem dX11_init_37 : decode cX11_init 37 = .ok (.putfield 19, 3) := by decide +kernel
theorem dX11_init_40 : decode cX11_init 40 = .ok (.aload_n 0, 1) := by decide +kernel
theorem dX11_init_41 : decode cX11_init 41 = .ok (.iconst (-1), 1) := by decide +kernel
theorem dX11_init_42 : decode cX11_init 42 = .ok (.putfield 22, 3) := by decide +kernel
theorem dX11_init_45 : decode cX11_init 45 = .ok (.aload_n 0, 1) := by decide +kernel
theorem dX11_init_46 : decode cX11_init 46 = .ok (.iconst (-1), 1) := by decide +kernel
theorem dX11_init_47 : decode cX11_init 47 = .ok (.putfield 26, 3) := by decide +kernel
theorem dX11_init_50 : decode cX11_init 50 = .ok (.aload_n 0, 1) := by decide +kernel
theorem dX11_init_51 : decode cX11_init 51 = .ok (.bipush 30, 2) := by decide +kernel
theorem dX11_init_53 : decode cX11_init 53 = .ok (.newarray .int, 2) := by decide +kernel
theorem dX11_init_55 : decode cX11_init 55 = .ok (.putfield 29, 3) := by decide +kernel
theorem dX11_init_58 : decode cX11_init 58 = .ok (.aload_n 0, 1) := by decide +kernel
theorem dX11_init_59 : decode cX11_init 59 = .ok (.bipush 60, 2) := by decide +kernel
theorem dX11_init_61 : decode cX11_init 61 = .ok (.newarray .int, 2) := by decide +kernel
theorem dX11_init_63 : decode cX11_init 63 = .ok (.putfield 32, 3) := by decide +kernel
theorem dX11_init_66 : decode cX11_init 66 = .ok (.aload_n 0, 1) := by decide +kernel
theorem dX11_init_67 : decode cX11_init 67 = .ok (.bipush 60, 2) := by decide +kernel
theorem dX11_init_69 : decode cX11_init 69 = .ok (.newarray .int, 2) := by decide +kernel
theorem dX11_init_71 : decode cX11_init 71 = .ok (.putfield 35, 3) := by decide +kernel
theorem dX11_init_74 : decode cX11_init 74 = .ok (.aload_n 0, 1) := by decide +kernel
theorem dX11_init_75 : decode cX11_init 75 = .ok (.sipush 150, 3) := by decide +kernel
theorem dX11_init_78 : decode cX11_init 78 = .ok (.newarray .int, 2) := by decide +kernel
theorem dX11_init_80 : decode cX11_init 80 = .ok (.putfield 38, 3) := by decide +kernel
theorem dX11_init_83 : decode cX11_init 83 = .ok (.aload_n 0, 1) := by decide +kernel
theorem dX11_init_84 : decode cX11_init 84 = .ok (.getfield 9, 3) := by decide +kernel
theorem dX11_init_87 : decode cX11_init 87 = .ok (.iconst 0, 1) := by decide +kernel
theorem dX11_init_88 : decode cX11_init 88 = .ok (.iconst 1, 1) := by decide +kernel
theorem dX11_init_89 : decode cX11_init 89 = .ok (.iastore, 1) := by decide +kernel
theorem dX11_init_90 : decode cX11_init 90 = .ok (.aload_n 0, 1) := by decide +kernel
theorem dX11_init_91 : decode cX11_init 91 = .ok (.getfield 9, 3) := by decide +kernel
theorem dX11_init_94 : decode cX11_init 94 = .ok (.iconst 1, 1) := by decide +kernel
theorem dX11_init_95 : decode cX11_init 95 = .ok (.iconst 5, 1) := by decide +kernel
theorem dX11_init_96 : decode cX11_init 96 = .ok (.iastore, 1) := by decide +kernel
theorem dX11_init_97 : decode cX11_init 97 = .ok (.iconst 0, 1) := by decide +kernel
theorem dX11_init_98 : decode cX11_init 98 = .ok (.istore_n 1, 1) := by decide +kernel
theorem dX11_init_99 : decode cX11_init 99 = .ok (.iload_n 1, 1) := by decide +kernel
theorem dX11_init_100 : decode cX11_init 100 = .ok (.bipush 30, 2) := by decide +kernel
theorem dX11_init_102 : decode cX11_init 102 = .ok (.if_icmp .ge 22, 3) := by decide +kernel
theorem dX11_init_105 : decode cX11_init 105 = .ok (.aload_n 0, 1) := by decide +kernel
theorem dX11_init_106 : decode cX11_init 106 = .ok (.getfield 9, 3) := by decide +kernel
theorem dX11_init_109 : decode cX11_init 109 = .ok (.iload_n 1, 1) := by decide +kernel
theorem dX11_init_110 : decode cX11_init 110 = .ok (.invokestatic 41, 3) := by decide +kernel
theorem dX11_init_113 : decode cX11_init 113 = .ok (.iconst 0, 1) := by decide +kernel
theorem dX11_init_114 : decode cX11_init 114 = .ok (.iadd, 1) := by decide +kernel
theorem dX11_init_115 : decode cX11_init 115 = .ok (.bipush 6, 2) := by decide +kernel
theorem dX11_init_117 : decode cX11_init 117 = .ok (.iastore, 1) := by decide +kernel
theorem dX11_init_118 : decode cX11_init 118 = .ok (.iinc 1 1, 3) := by decide +kernel
theorem dX11_init_121 : decode cX11_init 121 = .ok (.goto (-22), 3) := by decide +kernel
theorem dX11_init_124 : decode cX11_init 124 = .ok (.return_, 1) := by decide +kernel
theorem dX11_thrown_0 : decode cX11_thrown 0 = .ok (.aload_n 0, 1) := by decide +kernel
theorem dX11_thrown_1 : decode cX11_thrown 1 = .ok (.getfield 45, 3) := by decide +kernel
theorem dX11_thrown_4 : decode cX11_thrown 4 = .ok (.ireturn, 1) := by decide +kernel
theorem dX11_isIn_0 : decode cX11_isIn 0 = .ok (.iload_n 0, 1) := by decide +kernel
theorem dX11_isIn_1 : decode cX11_isIn 1 = .ok (.iload_n 1, 1) := by decide +kernel
theorem dX11_isIn_2 : decode cX11_isIn 2 = .ok (.if_icmp .lt 12, 3) := by decide +kernel
theorem dX11_isIn_5 : decode cX11_isIn 5 = .ok (.iload_n 0, 1) := by decide +kernel
theorem dX11_isIn_6 : decode cX11_isIn 6 = .ok (.iload_n 2, 1) := by decide +kernel
theorem dX11_isIn_7 : decode cX11_isIn 7 = .ok (.if_icmp .gt 7, 3) := by decide +kernel
theorem dX11_isIn_10 : decode cX11_isIn 10 = .ok (.iconst 1, 1) := by decide +kernel
theorem dX11_isIn_11 : decode cX11_isIn 11 = .ok (.goto 4, 3) := by decide +kernel
theorem dX11_isIn_14 : decode cX11_isIn 14 = .ok (.iconst 0, 1) := by decide +kernel
theorem dX11_isIn_15 : decode cX11_isIn 15 = .ok (.ireturn, 1) := by decide +kernel
theorem dX11_copies_0 : decode cX11_copies 0 = .ok (.iconst 0, 1) := by decide +kernel
theorem dX11_copies_1 : decode cX11_copies 1 = .ok (.istore 4, 2) := by decide +kernel
theorem dX11_copies_3 : decode cX11_copies 3 = .ok (.iload 4, 2) := by decide +kernel
theorem dX11_copies_5 : decode cX11_copies 5 = .ok (.sipush 229, 3) := by decide +kernel
theorem dX11_copies_8 : decode cX11_copies 8 = .ok (.if_icmp .ge 21, 3) := by decide +kernel
theorem dX11_copies_11 : decode cX11_copies 11 = .ok (.aload_n 2, 1) := by decide +kernel
theorem dX11_copies_12 : decode cX11_copies 12 = .ok (.iload_n 3, 1) := by decide +kernel
theorem dX11_copies_13 : decode cX11_copies 13 = .ok (.iload 4, 2) := by decide +kernel
theorem dX11_copies_15 : decode cX11_copies 15 = .ok (.iadd, 1) := by decide +kernel
theorem dX11_copies_16 : decode cX11_copies 16 = .ok (.aload_n 0, 1) := by decide +kernel
theorem dX11_copies_17 : decode cX11_copies 17 = .ok (.iload_n 1, 1) := by decide +kernel
theorem dX11_copies_18 : decode cX11_copies 18 = .ok (.iload 4, 2) := by decide +kernel
theorem dX11_copies_20 : decode cX11_copies 20 = .ok (.iadd, 1) := by decide +kernel
theorem dX11_copies_21 : decode cX11_copies 21 = .ok (.iaload, 1) := by decide +kernel
theorem dX11_copies_22 : decode cX11_copies 22 = .ok (.iastore, 1) := by decide +kernel
theorem dX11_copies_23 : decode cX11_copies 23 = .ok (.iinc 4 1, 3) := by decide +kernel
theorem dX11_copies_26 : decode cX11_copies 26 = .ok (.goto (-23), 3) := by decide +kernel
theorem dX11_copies_29 : decode cX11_copies 29 = .ok (.return_, 1) := by decide +kernel
theorem dX11_holds_0 : decode cX11_holds 0 = .ok (.aload_n 0, 1) := by decide +kernel
theorem dX11_holds_1 : decode cX11_holds 1 = .ok (.iload_n 1, 1) := by decide +kernel
theorem dX11_holds_2 : decode cX11_holds 2 = .ok (.ifCond .ne 7, 3) := by decide +kernel
theorem dX11_holds_5 : decode cX11_holds 5 = .ok (.iconst 1, 1) := by decide +kernel
theorem dX11_holds_6 : decode cX11_holds 6 = .ok (.goto 29, 3) := by decide +kernel
theorem dX11_holds_9 : decode cX11_holds 9 = .ok (.iload_n 2, 1) := by decide +kernel
theorem dX11_holds_10 : decode cX11_holds 10 = .ok (.ifCond .ne 7, 3) := by decide +kernel
theorem dX11_holds_13 : decode cX11_holds 13 = .ok (.iconst 2, 1) := by decide +kernel
theorem dX11_holds_14 : decode cX11_holds 14 = .ok (.goto 21, 3) := by decide +kernel
theorem dX11_holds_17 : decode cX11_holds 17 = .ok (.iload_n 3, 1) := by decide +kernel
theorem dX11_holds_18 : decode cX11_holds 18 = .ok (.ifCond .ne 7, 3) := by decide +kernel
theorem dX11_holds_21 : decode cX11_holds 21 = .ok (.iconst 3, 1) := by decide +kernel
theorem dX11_holds_22 : decode cX11_holds 22 = .ok (.goto 13, 3) := by decide +kernel
theorem dX11_holds_25 : decode cX11_holds 25 = .ok (.iload 4, 2) := by decide +kernel
theorem dX11_holds_27 : decode cX11_holds 27 = .ok (.ifCond .ne 7, 3) := by decide +kernel
theorem dX11_holds_30 : decode cX11_holds 30 = .ok (.iconst 4, 1) := by decide +kernel
theorem dX11_holds_31 : decode cX11_holds 31 = .ok (.goto 4, 3) := by decide +kernel
theorem dX11_holds_34 : decode cX11_holds 34 = .ok (.iconst 0, 1) := by decide +kernel
theorem dX11_holds_35 : decode cX11_holds 35 = .ok (.putfield 45, 3) := by decide +kernel
theorem dX11_holds_38 : decode cX11_holds 38 = .ok (.aload_n 0, 1) := by decide +kernel
theorem dX11_holds_39 : decode cX11_holds 39 = .ok (.getfield 45, 3) := by decide +kernel
theorem dX11_holds_42 : decode cX11_holds 42 = .ok (.ifCond .ne 7, 3) := by decide +kernel
theorem dX11_holds_45 : decode cX11_holds 45 = .ok (.iconst 1, 1) := by decide +kernel
theorem dX11_holds_46 : decode cX11_holds 46 = .ok (.goto 4, 3) := by decide +kernel
theorem dX11_holds_49 : decode cX11_holds 49 = .ok (.iconst 0, 1) := by decide +kernel
theorem dX11_holds_50 : decode cX11_holds 50 = .ok (.ireturn, 1) := by decide +kernel
set_option maxRecDepth 20000 in
theorem ggX11_goes_X11_holds : GoodIn wsX11_goes wsX11_holds := goodIn_r _ [5, 6, 7, 8, 9, 10, 11, 12, 13, 14, 15, 16, 17, 18, 19, 20, 21, 22, 23, 24, 25] (by decide +kernel) (by decide +kernel)
set_option maxRecDepth 20000 in
theorem gX11_goes_X11_holds : GoodIn wsX11_goes (wsV RX11 48 RX11 yX11_holds wsX11_holds) := goodIn_app (goodIn_of _ (by decide +kernel)) ggX11_goes_X11_holds
theorem dX11_goes_0 : decode cX11_goes 0 = .ok (.aload_n 0, 1) := by decide +kernel
theorem dX11_goes_1 : decode cX11_goes 1 = .ok (.iload_n 1, 1) := by decide +kernel
theorem dX11_goes_2 : decode cX11_goes 2 = .ok (.iconst 1, 1) := by decide +kernel
theorem dX11_goes_3 : decode cX11_goes 3 = .ok (.iconst 1, 1) := by decide +kernel
theorem dX11_goes_4 : decode cX11_goes 4 = .ok (.iconst 1, 1) := by decide +kernel
theorem dX11_goes_5 : decode cX11_goes 5 = .ok (.invokevirtual 48, 3) := by decide +kernel
theorem dX11_goes_8 : decode cX11_goes 8 = .ok (.ireturn, 1) := by decide +kernel
set_option maxRecDepth 20000 in
theorem ggX11_begins_X11_copies : GoodIn wsX11_begins wsX11_copies := goodIn_ca (goodIn_r _ [6] (by decide +kernel) (by decide +kernel)) (goodIn_sub (fun _ h => List.mem_cons_of_mem _ (List.mem_append_right _ h)) (by decide +kernel))
set_option maxRecDepth 20000 in
theorem gX11_begins_X11_copies : GoodIn wsX11_begins (va_wsS RX11 52 yX11_copies wsX11_copies) := goodIn_app (goodIn_of _ (by decide +kernel)) ggX11_begins_X11_copies
theorem dX11_begins_0 : decode cX11_begins 0 = .ok (.aload_n 0, 1) := by decide +kernel
theorem dX11_begins_1 : decode cX11_begins 1 = .ok (.getfield 9, 3) := by decide +kernel
theorem dX11_begins_4 : decode cX11_begins 4 = .ok (.iconst 0, 1) := by decide +kernel
theorem dX11_begins_5 : decode cX11_begins 5 = .ok (.aload_n 0, 1) := by decide +kernel
theorem dX11_begins_6 : decode cX11_begins 6 = .ok (.getfield 13, 3) := by decide +kernel
theorem dX11_begins_9 : decode cX11_begins 9 = .ok (.iconst 0, 1) := by decide +kernel
theorem dX11_begins_10 : decode cX11_begins 10 = .ok (.invokestatic 52, 3) := by decide +kernel
theorem dX11_begins_13 : decode cX11_begins 13 = .ok (.return_, 1) := by decide +kernel
set_option maxRecDepth 20000 in
theorem ggX11_remembers_X11_copies : GoodIn wsX11_remembers wsX11_copies := goodIn_ca (goodIn_r _ [7] (by decide +kernel) (by decide +kernel)) (goodIn_sub (fun _ h => List.mem_cons_of_mem _ (List.mem_append_right _ h)) (by decide +kernel))
set_option maxRecDepth 20000 in
theorem gX11_remembers_X11_copies : GoodIn wsX11_remembers (va_wsS RX11 52 yX11_copies wsX11_copies) := goodIn_app (goodIn_of _ (by decide +kernel)) ggX11_remembers_X11_copies
theorem dX11_remembers_0 : decode cX11_remembers 0 = .ok (.aload_n 0, 1) := by decide +kernel
theorem dX11_remembers_1 : decode cX11_remembers 1 = .ok (.getfield 56, 3) := by decide +kernel
theorem dX11_remembers_4 : decode cX11_remembers 4 = .ok (.bipush 8, 2) := by decide +kernel
theorem dX11_remembers_6 : decode cX11_remembers 6 = .ok (.if_icmp .ne 44, 3) := by decide +kernel
theorem dX11_remembers_9 : decode cX11_remembers 9 = .ok (.iconst 0, 1) := by decide +kernel
theorem dX11_remembers_10 : decode cX11_remembers 10 = .ok (.istore_n 1, 1) := by decide +kernel
theorem dX11_remembers_11 : decode cX11_remembers 11 = .ok (.iload_n 1, 1) := by decide +kernel
theorem dX11_remembers_12 : decode cX11_remembers 12 = .ok (.sipush 1603, 3) := by decide +kernel
theorem dX11_remembers_15 : decode cX11_remembers 15 = .ok (.if_icmp .ge 25, 3) := by decide +kernel
theorem dX11_remembers_18 : decode cX11_remembers 18 = .ok (.aload_n 0, 1) := by decide +kernel
theorem dX11_remembers_19 : decode cX11_remembers 19 = .ok (.getfield 19, 3) := by decide +kernel
theorem dX11_remembers_22 : decode cX11_remembers 22 = .ok (.iload_n 1, 1) := by decide +kernel
theorem dX11_remembers_23 : decode cX11_remembers 23 = .ok (.aload_n 0, 1) := by decide +kernel
theorem dX11_remembers_24 : decode cX11_remembers 24 = .ok (.getfield 19, 3) := by decide +kernel
theorem dX11_remembers_27 : decode cX11_remembers 27 = .ok (.iload_n 1, 1) := by decide +kernel
theorem dX11_remembers_28 : decode cX11_remembers 28 = .ok (.sipush 229, 3) := by decide +kernel
theorem dX11_remembers_31 : decode cX11_remembers 31 = .ok (.iadd, 1) := by decide +kernel
theorem dX11_remembers_32 : decode cX11_remembers 32 = .ok (.iaload, 1) := by decide +kernel
theorem dX11_remembers_33 : decode cX11_remembers 33 = .ok (.iastore, 1) := by decide +kernel
theorem dX11_remembers_34 : decode cX11_remembers 34 = .ok (.iinc 1 1, 3) := by decide +kernel
theorem dX11_remembers_37 : decode cX11_remembers 37 = .ok (.goto (-26), 3) := by decide +kernel
theorem dX11_remembers_40 : decode cX11_remembers 40 = .ok (.aload_n 0, 1) := by decide +kernel
theorem dX11_remembers_41 : decode cX11_remembers 41 = .ok (.dup, 1) := by decide +kernel
theorem dX11_remembers_42 : decode cX11_remembers 42 = .ok (.getfield 56, 3) := by decide +kernel
theorem dX11_remembers_45 : decode cX11_remembers 45 = .ok (.iconst 1, 1) := by decide +kernel
theorem dX11_remembers_46 : decode cX11_remembers 46 = .ok (.isub, 1) := by decide +kernel
theorem dX11_remembers_47 : decode cX11_remembers 47 = .ok (.putfield 56, 3) := by decide +kernel
theorem dX11_remembers_50 : decode cX11_remembers 50 = .ok (.aload_n 0, 1) := by decide +kernel
theorem dX11_remembers_51 : decode cX11_remembers 51 = .ok (.getfield 13, 3) := by decide +kernel
theorem dX11_remembers_54 : decode cX11_remembers 54 = .ok (.iconst 0, 1) := by decide +kernel
theorem dX11_remembers_55 : decode cX11_remembers 55 = .ok (.aload_n 0, 1) := by decide +kernel
theorem dX11_remembers_56 : decode cX11_remembers 56 = .ok (.getfield 19, 3) := by decide +kernel
theorem dX11_remembers_59 : decode cX11_remembers 59 = .ok (.aload_n 0, 1) := by decide +kernel
theorem dX11_remembers_60 : decode cX11_remembers 60 = .ok (.getfield 56, 3) := by decide +kernel
theorem dX11_remembers_63 : decode cX11_remembers 63 = .ok (.sipush 229, 3) := by decide +kernel
theorem dX11_remembers_66 : decode cX11_remembers 66 = .ok (.imul, 1) := by decide +kernel
theorem dX11_remembers_67 : decode cX11_remembers 67 = .ok (.invokestatic 52, 3) := by decide +kernel
theorem dX11_remembers_70 : decode cX11_remembers 70 = .ok (.aload_n 0, 1) := by decide +kernel
theorem dX11_remembers_71 : decode cX11_remembers 71 = .ok (.dup, 1) := by decide +kernel
theorem dX11_remembers_72 : decode cX11_remembers 72 = .ok (.getfield 56, 3) := by decide +kernel
theorem dX11_remembers_75 : decode cX11_remembers 75 = .ok (.iconst 1, 1) := by decide +kernel
theorem dX11_remembers_76 : decode cX11_remembers 76 = .ok (.iadd, 1) := by decide +kernel
theorem dX11_remembers_77 : decode cX11_remembers 77 = .ok (.putfield 56, 3) := by decide +kernel
theorem dX11_remembers_80 : decode cX11_remembers 80 = .ok (.return_, 1) := by decide +kernel
set_option maxRecDepth 20000 in
theorem ggX11_ends_X11_copies : GoodIn wsX11_ends wsX11_copies := goodIn_ca (goodIn_r _ [7] (by decide +kernel) (by decide +kernel)) (goodIn_sub (fun _ h => List.mem_cons_of_mem _ (List.mem_append_right _ h)) (by decide +kernel))
set_option maxRecDepth 20000 in
theorem gX11_ends_X11_copies : GoodIn wsX11_ends (va_wsS RX11 52 yX11_copies wsX11_copies) := goodIn_app (goodIn_of _ (by decide +kernel)) ggX11_ends_X11_copies
set_option maxRecDepth 20000 in
theorem ggX11_ends_X11_remembers : GoodIn wsX11_ends wsX11_remembers := goodIn_ca (goodIn_r _ [11, 12, 13, 2, 4, 5, 6, 7, 14, 15, 16, 17, 18, 19, 20, 21, 22, 23, 24, 25, 26, 27, 28, 29, 30, 31, 32] (by decide +kernel) (by decide +kernel)) (goodIn_sub (fun _ h => List.mem_cons_of_mem _ (List.mem_append_right _ h)) (by decide +kernel))
set_option maxRecDepth 20000 in
theorem gX11_ends_X11_remembers : GoodIn wsX11_ends (wsV RX11 59 RX11 yX11_remembers wsX11_remembers) := goodIn_app (goodIn_of _ (by decide +kernel)) ggX11_ends_X11_remembers
theorem dX11_ends_0 : decode cX11_ends 0 = .ok (.aload_n 0, 1) := by decide +kernel
theorem dX11_ends_1 : decode cX11_ends 1 = .ok (.getfield 45, 3) := by decide +kernel
theorem dX11_ends_4 : decode cX11_ends 4 = .ok (.ifCond .eq 18, 3) := by decide +kernel
theorem dX11_ends_7 : decode cX11_ends 7 = .ok (.aload_n 0, 1) := by decide +kernel
theorem dX11_ends_8 : decode cX11_ends 8 = .ok (.getfield 13, 3) := by decide +kernel
theorem dX11_ends_11 : decode cX11_ends 11 = .ok (.iconst 0, 1) := by decide +kernel
theorem dX11_ends_12 : decode cX11_ends 12 = .ok (.aload_n 0, 1) := by decide +kernel
theorem dX11_ends_13 : decode cX11_ends 13 = .ok (.getfield 9, 3) := by decide +kernel
theorem dX11_ends_16 : decode cX11_ends 16 = .ok (.iconst 0, 1) := by decide +kernel
theorem dX11_ends_17 : decode cX11_ends 17 = .ok (.invokestatic 52, 3) := by decide +kernel
theorem dX11_ends_20 : decode cX11_ends 20 = .ok (.iconst 0, 1) := by decide +kernel
theorem dX11_ends_21 : decode cX11_ends 21 = .ok (.ireturn, 1) := by decide +kernel
theorem dX11_ends_22 : decode cX11_ends 22 = .ok (.aload_n 0, 1) := by decide +kernel
theorem dX11_ends_23 : decode cX11_ends 23 = .ok (.invokevirtual 59, 3) := by decide +kernel
theorem dX11_ends_26 : decode cX11_ends 26 = .ok (.iload_n 1, 1) := by decide +kernel
theorem dX11_ends_27 : decode cX11_ends 27 = .ok (.ireturn, 1) := by decide +kernel
set_option maxRecDepth 20000 in
theorem ggX11_undo_X11_goes : GoodIn wsX11_undo wsX11_goes := goodIn_r _ [8, 9, 10, 11, 7, 12, 13, 17, 18, 19, 20, 21, 22, 23, 24, 25, 26, 27, 28, 29, 30, 31, 32, 33, 34, 35] (by decide +kernel) (by decide +kernel)
set_option maxRecDepth 20000 in
theorem gX11_undo_X11_goes : GoodIn wsX11_undo (wsV RX11 62 RX11 yX11_goes wsX11_goes) := goodIn_app (goodIn_of _ (by decide +kernel)) ggX11_undo_X11_goes
set_option maxRecDepth 20000 in
theorem ggX11_undo_X11_copies : GoodIn wsX11_undo wsX11_copies := goodIn_ca (goodIn_r _ [16] (by decide +kernel) (by decide +kernel)) (goodIn_sub (fun _ h => List.mem_cons_of_mem _ (List.mem_append_right _ h)) (by decide +kernel))
set_option maxRecDepth 20000 in
theorem gX11_undo_X11_copies : GoodIn wsX11_undo (va_wsS RX11 52 yX11_copies wsX11_copies) := goodIn_app (goodIn_of _ (by decide +kernel)) ggX11_undo_X11_copies
theorem dX11_undo_0 : decode cX11_undo 0 = .ok (.aload_n 0, 1) := by decide +kernel
theorem dX11_undo_1 : decode cX11_undo 1 = .ok (.aload_n 0, 1) := by decide +kernel
theorem dX11_undo_2 : decode cX11_undo 2 = .ok (.getfield 56, 3) := by decide +kernel
theorem dX11_undo_5 : decode cX11_undo 5 = .ok (.ifCond .le 7, 3) := by decide +kernel
theorem dX11_undo_8 : decode cX11_undo 8 = .ok (.iconst 1, 1) := by decide +kernel
theorem dX11_undo_9 : decode cX11_undo 9 = .ok (.goto 4, 3) := by decide +kernel
theorem dX11_undo_12 : decode cX11_undo 12 = .ok (.iconst 0, 1) := by decide +kernel
theorem dX11_undo_13 : decode cX11_undo 13 = .ok (.invokevirtual 62, 3) := by decide +kernel
theorem dX11_undo_16 : decode cX11_undo 16 = .ok (.ifCond .ne 5, 3) := by decide +kernel
theorem dX11_undo_19 : decode cX11_undo 19 = .ok (.iconst 0, 1) := by decide +kernel
theorem dX11_undo_20 : decode cX11_undo 20 = .ok (.ireturn, 1) := by decide +kernel
theorem dX11_undo_21 : decode cX11_undo 21 = .ok (.aload_n 0, 1) := by decide +kernel
theorem dX11_undo_22 : decode cX11_undo 22 = .ok (.dup, 1) := by decide +kernel
theorem dX11_undo_23 : decode cX11_undo 23 = .ok (.getfield 56, 3) := by decide +kernel
theorem dX11_undo_26 : decode cX11_undo 26 = .ok (.iconst 1, 1) := by decide +kernel
theorem dX11_undo_27 : decode cX11_undo 27 = .ok (.isub, 1) := by decide +kernel
theorem dX11_undo_28 : decode cX11_undo 28 = .ok (.putfield 56, 3) := by decide +kernel
theorem dX11_undo_31 : decode cX11_undo 31 = .ok (.aload_n 0, 1) := by decide +kernel
theorem dX11_undo_32 : decode cX11_undo 32 = .ok (.getfield 19, 3) := by decide +kernel
theorem dX11_undo_35 : decode cX11_undo 35 = .ok (.aload_n 0, 1) := by decide +kernel
theorem dX11_undo_36 : decode cX11_undo 36 = .ok (.getfield 56, 3) := by decide +kernel
theorem dX11_undo_39 : decode cX11_undo 39 = .ok (.sipush 229, 3) := by decide +kernel
theorem dX11_undo_42 : decode cX11_undo 42 = .ok (.imul, 1) := by decide +kernel
theorem dX11_undo_43 : decode cX11_undo 43 = .ok (.aload_n 0, 1) := by decide +kernel
theorem dX11_undo_44 : decode cX11_undo 44 = .ok (.getfield 9, 3) := by decide +kernel
theorem dX11_undo_47 : decode cX11_undo 47 = .ok (.iconst 0, 1) := by decide +kernel
theorem dX11_undo_48 : decode cX11_undo 48 = .ok (.invokestatic 52, 3) := by decide +kernel
theorem dX11_undo_51 : decode cX11_undo 51 = .ok (.aload_n 0, 1) := by decide +kernel
theorem dX11_undo_52 : decode cX11_undo 52 = .ok (.getfield 56, 3) := by decide +kernel
theorem dX11_undo_55 : decode cX11_undo 55 = .ok (.ireturn, 1) := by decide +kernel
set_option maxRecDepth 20000 in
theorem ggX11_save_X11_copies : GoodIn wsX11_save wsX11_copies := goodIn_ca (goodIn_r _ [8] (by decide +kernel) (by decide +kernel)) (goodIn_sub (fun _ h => List.mem_cons_of_mem _ (List.mem_append_right _ h)) (by decide +kernel))
set_option maxRecDepth 20000 in
theorem gX11_save_X11_copies : GoodIn wsX11_save (va_wsS RX11 52 yX11_copies wsX11_copies) := goodIn_app (goodIn_of _ (by decide +kernel)) ggX11_save_X11_copies
theorem dX11_save_0 : decode cX11_save 0 = .ok (.aload_n 0, 1) := by decide +kernel
theorem dX11_save_1 : decode cX11_save 1 = .ok (.iconst 0, 1) := by decide +kernel
theorem dX11_save_2 : decode cX11_save 2 = .ok (.putfield 45, 3) := by decide +kernel
theorem dX11_save_5 : decode cX11_save 5 = .ok (.aload_n 0, 1) := by decide +kernel
theorem dX11_save_6 : decode cX11_save 6 = .ok (.getfield 9, 3) := by decide +kernel
theorem dX11_save_9 : decode cX11_save 9 = .ok (.iconst 0, 1) := by decide +kernel
theorem dX11_save_10 : decode cX11_save 10 = .ok (.aload_n 0, 1) := by decide +kernel
theorem dX11_save_11 : decode cX11_save 11 = .ok (.getfield 16, 3) := by decide +kernel
theorem dX11_save_14 : decode cX11_save 14 = .ok (.iconst 0, 1) := by decide +kernel
theorem dX11_save_15 : decode cX11_save 15 = .ok (.invokestatic 52, 3) := by decide +kernel
theorem dX11_save_18 : decode cX11_save 18 = .ok (.aload_n 0, 1) := by decide +kernel
theorem dX11_save_19 : decode cX11_save 19 = .ok (.iconst 1, 1) := by decide +kernel
theorem dX11_save_20 : decode cX11_save 20 = .ok (.putfield 66, 3) := by decide +kernel
theorem dX11_save_23 : decode cX11_save 23 = .ok (.return_, 1) := by decide +kernel
set_option maxRecDepth 20000 in
theorem ggX11_restore_X11_goes : GoodIn wsX11_restore wsX11_goes := goodIn_r _ [9, 10, 11, 12, 8, 13, 14, 18, 19, 20, 21, 22, 23, 24, 25, 26, 27, 28, 29, 30, 31, 32, 33, 34, 35, 36] (by decide +kernel) (by decide +kernel)
set_option maxRecDepth 20000 in
theorem gX11_restore_X11_goes : GoodIn wsX11_restore (wsV RX11 62 RX11 yX11_goes wsX11_goes) := goodIn_app (goodIn_of _ (by decide +kernel)) ggX11_restore_X11_goes
set_option maxRecDepth 20000 in
theorem ggX11_restore_X11_copies : GoodIn wsX11_restore wsX11_copies := goodIn_ca (goodIn_r _ [17] (by decide +kernel) (by decide +kernel)) (goodIn_sub (fun _ h => List.mem_cons_of_mem _ (List.mem_append_right _ h)) (by decide +kernel))
set_option maxRecDepth 20000 in
theorem gX11_restore_X11_copies : GoodIn wsX11_restore (va_wsS RX11 52 yX11_copies wsX11_copies) := goodIn_app (goodIn_of _ (by decide +kernel)) ggX11_restore_X11_copies
theorem dX11_restore_0 : decode cX11_restore 0 = .ok (.aload_n 0, 1) := by decide +kernel
theorem dX11_restore_1 : decode cX11_restore 1 = .ok (.aload_n 0, 1) := by decide +kernel
theorem dX11_restore_2 : decode cX11_restore 2 = .ok (.getfield 66, 3) := by decide +kernel
theorem dX11_restore_5 : decode cX11_restore 5 = .ok (.invokevirtual 62, 3) := by decide +kernel
theorem dX11_restore_8 : decode cX11_restore 8 = .ok (.ifCond .eq 21, 3) := by decide +kernel
theorem dX11_restore_11 : decode cX11_restore 11 = .ok (.aload_n 0, 1) := by decide +kernel
theorem dX11_restore_12 : decode cX11_restore 12 = .ok (.getfield 16, 3) := by decide +kernel
theorem dX11_restore_15 : decode cX11_restore 15 = .ok (.iconst 0, 1) := by decide +kernel
theorem dX11_restore_16 : decode cX11_restore 16 = .ok (.aload_n 0, 1) := by decide +kernel
theorem dX11_restore_17 : decode cX11_restore 17 = .ok (.getfield 9, 3) := by decide +kernel
theorem dX11_restore_20 : decode cX11_restore 20 = .ok (.iconst 0, 1) := by decide +kernel
theorem dX11_restore_21 : decode cX11_restore 21 = .ok (.invokestatic 52, 3) := by decide +kernel
theorem dX11_restore_24 : decode cX11_restore 24 = .ok (.aload_n 0, 1) := by decide +kernel
theorem dX11_restore_25 : decode cX11_restore 25 = .ok (.iconst 0, 1) := by decide +kernel
theorem dX11_restore_26 : decode cX11_restore 26 = .ok (.putfield 56, 3) := by decide +kernel
theorem dX11_restore_29 : decode cX11_restore 29 = .ok (.return_, 1) := by decide +kernel
set_option maxRecDepth 20000 in
theorem ggX11_isCell_X11_isIn : GoodIn wsX11_isCell wsX11_isIn := goodIn_r _ [4] (by decide +kernel) (by decide +kernel)
set_option maxRecDepth 20000 in
theorem gX11_isCell_X11_isIn : GoodIn wsX11_isCell (va_wsS RX11 70 yX11_isIn wsX11_isIn) := goodIn_app (goodIn_of _ (by decide +kernel)) ggX11_isCell_X11_isIn
theorem dX11_isCell_0 : decode cX11_isCell 0 = .ok (.iload_n 0, 1) := by decide +kernel
theorem dX11_isCell_1 : decode cX11_isCell 1 = .ok (.iconst 0, 1) := by decide +kernel
theorem dX11_isCell_2 : decode cX11_isCell 2 = .ok (.iconst 4, 1) := by decide +kernel
theorem dX11_isCell_3 : decode cX11_isCell 3 = .ok (.invokestatic 70, 3) := by decide +kernel
theorem dX11_isCell_6 : decode cX11_isCell 6 = .ok (.ifCond .eq 16, 3) := by decide +kernel
theorem dX11_isCell_9 : decode cX11_isCell 9 = .ok (.iload_n 1, 1) := by decide +kernel
theorem dX11_isCell_10 : decode cX11_isCell 10 = .ok (.iconst 0, 1) := by decide +kernel
theorem dX11_isCell_11 : decode cX11_isCell 11 = .ok (.iconst 5, 1) := by decide +kernel
theorem dX11_isCell_12 : decode cX11_isCell 12 = .ok (.invokestatic 70, 3) := by decide +kernel
theorem dX11_isCell_15 : decode cX11_isCell 15 = .ok (.ifCond .eq 7, 3) := by decide +kernel
theorem dX11_isCell_18 : decode cX11_isCell 18 = .ok (.iconst 1, 1) := by decide +kernel
theorem dX11_isCell_19 : decode cX11_isCell 19 = .ok (.goto 4, 3) := by decide +kernel
theorem dX11_isCell_22 : decode cX11_isCell 22 = .ok (.iconst 0, 1) := by decide +kernel
theorem dX11_isCell_23 : decode cX11_isCell 23 = .ok (.ireturn, 1) := by decide +kernel
set_option maxRecDepth 20000 in
theorem ggX11_cellAt_X11_isCell : GoodIn wsX11_cellAt wsX11_isCell := goodIn_r _ [4, 5, 6, 3, 7] (by decide +kernel) (by decide +kernel)
set_option maxRecDepth 20000 in
theorem gX11_cellAt_X11_isCell : GoodIn wsX11_cellAt (va_wsS RX11 74 yX11_isCell wsX11_isCell) := goodIn_app (goodIn_of _ (by decide +kernel)) ggX11_cellAt_X11_isCell
theorem dX11_cellAt_0 : decode cX11_cellAt 0 = .ok (.iload_n 0, 1) := by decide +kernel
theorem dX11_cellAt_1 : decode cX11_cellAt 1 = .ok (.iload_n 1, 1) := by decide +kernel
theorem dX11_cellAt_2 : decode cX11_cellAt 2 = .ok (.invokestatic 74, 3) := by decide +kernel
theorem dX11_cellAt_5 : decode cX11_cellAt 5 = .ok (.ifCond .eq 12, 3) := by decide +kernel
theorem dX11_cellAt_8 : decode cX11_cellAt 8 = .ok (.bipush 6, 2) := by decide +kernel
theorem dX11_cellAt_10 : decode cX11_cellAt 10 = .ok (.iload_n 0, 1) := by decide +kernel
theorem dX11_cellAt_11 : decode cX11_cellAt 11 = .ok (.imul, 1) := by decide +kernel
theorem dX11_cellAt_12 : decode cX11_cellAt 12 = .ok (.iload_n 1, 1) := by decide +kernel
theorem dX11_cellAt_13 : decode cX11_cellAt 13 = .ok (.iadd, 1) := by decide +kernel
theorem dX11_cellAt_14 : decode cX11_cellAt 14 = .ok (.goto 4, 3) := by decide +kernel
theorem dX11_cellAt_17 : decode cX11_cellAt 17 = .ok (.iconst 0, 1) := by decide +kernel
theorem dX11_cellAt_18 : decode cX11_cellAt 18 = .ok (.ireturn, 1) := by decide +kernel
theorem dX11_placeOf_0 : decode cX11_placeOf 0 = .ok (.bipush 19, 2) := by decide +kernel
theorem dX11_placeOf_2 : decode cX11_placeOf 2 = .ok (.bipush 7, 2) := by decide +kernel
theorem dX11_placeOf_4 : decode cX11_placeOf 4 = .ok (.iload_n 0, 1) := by decide +kernel
theorem dX11_placeOf_5 : decode cX11_placeOf 5 = .ok (.imul, 1) := by decide +kernel
theorem dX11_placeOf_6 : decode cX11_placeOf 6 = .ok (.iadd, 1) := by decide +kernel
theorem dX11_placeOf_7 : decode cX11_placeOf 7 = .ok (.ireturn, 1) := by decide +kernel
set_option maxRecDepth 20000 in
theorem ggX11_of_X11_placeOf : GoodIn wsX11_of wsX11_placeOf := goodIn_r _ [5] (by decide +kernel) (by decide +kernel)
set_option maxRecDepth 20000 in
theorem gX11_of_X11_placeOf : GoodIn wsX11_of (va_wsS RX11 41 yX11_placeOf wsX11_placeOf) := goodIn_app (goodIn_of _ (by decide +kernel)) ggX11_of_X11_placeOf
theorem dX11_of_0 : decode cX11_of 0 = .ok (.aload_n 0, 1) := by decide +kernel
theorem dX11_of_1 : decode cX11_of 1 = .ok (.getfield 9, 3) := by decide +kernel
theorem dX11_of_4 : decode cX11_of 4 = .ok (.iload_n 1, 1) := by decide +kernel
theorem dX11_of_5 : decode cX11_of 5 = .ok (.invokestatic 41, 3) := by decide +kernel
theorem dX11_of_8 : decode cX11_of 8 = .ok (.iload_n 2, 1) := by decide +kernel
theorem dX11_of_9 : decode cX11_of 9 = .ok (.iadd, 1) := by decide +kernel
theorem dX11_of_10 : decode cX11_of 10 = .ok (.iaload, 1) := by decide +kernel
theorem dX11_of_11 : decode cX11_of 11 = .ok (.ireturn, 1) := by decide +kernel
set_option maxRecDepth 20000 in
theorem ggX11_beside_X11_isCell : GoodIn wsX11_beside wsX11_isCell := goodIn_r _ [4, 5, 6, 3, 7] (by decide +kernel) (by decide +kernel)
set_option maxRecDepth 20000 in
theorem gX11_beside_X11_isCell : GoodIn wsX11_beside (va_wsS RX11 74 yX11_isCell wsX11_isCell) := goodIn_app (goodIn_of _ (by decide +kernel)) ggX11_beside_X11_isCell
theorem dX11_beside_0 : decode cX11_beside 0 = .ok (.iload_n 0, 1) := by decide +kernel
theorem dX11_beside_1 : decode cX11_beside 1 = .ok (.bipush 6, 2) := by decide +kernel
theorem dX11_beside_3 : decode cX11_beside 3 = .ok (.idiv, 1) := by decide +kernel
theorem dX11_beside_4 : decode cX11_beside 4 = .ok (.iload_n 1, 1) := by decide +kernel
theorem dX11_beside_5 : decode cX11_beside 5 = .ok (.ifCond .ne 7, 3) := by decide +kernel
theorem dX11_beside_8 : decode cX11_beside 8 = .ok (.iconst (-1), 1) := by decide +kernel
theorem dX11_beside_9 : decode cX11_beside 9 = .ok (.goto 13, 3) := by decide +kernel
theorem dX11_beside_12 : decode cX11_beside 12 = .ok (.iload_n 1, 1) := by decide +kernel
theorem dX11_beside_13 : decode cX11_beside 13 = .ok (.iconst 2, 1) := by decide +kernel
theorem dX11_beside_14 : decode cX11_beside 14 = .ok (.if_icmp .ne 7, 3) := by decide +kernel
theorem dX11_beside_17 : decode cX11_beside 17 = .ok (.iconst 1, 1) := by decide +kernel
theorem dX11_beside_18 : decode cX11_beside 18 = .ok (.goto 4, 3) := by decide +kernel
theorem dX11_beside_21 : decode cX11_beside 21 = .ok (.iconst 0, 1) := by decide +kernel
theorem dX11_beside_22 : decode cX11_beside 22 = .ok (.iadd, 1) := by decide +kernel
theorem dX11_beside_23 : decode cX11_beside 23 = .ok (.istore_n 2, 1) := by decide +kernel
theorem dX11_beside_24 : decode cX11_beside 24 = .ok (.iload_n 0, 1) := by decide +kernel
theorem dX11_beside_25 : decode cX11_beside 25 = .ok (.bipush 6, 2) := by decide +kernel
theorem dX11_beside_27 : decode cX11_beside 27 = .ok (.irem, 1) := by decide +kernel
theorem dX11_beside_28 : decode cX11_beside 28 = .ok (.iload_n 1, 1) := by decide +kernel
theorem dX11_beside_29 : decode cX11_beside 29 = .ok (.iconst 1, 1) := by decide +kernel
theorem dX11_beside_30 : decode cX11_beside 30 = .ok (.if_icmp .ne 7, 3) := by decide +kernel
theorem dX11_beside_33 : decode cX11_beside 33 = .ok (.iconst 1, 1) := by decide +kernel
theorem dX11_beside_34 : decode cX11_beside 34 = .ok (.goto 13, 3) := by decide +kernel
theorem dX11_beside_37 : decode cX11_beside 37 = .ok (.iload_n 1, 1) := by decide +kernel
theorem dX11_beside_38 : decode cX11_beside 38 = .ok (.iconst 3, 1) := by decide +kernel
theorem dX11_beside_39 : decode cX11_beside 39 = .ok (.if_icmp .ne 7, 3) := by decide +kernel
theorem dX11_beside_42 : decode cX11_beside 42 = .ok (.iconst (-1), 1) := by decide +kernel
theorem dX11_beside_43 : decode cX11_beside 43 = .ok (.goto 4, 3) := by decide +kernel
theorem dX11_beside_46 : decode cX11_beside 46 = .ok (.iconst 0, 1) := by decide +kernel
theorem dX11_beside_47 : decode cX11_beside 47 = .ok (.iadd, 1) := by decide +kernel
theorem dX11_beside_48 : decode cX11_beside 48 = .ok (.istore_n 3, 1) := by decide +kernel
theorem dX11_beside_49 : decode cX11_beside 49 = .ok (.iload_n 2, 1) := by decide +kernel
theorem dX11_beside_50 : decode cX11_beside 50 = .ok (.iload_n 3, 1) := by decide +kernel
theorem dX11_beside_51 : decode cX11_beside 51 = .ok (.invokestatic 74, 3) := by decide +kernel
theorem dX11_beside_54 : decode cX11_beside 54 = .ok (.ifCond .eq 12, 3) := by decide +kernel
theorem dX11_beside_57 : decode cX11_beside 57 = .ok (.bipush 6, 2) := by decide +kernel
theorem dX11_beside_59 : decode cX11_beside 59 = .ok (.iload_n 2, 1) := by decide +kernel
theorem dX11_beside_60 : decode cX11_beside 60 = .ok (.imul, 1) := by decide +kernel
theorem dX11_beside_61 : decode cX11_beside 61 = .ok (.iload_n 3, 1) := by decide +kernel
theorem dX11_beside_62 : decode cX11_beside 62 = .ok (.iadd, 1) := by decide +kernel
theorem dX11_beside_63 : decode cX11_beside 63 = .ok (.goto 4, 3) := by decide +kernel
theorem dX11_beside_66 : decode cX11_beside 66 = .ok (.iconst (-1), 1) := by decide +kernel
theorem dX11_beside_67 : decode cX11_beside 67 = .ok (.ireturn, 1) := by decide +kernel
theorem dX11_farFrom_0 : decode cX11_farFrom 0 = .ok (.iload_n 0, 1) := by decide +kernel
theorem dX11_farFrom_1 : decode cX11_farFrom 1 = .ok (.bipush 6, 2) := by decide +kernel
theorem dX11_farFrom_3 : decode cX11_farFrom 3 = .ok (.idiv, 1) := by decide +kernel
theorem dX11_farFrom_4 : decode cX11_farFrom 4 = .ok (.iload_n 1, 1) := by decide +kernel
theorem dX11_farFrom_5 : decode cX11_farFrom 5 = .ok (.bipush 6, 2) := by decide +kernel
theorem dX11_farFrom_7 : decode cX11_farFrom 7 = .ok (.idiv, 1) := by decide +kernel
theorem dX11_farFrom_8 : decode cX11_farFrom 8 = .ok (.isub, 1) := by decide +kernel
theorem dX11_farFrom_9 : decode cX11_farFrom 9 = .ok (.invokestatic 78, 3) := by decide +kernel
theorem dX11_farFrom_12 : decode cX11_farFrom 12 = .ok (.iload_n 0, 1) := by decide +kernel
theorem dX11_farFrom_13 : decode cX11_farFrom 13 = .ok (.bipush 6, 2) := by decide +kernel
theorem dX11_farFrom_15 : decode cX11_farFrom 15 = .ok (.irem, 1) := by decide +kernel
theorem dX11_farFrom_16 : decode cX11_farFrom 16 = .ok (.iload_n 1, 1) := by decide +kernel
theorem dX11_farFrom_17 : decode cX11_farFrom 17 = .ok (.bipush 6, 2) := by decide +kernel
theorem dX11_farFrom_19 : decode cX11_farFrom 19 = .ok (.irem, 1) := by decide +kernel
theorem dX11_farFrom_20 : decode cX11_farFrom 20 = .ok (.isub, 1) := by decide +kernel
theorem dX11_farFrom_21 : decode cX11_farFrom 21 = .ok (.invokestatic 78, 3) := by decide +kernel
theorem dX11_farFrom_24 : decode cX11_farFrom 24 = .ok (.iadd, 1) := by decide +kernel
theorem dX11_farFrom_25 : decode cX11_farFrom 25 = .ok (.ireturn, 1) := by decide +kernel
set_option maxRecDepth 20000 in
theorem ggX11_steepest_X11_beside : GoodIn wsX11_steepest wsX11_beside := goodIn_r _ [11, 12, 13, 10, 14, 15, 16, 17] (by decide +kernel) (by decide +kernel)
set_option maxRecDepth 20000 in
theorem gX11_steepest_X11_beside : GoodIn wsX11_steepest (va_wsS RX11 83 yX11_beside wsX11_beside) := goodIn_app (goodIn_of _ (by decide +kernel)) ggX11_steepest_X11_beside
set_option maxRecDepth 20000 in
theorem ggX11_steepest_X11_of : GoodIn wsX11_steepest wsX11_of := goodIn_ca (goodIn_r _ [21, 22, 23, 24, 10, 25, 26, 27, 28, 29, 30, 31, 32, 33, 34, 35, 36, 37, 38, 39, 40, 41, 42, 43, 44] (by decide +kernel) (by decide +kernel)) (goodIn_sub (fun _ h => List.mem_cons_of_mem _ (List.mem_append_right _ h)) (by decide +kernel))
set_option maxRecDepth 20000 in
theorem gX11_steepest_X11_of : GoodIn wsX11_steepest (wsV RX11 87 RX11 yX11_of wsX11_of) := goodIn_app (goodIn_of _ (by decide +kernel)) ggX11_steepest_X11_of
theorem dX11_steepest_0 : decode cX11_steepest 0 = .ok (.iconst 0, 1) := by decide +kernel
theorem dX11_steepest_1 : decode cX11_steepest 1 = .ok (.istore_n 3, 1) := by decide +kernel
theorem dX11_steepest_2 : decode cX11_steepest 2 = .ok (.iconst 0, 1) := by decide +kernel
theorem dX11_steepest_3 : decode cX11_steepest 3 = .ok (.istore 4, 2) := by decide +kernel
theorem dX11_steepest_5 : decode cX11_steepest 5 = .ok (.iload 4, 2) := by decide +kernel
theorem dX11_steepest_7 : decode cX11_steepest 7 = .ok (.iconst 4, 1) := by decide +kernel
theorem dX11_steepest_8 : decode cX11_steepest 8 = .ok (.if_icmp .ge 44, 3) := by decide +kernel
theorem dX11_steepest_11 : decode cX11_steepest 11 = .ok (.iload_n 1, 1) := by decide +kernel
theorem dX11_steepest_12 : decode cX11_steepest 12 = .ok (.iload 4, 2) := by decide +kernel
theorem dX11_steepest_14 : decode cX11_steepest 14 = .ok (.invokestatic 83, 3) := by decide +kernel
theorem dX11_steepest_17 : decode cX11_steepest 17 = .ok (.istore 5, 2) := by decide +kernel
theorem dX11_steepest_19 : decode cX11_steepest 19 = .ok (.iload 5, 2) := by decide +kernel
theorem dX11_steepest_21 : decode cX11_steepest 21 = .ok (.iconst (-1), 1) := by decide +kernel
theorem dX11_steepest_22 : decode cX11_steepest 22 = .ok (.if_icmp .ne 7, 3) := by decide +kernel
theorem dX11_steepest_25 : decode cX11_steepest 25 = .ok (.iload_n 3, 1) := by decide +kernel
theorem dX11_steepest_26 : decode cX11_steepest 26 = .ok (.goto 19, 3) := by decide +kernel
theorem dX11_steepest_29 : decode cX11_steepest 29 = .ok (.iload_n 3, 1) := by decide +kernel
theorem dX11_steepest_30 : decode cX11_steepest 30 = .ok (.iload_n 2, 1) := by decide +kernel
theorem dX11_steepest_31 : decode cX11_steepest 31 = .ok (.aload_n 0, 1) := by decide +kernel
theorem dX11_steepest_32 : decode cX11_steepest 32 = .ok (.iload 5, 2) := by decide +kernel
theorem dX11_steepest_34 : decode cX11_steepest 34 = .ok (.iconst 0, 1) := by decide +kernel
theorem dX11_steepest_35 : decode cX11_steepest 35 = .ok (.invokevirtual 87, 3) := by decide +kernel
theorem dX11_steepest_38 : decode cX11_steepest 38 = .ok (.isub, 1) := by decide +kernel
theorem dX11_steepest_39 : decode cX11_steepest 39 = .ok (.invokestatic 78, 3) := by decide +kernel
theorem dX11_steepest_42 : decode cX11_steepest 42 = .ok (.invokestatic 90, 3) := by decide +kernel
theorem dX11_steepest_45 : decode cX11_steepest 45 = .ok (.istore_n 3, 1) := by decide +kernel
theorem dX11_steepest_46 : decode cX11_steepest 46 = .ok (.iinc 4 1, 3) := by decide +kernel
theorem dX11_steepest_49 : decode cX11_steepest 49 = .ok (.goto (-44), 3) := by decide +kernel
theorem dX11_steepest_52 : decode cX11_steepest 52 = .ok (.iload_n 3, 1) := by decide +kernel
theorem dX11_steepest_53 : decode cX11_steepest 53 = .ok (.ireturn, 1) := by decide +kernel
set_option maxRecDepth 20000 in
theorem ggX11_isStone_X11_isIn : GoodIn wsX11_isStone wsX11_isIn := goodIn_r _ [4] (by decide +kernel) (by decide +kernel)
set_option maxRecDepth 20000 in
theorem gX11_isStone_X11_isIn : GoodIn wsX11_isStone (va_wsS RX11 70 yX11_isIn wsX11_isIn) := goodIn_app (goodIn_of _ (by decide +kernel)) ggX11_isStone_X11_isIn
theorem dX11_isStone_0 : decode cX11_isStone 0 = .ok (.iload_n 0, 1) := by decide +kernel
theorem dX11_isStone_1 : decode cX11_isStone 1 = .ok (.iconst 0, 1) := by decide +kernel
theorem dX11_isStone_2 : decode cX11_isStone 2 = .ok (.iconst 3, 1) := by decide +kernel
theorem dX11_isStone_3 : decode cX11_isStone 3 = .ok (.invokestatic 70, 3) := by decide +kernel
theorem dX11_isStone_6 : decode cX11_isStone 6 = .ok (.ireturn, 1) := by decide +kernel
theorem dX11_weightOf_0 : decode cX11_weightOf 0 = .ok (.iconst 2, 1) := by decide +kernel
theorem dX11_weightOf_1 : decode cX11_weightOf 1 = .ok (.iload_n 0, 1) := by decide +kernel
theorem dX11_weightOf_2 : decode cX11_weightOf 2 = .ok (.iadd, 1) := by decide +kernel
theorem dX11_weightOf_3 : decode cX11_weightOf 3 = .ok (.ireturn, 1) := by decide +kernel
set_option maxRecDepth 20000 in
theorem ggX11_sets_X11_cellAt : GoodIn wsX11_sets wsX11_cellAt := goodIn_r _ [5, 6, 7, 4, 8, 9, 10, 11] (by decide +kernel) (by decide +kernel)
set_option maxRecDepth 20000 in
theorem gX11_sets_X11_cellAt : GoodIn wsX11_sets (va_wsS RX11 93 yX11_cellAt wsX11_cellAt) := goodIn_app (goodIn_of _ (by decide +kernel)) ggX11_sets_X11_cellAt
set_option maxRecDepth 20000 in
theorem ggX11_sets_X11_of : GoodIn wsX11_sets wsX11_of := goodIn_ca (goodIn_r _ [15, 1, 16, 17, 4, 18, 27, 28, 29, 30, 31, 32, 33, 34, 35, 36, 37, 38, 39, 40, 41, 42, 43, 44, 45] (by decide +kernel) (by decide +kernel)) (goodIn_sub (fun _ h => List.mem_cons_of_mem _ (List.mem_append_right _ h)) (by decide +kernel))
set_option maxRecDepth 20000 in
theorem gX11_sets_X11_of : GoodIn wsX11_sets (wsV RX11 87 RX11 yX11_of wsX11_of) := goodIn_app (goodIn_of _ (by decide +kernel)) ggX11_sets_X11_of
set_option maxRecDepth 20000 in
theorem ggX11_sets_X11_isCell : GoodIn wsX11_sets wsX11_isCell := goodIn_r _ [8, 9, 10, 4, 11] (by decide +kernel) (by decide +kernel)
set_option maxRecDepth 20000 in
theorem gX11_sets_X11_isCell : GoodIn wsX11_sets (va_wsS RX11 74 yX11_isCell wsX11_isCell) := goodIn_app (goodIn_of _ (by decide +kernel)) ggX11_sets_X11_isCell
set_option maxRecDepth 20000 in
theorem ggX11_sets_X11_isStone : GoodIn wsX11_sets wsX11_isStone := goodIn_r _ [21, 9, 10, 4, 11] (by decide +kernel) (by decide +kernel)
set_option maxRecDepth 20000 in
theorem gX11_sets_X11_isStone : GoodIn wsX11_sets (va_wsS RX11 96 yX11_isStone wsX11_isStone) := goodIn_app (goodIn_of _ (by decide +kernel)) ggX11_sets_X11_isStone
set_option maxRecDepth 20000 in
theorem ggX11_sets_X11_holds : GoodIn wsX11_sets wsX11_holds := goodIn_r _ [25, 26, 27, 28, 29, 30, 31, 32, 33, 34, 35, 36, 37, 38, 39, 40, 41, 42, 43, 44, 45] (by decide +kernel) (by decide +kernel)
set_option maxRecDepth 20000 in
theorem gX11_sets_X11_holds : GoodIn wsX11_sets (wsV RX11 48 RX11 yX11_holds wsX11_holds) := goodIn_app (goodIn_of _ (by decide +kernel)) ggX11_sets_X11_holds
set_option maxRecDepth 20000 in
theorem ggX11_sets_X11_placeOf : GoodIn wsX11_sets wsX11_placeOf := goodIn_r _ [18] (by decide +kernel) (by decide +kernel)
set_option maxRecDepth 20000 in
theorem gX11_sets_X11_placeOf : GoodIn wsX11_sets (va_wsS RX11 41 yX11_placeOf wsX11_placeOf) := goodIn_app (goodIn_of _ (by decide +kernel)) ggX11_sets_X11_placeOf
theorem dX11_sets_0 : decode cX11_sets 0 = .ok (.iload_n 1, 1) := by decide +kernel
theorem dX11_sets_1 : decode cX11_sets 1 = .ok (.iload_n 2, 1) := by decide +kernel
theorem dX11_sets_2 : decode cX11_sets 2 = .ok (.invokestatic 93, 3) := by decide +kernel
theorem dX11_sets_5 : decode cX11_sets 5 = .ok (.istore 4, 2) := by decide +kernel
theorem dX11_sets_7 : decode cX11_sets 7 = .ok (.aload_n 0, 1) := by decide +kernel
theorem dX11_sets_8 : decode cX11_sets 8 = .ok (.iload 4, 2) := by decide +kernel
theorem dX11_sets_10 : decode cX11_sets 10 = .ok (.iconst 1, 1) := by decide +kernel
theorem dX11_sets_11 : decode cX11_sets 11 = .ok (.invokevirtual 87, 3) := by decide +kernel
theorem dX11_sets_14 : decode cX11_sets 14 = .ok (.istore 5, 2) := by decide +kernel
theorem dX11_sets_16 : decode cX11_sets 16 = .ok (.aload_n 0, 1) := by decide +kernel
theorem dX11_sets_17 : decode cX11_sets 17 = .ok (.iload_n 1, 1) := by decide +kernel
theorem dX11_sets_18 : decode cX11_sets 18 = .ok (.iload_n 2, 1) := by decide +kernel
theorem dX11_sets_19 : decode cX11_sets 19 = .ok (.invokestatic 74, 3) := by decide +kernel
theorem dX11_sets_22 : decode cX11_sets 22 = .ok (.iload_n 3, 1) := by decide +kernel
theorem dX11_sets_23 : decode cX11_sets 23 = .ok (.invokestatic 96, 3) := by decide +kernel
theorem dX11_sets_26 : decode cX11_sets 26 = .ok (.iconst 1, 1) := by decide +kernel
theorem dX11_sets_27 : decode cX11_sets 27 = .ok (.iconst 1, 1) := by decide +kernel
theorem dX11_sets_28 : decode cX11_sets 28 = .ok (.invokevirtual 48, 3) := by decide +kernel
theorem dX11_sets_31 : decode cX11_sets 31 = .ok (.ifCond .eq 16, 3) := by decide +kernel
theorem dX11_sets_34 : decode cX11_sets 34 = .ok (.aload_n 0, 1) := by decide +kernel
theorem dX11_sets_35 : decode cX11_sets 35 = .ok (.getfield 9, 3) := by decide +kernel
theorem dX11_sets_38 : decode cX11_sets 38 = .ok (.iload 4, 2) := by decide +kernel
theorem dX11_sets_40 : decode cX11_sets 40 = .ok (.invokestatic 41, 3) := by decide +kernel
theorem dX11_sets_43 : decode cX11_sets 43 = .ok (.iconst 1, 1) := by decide +kernel
theorem dX11_sets_44 : decode cX11_sets 44 = .ok (.iadd, 1) := by decide +kernel
theorem dX11_sets_45 : decode cX11_sets 45 = .ok (.iload_n 3, 1) := by decide +kernel
theorem dX11_sets_46 : decode cX11_sets 46 = .ok (.iastore, 1) := by decide +kernel
theorem dX11_sets_47 : decode cX11_sets 47 = .ok (.iload 5, 2) := by decide +kernel
theorem dX11_sets_49 : decode cX11_sets 49 = .ok (.ireturn, 1) := by decide +kernel
set_option maxRecDepth 20000 in
theorem ggX11_setStone_X11_begins : GoodIn wsX11_setStone wsX11_begins := goodIn_ca (goodIn_r _ [5, 6, 7, 8, 9, 4, 10, 49, 50, 51, 52, 53, 54, 55, 56, 57, 58, 59, 60, 61, 62, 63, 64, 65, 66, 67] (by decide +kernel) (by decide +kernel)) (goodIn_sub (fun _ h => List.mem_cons_of_mem _ (List.mem_append_right _ h)) (by decide +kernel))
set_option maxRecDepth 20000 in
theorem gX11_setStone_X11_begins : GoodIn wsX11_setStone (wsV RX11 100 RX11 yX11_begins wsX11_begins) := goodIn_app (goodIn_of _ (by decide +kernel)) ggX11_setStone_X11_begins
set_option maxRecDepth 20000 in
theorem ggX11_setStone_X11_sets : GoodIn wsX11_setStone wsX11_sets := goodIn_ca (goodIn_r _ [14, 6, 15, 16, 4, 17, 18, 19, 20, 21, 22, 23, 24, 25, 26, 27, 28, 29, 30, 31, 32, 33, 34, 35, 36, 37, 38, 49, 50, 51, 52, 53, 54, 55, 56, 57, 58, 59, 60, 61, 62, 63, 64, 65, 66, 67] (by decide +kernel) (by decide +kernel)) (goodIn_sub (fun _ h => List.mem_cons_of_mem _ (List.mem_append_right _ h)) (by decide +kernel))
set_option maxRecDepth 20000 in
theorem gX11_setStone_X11_sets : GoodIn wsX11_setStone (wsV RX11 103 RX11 yX11_sets wsX11_sets) := goodIn_app (goodIn_of _ (by decide +kernel)) ggX11_setStone_X11_sets
set_option maxRecDepth 20000 in
theorem ggX11_setStone_X11_ends : GoodIn wsX11_setStone wsX11_ends := goodIn_ca (goodIn_r _ [42, 38, 7, 6, 8, 9, 4, 10, 43, 44, 45, 46, 47, 48, 49, 50, 51, 52, 53, 54, 55, 56, 57, 58, 59, 60, 61, 62, 63, 64, 65, 66, 67] (by decide +kernel) (by decide +kernel)) (goodIn_sub (fun _ h => List.mem_cons_of_mem _ (List.mem_append_right _ h)) (by decide +kernel))
set_option maxRecDepth 20000 in
theorem gX11_setStone_X11_ends : GoodIn wsX11_setStone (wsV RX11 107 RX11 yX11_ends wsX11_ends) := goodIn_app (goodIn_of _ (by decide +kernel)) ggX11_setStone_X11_ends
theorem dX11_setStone_0 : decode cX11_setStone 0 = .ok (.aload_n 0, 1) := by decide +kernel
theorem dX11_setStone_1 : decode cX11_setStone 1 = .ok (.invokevirtual 100, 3) := by decide +kernel
theorem dX11_setStone_4 : decode cX11_setStone 4 = .ok (.aload_n 0, 1) := by decide +kernel
theorem dX11_setStone_5 : decode cX11_setStone 5 = .ok (.aload_n 0, 1) := by decide +kernel
theorem dX11_setStone_6 : decode cX11_setStone 6 = .ok (.iload_n 1, 1) := by decide +kernel
theorem dX11_setStone_7 : decode cX11_setStone 7 = .ok (.iload_n 2, 1) := by decide +kernel
theorem dX11_setStone_8 : decode cX11_setStone 8 = .ok (.iload_n 3, 1) := by decide +kernel
theorem dX11_setStone_9 : decode cX11_setStone 9 = .ok (.invokevirtual 103, 3) := by decide +kernel
theorem dX11_setStone_12 : decode cX11_setStone 12 = .ok (.invokevirtual 107, 3) := by decide +kernel
theorem dX11_setStone_15 : decode cX11_setStone 15 = .ok (.ireturn, 1) := by decide +kernel
set_option maxRecDepth 20000 in
theorem ggX11_mayCut_X11_cellAt : GoodIn wsX11_mayCut wsX11_cellAt := goodIn_r _ [5, 6, 7, 4, 8, 9, 10, 11] (by decide +kernel) (by decide +kernel)
set_option maxRecDepth 20000 in
theorem gX11_mayCut_X11_cellAt : GoodIn wsX11_mayCut (va_wsS RX11 93 yX11_cellAt wsX11_cellAt) := goodIn_app (goodIn_of _ (by decide +kernel)) ggX11_mayCut_X11_cellAt
set_option maxRecDepth 20000 in
theorem ggX11_mayCut_X11_of : GoodIn wsX11_mayCut wsX11_of := goodIn_ca (goodIn_r _ [15, 1, 16, 17, 4, 18, 38, 39, 40, 41, 42, 43, 44, 45, 46, 47, 48, 49, 50, 51, 52, 53, 54, 55, 56] (by decide +kernel) (by decide +kernel)) (goodIn_sub (fun _ h => List.mem_cons_of_mem _ (List.mem_append_right _ h)) (by decide +kernel))
set_option maxRecDepth 20000 in
theorem gX11_mayCut_X11_of : GoodIn wsX11_mayCut (wsV RX11 87 RX11 yX11_of wsX11_of) := goodIn_app (goodIn_of _ (by decide +kernel)) ggX11_mayCut_X11_of
set_option maxRecDepth 20000 in
theorem ggX11_mayCut_X11_isCell : GoodIn wsX11_mayCut wsX11_isCell := goodIn_r _ [8, 9, 10, 4, 11] (by decide +kernel) (by decide +kernel)
set_option maxRecDepth 20000 in
theorem gX11_mayCut_X11_isCell : GoodIn wsX11_mayCut (va_wsS RX11 74 yX11_isCell wsX11_isCell) := goodIn_app (goodIn_of _ (by decide +kernel)) ggX11_mayCut_X11_isCell
set_option maxRecDepth 20000 in
theorem ggX11_mayCut_X11_steepest : GoodIn wsX11_mayCut wsX11_steepest := goodIn_ca (goodIn_r _ [22, 23, 24, 25, 26, 27, 28, 29, 30, 31, 4, 32, 6, 7, 8, 9, 10, 11, 12, 13, 14, 15, 1, 16, 17, 18, 38, 39, 40, 41, 42, 43, 44, 45, 46, 47, 48, 49, 50, 51, 52, 53, 54, 55, 56] (by decide +kernel) (by decide +kernel)) (goodIn_sub (fun _ h => List.mem_cons_of_mem _ (List.mem_append_right _ h)) (by decide +kernel))
set_option maxRecDepth 20000 in
theorem gX11_mayCut_X11_steepest : GoodIn wsX11_mayCut (wsV RX11 110 RX11 yX11_steepest wsX11_steepest) := goodIn_app (goodIn_of _ (by decide +kernel)) ggX11_mayCut_X11_steepest
set_option maxRecDepth 20000 in
theorem ggX11_mayCut_X11_holds : GoodIn wsX11_mayCut wsX11_holds := goodIn_r _ [36, 37, 38, 39, 40, 41, 42, 43, 44, 45, 46, 47, 48, 49, 50, 51, 52, 53, 54, 55, 56] (by decide +kernel) (by decide +kernel)
set_option maxRecDepth 20000 in
theorem gX11_mayCut_X11_holds : GoodIn wsX11_mayCut (wsV RX11 48 RX11 yX11_holds wsX11_holds) := goodIn_app (goodIn_of _ (by decide +kernel)) ggX11_mayCut_X11_holds
theorem dX11_mayCut_0 : decode cX11_mayCut 0 = .ok (.iload_n 1, 1) := by decide +kernel
theorem dX11_mayCut_1 : decode cX11_mayCut 1 = .ok (.iload_n 2, 1) := by decide +kernel
theorem dX11_mayCut_2 : decode cX11_mayCut 2 = .ok (.invokestatic 93, 3) := by decide +kernel
theorem dX11_mayCut_5 : decode cX11_mayCut 5 = .ok (.istore_n 3, 1) := by decide +kernel
theorem dX11_mayCut_6 : decode cX11_mayCut 6 = .ok (.aload_n 0, 1) := by decide +kernel
theorem dX11_mayCut_7 : decode cX11_mayCut 7 = .ok (.iload_n 3, 1) := by decide +kernel
theorem dX11_mayCut_8 : decode cX11_mayCut 8 = .ok (.iconst 2, 1) := by decide +kernel
theorem dX11_mayCut_9 : decode cX11_mayCut 9 = .ok (.invokevirtual 87, 3) := by decide +kernel
theorem dX11_mayCut_12 : decode cX11_mayCut 12 = .ok (.ifCond .ne 26, 3) := by decide +kernel
theorem dX11_mayCut_15 : decode cX11_mayCut 15 = .ok (.aload_n 0, 1) := by decide +kernel
theorem dX11_mayCut_16 : decode cX11_mayCut 16 = .ok (.iload_n 3, 1) := by decide +kernel
theorem dX11_mayCut_17 : decode cX11_mayCut 17 = .ok (.iconst 0, 1) := by decide +kernel
theorem dX11_mayCut_18 : decode cX11_mayCut 18 = .ok (.invokevirtual 87, 3) := by decide +kernel
theorem dX11_mayCut_21 : decode cX11_mayCut 21 = .ok (.ifCond .le 17, 3) := by decide +kernel
theorem dX11_mayCut_24 : decode cX11_mayCut 24 = .ok (.aload_n 0, 1) := by decide +kernel
theorem dX11_mayCut_25 : decode cX11_mayCut 25 = .ok (.iload_n 3, 1) := by decide +kernel
theorem dX11_mayCut_26 : decode cX11_mayCut 26 = .ok (.iconst 3, 1) := by decide +kernel
theorem dX11_mayCut_27 : decode cX11_mayCut 27 = .ok (.invokevirtual 87, 3) := by decide +kernel
theorem dX11_mayCut_30 : decode cX11_mayCut 30 = .ok (.iconst 3, 1) := by decide +kernel
theorem dX11_mayCut_31 : decode cX11_mayCut 31 = .ok (.if_icmp .ge 7, 3) := by decide +kernel
theorem dX11_mayCut_34 : decode cX11_mayCut 34 = .ok (.iconst 1, 1) := by decide +kernel
theorem dX11_mayCut_35 : decode cX11_mayCut 35 = .ok (.goto 4, 3) := by decide +kernel
theorem dX11_mayCut_38 : decode cX11_mayCut 38 = .ok (.iconst 0, 1) := by decide +kernel
theorem dX11_mayCut_39 : decode cX11_mayCut 39 = .ok (.istore 4, 2) := by decide +kernel
theorem dX11_mayCut_41 : decode cX11_mayCut 41 = .ok (.aload_n 0, 1) := by decide +kernel
theorem dX11_mayCut_42 : decode cX11_mayCut 42 = .ok (.iload_n 1, 1) := by decide +kernel
theorem dX11_mayCut_43 : decode cX11_mayCut 43 = .ok (.iload_n 2, 1) := by decide +kernel
theorem dX11_mayCut_44 : decode cX11_mayCut 44 = .ok (.invokestatic 74, 3) := by decide +kernel
theorem dX11_mayCut_47 : decode cX11_mayCut 47 = .ok (.iload 4, 2) := by decide +kernel
theorem dX11_mayCut_49 : decode cX11_mayCut 49 = .ok (.aload_n 0, 1) := by decide +kernel
theorem dX11_mayCut_50 : decode cX11_mayCut 50 = .ok (.iload_n 3, 1) := by decide +kernel
theorem dX11_mayCut_51 : decode cX11_mayCut 51 = .ok (.aload_n 0, 1) := by decide +kernel
theorem dX11_mayCut_52 : decode cX11_mayCut 52 = .ok (.iload_n 3, 1) := by decide +kernel
theorem dX11_mayCut_53 : decode cX11_mayCut 53 = .ok (.iconst 0, 1) := by decide +kernel
theorem dX11_mayCut_54 : decode cX11_mayCut 54 = .ok (.invokevirtual 87, 3) := by decide +kernel
theorem dX11_mayCut_57 : decode cX11_mayCut 57 = .ok (.iconst 1, 1) := by decide +kernel
theorem dX11_mayCut_58 : decode cX11_mayCut 58 = .ok (.isub, 1) := by decide +kernel
theorem dX11_mayCut_59 : decode cX11_mayCut 59 = .ok (.invokevirtual 110, 3) := by decide +kernel
theorem dX11_mayCut_62 : decode cX11_mayCut 62 = .ok (.aload_n 0, 1) := by decide +kernel
theorem dX11_mayCut_63 : decode cX11_mayCut 63 = .ok (.getfield 9, 3) := by decide +kernel
theorem dX11_mayCut_66 : decode cX11_mayCut 66 = .ok (.iconst 0, 1) := by decide +kernel
theorem dX11_mayCut_67 : decode cX11_mayCut 67 = .ok (.iaload, 1) := by decide +kernel
theorem dX11_mayCut_68 : decode cX11_mayCut 68 = .ok (.if_icmp .gt 7, 3) := by decide +kernel
theorem dX11_mayCut_71 : decode cX11_mayCut 71 = .ok (.iconst 1, 1) := by decide +kernel
theorem dX11_mayCut_72 : decode cX11_mayCut 72 = .ok (.goto 4, 3) := by decide +kernel
theorem dX11_mayCut_75 : decode cX11_mayCut 75 = .ok (.iconst 0, 1) := by decide +kernel
theorem dX11_mayCut_76 : decode cX11_mayCut 76 = .ok (.iconst 1, 1) := by decide +kernel
theorem dX11_mayCut_77 : decode cX11_mayCut 77 = .ok (.invokevirtual 48, 3) := by decide +kernel
theorem dX11_mayCut_80 : decode cX11_mayCut 80 = .ok (.ireturn, 1) := by decide +kernel
set_option maxRecDepth 20000 in
theorem ggX11_cuts_X11_mayCut : GoodIn wsX11_cuts wsX11_mayCut := goodIn_ca (goodIn_r _ [6, 1, 7, 8, 5, 9, 10, 11, 12, 13, 14, 15, 16, 17, 18, 19, 20, 21, 22, 23, 24, 25, 26, 27, 28, 29, 30, 31, 32, 33, 34, 35, 36, 37, 38, 39, 40, 41, 42, 43, 44, 45, 46, 47, 48, 49, 50, 51, 52, 53, 54, 55, 56, 57, 58, 59, 60] (by decide +kernel) (by decide +kernel)) (goodIn_sub (fun _ h => List.mem_cons_of_mem _ (List.mem_append_right _ h)) (by decide +kernel))
set_option maxRecDepth 20000 in
theorem gX11_cuts_X11_mayCut : GoodIn wsX11_cuts (wsV RX11 113 RX11 yX11_mayCut wsX11_mayCut) := goodIn_app (goodIn_of _ (by decide +kernel)) ggX11_cuts_X11_mayCut
set_option maxRecDepth 20000 in
theorem ggX11_cuts_X11_cellAt : GoodIn wsX11_cuts wsX11_cellAt := goodIn_r _ [9, 10, 11, 5, 12, 13, 14, 15] (by decide +kernel) (by decide +kernel)
set_option maxRecDepth 20000 in
theorem gX11_cuts_X11_cellAt : GoodIn wsX11_cuts (va_wsS RX11 93 yX11_cellAt wsX11_cellAt) := goodIn_app (goodIn_of _ (by decide +kernel)) ggX11_cuts_X11_cellAt
set_option maxRecDepth 20000 in
theorem ggX11_cuts_X11_placeOf : GoodIn wsX11_cuts wsX11_placeOf := goodIn_r _ [22] (by decide +kernel) (by decide +kernel)
set_option maxRecDepth 20000 in
theorem gX11_cuts_X11_placeOf : GoodIn wsX11_cuts (va_wsS RX11 41 yX11_placeOf wsX11_placeOf) := goodIn_app (goodIn_of _ (by decide +kernel)) ggX11_cuts_X11_placeOf
theorem dX11_cuts_0 : decode cX11_cuts 0 = .ok (.aload_n 0, 1) := by decide +kernel
theorem dX11_cuts_1 : decode cX11_cuts 1 = .ok (.iload_n 1, 1) := by decide +kernel
theorem dX11_cuts_2 : decode cX11_cuts 2 = .ok (.iload_n 2, 1) := by decide +kernel
theorem dX11_cuts_3 : decode cX11_cuts 3 = .ok (.invokevirtual 113, 3) := by decide +kernel
theorem dX11_cuts_6 : decode cX11_cuts 6 = .ok (.ifCond .ne 5, 3) := by decide +kernel
theorem dX11_cuts_9 : decode cX11_cuts 9 = .ok (.iconst 0, 1) := by decide +kernel
theorem dX11_cuts_10 : decode cX11_cuts 10 = .ok (.ireturn, 1) := by decide +kernel
theorem dX11_cuts_11 : decode cX11_cuts 11 = .ok (.iload_n 1, 1) := by decide +kernel
theorem dX11_cuts_12 : decode cX11_cuts 12 = .ok (.iload_n 2, 1) := by decide +kernel
theorem dX11_cuts_13 : decode cX11_cuts 13 = .ok (.invokestatic 93, 3) := by decide +kernel
theorem dX11_cuts_16 : decode cX11_cuts 16 = .ok (.invokestatic 41, 3) := by decide +kernel
theorem dX11_cuts_19 : decode cX11_cuts 19 = .ok (.istore_n 3, 1) := by decide +kernel
theorem dX11_cuts_20 : decode cX11_cuts 20 = .ok (.aload_n 0, 1) := by decide +kernel
theorem dX11_cuts_21 : decode cX11_cuts 21 = .ok (.getfield 9, 3) := by decide +kernel
theorem dX11_cuts_24 : decode cX11_cuts 24 = .ok (.iload_n 3, 1) := by decide +kernel
theorem dX11_cuts_25 : decode cX11_cuts 25 = .ok (.iconst 0, 1) := by decide +kernel
theorem dX11_cuts_26 : decode cX11_cuts 26 = .ok (.iadd, 1) := by decide +kernel
theorem dX11_cuts_27 : decode cX11_cuts 27 = .ok (.dup2, 1) := by decide +kernel
theorem dX11_cuts_28 : decode cX11_cuts 28 = .ok (.iaload, 1) := by decide +kernel
theorem dX11_cuts_29 : decode cX11_cuts 29 = .ok (.iconst 1, 1) := by decide +kernel
theorem dX11_cuts_30 : decode cX11_cuts 30 = .ok (.isub, 1) := by decide +kernel
theorem dX11_cuts_31 : decode cX11_cuts 31 = .ok (.iastore, 1) := by decide +kernel
theorem dX11_cuts_32 : decode cX11_cuts 32 = .ok (.aload_n 0, 1) := by decide +kernel
theorem dX11_cuts_33 : decode cX11_cuts 33 = .ok (.getfield 9, 3) := by decide +kernel
theorem dX11_cuts_36 : decode cX11_cuts 36 = .ok (.iload_n 3, 1) := by decide +kernel
theorem dX11_cuts_37 : decode cX11_cuts 37 = .ok (.iconst 4, 1) := by decide +kernel
theorem dX11_cuts_38 : decode cX11_cuts 38 = .ok (.iadd, 1) := by decide +kernel
theorem dX11_cuts_39 : decode cX11_cuts 39 = .ok (.aload_n 0, 1) := by decide +kernel
theorem dX11_cuts_40 : decode cX11_cuts 40 = .ok (.getfield 9, 3) := by decide +kernel
theorem dX11_cuts_43 : decode cX11_cuts 43 = .ok (.iload_n 3, 1) := by decide +kernel
theorem dX11_cuts_44 : decode cX11_cuts 44 = .ok (.iconst 3, 1) := by decide +kernel
theorem dX11_cuts_45 : decode cX11_cuts 45 = .ok (.iadd, 1) := by decide +kernel
theorem dX11_cuts_46 : decode cX11_cuts 46 = .ok (.iaload, 1) := by decide +kernel
theorem dX11_cuts_47 : decode cX11_cuts 47 = .ok (.iadd, 1) := by decide +kernel
theorem dX11_cuts_48 : decode cX11_cuts 48 = .ok (.aload_n 0, 1) := by decide +kernel
theorem dX11_cuts_49 : decode cX11_cuts 49 = .ok (.getfield 9, 3) := by decide +kernel
theorem dX11_cuts_52 : decode cX11_cuts 52 = .ok (.iload_n 3, 1) := by decide +kernel
theorem dX11_cuts_53 : decode cX11_cuts 53 = .ok (.iconst 1, 1) := by decide +kernel
theorem dX11_cuts_54 : decode cX11_cuts 54 = .ok (.iadd, 1) := by decide +kernel
theorem dX11_cuts_55 : decode cX11_cuts 55 = .ok (.iaload, 1) := by decide +kernel
theorem dX11_cuts_56 : decode cX11_cuts 56 = .ok (.iastore, 1) := by decide +kernel
theorem dX11_cuts_57 : decode cX11_cuts 57 = .ok (.aload_n 0, 1) := by decide +kernel
theorem dX11_cuts_58 : decode cX11_cuts 58 = .ok (.getfield 9, 3) := by decide +kernel
theorem dX11_cuts_61 : decode cX11_cuts 61 = .ok (.iload_n 3, 1) := by decide +kernel
theorem dX11_cuts_62 : decode cX11_cuts 62 = .ok (.iconst 3, 1) := by decide +kernel
theorem dX11_cuts_63 : decode cX11_cuts 63 = .ok (.iadd, 1) := by decide +kernel
theorem dX11_cuts_64 : decode cX11_cuts 64 = .ok (.dup2, 1) := by decide +kernel
theorem dX11_cuts_65 : decode cX11_cuts 65 = .ok (.iaload, 1) := by decide +kernel
theorem dX11_cuts_66 : decode cX11_cuts 66 = .ok (.iconst 1, 1) := by decide +kernel
theorem dX11_cuts_67 : decode cX11_cuts 67 = .ok (.iadd, 1) := by decide +kernel
theorem dX11_cuts_68 : decode cX11_cuts 68 = .ok (.iastore, 1) := by decide +kernel
theorem dX11_cuts_69 : decode cX11_cuts 69 = .ok (.aload_n 0, 1) := by decide +kernel
theorem dX11_cuts_70 : decode cX11_cuts 70 = .ok (.getfield 9, 3) := by decide +kernel
theorem dX11_cuts_73 : decode cX11_cuts 73 = .ok (.iconst 2, 1) := by decide +kernel
theorem dX11_cuts_74 : decode cX11_cuts 74 = .ok (.dup2, 1) := by decide +kernel
theorem dX11_cuts_75 : decode cX11_cuts 75 = .ok (.iaload, 1) := by decide +kernel
theorem dX11_cuts_76 : decode cX11_cuts 76 = .ok (.iconst 1, 1) := by decide +kernel
theorem dX11_cuts_77 : decode cX11_cuts 77 = .ok (.iadd, 1) := by decide +kernel
theorem dX11_cuts_78 : decode cX11_cuts 78 = .ok (.iastore, 1) := by decide +kernel
theorem dX11_cuts_79 : decode cX11_cuts 79 = .ok (.aload_n 0, 1) := by decide +kernel
theorem dX11_cuts_80 : decode cX11_cuts 80 = .ok (.getfield 9, 3) := by decide +kernel
theorem dX11_cuts_83 : decode cX11_cuts 83 = .ok (.iload_n 3, 1) := by decide +kernel
theorem dX11_cuts_84 : decode cX11_cuts 84 = .ok (.iconst 0, 1) := by decide +kernel
theorem dX11_cuts_85 : decode cX11_cuts 85 = .ok (.iadd, 1) := by decide +kernel
theorem dX11_cuts_86 : decode cX11_cuts 86 = .ok (.iaload, 1) := by decide +kernel
theorem dX11_cuts_87 : decode cX11_cuts 87 = .ok (.ireturn, 1) := by decide +kernel
set_option maxRecDepth 20000 in
theorem ggX11_cut_X11_begins : GoodIn wsX11_cut wsX11_begins := goodIn_ca (goodIn_r _ [5, 6, 7, 8, 9, 4, 10, 64, 65, 66, 67, 68, 69, 70, 71, 72, 73, 74, 75, 76, 77, 78, 79, 80, 81, 82] (by decide +kernel) (by decide +kernel)) (goodIn_sub (fun _ h => List.mem_cons_of_mem _ (List.mem_append_right _ h)) (by decide +kernel))
set_option maxRecDepth 20000 in
theorem gX11_cut_X11_begins : GoodIn wsX11_cut (wsV RX11 100 RX11 yX11_begins wsX11_begins) := goodIn_app (goodIn_of _ (by decide +kernel)) ggX11_cut_X11_begins
set_option maxRecDepth 20000 in
theorem ggX11_cut_X11_cuts : GoodIn wsX11_cut wsX11_cuts := goodIn_ca (goodIn_r _ [14, 6, 15, 16, 17, 4, 18, 19, 20, 21, 22, 23, 24, 25, 26, 27, 28, 29, 30, 31, 32, 33, 34, 35, 36, 37, 38, 39, 40, 41, 42, 43, 44, 45, 46, 47, 48, 49, 50, 51, 52, 53, 64, 65, 66, 67, 68, 69, 70, 71, 72, 73, 74, 75, 76, 77, 78, 79, 80, 81, 82] (by decide +kernel) (by decide +kernel)) (goodIn_sub (fun _ h => List.mem_cons_of_mem _ (List.mem_append_right _ h)) (by decide +kernel))
set_option maxRecDepth 20000 in
theorem gX11_cut_X11_cuts : GoodIn wsX11_cut (wsV RX11 116 RX11 yX11_cuts wsX11_cuts) := goodIn_app (goodIn_of _ (by decide +kernel)) ggX11_cut_X11_cuts
set_option maxRecDepth 20000 in
theorem ggX11_cut_X11_ends : GoodIn wsX11_cut wsX11_ends := goodIn_ca (goodIn_r _ [57, 53, 7, 6, 8, 9, 4, 10, 58, 59, 60, 61, 62, 63, 64, 65, 66, 67, 68, 69, 70, 71, 72, 73, 74, 75, 76, 77, 78, 79, 80, 81, 82] (by decide +kernel) (by decide +kernel)) (goodIn_sub (fun _ h => List.mem_cons_of_mem _ (List.mem_append_right _ h)) (by decide +kernel))
set_option maxRecDepth 20000 in
theorem gX11_cut_X11_ends : GoodIn wsX11_cut (wsV RX11 107 RX11 yX11_ends wsX11_ends) := goodIn_app (goodIn_of _ (by decide +kernel)) ggX11_cut_X11_ends
theorem dX11_cut_0 : decode cX11_cut 0 = .ok (.aload_n 0, 1) := by decide +kernel
theorem dX11_cut_1 : decode cX11_cut 1 = .ok (.invokevirtual 100, 3) := by decide +kernel
theorem dX11_cut_4 : decode cX11_cut 4 = .ok (.aload_n 0, 1) := by decide +kernel
theorem dX11_cut_5 : decode cX11_cut 5 = .ok (.aload_n 0, 1) := by decide +kernel
theorem dX11_cut_6 : decode cX11_cut 6 = .ok (.iload_n 1, 1) := by decide +kernel
theorem dX11_cut_7 : decode cX11_cut 7 = .ok (.iload_n 2, 1) := by decide +kernel
theorem dX11_cut_8 : decode cX11_cut 8 = .ok (.invokevirtual 116, 3) := by decide +kernel
theorem dX11_cut_11 : decode cX11_cut 11 = .ok (.invokevirtual 107, 3) := by decide +kernel
theorem dX11_cut_14 : decode cX11_cut 14 = .ok (.ireturn, 1) := by decide +kernel
set_option maxRecDepth 20000 in
theorem ggX11_fills_X11_cellAt : GoodIn wsX11_fills wsX11_cellAt := goodIn_r _ [5, 6, 7, 4, 8, 9, 10, 11] (by decide +kernel) (by decide +kernel)
set_option maxRecDepth 20000 in
theorem gX11_fills_X11_cellAt : GoodIn wsX11_fills (va_wsS RX11 93 yX11_cellAt wsX11_cellAt) := goodIn_app (goodIn_of _ (by decide +kernel)) ggX11_fills_X11_cellAt
set_option maxRecDepth 20000 in
theorem ggX11_fills_X11_of : GoodIn wsX11_fills wsX11_of := goodIn_ca (goodIn_r _ [15, 1, 16, 17, 4, 18, 38, 39, 40, 41, 42, 43, 44, 45, 46, 47, 48, 49, 50, 51, 52, 53, 54, 55, 56] (by decide +kernel) (by decide +kernel)) (goodIn_sub (fun _ h => List.mem_cons_of_mem _ (List.mem_append_right _ h)) (by decide +kernel))
set_option maxRecDepth 20000 in
theorem gX11_fills_X11_of : GoodIn wsX11_fills (wsV RX11 87 RX11 yX11_of wsX11_of) := goodIn_app (goodIn_of _ (by decide +kernel)) ggX11_fills_X11_of
set_option maxRecDepth 20000 in
theorem ggX11_fills_X11_isCell : GoodIn wsX11_fills wsX11_isCell := goodIn_r _ [8, 9, 10, 4, 11] (by decide +kernel) (by decide +kernel)
set_option maxRecDepth 20000 in
theorem gX11_fills_X11_isCell : GoodIn wsX11_fills (va_wsS RX11 74 yX11_isCell wsX11_isCell) := goodIn_app (goodIn_of _ (by decide +kernel)) ggX11_fills_X11_isCell
set_option maxRecDepth 20000 in
theorem ggX11_fills_X11_steepest : GoodIn wsX11_fills wsX11_steepest := goodIn_ca (goodIn_r _ [22, 23, 24, 25, 26, 27, 28, 29, 30, 31, 4, 32, 6, 7, 8, 9, 10, 11, 12, 13, 14, 15, 1, 16, 17, 18, 38, 39, 40, 41, 42, 43, 44, 45, 46, 47, 48, 49, 50, 51, 52, 53, 54, 55, 56] (by decide +kernel) (by decide +kernel)) (goodIn_sub (fun _ h => List.mem_cons_of_mem _ (List.mem_append_right _ h)) (by decide +kernel))
set_option maxRecDepth 20000 in
theorem gX11_fills_X11_steepest : GoodIn wsX11_fills (wsV RX11 110 RX11 yX11_steepest wsX11_steepest) := goodIn_app (goodIn_of _ (by decide +kernel)) ggX11_fills_X11_steepest
set_option maxRecDepth 20000 in
theorem ggX11_fills_X11_holds : GoodIn wsX11_fills wsX11_holds := goodIn_r _ [36, 37, 38, 39, 40, 41, 42, 43, 44, 45, 46, 47, 48, 49, 50, 51, 52, 53, 54, 55, 56] (by decide +kernel) (by decide +kernel)
set_option maxRecDepth 20000 in
theorem gX11_fills_X11_holds : GoodIn wsX11_fills (wsV RX11 48 RX11 yX11_holds wsX11_holds) := goodIn_app (goodIn_of _ (by decide +kernel)) ggX11_fills_X11_holds
set_option maxRecDepth 20000 in
theorem ggX11_fills_X11_placeOf : GoodIn wsX11_fills wsX11_placeOf := goodIn_r _ [18] (by decide +kernel) (by decide +kernel)
set_option maxRecDepth 20000 in
theorem gX11_fills_X11_placeOf : GoodIn wsX11_fills (va_wsS RX11 41 yX11_placeOf wsX11_placeOf) := goodIn_app (goodIn_of _ (by decide +kernel)) ggX11_fills_X11_placeOf
theorem dX11_fills_0 : decode cX11_fills 0 = .ok (.iload_n 1, 1) := by decide +kernel
theorem dX11_fills_1 : decode cX11_fills 1 = .ok (.iload_n 2, 1) := by decide +kernel
theorem dX11_fills_2 : decode cX11_fills 2 = .ok (.invokestatic 93, 3) := by decide +kernel
theorem dX11_fills_5 : decode cX11_fills 5 = .ok (.istore_n 3, 1) := by decide +kernel
theorem dX11_fills_6 : decode cX11_fills 6 = .ok (.aload_n 0, 1) := by decide +kernel
theorem dX11_fills_7 : decode cX11_fills 7 = .ok (.iload_n 3, 1) := by decide +kernel
theorem dX11_fills_8 : decode cX11_fills 8 = .ok (.iconst 2, 1) := by decide +kernel
theorem dX11_fills_9 : decode cX11_fills 9 = .ok (.invokevirtual 87, 3) := by decide +kernel
theorem dX11_fills_12 : decode cX11_fills 12 = .ok (.ifCond .ne 36, 3) := by decide +kernel
theorem dX11_fills_15 : decode cX11_fills 15 = .ok (.aload_n 0, 1) := by decide +kernel
theorem dX11_fills_16 : decode cX11_fills 16 = .ok (.iload_n 3, 1) := by decide +kernel
theorem dX11_fills_17 : decode cX11_fills 17 = .ok (.iconst 0, 1) := by decide +kernel
theorem dX11_fills_18 : decode cX11_fills 18 = .ok (.invokevirtual 87, 3) := by decide +kernel
theorem dX11_fills_21 : decode cX11_fills 21 = .ok (.bipush 9, 2) := by decide +kernel
theorem dX11_fills_23 : decode cX11_fills 23 = .ok (.if_icmp .ge 25, 3) := by decide +kernel
theorem dX11_fills_26 : decode cX11_fills 26 = .ok (.aload_n 0, 1) := by decide +kernel
theorem dX11_fills_27 : decode cX11_fills 27 = .ok (.iload_n 3, 1) := by decide +kernel
theorem dX11_fills_28 : decode cX11_fills 28 = .ok (.iconst 3, 1) := by decide +kernel
theorem dX11_fills_29 : decode cX11_fills 29 = .ok (.invokevirtual 87, 3) := by decide +kernel
theorem dX11_fills_32 : decode cX11_fills 32 = .ok (.ifCond .ne 16, 3) := by decide +kernel
theorem dX11_fills_35 : decode cX11_fills 35 = .ok (.aload_n 0, 1) := by decide +kernel
theorem dX11_fills_36 : decode cX11_fills 36 = .ok (.getfield 9, 3) := by decide +kernel
theorem dX11_fills_39 : decode cX11_fills 39 = .ok (.iconst 1, 1) := by decide +kernel
theorem dX11_fills_40 : decode cX11_fills 40 = .ok (.iaload, 1) := by decide +kernel
theorem dX11_fills_41 : decode cX11_fills 41 = .ok (.ifCond .le 7, 3) := by decide +kernel
theorem dX11_fills_44 : decode cX11_fills 44 = .ok (.iconst 1, 1) := by decide +kernel
theorem dX11_fills_45 : decode cX11_fills 45 = .ok (.goto 4, 3) := by decide +kernel
theorem dX11_fills_48 : decode cX11_fills 48 = .ok (.iconst 0, 1) := by decide +kernel
theorem dX11_fills_49 : decode cX11_fills 49 = .ok (.istore 4, 2) := by decide +kernel
theorem dX11_fills_51 : decode cX11_fills 51 = .ok (.aload_n 0, 1) := by decide +kernel
theorem dX11_fills_52 : decode cX11_fills 52 = .ok (.iload_n 1, 1) := by decide +kernel
theorem dX11_fills_53 : decode cX11_fills 53 = .ok (.iload_n 2, 1) := by decide +kernel
theorem dX11_fills_54 : decode cX11_fills 54 = .ok (.invokestatic 74, 3) := by decide +kernel
theorem dX11_fills_57 : decode cX11_fills 57 = .ok (.iload 4, 2) := by decide +kernel
theorem dX11_fills_59 : decode cX11_fills 59 = .ok (.aload_n 0, 1) := by decide +kernel
theorem dX11_fills_60 : decode cX11_fills 60 = .ok (.iload_n 3, 1) := by decide +kernel
theorem dX11_fills_61 : decode cX11_fills 61 = .ok (.aload_n 0, 1) := by decide +kernel
theorem dX11_fills_62 : decode cX11_fills 62 = .ok (.iload_n 3, 1) := by decide +kernel
theorem dX11_fills_63 : decode cX11_fills 63 = .ok (.iconst 0, 1) := by decide +kernel
theorem dX11_fills_64 : decode cX11_fills 64 = .ok (.invokevirtual 87, 3) := by decide +kernel
theorem dX11_fills_67 : decode cX11_fills 67 = .ok (.iconst 1, 1) := by decide +kernel
theorem dX11_fills_68 : decode cX11_fills 68 = .ok (.iadd, 1) := by decide +kernel
theorem dX11_fills_69 : decode cX11_fills 69 = .ok (.invokevirtual 110, 3) := by decide +kernel
theorem dX11_fills_72 : decode cX11_fills 72 = .ok (.aload_n 0, 1) := by decide +kernel
theorem dX11_fills_73 : decode cX11_fills 73 = .ok (.getfield 9, 3) := by decide +kernel
theorem dX11_fills_76 : decode cX11_fills 76 = .ok (.iconst 0, 1) := by decide +kernel
theorem dX11_fills_77 : decode cX11_fills 77 = .ok (.iaload, 1) := by decide +kernel
theorem dX11_fills_78 : decode cX11_fills 78 = .ok (.if_icmp .gt 7, 3) := by decide +kernel
theorem dX11_fills_81 : decode cX11_fills 81 = .ok (.iconst 1, 1) := by decide +kernel
theorem dX11_fills_82 : decode cX11_fills 82 = .ok (.goto 4, 3) := by decide +kernel
theorem dX11_fills_85 : decode cX11_fills 85 = .ok (.iconst 0, 1) := by decide +kernel
theorem dX11_fills_86 : decode cX11_fills 86 = .ok (.iconst 1, 1) := by decide +kernel
theorem dX11_fills_87 : decode cX11_fills 87 = .ok (.invokevirtual 48, 3) := by decide +kernel
theorem dX11_fills_90 : decode cX11_fills 90 = .ok (.ifCond .ne 5, 3) := by decide +kernel
theorem dX11_fills_93 : decode cX11_fills 93 = .ok (.iconst 0, 1) := by decide +kernel
theorem dX11_fills_94 : decode cX11_fills 94 = .ok (.ireturn, 1) := by decide +kernel
theorem dX11_fills_95 : decode cX11_fills 95 = .ok (.aload_n 0, 1) := by decide +kernel
theorem dX11_fills_96 : decode cX11_fills 96 = .ok (.getfield 9, 3) := by decide +kernel
theorem dX11_fills_99 : decode cX11_fills 99 = .ok (.iconst 1, 1) := by decide +kernel
theorem dX11_fills_100 : decode cX11_fills 100 = .ok (.dup2, 1) := by decide +kernel
theorem dX11_fills_101 : decode cX11_fills 101 = .ok (.iaload, 1) := by decide +kernel
theorem dX11_fills_102 : decode cX11_fills 102 = .ok (.iconst 1, 1) := by decide +kernel
theorem dX11_fills_103 : decode cX11_fills 103 = .ok (.isub, 1) := by decide +kernel
theorem dX11_fills_104 : decode cX11_fills 104 = .ok (.iastore, 1) := by decide +kernel
theorem dX11_fills_105 : decode cX11_fills 105 = .ok (.aload_n 0, 1) := by decide +kernel
theorem dX11_fills_106 : decode cX11_fills 106 = .ok (.getfield 9, 3) := by decide +kernel
theorem dX11_fills_109 : decode cX11_fills 109 = .ok (.iload_n 3, 1) := by decide +kernel
theorem dX11_fills_110 : decode cX11_fills 110 = .ok (.invokestatic 41, 3) := by decide +kernel
theorem dX11_fills_113 : decode cX11_fills 113 = .ok (.iconst 0, 1) := by decide +kernel
theorem dX11_fills_114 : decode cX11_fills 114 = .ok (.iadd, 1) := by decide +kernel
theorem dX11_fills_115 : decode cX11_fills 115 = .ok (.dup2, 1) := by decide +kernel
theorem dX11_fills_116 : decode cX11_fills 116 = .ok (.iaload, 1) := by decide +kernel
theorem dX11_fills_117 : decode cX11_fills 117 = .ok (.iconst 1, 1) := by decide +kernel
theorem dX11_fills_118 : decode cX11_fills 118 = .ok (.iadd, 1) := by decide +kernel
theorem dX11_fills_119 : decode cX11_fills 119 = .ok (.iastore, 1) := by decide +kernel
theorem dX11_fills_120 : decode cX11_fills 120 = .ok (.aload_n 0, 1) := by decide +kernel
theorem dX11_fills_121 : decode cX11_fills 121 = .ok (.iload_n 3, 1) := by decide +kernel
theorem dX11_fills_122 : decode cX11_fills 122 = .ok (.iconst 0, 1) := by decide +kernel
theorem dX11_fills_123 : decode cX11_fills 123 = .ok (.invokevirtual 87, 3) := by decide +kernel
theorem dX11_fills_126 : decode cX11_fills 126 = .ok (.ireturn, 1) := by decide +kernel
set_option maxRecDepth 20000 in
theorem ggX11_fill_X11_begins : GoodIn wsX11_fill wsX11_begins := goodIn_ca (goodIn_r _ [5, 6, 7, 8, 9, 4, 10, 60, 61, 62, 63, 64, 65, 66, 67, 68, 69, 70, 71, 72, 73, 74, 75, 76, 77, 78] (by decide +kernel) (by decide +kernel)) (goodIn_sub (fun _ h => List.mem_cons_of_mem _ (List.mem_append_right _ h)) (by decide +kernel))
set_option maxRecDepth 20000 in
theorem gX11_fill_X11_begins : GoodIn wsX11_fill (wsV RX11 100 RX11 yX11_begins wsX11_begins) := goodIn_app (goodIn_of _ (by decide +kernel)) ggX11_fill_X11_begins
set_option maxRecDepth 20000 in
theorem ggX11_fill_X11_fills : GoodIn wsX11_fill wsX11_fills := goodIn_ca (goodIn_r _ [14, 6, 15, 16, 4, 17, 18, 19, 20, 21, 22, 23, 24, 25, 26, 27, 28, 29, 30, 31, 32, 33, 34, 35, 36, 37, 38, 39, 40, 41, 42, 43, 44, 45, 46, 47, 48, 49, 60, 61, 62, 63, 64, 65, 66, 67, 68, 69, 70, 71, 72, 73, 74, 75, 76, 77, 78] (by decide +kernel) (by decide +kernel)) (goodIn_sub (fun _ h => List.mem_cons_of_mem _ (List.mem_append_right _ h)) (by decide +kernel))
set_option maxRecDepth 20000 in
theorem gX11_fill_X11_fills : GoodIn wsX11_fill (wsV RX11 119 RX11 yX11_fills wsX11_fills) := goodIn_app (goodIn_of _ (by decide +kernel)) ggX11_fill_X11_fills
set_option maxRecDepth 20000 in
theorem ggX11_fill_X11_ends : GoodIn wsX11_fill wsX11_ends := goodIn_ca (goodIn_r _ [53, 49, 7, 6, 8, 9, 4, 10, 54, 55, 56, 57, 58, 59, 60, 61, 62, 63, 64, 65, 66, 67, 68, 69, 70, 71, 72, 73, 74, 75, 76, 77, 78] (by decide +kernel) (by decide +kernel)) (goodIn_sub (fun _ h => List.mem_cons_of_mem _ (List.mem_append_right _ h)) (by decide +kernel))
set_option maxRecDepth 20000 in
theorem gX11_fill_X11_ends : GoodIn wsX11_fill (wsV RX11 107 RX11 yX11_ends wsX11_ends) := goodIn_app (goodIn_of _ (by decide +kernel)) ggX11_fill_X11_ends
theorem dX11_fill_0 : decode cX11_fill 0 = .ok (.aload_n 0, 1) := by decide +kernel
theorem dX11_fill_1 : decode cX11_fill 1 = .ok (.invokevirtual 100, 3) := by decide +kernel
theorem dX11_fill_4 : decode cX11_fill 4 = .ok (.aload_n 0, 1) := by decide +kernel
theorem dX11_fill_5 : decode cX11_fill 5 = .ok (.aload_n 0, 1) := by decide +kernel
theorem dX11_fill_6 : decode cX11_fill 6 = .ok (.iload_n 1, 1) := by decide +kernel
theorem dX11_fill_7 : decode cX11_fill 7 = .ok (.iload_n 2, 1) := by decide +kernel
theorem dX11_fill_8 : decode cX11_fill 8 = .ok (.invokevirtual 119, 3) := by decide +kernel
theorem dX11_fill_11 : decode cX11_fill 11 = .ok (.invokevirtual 107, 3) := by decide +kernel
theorem dX11_fill_14 : decode cX11_fill 14 = .ok (.ireturn, 1) := by decide +kernel
set_option maxRecDepth 20000 in
theorem ggX11_toggles_X11_isCell : GoodIn wsX11_toggles wsX11_isCell := goodIn_r _ [5, 6, 7, 4, 8] (by decide +kernel) (by decide +kernel)
set_option maxRecDepth 20000 in
theorem gX11_toggles_X11_isCell : GoodIn wsX11_toggles (va_wsS RX11 74 yX11_isCell wsX11_isCell) := goodIn_app (goodIn_of _ (by decide +kernel)) ggX11_toggles_X11_isCell
set_option maxRecDepth 20000 in
theorem ggX11_toggles_X11_goes : GoodIn wsX11_toggles wsX11_goes := goodIn_r _ [12, 13, 14, 15, 4, 16, 17, 24, 25, 26, 27, 28, 29, 30, 31, 32, 33, 34, 35, 36, 37, 38, 39, 40, 41, 42] (by decide +kernel) (by decide +kernel)
set_option maxRecDepth 20000 in
theorem gX11_toggles_X11_goes : GoodIn wsX11_toggles (wsV RX11 62 RX11 yX11_goes wsX11_goes) := goodIn_app (goodIn_of _ (by decide +kernel)) ggX11_toggles_X11_goes
set_option maxRecDepth 20000 in
theorem ggX11_toggles_X11_cellAt : GoodIn wsX11_toggles wsX11_cellAt := goodIn_r _ [20, 2, 3, 4, 5, 6, 7, 8] (by decide +kernel) (by decide +kernel)
set_option maxRecDepth 20000 in
theorem gX11_toggles_X11_cellAt : GoodIn wsX11_toggles (va_wsS RX11 93 yX11_cellAt wsX11_cellAt) := goodIn_app (goodIn_of _ (by decide +kernel)) ggX11_toggles_X11_cellAt
set_option maxRecDepth 20000 in
theorem ggX11_toggles_X11_placeOf : GoodIn wsX11_toggles wsX11_placeOf := goodIn_r _ [23] (by decide +kernel) (by decide +kernel)
set_option maxRecDepth 20000 in
theorem gX11_toggles_X11_placeOf : GoodIn wsX11_toggles (va_wsS RX11 41 yX11_placeOf wsX11_placeOf) := goodIn_app (goodIn_of _ (by decide +kernel)) ggX11_toggles_X11_placeOf
theorem dX11_toggles_0 : decode cX11_toggles 0 = .ok (.aload_n 0, 1) := by decide +kernel
theorem dX11_toggles_1 : decode cX11_toggles 1 = .ok (.iload_n 1, 1) := by decide +kernel
theorem dX11_toggles_2 : decode cX11_toggles 2 = .ok (.iload_n 2, 1) := by decide +kernel
theorem dX11_toggles_3 : decode cX11_toggles 3 = .ok (.invokestatic 74, 3) := by decide +kernel
theorem dX11_toggles_6 : decode cX11_toggles 6 = .ok (.invokevirtual 62, 3) := by decide +kernel
theorem dX11_toggles_9 : decode cX11_toggles 9 = .ok (.ifCond .ne 5, 3) := by decide +kernel
theorem dX11_toggles_12 : decode cX11_toggles 12 = .ok (.iconst 0, 1) := by decide +kernel
theorem dX11_toggles_13 : decode cX11_toggles 13 = .ok (.ireturn, 1) := by decide +kernel
theorem dX11_toggles_14 : decode cX11_toggles 14 = .ok (.iload_n 1, 1) := by decide +kernel
theorem dX11_toggles_15 : decode cX11_toggles 15 = .ok (.iload_n 2, 1) := by decide +kernel
theorem dX11_toggles_16 : decode cX11_toggles 16 = .ok (.invokestatic 93, 3) := by decide +kernel
theorem dX11_toggles_19 : decode cX11_toggles 19 = .ok (.invokestatic 41, 3) := by decide +kernel
theorem dX11_toggles_22 : decode cX11_toggles 22 = .ok (.iconst 2, 1) := by decide +kernel
theorem dX11_toggles_23 : decode cX11_toggles 23 = .ok (.iadd, 1) := by decide +kernel
theorem dX11_toggles_24 : decode cX11_toggles 24 = .ok (.istore_n 3, 1) := by decide +kernel
theorem dX11_toggles_25 : decode cX11_toggles 25 = .ok (.aload_n 0, 1) := by decide +kernel
theorem dX11_toggles_26 : decode cX11_toggles 26 = .ok (.getfield 9, 3) := by decide +kernel
theorem dX11_toggles_29 : decode cX11_toggles 29 = .ok (.iload_n 3, 1) := by decide +kernel
theorem dX11_toggles_30 : decode cX11_toggles 30 = .ok (.iconst 1, 1) := by decide +kernel
theorem dX11_toggles_31 : decode cX11_toggles 31 = .ok (.aload_n 0, 1) := by decide +kernel
theorem dX11_toggles_32 : decode cX11_toggles 32 = .ok (.getfield 9, 3) := by decide +kernel
theorem dX11_toggles_35 : decode cX11_toggles 35 = .ok (.iload_n 3, 1) := by decide +kernel
theorem dX11_toggles_36 : decode cX11_toggles 36 = .ok (.iaload, 1) := by decide +kernel
theorem dX11_toggles_37 : decode cX11_toggles 37 = .ok (.isub, 1) := by decide +kernel
theorem dX11_toggles_38 : decode cX11_toggles 38 = .ok (.iastore, 1) := by decide +kernel
theorem dX11_toggles_39 : decode cX11_toggles 39 = .ok (.aload_n 0, 1) := by decide +kernel
theorem dX11_toggles_40 : decode cX11_toggles 40 = .ok (.getfield 9, 3) := by decide +kernel
theorem dX11_toggles_43 : decode cX11_toggles 43 = .ok (.iload_n 3, 1) := by decide +kernel
theorem dX11_toggles_44 : decode cX11_toggles 44 = .ok (.iaload, 1) := by decide +kernel
theorem dX11_toggles_45 : decode cX11_toggles 45 = .ok (.ireturn, 1) := by decide +kernel
set_option maxRecDepth 20000 in
theorem ggX11_toggleLedge_X11_begins : GoodIn wsX11_toggleLedge wsX11_begins := goodIn_ca (goodIn_r _ [5, 6, 7, 8, 9, 4, 10, 46, 47, 48, 49, 50, 51, 52, 53, 54, 55, 56, 57, 58, 59, 60, 61, 62, 63, 64] (by decide +kernel) (by decide +kernel)) (goodIn_sub (fun _ h => List.mem_cons_of_mem _ (List.mem_append_right _ h)) (by decide +kernel))
set_option maxRecDepth 20000 in
theorem gX11_toggleLedge_X11_begins : GoodIn wsX11_toggleLedge (wsV RX11 100 RX11 yX11_begins wsX11_begins) := goodIn_app (goodIn_of _ (by decide +kernel)) ggX11_toggleLedge_X11_begins
set_option maxRecDepth 20000 in
theorem ggX11_toggleLedge_X11_toggles : GoodIn wsX11_toggleLedge wsX11_toggles := goodIn_ca (goodIn_r _ [14, 6, 15, 16, 4, 17, 18, 19, 20, 21, 22, 23, 24, 25, 26, 27, 28, 29, 30, 31, 32, 33, 34, 35, 46, 47, 48, 49, 50, 51, 52, 53, 54, 55, 56, 57, 58, 59, 60, 61, 62, 63, 64] (by decide +kernel) (by decide +kernel)) (goodIn_sub (fun _ h => List.mem_cons_of_mem _ (List.mem_append_right _ h)) (by decide +kernel))
set_option maxRecDepth 20000 in
theorem gX11_toggleLedge_X11_toggles : GoodIn wsX11_toggleLedge (wsV RX11 122 RX11 yX11_toggles wsX11_toggles) := goodIn_app (goodIn_of _ (by decide +kernel)) ggX11_toggleLedge_X11_toggles
set_option maxRecDepth 20000 in
theorem ggX11_toggleLedge_X11_ends : GoodIn wsX11_toggleLedge wsX11_ends := goodIn_ca (goodIn_r _ [39, 29, 7, 6, 8, 9, 4, 10, 40, 41, 42, 43, 44, 45, 46, 47, 48, 49, 50, 51, 52, 53, 54, 55, 56, 57, 58, 59, 60, 61, 62, 63, 64] (by decide +kernel) (by decide +kernel)) (goodIn_sub (fun _ h => List.mem_cons_of_mem _ (List.mem_append_right _ h)) (by decide +kernel))
set_option maxRecDepth 20000 in
theorem gX11_toggleLedge_X11_ends : GoodIn wsX11_toggleLedge (wsV RX11 107 RX11 yX11_ends wsX11_ends) := goodIn_app (goodIn_of _ (by decide +kernel)) ggX11_toggleLedge_X11_ends
theorem dX11_toggleLedge_0 : decode cX11_toggleLedge 0 = .ok (.aload_n 0, 1) := by decide +kernel
theorem dX11_toggleLedge_1 : decode cX11_toggleLedge 1 = .ok (.invokevirtual 100, 3) := by decide +kernel
theorem dX11_toggleLedge_4 : decode cX11_toggleLedge 4 = .ok (.aload_n 0, 1) := by decide +kernel
theorem dX11_toggleLedge_5 : decode cX11_toggleLedge 5 = .ok (.aload_n 0, 1) := by decide +kernel
theorem dX11_toggleLedge_6 : decode cX11_toggleLedge 6 = .ok (.iload_n 1, 1) := by decide +kernel
theorem dX11_toggleLedge_7 : decode cX11_toggleLedge 7 = .ok (.iload_n 2, 1) := by decide +kernel
theorem dX11_toggleLedge_8 : decode cX11_toggleLedge 8 = .ok (.invokevirtual 122, 3) := by decide +kernel
theorem dX11_toggleLedge_11 : decode cX11_toggleLedge 11 = .ok (.invokevirtual 107, 3) := by decide +kernel
theorem dX11_toggleLedge_14 : decode cX11_toggleLedge 14 = .ok (.iconst 1, 1) := by decide +kernel
theorem dX11_toggleLedge_15 : decode cX11_toggleLedge 15 = .ok (.if_icmp .ne 7, 3) := by decide +kernel
theorem dX11_toggleLedge_18 : decode cX11_toggleLedge 18 = .ok (.iconst 1, 1) := by decide +kernel
theorem dX11_toggleLedge_19 : decode cX11_toggleLedge 19 = .ok (.goto 4, 3) := by decide +kernel
theorem dX11_toggleLedge_22 : decode cX11_toggleLedge 22 = .ok (.iconst 0, 1) := by decide +kernel
theorem dX11_toggleLedge_23 : decode cX11_toggleLedge 23 = .ok (.ireturn, 1) := by decide +kernel
set_option maxRecDepth 20000 in
theorem ggX11_limits_X11_of : GoodIn wsX11_limits wsX11_of := goodIn_ca (goodIn_r _ [10, 5, 11, 12, 9, 13, 35, 36, 37, 38, 39, 40, 41, 42, 43, 44, 45, 46, 47, 48, 49, 50, 51, 52, 53] (by decide +kernel) (by decide +kernel)) (goodIn_sub (fun _ h => List.mem_cons_of_mem _ (List.mem_append_right _ h)) (by decide +kernel))
set_option maxRecDepth 20000 in
theorem gX11_limits_X11_of : GoodIn wsX11_limits (wsV RX11 87 RX11 yX11_of wsX11_of) := goodIn_app (goodIn_of _ (by decide +kernel)) ggX11_limits_X11_of
set_option maxRecDepth 20000 in
theorem ggX11_limits_X11_steepest : GoodIn wsX11_limits wsX11_steepest := goodIn_ca (goodIn_r _ [17, 18, 19, 3, 20, 1, 2, 4, 21, 22, 9, 23, 24, 25, 26, 27, 28, 29, 6, 7, 8, 10, 5, 11, 12, 13, 35, 36, 37, 38, 39, 40, 41, 42, 43, 44, 45, 46, 47, 48, 49, 50, 51, 52, 53] (by decide +kernel) (by decide +kernel)) (goodIn_sub (fun _ h => List.mem_cons_of_mem _ (List.mem_append_right _ h)) (by decide +kernel))
set_option maxRecDepth 20000 in
theorem gX11_limits_X11_steepest : GoodIn wsX11_limits (wsV RX11 110 RX11 yX11_steepest wsX11_steepest) := goodIn_app (goodIn_of _ (by decide +kernel)) ggX11_limits_X11_steepest
set_option maxRecDepth 20000 in
theorem ggX11_limits_X11_isIn : GoodIn wsX11_limits wsX11_isIn := goodIn_r _ [29] (by decide +kernel) (by decide +kernel)
set_option maxRecDepth 20000 in
theorem gX11_limits_X11_isIn : GoodIn wsX11_limits (va_wsS RX11 70 yX11_isIn wsX11_isIn) := goodIn_app (goodIn_of _ (by decide +kernel)) ggX11_limits_X11_isIn
set_option maxRecDepth 20000 in
theorem ggX11_limits_X11_holds : GoodIn wsX11_limits wsX11_holds := goodIn_r _ [33, 34, 35, 36, 37, 38, 39, 40, 41, 42, 43, 44, 45, 46, 47, 48, 49, 50, 51, 52, 53] (by decide +kernel) (by decide +kernel)
set_option maxRecDepth 20000 in
theorem gX11_limits_X11_holds : GoodIn wsX11_limits (wsV RX11 48 RX11 yX11_holds wsX11_holds) := goodIn_app (goodIn_of _ (by decide +kernel)) ggX11_limits_X11_holds
theorem dX11_limits_0 : decode cX11_limits 0 = .ok (.iconst 0, 1) := by decide +kernel
theorem dX11_limits_1 : decode cX11_limits 1 = .ok (.istore_n 2, 1) := by decide +kernel
theorem dX11_limits_2 : decode cX11_limits 2 = .ok (.iconst 0, 1) := by decide +kernel
theorem dX11_limits_3 : decode cX11_limits 3 = .ok (.istore_n 3, 1) := by decide +kernel
theorem dX11_limits_4 : decode cX11_limits 4 = .ok (.iload_n 3, 1) := by decide +kernel
theorem dX11_limits_5 : decode cX11_limits 5 = .ok (.bipush 30, 2) := by decide +kernel
theorem dX11_limits_7 : decode cX11_limits 7 = .ok (.if_icmp .ge 25, 3) := by decide +kernel
theorem dX11_limits_10 : decode cX11_limits 10 = .ok (.iload_n 2, 1) := by decide +kernel
theorem dX11_limits_11 : decode cX11_limits 11 = .ok (.aload_n 0, 1) := by decide +kernel
theorem dX11_limits_12 : decode cX11_limits 12 = .ok (.iload_n 3, 1) := by decide +kernel
theorem dX11_limits_13 : decode cX11_limits 13 = .ok (.aload_n 0, 1) := by decide +kernel
theorem dX11_limits_14 : decode cX11_limits 14 = .ok (.iload_n 3, 1) := by decide +kernel
theorem dX11_limits_15 : decode cX11_limits 15 = .ok (.iconst 0, 1) := by decide +kernel
theorem dX11_limits_16 : decode cX11_limits 16 = .ok (.invokevirtual 87, 3) := by decide +kernel
theorem dX11_limits_19 : decode cX11_limits 19 = .ok (.invokevirtual 110, 3) := by decide +kernel
theorem dX11_limits_22 : decode cX11_limits 22 = .ok (.invokestatic 90, 3) := by decide +kernel
theorem dX11_limits_25 : decode cX11_limits 25 = .ok (.istore_n 2, 1) := by decide +kernel
theorem dX11_limits_26 : decode cX11_limits 26 = .ok (.iinc 3 1, 3) := by decide +kernel
theorem dX11_limits_29 : decode cX11_limits 29 = .ok (.goto (-25), 3) := by decide +kernel
theorem dX11_limits_32 : decode cX11_limits 32 = .ok (.aload_n 0, 1) := by decide +kernel
theorem dX11_limits_33 : decode cX11_limits 33 = .ok (.getfield 9, 3) := by decide +kernel
theorem dX11_limits_36 : decode cX11_limits 36 = .ok (.iconst 0, 1) := by decide +kernel
theorem dX11_limits_37 : decode cX11_limits 37 = .ok (.iaload, 1) := by decide +kernel
theorem dX11_limits_38 : decode cX11_limits 38 = .ok (.istore_n 3, 1) := by decide +kernel
theorem dX11_limits_39 : decode cX11_limits 39 = .ok (.aload_n 0, 1) := by decide +kernel
theorem dX11_limits_40 : decode cX11_limits 40 = .ok (.iload_n 1, 1) := by decide +kernel
theorem dX11_limits_41 : decode cX11_limits 41 = .ok (.iconst 1, 1) := by decide +kernel
theorem dX11_limits_42 : decode cX11_limits 42 = .ok (.iconst 4, 1) := by decide +kernel
theorem dX11_limits_43 : decode cX11_limits 43 = .ok (.invokestatic 70, 3) := by decide +kernel
theorem dX11_limits_46 : decode cX11_limits 46 = .ok (.iload_n 2, 1) := by decide +kernel
theorem dX11_limits_47 : decode cX11_limits 47 = .ok (.iload_n 1, 1) := by decide +kernel
theorem dX11_limits_48 : decode cX11_limits 48 = .ok (.if_icmp .gt 7, 3) := by decide +kernel
theorem dX11_limits_51 : decode cX11_limits 51 = .ok (.iconst 1, 1) := by decide +kernel
theorem dX11_limits_52 : decode cX11_limits 52 = .ok (.goto 4, 3) := by decide +kernel
theorem dX11_limits_55 : decode cX11_limits 55 = .ok (.iconst 0, 1) := by decide +kernel
theorem dX11_limits_56 : decode cX11_limits 56 = .ok (.iconst 1, 1) := by decide +kernel
theorem dX11_limits_57 : decode cX11_limits 57 = .ok (.iconst 1, 1) := by decide +kernel
theorem dX11_limits_58 : decode cX11_limits 58 = .ok (.invokevirtual 48, 3) := by decide +kernel
theorem dX11_limits_61 : decode cX11_limits 61 = .ok (.ifCond .eq 10, 3) := by decide +kernel
theorem dX11_limits_64 : decode cX11_limits 64 = .ok (.aload_n 0, 1) := by decide +kernel
theorem dX11_limits_65 : decode cX11_limits 65 = .ok (.getfield 9, 3) := by decide +kernel
theorem dX11_limits_68 : decode cX11_limits 68 = .ok (.iconst 0, 1) := by decide +kernel
theorem dX11_limits_69 : decode cX11_limits 69 = .ok (.iload_n 1, 1) := by decide +kernel
theorem dX11_limits_70 : decode cX11_limits 70 = .ok (.iastore, 1) := by decide +kernel
theorem dX11_limits_71 : decode cX11_limits 71 = .ok (.iload_n 3, 1) := by decide +kernel
theorem dX11_limits_72 : decode cX11_limits 72 = .ok (.ireturn, 1) := by decide +kernel
set_option maxRecDepth 20000 in
theorem ggX11_setStepLimit_X11_begins : GoodIn wsX11_setStepLimit wsX11_begins := goodIn_ca (goodIn_r _ [5, 6, 7, 8, 9, 4, 10, 57, 58, 59, 60, 61, 62, 63, 64, 65, 66, 67, 68, 69, 70, 71, 72, 73, 74, 75] (by decide +kernel) (by decide +kernel)) (goodIn_sub (fun _ h => List.mem_cons_of_mem _ (List.mem_append_right _ h)) (by decide +kernel))
set_option maxRecDepth 20000 in
theorem gX11_setStepLimit_X11_begins : GoodIn wsX11_setStepLimit (wsV RX11 100 RX11 yX11_begins wsX11_begins) := goodIn_app (goodIn_of _ (by decide +kernel)) ggX11_setStepLimit_X11_begins
set_option maxRecDepth 20000 in
theorem ggX11_setStepLimit_X11_limits : GoodIn wsX11_setStepLimit wsX11_limits := goodIn_ca (goodIn_r _ [14, 15, 16, 17, 18, 6, 19, 20, 21, 4, 22, 23, 24, 25, 26, 27, 28, 29, 30, 31, 32, 33, 34, 35, 36, 37, 38, 39, 40, 41, 42, 43, 44, 45, 46, 57, 58, 59, 60, 61, 62, 63, 64, 65, 66, 67, 68, 69, 70, 71, 72, 73, 74, 75] (by decide +kernel) (by decide +kernel)) (goodIn_sub (fun _ h => List.mem_cons_of_mem _ (List.mem_append_right _ h)) (by decide +kernel))
set_option maxRecDepth 20000 in
theorem gX11_setStepLimit_X11_limits : GoodIn wsX11_setStepLimit (wsV RX11 125 RX11 yX11_limits wsX11_limits) := goodIn_app (goodIn_of _ (by decide +kernel)) ggX11_setStepLimit_X11_limits
set_option maxRecDepth 20000 in
theorem ggX11_setStepLimit_X11_ends : GoodIn wsX11_setStepLimit wsX11_ends := goodIn_ca (goodIn_r _ [50, 46, 7, 6, 8, 9, 4, 10, 51, 52, 53, 54, 55, 56, 57, 58, 59, 60, 61, 62, 63, 64, 65, 66, 67, 68, 69, 70, 71, 72, 73, 74, 75] (by decide +kernel) (by decide +kernel)) (goodIn_sub (fun _ h => List.mem_cons_of_mem _ (List.mem_append_right _ h)) (by decide +kernel))
set_option maxRecDepth 20000 in
theorem gX11_setStepLimit_X11_ends : GoodIn wsX11_setStepLimit (wsV RX11 107 RX11 yX11_ends wsX11_ends) := goodIn_app (goodIn_of _ (by decide +kernel)) ggX11_setStepLimit_X11_ends
theorem dX11_setStepLimit_0 : decode cX11_setStepLimit 0 = .ok (.aload_n 0, 1) := by decide +kernel
theorem dX11_setStepLimit_1 : decode cX11_setStepLimit 1 = .ok (.invokevirtual 100, 3) := by decide +kernel
theorem dX11_setStepLimit_4 : decode cX11_setStepLimit 4 = .ok (.aload_n 0, 1) := by decide +kernel
theorem dX11_setStepLimit_5 : decode cX11_setStepLimit 5 = .ok (.aload_n 0, 1) := by decide +kernel
theorem dX11_setStepLimit_6 : decode cX11_setStepLimit 6 = .ok (.iload_n 1, 1) := by decide +kernel
theorem dX11_setStepLimit_7 : decode cX11_setStepLimit 7 = .ok (.invokevirtual 125, 3) := by decide +kernel
theorem dX11_setStepLimit_10 : decode cX11_setStepLimit 10 = .ok (.invokevirtual 107, 3) := by decide +kernel
theorem dX11_setStepLimit_13 : decode cX11_setStepLimit 13 = .ok (.ireturn, 1) := by decide +kernel
set_option maxRecDepth 20000 in
theorem ggX11_isWinch_X11_isIn : GoodIn wsX11_isWinch wsX11_isIn := goodIn_r _ [5] (by decide +kernel) (by decide +kernel)
set_option maxRecDepth 20000 in
theorem gX11_isWinch_X11_isIn : GoodIn wsX11_isWinch (va_wsS RX11 70 yX11_isIn wsX11_isIn) := goodIn_app (goodIn_of _ (by decide +kernel)) ggX11_isWinch_X11_isIn
theorem dX11_isWinch_0 : decode cX11_isWinch 0 = .ok (.iload_n 1, 1) := by decide +kernel
theorem dX11_isWinch_1 : decode cX11_isWinch 1 = .ok (.iconst 0, 1) := by decide +kernel
theorem dX11_isWinch_2 : decode cX11_isWinch 2 = .ok (.aload_n 0, 1) := by decide +kernel
theorem dX11_isWinch_3 : decode cX11_isWinch 3 = .ok (.getfield 9, 3) := by decide +kernel
theorem dX11_isWinch_6 : decode cX11_isWinch 6 = .ok (.iconst 5, 1) := by decide +kernel
theorem dX11_isWinch_7 : decode cX11_isWinch 7 = .ok (.iaload, 1) := by decide +kernel
theorem dX11_isWinch_8 : decode cX11_isWinch 8 = .ok (.iconst 1, 1) := by decide +kernel
theorem dX11_isWinch_9 : decode cX11_isWinch 9 = .ok (.isub, 1) := by decide +kernel
theorem dX11_isWinch_10 : decode cX11_isWinch 10 = .ok (.invokestatic 70, 3) := by decide +kernel
theorem dX11_isWinch_13 : decode cX11_isWinch 13 = .ok (.ireturn, 1) := by decide +kernel
theorem dX11_ofWinch_0 : decode cX11_ofWinch 0 = .ok (.aload_n 0, 1) := by decide +kernel
theorem dX11_ofWinch_1 : decode cX11_ofWinch 1 = .ok (.getfield 9, 3) := by decide +kernel
theorem dX11_ofWinch_4 : decode cX11_ofWinch 4 = .ok (.bipush 10, 2) := by decide +kernel
theorem dX11_ofWinch_6 : decode cX11_ofWinch 6 = .ok (.iconst 3, 1) := by decide +kernel
