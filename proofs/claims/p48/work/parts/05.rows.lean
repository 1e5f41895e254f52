theorem dX8_seamsByMerging_65 : decode cX8_seamsByMerging 65 = .ok (.aload_n 0, 1) := by decide +kernel
theorem dX8_seamsByMerging_66 : decode cX8_seamsByMerging 66 = .ok (.getfield 20, 3) := by decide +kernel
theorem dX8_seamsByMerging_69 : decode cX8_seamsByMerging 69 = .ok (.iload_n 3, 1) := by decide +kernel
theorem dX8_seamsByMerging_70 : decode cX8_seamsByMerging 70 = .ok (.iaload, 1) := by decide +kernel
theorem dX8_seamsByMerging_71 : decode cX8_seamsByMerging 71 = .ok (.aload_n 0, 1) := by decide +kernel
theorem dX8_seamsByMerging_72 : decode cX8_seamsByMerging 72 = .ok (.getfield 20, 3) := by decide +kernel
theorem dX8_seamsByMerging_75 : decode cX8_seamsByMerging 75 = .ok (.iload 5, 2) := by decide +kernel
theorem dX8_seamsByMerging_77 : decode cX8_seamsByMerging 77 = .ok (.iaload, 1) := by decide +kernel
theorem dX8_seamsByMerging_78 : decode cX8_seamsByMerging 78 = .ok (.if_icmp .eq 23, 3) := by decide +kernel
theorem dX8_seamsByMerging_81 : decode cX8_seamsByMerging 81 = .ok (.aload_n 0, 1) := by decide +kernel
theorem dX8_seamsByMerging_82 : decode cX8_seamsByMerging 82 = .ok (.aload_n 0, 1) := by decide +kernel
theorem dX8_seamsByMerging_83 : decode cX8_seamsByMerging 83 = .ok (.getfield 20, 3) := by decide +kernel
theorem dX8_seamsByMerging_86 : decode cX8_seamsByMerging 86 = .ok (.iload 5, 2) := by decide +kernel
theorem dX8_seamsByMerging_88 : decode cX8_seamsByMerging 88 = .ok (.iaload, 1) := by decide +kernel
theorem dX8_seamsByMerging_89 : decode cX8_seamsByMerging 89 = .ok (.aload_n 0, 1) := by decide +kernel
theorem dX8_seamsByMerging_90 : decode cX8_seamsByMerging 90 = .ok (.getfield 20, 3) := by decide +kernel
theorem dX8_seamsByMerging_93 : decode cX8_seamsByMerging 93 = .ok (.iload_n 3, 1) := by decide +kernel
theorem dX8_seamsByMerging_94 : decode cX8_seamsByMerging 94 = .ok (.iaload, 1) := by decide +kernel
theorem dX8_seamsByMerging_95 : decode cX8_seamsByMerging 95 = .ok (.invokevirtual 62, 3) := by decide +kernel
theorem dX8_seamsByMerging_98 : decode cX8_seamsByMerging 98 = .ok (.iinc 2 (-1), 3) := by decide +kernel
theorem dX8_seamsByMerging_101 : decode cX8_seamsByMerging 101 = .ok (.iinc 4 1, 3) := by decide +kernel
theorem dX8_seamsByMerging_104 : decode cX8_seamsByMerging 104 = .ok (.goto (-63), 3) := by decide +kernel
theorem dX8_seamsByMerging_107 : decode cX8_seamsByMerging 107 = .ok (.iinc 3 1, 3) := by decide +kernel
theorem dX8_seamsByMerging_110 : decode cX8_seamsByMerging 110 = .ok (.goto (-78), 3) := by decide +kernel
theorem dX8_seamsByMerging_113 : decode cX8_seamsByMerging 113 = .ok (.iload_n 2, 1) := by decide +kernel
theorem dX8_seamsByMerging_114 : decode cX8_seamsByMerging 114 = .ok (.ireturn, 1) := by decide +kernel
theorem dX8_relabel_0 : decode cX8_relabel 0 = .ok (.iconst 0, 1) := by decide +kernel
theorem dX8_relabel_1 : decode cX8_relabel 1 = .ok (.istore_n 3, 1) := by decide +kernel
theorem dX8_relabel_2 : decode cX8_relabel 2 = .ok (.iload_n 3, 1) := by decide +kernel
theorem dX8_relabel_3 : decode cX8_relabel 3 = .ok (.bipush 30, 2) := by decide +kernel
theorem dX8_relabel_5 : decode cX8_relabel 5 = .ok (.if_icmp .ge 26, 3) := by decide +kernel
theorem dX8_relabel_8 : decode cX8_relabel 8 = .ok (.aload_n 0, 1) := by decide +kernel
theorem dX8_relabel_9 : decode cX8_relabel 9 = .ok (.getfield 20, 3) := by decide +kernel
theorem dX8_relabel_12 : decode cX8_relabel 12 = .ok (.iload_n 3, 1) := by decide +kernel
theorem dX8_relabel_13 : decode cX8_relabel 13 = .ok (.iaload, 1) := by decide +kernel
theorem dX8_relabel_14 : decode cX8_relabel 14 = .ok (.iload_n 1, 1) := by decide +kernel
theorem dX8_relabel_15 : decode cX8_relabel 15 = .ok (.if_icmp .ne 10, 3) := by decide +kernel
theorem dX8_relabel_18 : decode cX8_relabel 18 = .ok (.aload_n 0, 1) := by decide +kernel
theorem dX8_relabel_19 : decode cX8_relabel 19 = .ok (.getfield 20, 3) := by decide +kernel
theorem dX8_relabel_22 : decode cX8_relabel 22 = .ok (.iload_n 3, 1) := by decide +kernel
theorem dX8_relabel_23 : decode cX8_relabel 23 = .ok (.iload_n 2, 1) := by decide +kernel
theorem dX8_relabel_24 : decode cX8_relabel 24 = .ok (.iastore, 1) := by decide +kernel
theorem dX8_relabel_25 : decode cX8_relabel 25 = .ok (.iinc 3 1, 3) := by decide +kernel
theorem dX8_relabel_28 : decode cX8_relabel 28 = .ok (.goto (-26), 3) := by decide +kernel
theorem dX8_relabel_31 : decode cX8_relabel 31 = .ok (.return_, 1) := by decide +kernel
set_option maxRecDepth 20000 in
theorem ggX8_shortestPath_X7_hasLedgeAt : GoodIn wsX8_shortestPath wsX7_hasLedgeAt := goodIn_ca (goodIn_r _ [7, 8, 31, 32, 33, 34, 35, 36, 37, 38, 39, 40, 41, 42, 43, 44, 45] (by decide +kernel) (by decide +kernel)) (goodIn_sub (fun _ h => List.mem_cons_of_mem _ (List.mem_append_right _ h)) (by decide +kernel))
set_option maxRecDepth 20000 in
theorem gX8_shortestPath_X7_hasLedgeAt : GoodIn wsX8_shortestPath (wsV RX8 66 RX7 yX7_hasLedgeAt wsX7_hasLedgeAt) := goodIn_app (goodIn_of _ (by decide +kernel)) ggX8_shortestPath_X7_hasLedgeAt
set_option maxRecDepth 20000 in
theorem ggX8_shortestPath_X3_neighbour : GoodIn wsX8_shortestPath wsX3_neighbour := goodIn_r _ [12] (by decide +kernel) (by decide +kernel)
set_option maxRecDepth 20000 in
theorem gX8_shortestPath_X3_neighbour : GoodIn wsX8_shortestPath (va_wsS RX8 34 yX3_neighbour wsX3_neighbour) := goodIn_app (goodIn_of _ (by decide +kernel)) ggX8_shortestPath_X3_neighbour
set_option maxRecDepth 20000 in
theorem ggX8_shortestPath_X8_canWalk : GoodIn wsX8_shortestPath wsX8_canWalk := goodIn_ca (goodIn_r _ [16, 17, 18, 19, 20, 3, 4, 5, 6, 7, 8, 21, 22, 23, 24, 25, 31, 32, 33, 34, 35, 36, 37, 38, 39, 40, 41, 42, 43, 44, 45] (by decide +kernel) (by decide +kernel)) (goodIn_sub (fun _ h => List.mem_cons_of_mem _ (List.mem_append_right _ h)) (by decide +kernel))
set_option maxRecDepth 20000 in
theorem gX8_shortestPath_X8_canWalk : GoodIn wsX8_shortestPath (va_wsS RX8 70 yX8_canWalk wsX8_canWalk) := goodIn_app (goodIn_of _ (by decide +kernel)) ggX8_shortestPath_X8_canWalk
theorem dX8_shortestPath_0 : decode cX8_shortestPath 0 = .ok (.iconst 0, 1) := by decide +kernel
theorem dX8_shortestPath_1 : decode cX8_shortestPath 1 = .ok (.istore 4, 2) := by decide +kernel
theorem dX8_shortestPath_3 : decode cX8_shortestPath 3 = .ok (.iload 4, 2) := by decide +kernel
theorem dX8_shortestPath_5 : decode cX8_shortestPath 5 = .ok (.bipush 30, 2) := by decide +kernel
theorem dX8_shortestPath_7 : decode cX8_shortestPath 7 = .ok (.if_icmp .ge 17, 3) := by decide +kernel
theorem dX8_shortestPath_10 : decode cX8_shortestPath 10 = .ok (.aload_n 0, 1) := by decide +kernel
theorem dX8_shortestPath_11 : decode cX8_shortestPath 11 = .ok (.getfield 23, 3) := by decide +kernel
theorem dX8_shortestPath_14 : decode cX8_shortestPath 14 = .ok (.iload 4, 2) := by decide +kernel
theorem dX8_shortestPath_16 : decode cX8_shortestPath 16 = .ok (.iconst (-1), 1) := by decide +kernel
theorem dX8_shortestPath_17 : decode cX8_shortestPath 17 = .ok (.iastore, 1) := by decide +kernel
theorem dX8_shortestPath_18 : decode cX8_shortestPath 18 = .ok (.iinc 4 1, 3) := by decide +kernel
theorem dX8_shortestPath_21 : decode cX8_shortestPath 21 = .ok (.goto (-18), 3) := by decide +kernel
theorem dX8_shortestPath_24 : decode cX8_shortestPath 24 = .ok (.aload_n 1, 1) := by decide +kernel
theorem dX8_shortestPath_25 : decode cX8_shortestPath 25 = .ok (.iload_n 2, 1) := by decide +kernel
theorem dX8_shortestPath_26 : decode cX8_shortestPath 26 = .ok (.invokevirtual 66, 3) := by decide +kernel
theorem dX8_shortestPath_29 : decode cX8_shortestPath 29 = .ok (.ifCond .eq 5, 3) := by decide +kernel
theorem dX8_shortestPath_32 : decode cX8_shortestPath 32 = .ok (.iconst (-1), 1) := by decide +kernel
theorem dX8_shortestPath_33 : decode cX8_shortestPath 33 = .ok (.ireturn, 1) := by decide +kernel
theorem dX8_shortestPath_34 : decode cX8_shortestPath 34 = .ok (.aload_n 0, 1) := by decide +kernel
theorem dX8_shortestPath_35 : decode cX8_shortestPath 35 = .ok (.getfield 23, 3) := by decide +kernel
theorem dX8_shortestPath_38 : decode cX8_shortestPath 38 = .ok (.iload_n 2, 1) := by decide +kernel
theorem dX8_shortestPath_39 : decode cX8_shortestPath 39 = .ok (.iconst 0, 1) := by decide +kernel
theorem dX8_shortestPath_40 : decode cX8_shortestPath 40 = .ok (.iastore, 1) := by decide +kernel
theorem dX8_shortestPath_41 : decode cX8_shortestPath 41 = .ok (.aload_n 0, 1) := by decide +kernel
theorem dX8_shortestPath_42 : decode cX8_shortestPath 42 = .ok (.getfield 11, 3) := by decide +kernel
theorem dX8_shortestPath_45 : decode cX8_shortestPath 45 = .ok (.iconst 0, 1) := by decide +kernel
theorem dX8_shortestPath_46 : decode cX8_shortestPath 46 = .ok (.iload_n 2, 1) := by decide +kernel
theorem dX8_shortestPath_47 : decode cX8_shortestPath 47 = .ok (.iastore, 1) := by decide +kernel
theorem dX8_shortestPath_48 : decode cX8_shortestPath 48 = .ok (.iconst 1, 1) := by decide +kernel
theorem dX8_shortestPath_49 : decode cX8_shortestPath 49 = .ok (.istore 4, 2) := by decide +kernel
theorem dX8_shortestPath_51 : decode cX8_shortestPath 51 = .ok (.iconst 0, 1) := by decide +kernel
theorem dX8_shortestPath_52 : decode cX8_shortestPath 52 = .ok (.istore 5, 2) := by decide +kernel
theorem dX8_shortestPath_54 : decode cX8_shortestPath 54 = .ok (.iload 5, 2) := by decide +kernel
theorem dX8_shortestPath_56 : decode cX8_shortestPath 56 = .ok (.iload 4, 2) := by decide +kernel
theorem dX8_shortestPath_58 : decode cX8_shortestPath 58 = .ok (.if_icmp .ge 118, 3) := by decide +kernel
theorem dX8_shortestPath_61 : decode cX8_shortestPath 61 = .ok (.iload 5, 2) := by decide +kernel
theorem dX8_shortestPath_63 : decode cX8_shortestPath 63 = .ok (.aload_n 0, 1) := by decide +kernel
theorem dX8_shortestPath_64 : decode cX8_shortestPath 64 = .ok (.getfield 11, 3) := by decide +kernel
theorem dX8_shortestPath_67 : decode cX8_shortestPath 67 = .ok (.arraylength, 1) := by decide +kernel
theorem dX8_shortestPath_68 : decode cX8_shortestPath 68 = .ok (.if_icmp .ge 108, 3) := by decide +kernel
theorem dX8_shortestPath_71 : decode cX8_shortestPath 71 = .ok (.iconst 0, 1) := by decide +kernel
theorem dX8_shortestPath_72 : decode cX8_shortestPath 72 = .ok (.istore 6, 2) := by decide +kernel
theorem dX8_shortestPath_74 : decode cX8_shortestPath 74 = .ok (.iload 6, 2) := by decide +kernel
theorem dX8_shortestPath_76 : decode cX8_shortestPath 76 = .ok (.iconst 4, 1) := by decide +kernel
theorem dX8_shortestPath_77 : decode cX8_shortestPath 77 = .ok (.if_icmp .ge 93, 3) := by decide +kernel
theorem dX8_shortestPath_80 : decode cX8_shortestPath 80 = .ok (.aload_n 0, 1) := by decide +kernel
theorem dX8_shortestPath_81 : decode cX8_shortestPath 81 = .ok (.getfield 11, 3) := by decide +kernel
theorem dX8_shortestPath_84 : decode cX8_shortestPath 84 = .ok (.iload 5, 2) := by decide +kernel
theorem dX8_shortestPath_86 : decode cX8_shortestPath 86 = .ok (.iaload, 1) := by decide +kernel
theorem dX8_shortestPath_87 : decode cX8_shortestPath 87 = .ok (.iload 6, 2) := by decide +kernel
theorem dX8_shortestPath_89 : decode cX8_shortestPath 89 = .ok (.invokestatic 34, 3) := by decide +kernel
theorem dX8_shortestPath_92 : decode cX8_shortestPath 92 = .ok (.istore 7, 2) := by decide +kernel
theorem dX8_shortestPath_94 : decode cX8_shortestPath 94 = .ok (.aload_n 1, 1) := by decide +kernel
theorem dX8_shortestPath_95 : decode cX8_shortestPath 95 = .ok (.aload_n 0, 1) := by decide +kernel
theorem dX8_shortestPath_96 : decode cX8_shortestPath 96 = .ok (.getfield 11, 3) := by decide +kernel
theorem dX8_shortestPath_99 : decode cX8_shortestPath 99 = .ok (.iload 5, 2) := by decide +kernel
theorem dX8_shortestPath_101 : decode cX8_shortestPath 101 = .ok (.iaload, 1) := by decide +kernel
theorem dX8_shortestPath_102 : decode cX8_shortestPath 102 = .ok (.iload 7, 2) := by decide +kernel
theorem dX8_shortestPath_104 : decode cX8_shortestPath 104 = .ok (.invokestatic 70, 3) := by decide +kernel
theorem dX8_shortestPath_107 : decode cX8_shortestPath 107 = .ok (.ifCond .eq 57, 3) := by decide +kernel
theorem dX8_shortestPath_110 : decode cX8_shortestPath 110 = .ok (.aload_n 0, 1) := by decide +kernel
theorem dX8_shortestPath_111 : decode cX8_shortestPath 111 = .ok (.getfield 23, 3) := by decide +kernel
theorem dX8_shortestPath_114 : decode cX8_shortestPath 114 = .ok (.iload 7, 2) := by decide +kernel
theorem dX8_shortestPath_116 : decode cX8_shortestPath 116 = .ok (.iaload, 1) := by decide +kernel
theorem dX8_shortestPath_117 : decode cX8_shortestPath 117 = .ok (.iconst (-1), 1) := by decide +kernel
theorem dX8_shortestPath_118 : decode cX8_shortestPath 118 = .ok (.if_icmp .ne 46, 3) := by decide +kernel
theorem dX8_shortestPath_121 : decode cX8_shortestPath 121 = .ok (.iload 4, 2) := by decide +kernel
theorem dX8_shortestPath_123 : decode cX8_shortestPath 123 = .ok (.aload_n 0, 1) := by decide +kernel
theorem dX8_shortestPath_124 : decode cX8_shortestPath 124 = .ok (.getfield 11, 3) := by decide +kernel
theorem dX8_shortestPath_127 : decode cX8_shortestPath 127 = .ok (.arraylength, 1) := by decide +kernel
theorem dX8_shortestPath_128 : decode cX8_shortestPath 128 = .ok (.if_icmp .ge 36, 3) := by decide +kernel
theorem dX8_shortestPath_131 : decode cX8_shortestPath 131 = .ok (.aload_n 0, 1) := by decide +kernel
theorem dX8_shortestPath_132 : decode cX8_shortestPath 132 = .ok (.getfield 23, 3) := by decide +kernel
theorem dX8_shortestPath_135 : decode cX8_shortestPath 135 = .ok (.iload 7, 2) := by decide +kernel
theorem dX8_shortestPath_137 : decode cX8_shortestPath 137 = .ok (.aload_n 0, 1) := by decide +kernel
theorem dX8_shortestPath_138 : decode cX8_shortestPath 138 = .ok (.getfield 23, 3) := by decide +kernel
theorem dX8_shortestPath_141 : decode cX8_shortestPath 141 = .ok (.aload_n 0, 1) := by decide +kernel
theorem dX8_shortestPath_142 : decode cX8_shortestPath 142 = .ok (.getfield 11, 3) := by decide +kernel
theorem dX8_shortestPath_145 : decode cX8_shortestPath 145 = .ok (.iload 5, 2) := by decide +kernel
theorem dX8_shortestPath_147 : decode cX8_shortestPath 147 = .ok (.iaload, 1) := by decide +kernel
theorem dX8_shortestPath_148 : decode cX8_shortestPath 148 = .ok (.iaload, 1) := by decide +kernel
theorem dX8_shortestPath_149 : decode cX8_shortestPath 149 = .ok (.iconst 1, 1) := by decide +kernel
theorem dX8_shortestPath_150 : decode cX8_shortestPath 150 = .ok (.iadd, 1) := by decide +kernel
theorem dX8_shortestPath_151 : decode cX8_shortestPath 151 = .ok (.iastore, 1) := by decide +kernel
theorem dX8_shortestPath_152 : decode cX8_shortestPath 152 = .ok (.aload_n 0, 1) := by decide +kernel
theorem dX8_shortestPath_153 : decode cX8_shortestPath 153 = .ok (.getfield 11, 3) := by decide +kernel
theorem dX8_shortestPath_156 : decode cX8_shortestPath 156 = .ok (.iload 4, 2) := by decide +kernel
theorem dX8_shortestPath_158 : decode cX8_shortestPath 158 = .ok (.iload 7, 2) := by decide +kernel
theorem dX8_shortestPath_160 : decode cX8_shortestPath 160 = .ok (.iastore, 1) := by decide +kernel
theorem dX8_shortestPath_161 : decode cX8_shortestPath 161 = .ok (.iinc 4 1, 3) := by decide +kernel
theorem dX8_shortestPath_164 : decode cX8_shortestPath 164 = .ok (.iinc 6 1, 3) := by decide +kernel
theorem dX8_shortestPath_167 : decode cX8_shortestPath 167 = .ok (.goto (-93), 3) := by decide +kernel
theorem dX8_shortestPath_170 : decode cX8_shortestPath 170 = .ok (.iinc 5 1, 3) := by decide +kernel
theorem dX8_shortestPath_173 : decode cX8_shortestPath 173 = .ok (.goto (-119), 3) := by decide +kernel
theorem dX8_shortestPath_176 : decode cX8_shortestPath 176 = .ok (.aload_n 0, 1) := by decide +kernel
theorem dX8_shortestPath_177 : decode cX8_shortestPath 177 = .ok (.getfield 23, 3) := by decide +kernel
theorem dX8_shortestPath_180 : decode cX8_shortestPath 180 = .ok (.iload_n 3, 1) := by decide +kernel
theorem dX8_shortestPath_181 : decode cX8_shortestPath 181 = .ok (.iaload, 1) := by decide +kernel
theorem dX8_shortestPath_182 : decode cX8_shortestPath 182 = .ok (.ireturn, 1) := by decide +kernel
set_option maxRecDepth 20000 in
theorem ggX8_canWalk_X7_hasLedgeAt : GoodIn wsX8_canWalk wsX7_hasLedgeAt := goodIn_ca (goodIn_r _ [9, 10, 16, 17, 18, 19, 20, 21, 22, 23, 24, 25, 26, 27, 28, 29, 30] (by decide +kernel) (by decide +kernel)) (goodIn_sub (fun _ h => List.mem_cons_of_mem _ (List.mem_append_right _ h)) (by decide +kernel))
set_option maxRecDepth 20000 in
theorem gX8_canWalk_X7_hasLedgeAt : GoodIn wsX8_canWalk (wsV RX8 66 RX7 yX7_hasLedgeAt wsX7_hasLedgeAt) := goodIn_app (goodIn_of _ (by decide +kernel)) ggX8_canWalk_X7_hasLedgeAt
set_option maxRecDepth 20000 in
theorem ggX8_canWalk_X7_heightAt : GoodIn wsX8_canWalk wsX7_heightAt := goodIn_ca (goodIn_r _ [14, 15, 16, 17, 18, 19, 20, 21, 22, 23, 24, 25, 26, 27, 28, 29, 30] (by decide +kernel) (by decide +kernel)) (goodIn_sub (fun _ h => List.mem_cons_of_mem _ (List.mem_append_right _ h)) (by decide +kernel))
set_option maxRecDepth 20000 in
theorem gX8_canWalk_X7_heightAt : GoodIn wsX8_canWalk (wsV RX8 30 RX7 yX7_heightAt wsX7_heightAt) := goodIn_app (goodIn_of _ (by decide +kernel)) ggX8_canWalk_X7_heightAt
theorem dX8_canWalk_0 : decode cX8_canWalk 0 = .ok (.iload_n 2, 1) := by decide +kernel
theorem dX8_canWalk_1 : decode cX8_canWalk 1 = .ok (.iconst (-1), 1) := by decide +kernel
theorem dX8_canWalk_2 : decode cX8_canWalk 2 = .ok (.if_icmp .eq 33, 3) := by decide +kernel
theorem dX8_canWalk_5 : decode cX8_canWalk 5 = .ok (.aload_n 0, 1) := by decide +kernel
theorem dX8_canWalk_6 : decode cX8_canWalk 6 = .ok (.iload_n 2, 1) := by decide +kernel
theorem dX8_canWalk_7 : decode cX8_canWalk 7 = .ok (.invokevirtual 66, 3) := by decide +kernel
theorem dX8_canWalk_10 : decode cX8_canWalk 10 = .ok (.ifCond .ne 25, 3) := by decide +kernel
theorem dX8_canWalk_13 : decode cX8_canWalk 13 = .ok (.aload_n 0, 1) := by decide +kernel
theorem dX8_canWalk_14 : decode cX8_canWalk 14 = .ok (.iload_n 1, 1) := by decide +kernel
theorem dX8_canWalk_15 : decode cX8_canWalk 15 = .ok (.invokevirtual 30, 3) := by decide +kernel
theorem dX8_canWalk_18 : decode cX8_canWalk 18 = .ok (.aload_n 0, 1) := by decide +kernel
theorem dX8_canWalk_19 : decode cX8_canWalk 19 = .ok (.iload_n 2, 1) := by decide +kernel
theorem dX8_canWalk_20 : decode cX8_canWalk 20 = .ok (.invokevirtual 30, 3) := by decide +kernel
theorem dX8_canWalk_23 : decode cX8_canWalk 23 = .ok (.isub, 1) := by decide +kernel
theorem dX8_canWalk_24 : decode cX8_canWalk 24 = .ok (.invokestatic 73, 3) := by decide +kernel
theorem dX8_canWalk_27 : decode cX8_canWalk 27 = .ok (.iconst 1, 1) := by decide +kernel
theorem dX8_canWalk_28 : decode cX8_canWalk 28 = .ok (.if_icmp .gt 7, 3) := by decide +kernel
theorem dX8_canWalk_31 : decode cX8_canWalk 31 = .ok (.iconst 1, 1) := by decide +kernel
theorem dX8_canWalk_32 : decode cX8_canWalk 32 = .ok (.goto 4, 3) := by decide +kernel
theorem dX8_canWalk_35 : decode cX8_canWalk 35 = .ok (.iconst 0, 1) := by decide +kernel
theorem dX8_canWalk_36 : decode cX8_canWalk 36 = .ok (.ireturn, 1) := by decide +kernel
theorem dX9_total_0 : decode cX9_total 0 = .ok (.getstatic 51, 3) := by decide +kernel
theorem dX9_total_3 : decode cX9_total 3 = .ok (.arraylength, 1) := by decide +kernel
theorem dX9_total_4 : decode cX9_total 4 = .ok (.ireturn, 1) := by decide +kernel
theorem dX9_at_0 : decode cX9_at 0 = .ok (.getstatic 51, 3) := by decide +kernel
theorem dX9_at_3 : decode cX9_at 3 = .ok (.iload_n 0, 1) := by decide +kernel
theorem dX9_at_4 : decode cX9_at 4 = .ok (.aaload, 1) := by decide +kernel
theorem dX9_at_5 : decode cX9_at 5 = .ok (.areturn, 1) := by decide +kernel
set_option maxRecDepth 20000 in
theorem ggX9_length_J0_length_8abf5 : GoodIn wsX9_length wsJ0_length_8abf5 := goodIn_r _ [6, 7, 8, 9, 10, 5, 11, 12, 13, 14, 15] (by decide +kernel) (by decide +kernel)
set_option maxRecDepth 20000 in
theorem gX9_length_J0_length_8abf5 : GoodIn wsX9_length (wsV RX9 54 RJ0 yJ0_length_8abf5 wsJ0_length_8abf5) := goodIn_app (goodIn_of _ (by decide +kernel)) ggX9_length_J0_length_8abf5
theorem dX9_length_0 : decode cX9_length 0 = .ok (.aload_n 0, 1) := by decide +kernel
theorem dX9_length_1 : decode cX9_length 1 = .ok (.getfield 47, 3) := by decide +kernel
theorem dX9_length_4 : decode cX9_length 4 = .ok (.invokevirtual 54, 3) := by decide +kernel
theorem dX9_length_7 : decode cX9_length 7 = .ok (.ireturn, 1) := by decide +kernel
set_option maxRecDepth 20000 in
theorem ggX9_takesDigitAt_J0_charAt_5068e : GoodIn wsX9_takesDigitAt wsJ0_charAt_5068e := goodIn_r _ [6, 7, 8, 9, 10, 5, 11, 12, 13, 14, 15, 16, 17, 18, 19, 20, 21, 22, 23, 24, 25, 26, 27, 28, 29, 30, 31, 32, 33, 34, 35, 36, 37, 38, 39, 40, 41, 42, 43, 44] (by decide +kernel) (by decide +kernel)
set_option maxRecDepth 20000 in
theorem gX9_takesDigitAt_J0_charAt_5068e : GoodIn wsX9_takesDigitAt (wsV RX9 60 RJ0 yJ0_charAt_5068e wsJ0_charAt_5068e) := goodIn_app (goodIn_of _ (by decide +kernel)) ggX9_takesDigitAt_J0_charAt_5068e
theorem dX9_takesDigitAt_0 : decode cX9_takesDigitAt 0 = .ok (.aload_n 0, 1) := by decide +kernel
theorem dX9_takesDigitAt_1 : decode cX9_takesDigitAt 1 = .ok (.getfield 47, 3) := by decide +kernel
theorem dX9_takesDigitAt_4 : decode cX9_takesDigitAt 4 = .ok (.iload_n 1, 1) := by decide +kernel
theorem dX9_takesDigitAt_5 : decode cX9_takesDigitAt 5 = .ok (.invokevirtual 60, 3) := by decide +kernel
theorem dX9_takesDigitAt_8 : decode cX9_takesDigitAt 8 = .ok (.bipush 35, 2) := by decide +kernel
theorem dX9_takesDigitAt_10 : decode cX9_takesDigitAt 10 = .ok (.if_icmp .ne 7, 3) := by decide +kernel
theorem dX9_takesDigitAt_13 : decode cX9_takesDigitAt 13 = .ok (.iconst 1, 1) := by decide +kernel
theorem dX9_takesDigitAt_14 : decode cX9_takesDigitAt 14 = .ok (.goto 4, 3) := by decide +kernel
theorem dX9_takesDigitAt_17 : decode cX9_takesDigitAt 17 = .ok (.iconst 0, 1) := by decide +kernel
theorem dX9_takesDigitAt_18 : decode cX9_takesDigitAt 18 = .ok (.ireturn, 1) := by decide +kernel
set_option maxRecDepth 20000 in
theorem ggX9_allows_X9_takesDigitAt : GoodIn wsX9_allows wsX9_takesDigitAt := goodIn_r _ [6, 1, 7, 8, 9, 10, 11, 12, 13, 14, 15, 16, 17, 18, 19, 20, 21, 22, 23, 24, 25, 26, 27, 28, 29, 30, 31, 32, 33, 34, 35, 36, 37, 38, 39, 40, 41, 42, 43, 44, 45, 46, 47, 51, 52] (by decide +kernel) (by decide +kernel)
set_option maxRecDepth 20000 in
theorem gX9_allows_X9_takesDigitAt : GoodIn wsX9_allows (wsV RX9 64 RX9 yX9_takesDigitAt wsX9_takesDigitAt) := goodIn_app (goodIn_of _ (by decide +kernel)) ggX9_allows_X9_takesDigitAt
set_option maxRecDepth 20000 in
theorem ggX9_allows_X9_isDigit : GoodIn wsX9_allows wsX9_isDigit := goodIn_r _ [50] (by decide +kernel) (by decide +kernel)
set_option maxRecDepth 20000 in
theorem gX9_allows_X9_isDigit : GoodIn wsX9_allows (va_wsS RX9 68 yX9_isDigit wsX9_isDigit) := goodIn_app (goodIn_of _ (by decide +kernel)) ggX9_allows_X9_isDigit
set_option maxRecDepth 20000 in
theorem ggX9_allows_J0_charAt_5068e : GoodIn wsX9_allows wsJ0_charAt_5068e := goodIn_r _ [11, 12, 13, 14, 15, 10, 16, 17, 18, 19, 20, 21, 22, 23, 24, 25, 26, 27, 28, 29, 30, 31, 32, 33, 34, 35, 36, 37, 38, 39, 40, 41, 42, 43, 44, 45, 46, 47, 51, 52] (by decide +kernel) (by decide +kernel)
set_option maxRecDepth 20000 in
theorem gX9_allows_J0_charAt_5068e : GoodIn wsX9_allows (wsV RX9 60 RJ0 yJ0_charAt_5068e wsJ0_charAt_5068e) := goodIn_app (goodIn_of _ (by decide +kernel)) ggX9_allows_J0_charAt_5068e
theorem dX9_allows_0 : decode cX9_allows 0 = .ok (.aload_n 0, 1) := by decide +kernel
theorem dX9_allows_1 : decode cX9_allows 1 = .ok (.iload_n 1, 1) := by decide +kernel
theorem dX9_allows_2 : decode cX9_allows 2 = .ok (.invokevirtual 64, 3) := by decide +kernel
theorem dX9_allows_5 : decode cX9_allows 5 = .ok (.ifCond .eq 10, 3) := by decide +kernel
theorem dX9_allows_8 : decode cX9_allows 8 = .ok (.iload_n 2, 1) := by decide +kernel
theorem dX9_allows_9 : decode cX9_allows 9 = .ok (.invokestatic 68, 3) := by decide +kernel
theorem dX9_allows_12 : decode cX9_allows 12 = .ok (.goto 20, 3) := by decide +kernel
theorem dX9_allows_15 : decode cX9_allows 15 = .ok (.aload_n 0, 1) := by decide +kernel
theorem dX9_allows_16 : decode cX9_allows 16 = .ok (.getfield 47, 3) := by decide +kernel
theorem dX9_allows_19 : decode cX9_allows 19 = .ok (.iload_n 1, 1) := by decide +kernel
theorem dX9_allows_20 : decode cX9_allows 20 = .ok (.invokevirtual 60, 3) := by decide +kernel
theorem dX9_allows_23 : decode cX9_allows 23 = .ok (.iload_n 2, 1) := by decide +kernel
theorem dX9_allows_24 : decode cX9_allows 24 = .ok (.if_icmp .ne 7, 3) := by decide +kernel
theorem dX9_allows_27 : decode cX9_allows 27 = .ok (.iconst 1, 1) := by decide +kernel
theorem dX9_allows_28 : decode cX9_allows 28 = .ok (.goto 4, 3) := by decide +kernel
theorem dX9_allows_31 : decode cX9_allows 31 = .ok (.iconst 0, 1) := by decide +kernel
theorem dX9_allows_32 : decode cX9_allows 32 = .ok (.ireturn, 1) := by decide +kernel
theorem dX9_isDigit_0 : decode cX9_isDigit 0 = .ok (.iload_n 0, 1) := by decide +kernel
theorem dX9_isDigit_1 : decode cX9_isDigit 1 = .ok (.bipush 48, 2) := by decide +kernel
theorem dX9_isDigit_3 : decode cX9_isDigit 3 = .ok (.if_icmp .lt 13, 3) := by decide +kernel
theorem dX9_isDigit_6 : decode cX9_isDigit 6 = .ok (.iload_n 0, 1) := by decide +kernel
theorem dX9_isDigit_7 : decode cX9_isDigit 7 = .ok (.bipush 57, 2) := by decide +kernel
theorem dX9_isDigit_9 : decode cX9_isDigit 9 = .ok (.if_icmp .gt 7, 3) := by decide +kernel
theorem dX9_isDigit_12 : decode cX9_isDigit 12 = .ok (.iconst 1, 1) := by decide +kernel
theorem dX9_isDigit_13 : decode cX9_isDigit 13 = .ok (.goto 4, 3) := by decide +kernel
theorem dX9_isDigit_16 : decode cX9_isDigit 16 = .ok (.iconst 0, 1) := by decide +kernel
theorem dX9_isDigit_17 : decode cX9_isDigit 17 = .ok (.ireturn, 1) := by decide +kernel
set_option maxRecDepth 20000 in
theorem ggX10_init_X7_init : GoodIn wsX10_init wsX7_init := goodIn_ca (goodIn_r _ [30, 31, 2, 3, 32, 33, 34, 35, 36, 37, 38, 39, 40, 41, 42, 43, 44, 94, 95, 96, 97, 98, 99, 100, 101, 102, 103, 104, 105, 106, 107, 108] (by decide +kernel) (by decide +kernel)) (goodIn_sub (fun _ h => List.mem_cons_of_mem _ (List.mem_append_right _ h)) (by decide +kernel))
set_option maxRecDepth 20000 in
theorem gX10_init_X7_init : GoodIn wsX10_init (wsX7_init) := ggX10_init_X7_init
set_option maxRecDepth 20000 in
theorem ggX10_init_X8_init : GoodIn wsX10_init wsX8_init := goodIn_r _ [47, 48, 2, 3, 32, 49, 50, 51, 52, 35, 53, 118, 119, 120, 121, 122] (by decide +kernel) (by decide +kernel)
set_option maxRecDepth 20000 in
theorem gX10_init_X8_init : GoodIn wsX10_init (wsX8_init) := ggX10_init_X8_init
set_option maxRecDepth 20000 in
theorem ggX10_init_X4_init : GoodIn wsX10_init wsX4_init := goodIn_r _ [56, 57, 2, 3, 58, 59, 60, 61, 123, 124, 125] (by decide +kernel) (by decide +kernel)
set_option maxRecDepth 20000 in
theorem gX10_init_X4_init : GoodIn wsX10_init (wsX4_init) := ggX10_init_X4_init
set_option maxRecDepth 20000 in
theorem ggX10_init_X6_init : GoodIn wsX10_init wsX6_init := goodIn_r _ [64, 65, 2, 3, 66, 67, 68, 69, 70, 71, 72, 73, 74, 75, 76, 77, 78, 79, 80, 81, 82, 83, 84, 85, 86, 87, 126, 127, 128, 131, 132, 133] (by decide +kernel) (by decide +kernel)
set_option maxRecDepth 20000 in
theorem gX10_init_X6_init : GoodIn wsX10_init (wsX6_init) := ggX10_init_X6_init
set_option maxRecDepth 20000 in
theorem ggX10_init_X5_init : GoodIn wsX10_init wsX5_init := goodIn_r _ [90, 91, 2, 3, 66, 92, 93, 129, 130] (by decide +kernel) (by decide +kernel)
set_option maxRecDepth 20000 in
theorem gX10_init_X5_init : GoodIn wsX10_init (wsX5_init) := ggX10_init_X5_init
theorem dX10_init_0 : decode cX10_init 0 = .ok (.aload_n 0, 1) := by decide +kernel
theorem dX10_init_1 : decode cX10_init 1 = .ok (.invokespecial 1, 3) := by decide +kernel
theorem dX10_init_4 : decode cX10_init 4 = .ok (.aload_n 0, 1) := by decide +kernel
theorem dX10_init_5 : decode cX10_init 5 = .ok (.new 7, 3) := by decide +kernel
theorem dX10_init_8 : decode cX10_init 8 = .ok (.dup, 1) := by decide +kernel
theorem dX10_init_9 : decode cX10_init 9 = .ok (.invokespecial 9, 3) := by decide +kernel
theorem dX10_init_12 : decode cX10_init 12 = .ok (.putfield 10, 3) := by decide +kernel
theorem dX10_init_15 : decode cX10_init 15 = .ok (.aload_n 0, 1) := by decide +kernel
theorem dX10_init_16 : decode cX10_init 16 = .ok (.new 7, 3) := by decide +kernel
theorem dX10_init_19 : decode cX10_init 19 = .ok (.dup, 1) := by decide +kernel
theorem dX10_init_20 : decode cX10_init 20 = .ok (.invokespecial 9, 3) := by decide +kernel
theorem dX10_init_23 : decode cX10_init 23 = .ok (.putfield 16, 3) := by decide +kernel
theorem dX10_init_26 : decode cX10_init 26 = .ok (.aload_n 0, 1) := by decide +kernel
theorem dX10_init_27 : decode cX10_init 27 = .ok (.new 19, 3) := by decide +kernel
theorem dX10_init_30 : decode cX10_init 30 = .ok (.dup, 1) := by decide +kernel
theorem dX10_init_31 : decode cX10_init 31 = .ok (.invokespecial 21, 3) := by decide +kernel
theorem dX10_init_34 : decode cX10_init 34 = .ok (.putfield 22, 3) := by decide +kernel
theorem dX10_init_37 : decode cX10_init 37 = .ok (.aload_n 0, 1) := by decide +kernel
theorem dX10_init_38 : decode cX10_init 38 = .ok (.new 26, 3) := by decide +kernel
theorem dX10_init_41 : decode cX10_init 41 = .ok (.dup, 1) := by decide +kernel
theorem dX10_init_42 : decode cX10_init 42 = .ok (.invokespecial 28, 3) := by decide +kernel
theorem dX10_init_45 : decode cX10_init 45 = .ok (.putfield 29, 3) := by decide +kernel
theorem dX10_init_48 : decode cX10_init 48 = .ok (.aload_n 0, 1) := by decide +kernel
theorem dX10_init_49 : decode cX10_init 49 = .ok (.new 33, 3) := by decide +kernel
theorem dX10_init_52 : decode cX10_init 52 = .ok (.dup, 1) := by decide +kernel
theorem dX10_init_53 : decode cX10_init 53 = .ok (.invokespecial 35, 3) := by decide +kernel
theorem dX10_init_56 : decode cX10_init 56 = .ok (.putfield 36, 3) := by decide +kernel
theorem dX10_init_59 : decode cX10_init 59 = .ok (.aload_n 0, 1) := by decide +kernel
theorem dX10_init_60 : decode cX10_init 60 = .ok (.new 40, 3) := by decide +kernel
theorem dX10_init_63 : decode cX10_init 63 = .ok (.dup, 1) := by decide +kernel
theorem dX10_init_64 : decode cX10_init 64 = .ok (.invokespecial 42, 3) := by decide +kernel
theorem dX10_init_67 : decode cX10_init 67 = .ok (.putfield 43, 3) := by decide +kernel
theorem dX10_init_70 : decode cX10_init 70 = .ok (.aload_n 0, 1) := by decide +kernel
theorem dX10_init_71 : decode cX10_init 71 = .ok (.aconst_null, 1) := by decide +kernel
theorem dX10_init_72 : decode cX10_init 72 = .ok (.putfield 47, 3) := by decide +kernel
theorem dX10_init_75 : decode cX10_init 75 = .ok (.aload_n 0, 1) := by decide +kernel
theorem dX10_init_76 : decode cX10_init 76 = .ok (.iconst (-1), 1) := by decide +kernel
theorem dX10_init_77 : decode cX10_init 77 = .ok (.putfield 50, 3) := by decide +kernel
theorem dX10_init_80 : decode cX10_init 80 = .ok (.aload_n 0, 1) := by decide +kernel
theorem dX10_init_81 : decode cX10_init 81 = .ok (.iconst (-1), 1) := by decide +kernel
theorem dX10_init_82 : decode cX10_init 82 = .ok (.putfield 54, 3) := by decide +kernel
theorem dX10_init_85 : decode cX10_init 85 = .ok (.return_, 1) := by decide +kernel
set_option maxRecDepth 20000 in
theorem ggX10_setStone_X7_stoneFault : GoodIn wsX10_setStone wsX7_stoneFault := goodIn_r _ [7, 8, 9, 10, 11, 12, 13, 14, 15, 16, 17, 18, 19, 20, 21, 6, 22] (by decide +kernel) (by decide +kernel)
set_option maxRecDepth 20000 in
theorem gX10_setStone_X7_stoneFault : GoodIn wsX10_setStone (wsV RX10 57 RX7 yX7_stoneFault wsX7_stoneFault) := goodIn_app (goodIn_of _ (by decide +kernel)) ggX10_setStone_X7_stoneFault
set_option maxRecDepth 20000 in
theorem ggX10_setStone_X10_refuse : GoodIn wsX10_setStone wsX10_refuse := goodIn_ca (goodIn_ca (goodIn_ca (goodIn_ca (goodIn_ca (goodIn_ca (goodIn_r _ [26, 27, 28, 29, 30, 31, 32, 33, 34, 35, 36, 37, 38, 39, 40, 41, 42, 43, 44] (by decide +kernel) (by decide +kernel)) (goodIn_sub (fun _ h => List.mem_cons_of_mem _ (List.mem_append_left _ (List.mem_append_left _ (List.mem_append_left _ (List.mem_append_left _ (List.mem_append_left _ (List.mem_append_right _ h))))))) (by decide +kernel))) (goodIn_sub (fun _ h => List.mem_cons_of_mem _ (List.mem_append_left _ (List.mem_append_left _ (List.mem_append_left _ (List.mem_append_left _ (List.mem_append_right _ h)))))) (by decide +kernel))) (goodIn_sub (fun _ h => List.mem_cons_of_mem _ (List.mem_append_left _ (List.mem_append_left _ (List.mem_append_left _ (List.mem_append_right _ h))))) (by decide +kernel))) (goodIn_sub (fun _ h => List.mem_cons_of_mem _ (List.mem_append_left _ (List.mem_append_left _ (List.mem_append_right _ h)))) (by decide +kernel))) (goodIn_sub (fun _ h => List.mem_cons_of_mem _ (List.mem_append_left _ (List.mem_append_right _ h))) (by decide +kernel))) (goodIn_sub (fun _ h => List.mem_cons_of_mem _ (List.mem_append_right _ h)) (by decide +kernel))
set_option maxRecDepth 20000 in
theorem gX10_setStone_X10_refuse : GoodIn wsX10_setStone (va_wsS RX10 61 yX10_refuse wsX10_refuse) := goodIn_app (goodIn_of _ (by decide +kernel)) ggX10_setStone_X10_refuse
set_option maxRecDepth 20000 in
theorem ggX10_setStone_X4_record : GoodIn wsX10_setStone wsX4_record := goodIn_ca (goodIn_r _ [49, 50, 51, 52, 53, 6, 54, 55, 56, 57, 58, 59, 60, 61, 62, 63, 64, 65, 66, 67, 68, 69, 70, 71, 72, 73, 74, 75, 76, 77, 78, 79, 80, 81, 82, 83, 84, 85, 86, 87, 88, 89, 106, 107, 108, 109, 110, 111, 112, 113, 114, 115, 116, 117, 118, 119, 120, 121, 122, 123] (by decide +kernel) (by decide +kernel)) (goodIn_sub (fun _ h => List.mem_cons_of_mem _ (List.mem_append_left _ (List.mem_append_left _ (List.mem_append_left _ (List.mem_append_left _ (List.mem_append_left _ (List.mem_append_right _ h))))))) (by decide +kernel))
set_option maxRecDepth 20000 in
theorem gX10_setStone_X4_record : GoodIn wsX10_setStone (wsV RX10 65 RX4 yX4_record wsX4_record) := goodIn_app (goodIn_of _ (by decide +kernel)) ggX10_setStone_X4_record
set_option maxRecDepth 20000 in
theorem ggX10_setStone_X7_changeStone : GoodIn wsX10_setStone wsX7_changeStone := goodIn_ca (goodIn_r _ [93, 67, 94, 95, 13, 96, 109, 110, 111, 112, 113, 114, 115, 116, 117, 118, 119, 120, 121, 122, 123] (by decide +kernel) (by decide +kernel)) (goodIn_sub (fun _ h => List.mem_cons_of_mem _ (List.mem_append_left _ (List.mem_append_left _ (List.mem_append_left _ (List.mem_append_left _ (List.mem_append_left _ (List.mem_append_right _ h))))))) (by decide +kernel))
set_option maxRecDepth 20000 in
theorem gX10_setStone_X7_changeStone : GoodIn wsX10_setStone (wsV RX10 69 RX7 yX7_changeStone wsX7_changeStone) := goodIn_app (goodIn_of _ (by decide +kernel)) ggX10_setStone_X7_changeStone
theorem dX10_setStone_0 : decode cX10_setStone 0 = .ok (.aload_n 0, 1) := by decide +kernel
theorem dX10_setStone_1 : decode cX10_setStone 1 = .ok (.getfield 10, 3) := by decide +kernel
theorem dX10_setStone_4 : decode cX10_setStone 4 = .ok (.iload_n 1, 1) := by decide +kernel
theorem dX10_setStone_5 : decode cX10_setStone 5 = .ok (.iload_n 2, 1) := by decide +kernel
theorem dX10_setStone_6 : decode cX10_setStone 6 = .ok (.iload_n 3, 1) := by decide +kernel
theorem dX10_setStone_7 : decode cX10_setStone 7 = .ok (.invokevirtual 57, 3) := by decide +kernel
theorem dX10_setStone_10 : decode cX10_setStone 10 = .ok (.invokestatic 61, 3) := by decide +kernel
theorem dX10_setStone_13 : decode cX10_setStone 13 = .ok (.aload_n 0, 1) := by decide +kernel
theorem dX10_setStone_14 : decode cX10_setStone 14 = .ok (.getfield 29, 3) := by decide +kernel
theorem dX10_setStone_17 : decode cX10_setStone 17 = .ok (.aload_n 0, 1) := by decide +kernel
theorem dX10_setStone_18 : decode cX10_setStone 18 = .ok (.getfield 10, 3) := by decide +kernel
theorem dX10_setStone_21 : decode cX10_setStone 21 = .ok (.invokevirtual 65, 3) := by decide +kernel
theorem dX10_setStone_24 : decode cX10_setStone 24 = .ok (.aload_n 0, 1) := by decide +kernel
theorem dX10_setStone_25 : decode cX10_setStone 25 = .ok (.getfield 10, 3) := by decide +kernel
theorem dX10_setStone_28 : decode cX10_setStone 28 = .ok (.iload_n 1, 1) := by decide +kernel
theorem dX10_setStone_29 : decode cX10_setStone 29 = .ok (.iload_n 2, 1) := by decide +kernel
theorem dX10_setStone_30 : decode cX10_setStone 30 = .ok (.iload_n 3, 1) := by decide +kernel
theorem dX10_setStone_31 : decode cX10_setStone 31 = .ok (.invokevirtual 69, 3) := by decide +kernel
theorem dX10_setStone_34 : decode cX10_setStone 34 = .ok (.ireturn, 1) := by decide +kernel
set_option maxRecDepth 20000 in
theorem ggX10_cut_X7_cutFault : GoodIn wsX10_cut wsX7_cutFault := goodIn_ca (goodIn_r _ [7, 8, 9, 10, 11, 12, 13, 14, 15, 16, 17, 18, 19, 20, 21, 22, 23, 24, 25, 26, 27, 28, 29, 30, 6, 31, 32, 33, 34, 35, 36, 37, 38, 39, 40, 41, 117, 118, 119, 120, 121, 122, 123, 124, 125, 126, 127, 128, 129, 130, 131] (by decide +kernel) (by decide +kernel)) (goodIn_sub (fun _ h => List.mem_cons_of_mem _ (List.mem_append_left _ (List.mem_append_left _ (List.mem_append_left _ (List.mem_append_left _ (List.mem_append_left _ (List.mem_append_right _ h))))))) (by decide +kernel))
set_option maxRecDepth 20000 in
theorem gX10_cut_X7_cutFault : GoodIn wsX10_cut (wsV RX10 73 RX7 yX7_cutFault wsX7_cutFault) := goodIn_app (goodIn_of _ (by decide +kernel)) ggX10_cut_X7_cutFault
set_option maxRecDepth 20000 in
theorem ggX10_cut_X10_refuse : GoodIn wsX10_cut wsX10_refuse := goodIn_ca (goodIn_ca (goodIn_ca (goodIn_ca (goodIn_ca (goodIn_ca (goodIn_r _ [45, 46, 47, 48, 49, 50, 51, 52, 53, 54, 55, 56, 57, 58, 59, 60, 61, 62, 63] (by decide +kernel) (by decide +kernel)) (goodIn_sub (fun _ h => List.mem_cons_of_mem _ (List.mem_append_left _ (List.mem_append_left _ (List.mem_append_left _ (List.mem_append_left _ (List.mem_append_left _ (List.mem_append_right _ h))))))) (by decide +kernel))) (goodIn_sub (fun _ h => List.mem_cons_of_mem _ (List.mem_append_left _ (List.mem_append_left _ (List.mem_append_left _ (List.mem_append_left _ (List.mem_append_right _ h)))))) (by decide +kernel))) (goodIn_sub (fun _ h => List.mem_cons_of_mem _ (List.mem_append_left _ (List.mem_append_left _ (List.mem_append_left _ (List.mem_append_right _ h))))) (by decide +kernel))) (goodIn_sub (fun _ h => List.mem_cons_of_mem _ (List.mem_append_left _ (List.mem_append_left _ (List.mem_append_right _ h)))) (by decide +kernel))) (goodIn_sub (fun _ h => List.mem_cons_of_mem _ (List.mem_append_left _ (List.mem_append_right _ h))) (by decide +kernel))) (goodIn_sub (fun _ h => List.mem_cons_of_mem _ (List.mem_append_right _ h)) (by decide +kernel))
set_option maxRecDepth 20000 in
theorem gX10_cut_X10_refuse : GoodIn wsX10_cut (va_wsS RX10 61 yX10_refuse wsX10_refuse) := goodIn_app (goodIn_of _ (by decide +kernel)) ggX10_cut_X10_refuse
set_option maxRecDepth 20000 in
theorem ggX10_cut_X4_record : GoodIn wsX10_cut wsX4_record := goodIn_ca (goodIn_r _ [68, 69, 70, 71, 72, 6, 73, 74, 75, 34, 76, 77, 78, 79, 80, 81, 82, 83, 11, 84, 85, 10, 12, 86, 87, 88, 89, 90, 14, 91, 92, 93, 94, 95, 96, 97, 98, 99, 100, 101, 102, 103, 132, 133, 134, 117, 118, 119, 120, 121, 122, 123, 124, 125, 126, 127, 128, 129, 130, 131] (by decide +kernel) (by decide +kernel)) (goodIn_sub (fun _ h => List.mem_cons_of_mem _ (List.mem_append_left _ (List.mem_append_left _ (List.mem_append_left _ (List.mem_append_left _ (List.mem_append_left _ (List.mem_append_right _ h))))))) (by decide +kernel))
set_option maxRecDepth 20000 in
theorem gX10_cut_X4_record : GoodIn wsX10_cut (wsV RX10 65 RX4 yX4_record wsX4_record) := goodIn_app (goodIn_of _ (by decide +kernel)) ggX10_cut_X4_record
set_option maxRecDepth 20000 in
theorem ggX10_cut_X7_cutCell : GoodIn wsX10_cut wsX7_cutCell := goodIn_ca (goodIn_r _ [107, 86, 12, 84, 101, 11, 25, 26, 18, 27, 117, 118, 119, 120, 121, 122, 123, 124, 125, 126, 127, 128, 129, 130, 131] (by decide +kernel) (by decide +kernel)) (goodIn_sub (fun _ h => List.mem_cons_of_mem _ (List.mem_append_left _ (List.mem_append_left _ (List.mem_append_left _ (List.mem_append_left _ (List.mem_append_left _ (List.mem_append_right _ h))))))) (by decide +kernel))
set_option maxRecDepth 20000 in
theorem gX10_cut_X7_cutCell : GoodIn wsX10_cut (wsV RX10 77 RX7 yX7_cutCell wsX7_cutCell) := goodIn_app (goodIn_of _ (by decide +kernel)) ggX10_cut_X7_cutCell
theorem dX10_cut_0 : decode cX10_cut 0 = .ok (.aload_n 0, 1) := by decide +kernel
theorem dX10_cut_1 : decode cX10_cut 1 = .ok (.getfield 10, 3) := by decide +kernel
theorem dX10_cut_4 : decode cX10_cut 4 = .ok (.iload_n 1, 1) := by decide +kernel
theorem dX10_cut_5 : decode cX10_cut 5 = .ok (.iload_n 2, 1) := by decide +kernel
theorem dX10_cut_6 : decode cX10_cut 6 = .ok (.invokevirtual 73, 3) := by decide +kernel
theorem dX10_cut_9 : decode cX10_cut 9 = .ok (.invokestatic 61, 3) := by decide +kernel
theorem dX10_cut_12 : decode cX10_cut 12 = .ok (.aload_n 0, 1) := by decide +kernel
theorem dX10_cut_13 : decode cX10_cut 13 = .ok (.getfield 29, 3) := by decide +kernel
theorem dX10_cut_16 : decode cX10_cut 16 = .ok (.aload_n 0, 1) := by decide +kernel
theorem dX10_cut_17 : decode cX10_cut 17 = .ok (.getfield 10, 3) := by decide +kernel
theorem dX10_cut_20 : decode cX10_cut 20 = .ok (.invokevirtual 65, 3) := by decide +kernel
theorem dX10_cut_23 : decode cX10_cut 23 = .ok (.aload_n 0, 1) := by decide +kernel
theorem dX10_cut_24 : decode cX10_cut 24 = .ok (.getfield 10, 3) := by decide +kernel
theorem dX10_cut_27 : decode cX10_cut 27 = .ok (.iload_n 1, 1) := by decide +kernel
theorem dX10_cut_28 : decode cX10_cut 28 = .ok (.iload_n 2, 1) := by decide +kernel
theorem dX10_cut_29 : decode cX10_cut 29 = .ok (.invokevirtual 77, 3) := by decide +kernel
theorem dX10_cut_32 : decode cX10_cut 32 = .ok (.ireturn, 1) := by decide +kernel
set_option maxRecDepth 20000 in
theorem ggX10_fill_X7_fillFault : GoodIn wsX10_fill wsX7_fillFault := goodIn_ca (goodIn_r _ [7, 8, 9, 10, 11, 12, 13, 14, 15, 16, 17, 18, 19, 20, 21, 22, 23, 24, 25, 26, 27, 28, 29, 30, 31, 6, 32, 33, 34, 35, 36, 37, 38, 39, 40, 41, 42, 117, 118, 119, 120, 121, 122, 123, 124, 125, 126, 127, 128, 129, 130, 131] (by decide +kernel) (by decide +kernel)) (goodIn_sub (fun _ h => List.mem_cons_of_mem _ (List.mem_append_left _ (List.mem_append_left _ (List.mem_append_left _ (List.mem_append_left _ (List.mem_append_left _ (List.mem_append_right _ h))))))) (by decide +kernel))
set_option maxRecDepth 20000 in
theorem gX10_fill_X7_fillFault : GoodIn wsX10_fill (wsV RX10 81 RX7 yX7_fillFault wsX7_fillFault) := goodIn_app (goodIn_of _ (by decide +kernel)) ggX10_fill_X7_fillFault
set_option maxRecDepth 20000 in
theorem ggX10_fill_X10_refuse : GoodIn wsX10_fill wsX10_refuse := goodIn_ca (goodIn_ca (goodIn_ca (goodIn_ca (goodIn_ca (goodIn_ca (goodIn_r _ [46, 47, 48, 49, 50, 51, 52, 53, 54, 55, 56, 57, 58, 59, 60, 61, 62, 63, 64] (by decide +kernel) (by decide +kernel)) (goodIn_sub (fun _ h => List.mem_cons_of_mem _ (List.mem_append_left _ (List.mem_append_left _ (List.mem_append_left _ (List.mem_append_left _ (List.mem_append_left _ (List.mem_append_right _ h))))))) (by decide +kernel))) (goodIn_sub (fun _ h => List.mem_cons_of_mem _ (List.mem_append_left _ (List.mem_append_left _ (List.mem_append_left _ (List.mem_append_left _ (List.mem_append_right _ h)))))) (by decide +kernel))) (goodIn_sub (fun _ h => List.mem_cons_of_mem _ (List.mem_append_left _ (List.mem_append_left _ (List.mem_append_left _ (List.mem_append_right _ h))))) (by decide +kernel))) (goodIn_sub (fun _ h => List.mem_cons_of_mem _ (List.mem_append_left _ (List.mem_append_left _ (List.mem_append_right _ h)))) (by decide +kernel))) (goodIn_sub (fun _ h => List.mem_cons_of_mem _ (List.mem_append_left _ (List.mem_append_right _ h))) (by decide +kernel))) (goodIn_sub (fun _ h => List.mem_cons_of_mem _ (List.mem_append_right _ h)) (by decide +kernel))
set_option maxRecDepth 20000 in
theorem gX10_fill_X10_refuse : GoodIn wsX10_fill (va_wsS RX10 61 yX10_refuse wsX10_refuse) := goodIn_app (goodIn_of _ (by decide +kernel)) ggX10_fill_X10_refuse
set_option maxRecDepth 20000 in
theorem ggX10_fill_X4_record : GoodIn wsX10_fill wsX4_record := goodIn_ca (goodIn_r _ [69, 70, 71, 72, 73, 6, 74, 75, 76, 35, 77, 78, 79, 80, 81, 82, 83, 84, 11, 85, 86, 10, 12, 87, 88, 89, 90, 91, 15, 13, 92, 93, 94, 95, 96, 97, 98, 99, 100, 101, 102, 103, 132, 133, 134, 117, 118, 119, 120, 121, 122, 123, 124, 125, 126, 127, 128, 129, 130, 131] (by decide +kernel) (by decide +kernel)) (goodIn_sub (fun _ h => List.mem_cons_of_mem _ (List.mem_append_left _ (List.mem_append_left _ (List.mem_append_left _ (List.mem_append_left _ (List.mem_append_left _ (List.mem_append_right _ h))))))) (by decide +kernel))
set_option maxRecDepth 20000 in
theorem gX10_fill_X4_record : GoodIn wsX10_fill (wsV RX10 65 RX4 yX4_record wsX4_record) := goodIn_app (goodIn_of _ (by decide +kernel)) ggX10_fill_X4_record
set_option maxRecDepth 20000 in
theorem ggX10_fill_X7_fillCell : GoodIn wsX10_fill wsX7_fillCell := goodIn_ca (goodIn_r _ [107, 13, 11, 26, 27, 19, 28, 117, 118, 119, 120, 121, 122, 123, 124, 125, 126, 127, 128, 129, 130, 131] (by decide +kernel) (by decide +kernel)) (goodIn_sub (fun _ h => List.mem_cons_of_mem _ (List.mem_append_left _ (List.mem_append_left _ (List.mem_append_left _ (List.mem_append_left _ (List.mem_append_left _ (List.mem_append_right _ h))))))) (by decide +kernel))
set_option maxRecDepth 20000 in
theorem gX10_fill_X7_fillCell : GoodIn wsX10_fill (wsV RX10 84 RX7 yX7_fillCell wsX7_fillCell) := goodIn_app (goodIn_of _ (by decide +kernel)) ggX10_fill_X7_fillCell
theorem dX10_fill_0 : decode cX10_fill 0 = .ok (.aload_n 0, 1) := by decide +kernel
theorem dX10_fill_1 : decode cX10_fill 1 = .ok (.getfield 10, 3) := by decide +kernel
theorem dX10_fill_4 : decode cX10_fill 4 = .ok (.iload_n 1, 1) := by decide +kernel
theorem dX10_fill_5 : decode cX10_fill 5 = .ok (.iload_n 2, 1) := by decide +kernel
theorem dX10_fill_6 : decode cX10_fill 6 = .ok (.invokevirtual 81, 3) := by decide +kernel
theorem dX10_fill_9 : decode cX10_fill 9 = .ok (.invokestatic 61, 3) := by decide +kernel
theorem dX10_fill_12 : decode cX10_fill 12 = .ok (.aload_n 0, 1) := by decide +kernel
theorem dX10_fill_13 : decode cX10_fill 13 = .ok (.getfield 29, 3) := by decide +kernel
theorem dX10_fill_16 : decode cX10_fill 16 = .ok (.aload_n 0, 1) := by decide +kernel
theorem dX10_fill_17 : decode cX10_fill 17 = .ok (.getfield 10, 3) := by decide +kernel
theorem dX10_fill_20 : decode cX10_fill 20 = .ok (.invokevirtual 65, 3) := by decide +kernel
theorem dX10_fill_23 : decode cX10_fill 23 = .ok (.aload_n 0, 1) := by decide +kernel
theorem dX10_fill_24 : decode cX10_fill 24 = .ok (.getfield 10, 3) := by decide +kernel
theorem dX10_fill_27 : decode cX10_fill 27 = .ok (.iload_n 1, 1) := by decide +kernel
theorem dX10_fill_28 : decode cX10_fill 28 = .ok (.iload_n 2, 1) := by decide +kernel
theorem dX10_fill_29 : decode cX10_fill 29 = .ok (.invokevirtual 84, 3) := by decide +kernel
theorem dX10_fill_32 : decode cX10_fill 32 = .ok (.ireturn, 1) := by decide +kernel
set_option maxRecDepth 20000 in
theorem ggX10_toggleLedge_X3_cellFault : GoodIn wsX10_toggleLedge wsX3_cellFault := goodIn_r _ [6, 7, 8, 9, 10, 5, 11] (by decide +kernel) (by decide +kernel)
set_option maxRecDepth 20000 in
theorem gX10_toggleLedge_X3_cellFault : GoodIn wsX10_toggleLedge (va_wsS RX10 87 yX3_cellFault wsX3_cellFault) := goodIn_app (goodIn_of _ (by decide +kernel)) ggX10_toggleLedge_X3_cellFault
set_option maxRecDepth 20000 in
theorem ggX10_toggleLedge_X10_refuse : GoodIn wsX10_toggleLedge wsX10_refuse := goodIn_ca (goodIn_ca (goodIn_ca (goodIn_ca (goodIn_ca (goodIn_ca (goodIn_r _ [15, 16, 17, 18, 19, 20, 21, 22, 23, 24, 25, 26, 27, 28, 29, 30, 31, 32, 33] (by decide +kernel) (by decide +kernel)) (goodIn_sub (fun _ h => List.mem_cons_of_mem _ (List.mem_append_left _ (List.mem_append_left _ (List.mem_append_left _ (List.mem_append_left _ (List.mem_append_left _ (List.mem_append_right _ h))))))) (by decide +kernel))) (goodIn_sub (fun _ h => List.mem_cons_of_mem _ (List.mem_append_left _ (List.mem_append_left _ (List.mem_append_left _ (List.mem_append_left _ (List.mem_append_right _ h)))))) (by decide +kernel))) (goodIn_sub (fun _ h => List.mem_cons_of_mem _ (List.mem_append_left _ (List.mem_append_left _ (List.mem_append_left _ (List.mem_append_right _ h))))) (by decide +kernel))) (goodIn_sub (fun _ h => List.mem_cons_of_mem _ (List.mem_append_left _ (List.mem_append_left _ (List.mem_append_right _ h)))) (by decide +kernel))) (goodIn_sub (fun _ h => List.mem_cons_of_mem _ (List.mem_append_left _ (List.mem_append_right _ h))) (by decide +kernel))) (goodIn_sub (fun _ h => List.mem_cons_of_mem _ (List.mem_append_right _ h)) (by decide +kernel))
set_option maxRecDepth 20000 in
theorem gX10_toggleLedge_X10_refuse : GoodIn wsX10_toggleLedge (va_wsS RX10 61 yX10_refuse wsX10_refuse) := goodIn_app (goodIn_of _ (by decide +kernel)) ggX10_toggleLedge_X10_refuse
set_option maxRecDepth 20000 in
theorem ggX10_toggleLedge_X4_record : GoodIn wsX10_toggleLedge wsX4_record := goodIn_ca (goodIn_r _ [38, 39, 40, 41, 42, 43, 44, 45, 46, 47, 48, 49, 50, 51, 52, 53, 54, 55, 56, 57, 58, 59, 60, 61, 62, 63, 64, 65, 66, 67, 68, 69, 70, 71, 72, 73, 74, 75, 76, 77, 78, 79, 96, 97, 98, 99, 100, 101, 102, 103, 104, 105, 106, 107, 108, 109, 110, 111, 112, 113] (by decide +kernel) (by decide +kernel)) (goodIn_sub (fun _ h => List.mem_cons_of_mem _ (List.mem_append_left _ (List.mem_append_left _ (List.mem_append_left _ (List.mem_append_left _ (List.mem_append_left _ (List.mem_append_right _ h))))))) (by decide +kernel))
set_option maxRecDepth 20000 in
theorem gX10_toggleLedge_X4_record : GoodIn wsX10_toggleLedge (wsV RX10 65 RX4 yX4_record wsX4_record) := goodIn_app (goodIn_of _ (by decide +kernel)) ggX10_toggleLedge_X4_record
set_option maxRecDepth 20000 in
theorem ggX10_toggleLedge_X7_switchLedge : GoodIn wsX10_toggleLedge wsX7_switchLedge := goodIn_ca (goodIn_r _ [83, 59, 84, 85, 5, 86, 99, 100, 101, 102, 103, 104, 105, 106, 107, 108, 109, 110, 111, 112, 113] (by decide +kernel) (by decide +kernel)) (goodIn_sub (fun _ h => List.mem_cons_of_mem _ (List.mem_append_left _ (List.mem_append_left _ (List.mem_append_left _ (List.mem_append_left _ (List.mem_append_left _ (List.mem_append_right _ h))))))) (by decide +kernel))
set_option maxRecDepth 20000 in
theorem gX10_toggleLedge_X7_switchLedge : GoodIn wsX10_toggleLedge (wsV RX10 92 RX7 yX7_switchLedge wsX7_switchLedge) := goodIn_app (goodIn_of _ (by decide +kernel)) ggX10_toggleLedge_X7_switchLedge
theorem dX10_toggleLedge_0 : decode cX10_toggleLedge 0 = .ok (.iload_n 1, 1) := by decide +kernel
theorem dX10_toggleLedge_1 : decode cX10_toggleLedge 1 = .ok (.iload_n 2, 1) := by decide +kernel
theorem dX10_toggleLedge_2 : decode cX10_toggleLedge 2 = .ok (.invokestatic 87, 3) := by decide +kernel
theorem dX10_toggleLedge_5 : decode cX10_toggleLedge 5 = .ok (.invokestatic 61, 3) := by decide +kernel
theorem dX10_toggleLedge_8 : decode cX10_toggleLedge 8 = .ok (.aload_n 0, 1) := by decide +kernel
theorem dX10_toggleLedge_9 : decode cX10_toggleLedge 9 = .ok (.getfield 29, 3) := by decide +kernel
theorem dX10_toggleLedge_12 : decode cX10_toggleLedge 12 = .ok (.aload_n 0, 1) := by decide +kernel
theorem dX10_toggleLedge_13 : decode cX10_toggleLedge 13 = .ok (.getfield 10, 3) := by decide +kernel
theorem dX10_toggleLedge_16 : decode cX10_toggleLedge 16 = .ok (.invokevirtual 65, 3) := by decide +kernel
theorem dX10_toggleLedge_19 : decode cX10_toggleLedge 19 = .ok (.aload_n 0, 1) := by decide +kernel
theorem dX10_toggleLedge_20 : decode cX10_toggleLedge 20 = .ok (.getfield 10, 3) := by decide +kernel
theorem dX10_toggleLedge_23 : decode cX10_toggleLedge 23 = .ok (.iload_n 1, 1) := by decide +kernel
theorem dX10_toggleLedge_24 : decode cX10_toggleLedge 24 = .ok (.iload_n 2, 1) := by decide +kernel
theorem dX10_toggleLedge_25 : decode cX10_toggleLedge 25 = .ok (.invokevirtual 92, 3) := by decide +kernel
theorem dX10_toggleLedge_28 : decode cX10_toggleLedge 28 = .ok (.ireturn, 1) := by decide +kernel
set_option maxRecDepth 20000 in
theorem ggX10_setStepLimit_X7_limitFault : GoodIn wsX10_setStepLimit wsX7_limitFault := goodIn_ca (goodIn_r _ [7, 8, 9, 10, 11, 12, 13, 6, 14, 15, 16, 17, 18, 19, 20, 21, 22, 23, 24, 25, 26, 27, 28, 29, 30, 109, 110, 111, 112, 113, 114, 115, 116, 117, 118, 119, 120, 121, 122, 123] (by decide +kernel) (by decide +kernel)) (goodIn_sub (fun _ h => List.mem_cons_of_mem _ (List.mem_append_left _ (List.mem_append_left _ (List.mem_append_left _ (List.mem_append_left _ (List.mem_append_left _ (List.mem_append_right _ h))))))) (by decide +kernel))
set_option maxRecDepth 20000 in
theorem gX10_setStepLimit_X7_limitFault : GoodIn wsX10_setStepLimit (wsV RX10 96 RX7 yX7_limitFault wsX7_limitFault) := goodIn_app (goodIn_of _ (by decide +kernel)) ggX10_setStepLimit_X7_limitFault
set_option maxRecDepth 20000 in
theorem ggX10_setStepLimit_X10_refuse : GoodIn wsX10_setStepLimit wsX10_refuse := goodIn_ca (goodIn_ca (goodIn_ca (goodIn_ca (goodIn_ca (goodIn_ca (goodIn_r _ [34, 35, 36, 37, 38, 39, 40, 41, 42, 43, 44, 45, 46, 47, 48, 49, 50, 51, 52] (by decide +kernel) (by decide +kernel)) (goodIn_sub (fun _ h => List.mem_cons_of_mem _ (List.mem_append_left _ (List.mem_append_left _ (List.mem_append_left _ (List.mem_append_left _ (List.mem_append_left _ (List.mem_append_right _ h))))))) (by decide +kernel))) (goodIn_sub (fun _ h => List.mem_cons_of_mem _ (List.mem_append_left _ (List.mem_append_left _ (List.mem_append_left _ (List.mem_append_left _ (List.mem_append_right _ h)))))) (by decide +kernel))) (goodIn_sub (fun _ h => List.mem_cons_of_mem _ (List.mem_append_left _ (List.mem_append_left _ (List.mem_append_left _ (List.mem_append_right _ h))))) (by decide +kernel))) (goodIn_sub (fun _ h => List.mem_cons_of_mem _ (List.mem_append_left _ (List.mem_append_left _ (List.mem_append_right _ h)))) (by decide +kernel))) (goodIn_sub (fun _ h => List.mem_cons_of_mem _ (List.mem_append_left _ (List.mem_append_right _ h))) (by decide +kernel))) (goodIn_sub (fun _ h => List.mem_cons_of_mem _ (List.mem_append_right _ h)) (by decide +kernel))
set_option maxRecDepth 20000 in
theorem gX10_setStepLimit_X10_refuse : GoodIn wsX10_setStepLimit (va_wsS RX10 61 yX10_refuse wsX10_refuse) := goodIn_app (goodIn_of _ (by decide +kernel)) ggX10_setStepLimit_X10_refuse
set_option maxRecDepth 20000 in
theorem ggX10_setStepLimit_X4_record : GoodIn wsX10_setStepLimit wsX4_record := goodIn_ca (goodIn_r _ [57, 58, 59, 60, 61, 6, 62, 63, 64, 22, 65, 66, 67, 68, 69, 70, 71, 72, 15, 73, 74, 75, 76, 77, 78, 79, 80, 81, 82, 83, 84, 85, 86, 87, 88, 89, 90, 91, 92, 93, 94, 95, 124, 125, 126, 109, 110, 111, 112, 113, 114, 115, 116, 117, 118, 119, 120, 121, 122, 123] (by decide +kernel) (by decide +kernel)) (goodIn_sub (fun _ h => List.mem_cons_of_mem _ (List.mem_append_left _ (List.mem_append_left _ (List.mem_append_left _ (List.mem_append_left _ (List.mem_append_left _ (List.mem_append_right _ h))))))) (by decide +kernel))
set_option maxRecDepth 20000 in
theorem gX10_setStepLimit_X4_record : GoodIn wsX10_setStepLimit (wsV RX10 65 RX4 yX4_record wsX4_record) := goodIn_app (goodIn_of _ (by decide +kernel)) ggX10_setStepLimit_X4_record
set_option maxRecDepth 20000 in
theorem ggX10_setStepLimit_X7_changeLimit : GoodIn wsX10_setStepLimit wsX7_changeLimit := goodIn_r _ [99, 82, 109, 110, 111, 112, 113, 114, 115, 116, 117, 118, 119, 120, 121, 122, 123] (by decide +kernel) (by decide +kernel)
set_option maxRecDepth 20000 in
theorem gX10_setStepLimit_X7_changeLimit : GoodIn wsX10_setStepLimit (wsV RX10 100 RX7 yX7_changeLimit wsX7_changeLimit) := goodIn_app (goodIn_of _ (by decide +kernel)) ggX10_setStepLimit_X7_changeLimit
theorem dX10_setStepLimit_0 : decode cX10_setStepLimit 0 = .ok (.aload_n 0, 1) := by decide +kernel
theorem dX10_setStepLimit_1 : decode cX10_setStepLimit 1 = .ok (.getfield 10, 3) := by decide +kernel
theorem dX10_setStepLimit_4 : decode cX10_setStepLimit 4 = .ok (.iload_n 1, 1) := by decide +kernel
theorem dX10_setStepLimit_5 : decode cX10_setStepLimit 5 = .ok (.invokevirtual 96, 3) := by decide +kernel
theorem dX10_setStepLimit_8 : decode cX10_setStepLimit 8 = .ok (.invokestatic 61, 3) := by decide +kernel
theorem dX10_setStepLimit_11 : decode cX10_setStepLimit 11 = .ok (.aload_n 0, 1) := by decide +kernel
theorem dX10_setStepLimit_12 : decode cX10_setStepLimit 12 = .ok (.getfield 29, 3) := by decide +kernel
theorem dX10_setStepLimit_15 : decode cX10_setStepLimit 15 = .ok (.aload_n 0, 1) := by decide +kernel
theorem dX10_setStepLimit_16 : decode cX10_setStepLimit 16 = .ok (.getfield 10, 3) := by decide +kernel
theorem dX10_setStepLimit_19 : decode cX10_setStepLimit 19 = .ok (.invokevirtual 65, 3) := by decide +kernel
theorem dX10_setStepLimit_22 : decode cX10_setStepLimit 22 = .ok (.aload_n 0, 1) := by decide +kernel
theorem dX10_setStepLimit_23 : decode cX10_setStepLimit 23 = .ok (.getfield 10, 3) := by decide +kernel
theorem dX10_setStepLimit_26 : decode cX10_setStepLimit 26 = .ok (.iload_n 1, 1) := by decide +kernel
theorem dX10_setStepLimit_27 : decode cX10_setStepLimit 27 = .ok (.invokevirtual 100, 3) := by decide +kernel
theorem dX10_setStepLimit_30 : decode cX10_setStepLimit 30 = .ok (.ireturn, 1) := by decide +kernel
set_option maxRecDepth 20000 in
theorem ggX10_addWinch_X7_winchFault : GoodIn wsX10_addWinch wsX7_winchFault := goodIn_ca (goodIn_r _ [7, 8, 9, 10, 11, 12, 13, 14, 15, 16, 17, 18, 19, 20, 21, 22, 23, 24, 25, 26, 27, 6, 28, 29, 108, 109, 110, 111, 112, 113, 114, 115, 116, 117, 118, 119, 120, 121, 122] (by decide +kernel) (by decide +kernel)) (goodIn_sub (fun _ h => List.mem_cons_of_mem _ (List.mem_append_left _ (List.mem_append_left _ (List.mem_append_left _ (List.mem_append_left _ (List.mem_append_left _ (List.mem_append_right _ h))))))) (by decide +kernel))
set_option maxRecDepth 20000 in
theorem gX10_addWinch_X7_winchFault : GoodIn wsX10_addWinch (wsV RX10 104 RX7 yX7_winchFault wsX7_winchFault) := goodIn_app (goodIn_of _ (by decide +kernel)) ggX10_addWinch_X7_winchFault
set_option maxRecDepth 20000 in
theorem ggX10_addWinch_X10_refuse : GoodIn wsX10_addWinch wsX10_refuse := goodIn_ca (goodIn_ca (goodIn_ca (goodIn_ca (goodIn_ca (goodIn_ca (goodIn_r _ [33, 34, 35, 36, 37, 38, 39, 40, 41, 42, 43, 44, 45, 46, 47, 48, 49, 50, 51] (by decide +kernel) (by decide +kernel)) (goodIn_sub (fun _ h => List.mem_cons_of_mem _ (List.mem_append_left _ (List.mem_append_left _ (List.mem_append_left _ (List.mem_append_left _ (List.mem_append_left _ (List.mem_append_right _ h))))))) (by decide +kernel))) (goodIn_sub (fun _ h => List.mem_cons_of_mem _ (List.mem_append_left _ (List.mem_append_left _ (List.mem_append_left _ (List.mem_append_left _ (List.mem_append_right _ h)))))) (by decide +kernel))) (goodIn_sub (fun _ h => List.mem_cons_of_mem _ (List.mem_append_left _ (List.mem_append_left _ (List.mem_append_left _ (List.mem_append_right _ h))))) (by decide +kernel))) (goodIn_sub (fun _ h => List.mem_cons_of_mem _ (List.mem_append_left _ (List.mem_append_left _ (List.mem_append_right _ h)))) (by decide +kernel))) (goodIn_sub (fun _ h => List.mem_cons_of_mem _ (List.mem_append_left _ (List.mem_append_right _ h))) (by decide +kernel))) (goodIn_sub (fun _ h => List.mem_cons_of_mem _ (List.mem_append_right _ h)) (by decide +kernel))
set_option maxRecDepth 20000 in
theorem gX10_addWinch_X10_refuse : GoodIn wsX10_addWinch (va_wsS RX10 61 yX10_refuse wsX10_refuse) := goodIn_app (goodIn_of _ (by decide +kernel)) ggX10_addWinch_X10_refuse
set_option maxRecDepth 20000 in
theorem ggX10_addWinch_X4_record : GoodIn wsX10_addWinch wsX4_record := goodIn_ca (goodIn_r _ [56, 57, 58, 59, 60, 6, 61, 62, 63, 64, 65, 66, 67, 68, 69, 70, 71, 72, 73, 74, 75, 76, 77, 78, 29, 79, 80, 81, 82, 83, 84, 85, 86, 87, 88, 89, 90, 91, 11, 92, 93, 94, 123, 124, 125, 108, 109, 110, 111, 112, 113, 114, 115, 116, 117, 118, 119, 120, 121, 122] (by decide +kernel) (by decide +kernel)) (goodIn_sub (fun _ h => List.mem_cons_of_mem _ (List.mem_append_left _ (List.mem_append_left _ (List.mem_append_left _ (List.mem_append_left _ (List.mem_append_left _ (List.mem_append_right _ h))))))) (by decide +kernel))
set_option maxRecDepth 20000 in
theorem gX10_addWinch_X4_record : GoodIn wsX10_addWinch (wsV RX10 65 RX4 yX4_record wsX4_record) := goodIn_app (goodIn_of _ (by decide +kernel)) ggX10_addWinch_X4_record
set_option maxRecDepth 20000 in
theorem ggX10_addWinch_X7_placeWinch : GoodIn wsX10_addWinch wsX7_placeWinch := goodIn_ca (goodIn_r _ [98, 11, 29, 79, 80, 22, 23, 15, 24, 108, 109, 110, 111, 112, 113, 114, 115, 116, 117, 118, 119, 120, 121, 122] (by decide +kernel) (by decide +kernel)) (goodIn_sub (fun _ h => List.mem_cons_of_mem _ (List.mem_append_left _ (List.mem_append_left _ (List.mem_append_left _ (List.mem_append_left _ (List.mem_append_left _ (List.mem_append_right _ h))))))) (by decide +kernel))
set_option maxRecDepth 20000 in
theorem gX10_addWinch_X7_placeWinch : GoodIn wsX10_addWinch (wsV RX10 108 RX7 yX7_placeWinch wsX7_placeWinch) := goodIn_app (goodIn_of _ (by decide +kernel)) ggX10_addWinch_X7_placeWinch
theorem dX10_addWinch_0 : decode cX10_addWinch 0 = .ok (.aload_n 0, 1) := by decide +kernel
theorem dX10_addWinch_1 : decode cX10_addWinch 1 = .ok (.getfield 10, 3) := by decide +kernel
theorem dX10_addWinch_4 : decode cX10_addWinch 4 = .ok (.iload_n 1, 1) := by decide +kernel
theorem dX10_addWinch_5 : decode cX10_addWinch 5 = .ok (.iload_n 2, 1) := by decide +kernel
theorem dX10_addWinch_6 : decode cX10_addWinch 6 = .ok (.iload_n 3, 1) := by decide +kernel
theorem dX10_addWinch_7 : decode cX10_addWinch 7 = .ok (.iload 4, 2) := by decide +kernel
theorem dX10_addWinch_9 : decode cX10_addWinch 9 = .ok (.invokevirtual 104, 3) := by decide +kernel
theorem dX10_addWinch_12 : decode cX10_addWinch 12 = .ok (.invokestatic 61, 3) := by decide +kernel
theorem dX10_addWinch_15 : decode cX10_addWinch 15 = .ok (.aload_n 0, 1) := by decide +kernel
theorem dX10_addWinch_16 : decode cX10_addWinch 16 = .ok (.getfield 29, 3) := by decide +kernel
theorem dX10_addWinch_19 : decode cX10_addWinch 19 = .ok (.aload_n 0, 1) := by decide +kernel
theorem dX10_addWinch_20 : decode cX10_addWinch 20 = .ok (.getfield 10, 3) := by decide +kernel
theorem dX10_addWinch_23 : decode cX10_addWinch 23 = .ok (.invokevirtual 65, 3) := by decide +kernel
theorem dX10_addWinch_26 : decode cX10_addWinch 26 = .ok (.aload_n 0, 1) := by decide +kernel
theorem dX10_addWinch_27 : decode cX10_addWinch 27 = .ok (.getfield 10, 3) := by decide +kernel
theorem dX10_addWinch_30 : decode cX10_addWinch 30 = .ok (.iload_n 1, 1) := by decide +kernel
theorem dX10_addWinch_31 : decode cX10_addWinch 31 = .ok (.iload_n 2, 1) := by decide +kernel
theorem dX10_addWinch_32 : decode cX10_addWinch 32 = .ok (.iload_n 3, 1) := by decide +kernel
theorem dX10_addWinch_33 : decode cX10_addWinch 33 = .ok (.iload 4, 2) := by decide +kernel
theorem dX10_addWinch_35 : decode cX10_addWinch 35 = .ok (.invokevirtual 108, 3) := by decide +kernel
theorem dX10_addWinch_38 : decode cX10_addWinch 38 = .ok (.ireturn, 1) := by decide +kernel
set_option maxRecDepth 20000 in
theorem ggX10_lift_X7_liftFault : GoodIn wsX10_lift wsX7_liftFault := goodIn_ca (goodIn_r _ [7, 8, 9, 10, 11, 12, 13, 14, 15, 16, 17, 18, 6, 19, 20, 21, 22, 23, 24, 25, 26, 27, 28, 29, 30, 31, 32, 33, 34, 35, 36, 37, 38, 39, 40, 41, 42, 43, 44, 45, 46, 47, 48, 49, 50, 51, 52, 53, 54, 55, 56, 57, 58, 59, 132, 133, 134, 135, 136, 137, 138, 139, 140, 141, 142, 143, 144, 145, 146] (by decide +kernel) (by decide +kernel)) (goodIn_sub (fun _ h => List.mem_cons_of_mem _ (List.mem_append_left _ (List.mem_append_left _ (List.mem_append_left _ (List.mem_append_left _ (List.mem_append_left _ (List.mem_append_right _ h))))))) (by decide +kernel))
set_option maxRecDepth 20000 in
theorem gX10_lift_X7_liftFault : GoodIn wsX10_lift (wsV RX10 112 RX7 yX7_liftFault wsX7_liftFault) := goodIn_app (goodIn_of _ (by decide +kernel)) ggX10_lift_X7_liftFault
set_option maxRecDepth 20000 in
theorem ggX10_lift_X10_refuse : GoodIn wsX10_lift wsX10_refuse := goodIn_ca (goodIn_ca (goodIn_ca (goodIn_ca (goodIn_ca (goodIn_ca (goodIn_r _ [63, 64, 65, 66, 67, 68, 69, 70, 71, 72, 73, 74, 75, 76, 77, 78, 79, 80, 81] (by decide +kernel) (by decide +kernel)) (goodIn_sub (fun _ h => List.mem_cons_of_mem _ (List.mem_append_left _ (List.mem_append_left _ (List.mem_append_left _ (List.mem_append_left _ (List.mem_append_left _ (List.mem_append_right _ h))))))) (by decide +kernel))) (goodIn_sub (fun _ h => List.mem_cons_of_mem _ (List.mem_append_left _ (List.mem_append_left _ (List.mem_append_left _ (List.mem_append_left _ (List.mem_append_right _ h)))))) (by decide +kernel))) (goodIn_sub (fun _ h => List.mem_cons_of_mem _ (List.mem_append_left _ (List.mem_append_left _ (List.mem_append_left _ (List.mem_append_right _ h))))) (by decide +kernel))) (goodIn_sub (fun _ h => List.mem_cons_of_mem _ (List.mem_append_left _ (List.mem_append_left _ (List.mem_append_right _ h)))) (by decide +kernel))) (goodIn_sub (fun _ h => List.mem_cons_of_mem _ (List.mem_append_left _ (List.mem_append_right _ h))) (by decide +kernel))) (goodIn_sub (fun _ h => List.mem_cons_of_mem _ (List.mem_append_right _ h)) (by decide +kernel))
set_option maxRecDepth 20000 in
theorem gX10_lift_X10_refuse : GoodIn wsX10_lift (va_wsS RX10 61 yX10_refuse wsX10_refuse) := goodIn_app (goodIn_of _ (by decide +kernel)) ggX10_lift_X10_refuse
set_option maxRecDepth 20000 in
theorem ggX10_lift_X4_record : GoodIn wsX10_lift wsX4_record := goodIn_ca (goodIn_r _ [86, 87, 88, 89, 90, 6, 91, 92, 93, 44, 94, 95, 96, 97, 98, 99, 100, 101, 102, 103, 104, 10, 25, 56, 12, 14, 13, 105, 106, 107, 108, 109, 110, 111, 112, 113, 114, 115, 20, 116, 117, 118, 147, 148, 149, 132, 133, 134, 135, 136, 137, 138, 139, 140, 141, 142, 143, 144, 145, 146] (by decide +kernel) (by decide +kernel)) (goodIn_sub (fun _ h => List.mem_cons_of_mem _ (List.mem_append_left _ (List.mem_append_left _ (List.mem_append_left _ (List.mem_append_left _ (List.mem_append_left _ (List.mem_append_right _ h))))))) (by decide +kernel))
set_option maxRecDepth 20000 in
theorem gX10_lift_X4_record : GoodIn wsX10_lift (wsV RX10 65 RX4 yX4_record wsX4_record) := goodIn_app (goodIn_of _ (by decide +kernel)) ggX10_lift_X4_record
set_option maxRecDepth 20000 in
theorem ggX10_lift_X7_liftBlock : GoodIn wsX10_lift wsX7_liftBlock := goodIn_ca (goodIn_r _ [122, 102, 25, 105, 117, 118, 36, 37, 29, 38, 52, 53, 54, 6, 55, 56, 57, 58, 59, 132, 133, 134, 135, 136, 137, 138, 139, 140, 141, 142, 143, 144, 145, 146] (by decide +kernel) (by decide +kernel)) (goodIn_sub (fun _ h => List.mem_cons_of_mem _ (List.mem_append_left _ (List.mem_append_left _ (List.mem_append_left _ (List.mem_append_left _ (List.mem_append_left _ (List.mem_append_right _ h))))))) (by decide +kernel))
set_option maxRecDepth 20000 in
theorem gX10_lift_X7_liftBlock : GoodIn wsX10_lift (wsV RX10 115 RX7 yX7_liftBlock wsX7_liftBlock) := goodIn_app (goodIn_of _ (by decide +kernel)) ggX10_lift_X7_liftBlock
theorem dX10_lift_0 : decode cX10_lift 0 = .ok (.aload_n 0, 1) := by decide +kernel
theorem dX10_lift_1 : decode cX10_lift 1 = .ok (.getfield 10, 3) := by decide +kernel
theorem dX10_lift_4 : decode cX10_lift 4 = .ok (.iload_n 1, 1) := by decide +kernel
theorem dX10_lift_5 : decode cX10_lift 5 = .ok (.iload_n 2, 1) := by decide +kernel
theorem dX10_lift_6 : decode cX10_lift 6 = .ok (.iload_n 3, 1) := by decide +kernel
theorem dX10_lift_7 : decode cX10_lift 7 = .ok (.invokevirtual 112, 3) := by decide +kernel
theorem dX10_lift_10 : decode cX10_lift 10 = .ok (.invokestatic 61, 3) := by decide +kernel
theorem dX10_lift_13 : decode cX10_lift 13 = .ok (.aload_n 0, 1) := by decide +kernel
theorem dX10_lift_14 : decode cX10_lift 14 = .ok (.getfield 29, 3) := by decide +kernel
theorem dX10_lift_17 : decode cX10_lift 17 = .ok (.aload_n 0, 1) := by decide +kernel
theorem dX10_lift_18 : decode cX10_lift 18 = .ok (.getfield 10, 3) := by decide +kernel
theorem dX10_lift_21 : decode cX10_lift 21 = .ok (.invokevirtual 65, 3) := by decide +kernel
theorem dX10_lift_24 : decode cX10_lift 24 = .ok (.aload_n 0, 1) := by decide +kernel
theorem dX10_lift_25 : decode cX10_lift 25 = .ok (.getfield 10, 3) := by decide +kernel
theorem dX10_lift_28 : decode cX10_lift 28 = .ok (.iload_n 2, 1) := by decide +kernel
theorem dX10_lift_29 : decode cX10_lift 29 = .ok (.iload_n 3, 1) := by decide +kernel
theorem dX10_lift_30 : decode cX10_lift 30 = .ok (.invokevirtual 115, 3) := by decide +kernel
theorem dX10_lift_33 : decode cX10_lift 33 = .ok (.ireturn, 1) := by decide +kernel
set_option maxRecDepth 20000 in
theorem ggX10_crush_X7_crushFault : GoodIn wsX10_crush wsX7_crushFault := goodIn_ca (goodIn_r _ [7, 8, 9, 10, 11, 12, 13, 6, 14, 94, 95, 96, 97, 98, 99, 100, 101, 102, 103, 104, 105, 106, 107, 108] (by decide +kernel) (by decide +kernel)) (goodIn_sub (fun _ h => List.mem_cons_of_mem _ (List.mem_append_left _ (List.mem_append_left _ (List.mem_append_left _ (List.mem_append_left _ (List.mem_append_left _ (List.mem_append_right _ h))))))) (by decide +kernel))
set_option maxRecDepth 20000 in
theorem gX10_crush_X7_crushFault : GoodIn wsX10_crush (wsV RX10 118 RX7 yX7_crushFault wsX7_crushFault) := goodIn_app (goodIn_of _ (by decide +kernel)) ggX10_crush_X7_crushFault
set_option maxRecDepth 20000 in
theorem ggX10_crush_X10_refuse : GoodIn wsX10_crush wsX10_refuse := goodIn_ca (goodIn_ca (goodIn_ca (goodIn_ca (goodIn_ca (goodIn_ca (goodIn_r _ [18, 19, 20, 21, 22, 23, 24, 25, 26, 27, 28, 29, 30, 31, 32, 33, 34, 35, 36] (by decide +kernel) (by decide +kernel)) (goodIn_sub (fun _ h => List.mem_cons_of_mem _ (List.mem_append_left _ (List.mem_append_left _ (List.mem_append_left _ (List.mem_append_left _ (List.mem_append_left _ (List.mem_append_right _ h))))))) (by decide +kernel))) (goodIn_sub (fun _ h => List.mem_cons_of_mem _ (List.mem_append_left _ (List.mem_append_left _ (List.mem_append_left _ (List.mem_append_left _ (List.mem_append_right _ h)))))) (by decide +kernel))) (goodIn_sub (fun _ h => List.mem_cons_of_mem _ (List.mem_append_left _ (List.mem_append_left _ (List.mem_append_left _ (List.mem_append_right _ h))))) (by decide +kernel))) (goodIn_sub (fun _ h => List.mem_cons_of_mem _ (List.mem_append_left _ (List.mem_append_left _ (List.mem_append_right _ h)))) (by decide +kernel))) (goodIn_sub (fun _ h => List.mem_cons_of_mem _ (List.mem_append_left _ (List.mem_append_right _ h))) (by decide +kernel))) (goodIn_sub (fun _ h => List.mem_cons_of_mem _ (List.mem_append_right _ h)) (by decide +kernel))
set_option maxRecDepth 20000 in
theorem gX10_crush_X10_refuse : GoodIn wsX10_crush (va_wsS RX10 61 yX10_refuse wsX10_refuse) := goodIn_app (goodIn_of _ (by decide +kernel)) ggX10_crush_X10_refuse
set_option maxRecDepth 20000 in
theorem ggX10_crush_X4_record : GoodIn wsX10_crush wsX4_record := goodIn_ca (goodIn_r _ [41, 42, 43, 44, 45, 6, 46, 47, 48, 49, 50, 51, 52, 53, 54, 55, 56, 57, 58, 59, 60, 61, 62, 63, 64, 65, 66, 9, 67, 68, 69, 70, 71, 72, 73, 74, 75, 76, 77, 78, 79, 80, 109, 110, 111, 94, 95, 96, 97, 98, 99, 100, 101, 102, 103, 104, 105, 106, 107, 108] (by decide +kernel) (by decide +kernel)) (goodIn_sub (fun _ h => List.mem_cons_of_mem _ (List.mem_append_left _ (List.mem_append_left _ (List.mem_append_left _ (List.mem_append_left _ (List.mem_append_left _ (List.mem_append_right _ h))))))) (by decide +kernel))
set_option maxRecDepth 20000 in
theorem gX10_crush_X4_record : GoodIn wsX10_crush (wsV RX10 65 RX4 yX4_record wsX4_record) := goodIn_app (goodIn_of _ (by decide +kernel)) ggX10_crush_X4_record
set_option maxRecDepth 20000 in
theorem ggX10_crush_X7_crushBlocks : GoodIn wsX10_crush wsX7_crushBlocks := goodIn_ca (goodIn_r _ [84, 9, 68, 94, 95, 96, 97, 98, 99, 100, 101, 102, 103, 104, 105, 106, 107, 108] (by decide +kernel) (by decide +kernel)) (goodIn_sub (fun _ h => List.mem_cons_of_mem _ (List.mem_append_left _ (List.mem_append_left _ (List.mem_append_left _ (List.mem_append_left _ (List.mem_append_left _ (List.mem_append_right _ h))))))) (by decide +kernel))
set_option maxRecDepth 20000 in
theorem gX10_crush_X7_crushBlocks : GoodIn wsX10_crush (wsV RX10 121 RX7 yX7_crushBlocks wsX7_crushBlocks) := goodIn_app (goodIn_of _ (by decide +kernel)) ggX10_crush_X7_crushBlocks
theorem dX10_crush_0 : decode cX10_crush 0 = .ok (.aload_n 0, 1) := by decide +kernel
theorem dX10_crush_1 : decode cX10_crush 1 = .ok (.getfield 10, 3) := by decide +kernel
theorem dX10_crush_4 : decode cX10_crush 4 = .ok (.iload_n 1, 1) := by decide +kernel
theorem dX10_crush_5 : decode cX10_crush 5 = .ok (.iload_n 2, 1) := by decide +kernel
theorem dX10_crush_6 : decode cX10_crush 6 = .ok (.invokevirtual 118, 3) := by decide +kernel
theorem dX10_crush_9 : decode cX10_crush 9 = .ok (.invokestatic 61, 3) := by decide +kernel
theorem dX10_crush_12 : decode cX10_crush 12 = .ok (.aload_n 0, 1) := by decide +kernel
theorem dX10_crush_13 : decode cX10_crush 13 = .ok (.getfield 29, 3) := by decide +kernel
theorem dX10_crush_16 : decode cX10_crush 16 = .ok (.aload_n 0, 1) := by decide +kernel
theorem dX10_crush_17 : decode cX10_crush 17 = .ok (.getfield 10, 3) := by decide +kernel
theorem dX10_crush_20 : decode cX10_crush 20 = .ok (.invokevirtual 65, 3) := by decide +kernel
theorem dX10_crush_23 : decode cX10_crush 23 = .ok (.aload_n 0, 1) := by decide +kernel
theorem dX10_crush_24 : decode cX10_crush 24 = .ok (.getfield 10, 3) := by decide +kernel
theorem dX10_crush_27 : decode cX10_crush 27 = .ok (.iload_n 1, 1) := by decide +kernel
theorem dX10_crush_28 : decode cX10_crush 28 = .ok (.iload_n 2, 1) := by decide +kernel
theorem dX10_crush_29 : decode cX10_crush 29 = .ok (.invokevirtual 121, 3) := by decide +kernel
theorem dX10_crush_32 : decode cX10_crush 32 = .ok (.ireturn, 1) := by decide +kernel
set_option maxRecDepth 20000 in
theorem ggX10_height_X3_cellFault : GoodIn wsX10_height wsX3_cellFault := goodIn_r _ [5, 6, 7, 8, 9, 4, 10] (by decide +kernel) (by decide +kernel)
set_option maxRecDepth 20000 in
theorem gX10_height_X3_cellFault : GoodIn wsX10_height (va_wsS RX10 87 yX3_cellFault wsX3_cellFault) := goodIn_app (goodIn_of _ (by decide +kernel)) ggX10_height_X3_cellFault
set_option maxRecDepth 20000 in
theorem ggX10_height_X10_refuse : GoodIn wsX10_height wsX10_refuse := goodIn_ca (goodIn_ca (goodIn_ca (goodIn_ca (goodIn_ca (goodIn_ca (goodIn_r _ [14, 15, 16, 17, 18, 19, 20, 21, 22, 23, 24, 25, 26, 27, 28, 29, 30, 31, 32] (by decide +kernel) (by decide +kernel)) (goodIn_sub (fun _ h => List.mem_cons_of_mem _ (List.mem_append_left _ (List.mem_append_left _ (List.mem_append_left _ (List.mem_append_left _ (List.mem_append_left _ (List.mem_append_right _ h))))))) (by decide +kernel))) (goodIn_sub (fun _ h => List.mem_cons_of_mem _ (List.mem_append_left _ (List.mem_append_left _ (List.mem_append_left _ (List.mem_append_left _ (List.mem_append_right _ h)))))) (by decide +kernel))) (goodIn_sub (fun _ h => List.mem_cons_of_mem _ (List.mem_append_left _ (List.mem_append_left _ (List.mem_append_left _ (List.mem_append_right _ h))))) (by decide +kernel))) (goodIn_sub (fun _ h => List.mem_cons_of_mem _ (List.mem_append_left _ (List.mem_append_left _ (List.mem_append_right _ h)))) (by decide +kernel))) (goodIn_sub (fun _ h => List.mem_cons_of_mem _ (List.mem_append_left _ (List.mem_append_right _ h))) (by decide +kernel))) (goodIn_sub (fun _ h => List.mem_cons_of_mem _ (List.mem_append_right _ h)) (by decide +kernel))
set_option maxRecDepth 20000 in
theorem gX10_height_X10_refuse : GoodIn wsX10_height (va_wsS RX10 61 yX10_refuse wsX10_refuse) := goodIn_app (goodIn_of _ (by decide +kernel)) ggX10_height_X10_refuse
set_option maxRecDepth 20000 in
theorem ggX10_height_X3_cellAt : GoodIn wsX10_height wsX3_cellAt := goodIn_r _ [35] (by decide +kernel) (by decide +kernel)
set_option maxRecDepth 20000 in
theorem gX10_height_X3_cellAt : GoodIn wsX10_height (va_wsS RX10 124 yX3_cellAt wsX3_cellAt) := goodIn_app (goodIn_of _ (by decide +kernel)) ggX10_height_X3_cellAt
set_option maxRecDepth 20000 in
theorem ggX10_height_X7_heightAt : GoodIn wsX10_height wsX7_heightAt := goodIn_ca (goodIn_r _ [40, 41, 51, 52, 53, 54, 55, 56, 57, 58, 59, 60, 61, 62, 63, 64, 65] (by decide +kernel) (by decide +kernel)) (goodIn_sub (fun _ h => List.mem_cons_of_mem _ (List.mem_append_left _ (List.mem_append_left _ (List.mem_append_left _ (List.mem_append_left _ (List.mem_append_left _ (List.mem_append_right _ h))))))) (by decide +kernel))
set_option maxRecDepth 20000 in
theorem gX10_height_X7_heightAt : GoodIn wsX10_height (wsV RX10 127 RX7 yX7_heightAt wsX7_heightAt) := goodIn_app (goodIn_of _ (by decide +kernel)) ggX10_height_X7_heightAt
theorem dX10_height_0 : decode cX10_height 0 = .ok (.iload_n 1, 1) := by decide +kernel
theorem dX10_height_1 : decode cX10_height 1 = .ok (.iload_n 2, 1) := by decide +kernel
theorem dX10_height_2 : decode cX10_height 2 = .ok (.invokestatic 87, 3) := by decide +kernel
theorem dX10_height_5 : decode cX10_height 5 = .ok (.invokestatic 61, 3) := by decide +kernel
theorem dX10_height_8 : decode cX10_height 8 = .ok (.aload_n 0, 1) := by decide +kernel
theorem dX10_height_9 : decode cX10_height 9 = .ok (.getfield 10, 3) := by decide +kernel
theorem dX10_height_12 : decode cX10_height 12 = .ok (.iload_n 1, 1) := by decide +kernel
theorem dX10_height_13 : decode cX10_height 13 = .ok (.iload_n 2, 1) := by decide +kernel
theorem dX10_height_14 : decode cX10_height 14 = .ok (.invokestatic 124, 3) := by decide +kernel
theorem dX10_height_17 : decode cX10_height 17 = .ok (.invokevirtual 127, 3) := by decide +kernel
theorem dX10_height_20 : decode cX10_height 20 = .ok (.ireturn, 1) := by decide +kernel
set_option maxRecDepth 20000 in
theorem ggX10_stone_X3_cellFault : GoodIn wsX10_stone wsX3_cellFault := goodIn_r _ [5, 6, 7, 8, 9, 4, 10] (by decide +kernel) (by decide +kernel)
set_option maxRecDepth 20000 in
theorem gX10_stone_X3_cellFault : GoodIn wsX10_stone (va_wsS RX10 87 yX3_cellFault wsX3_cellFault) := goodIn_app (goodIn_of _ (by decide +kernel)) ggX10_stone_X3_cellFault
set_option maxRecDepth 20000 in
theorem ggX10_stone_X10_refuse : GoodIn wsX10_stone wsX10_refuse := goodIn_ca (goodIn_ca (goodIn_ca (goodIn_ca (goodIn_ca (goodIn_ca (goodIn_r _ [14, 15, 16, 17, 18, 19, 20, 21, 22, 23, 24, 25, 26, 27, 28, 29, 30, 31, 32] (by decide +kernel) (by decide +kernel)) (goodIn_sub (fun _ h => List.mem_cons_of_mem _ (List.mem_append_left _ (List.mem_append_left _ (List.mem_append_left _ (List.mem_append_left _ (List.mem_append_left _ (List.mem_append_right _ h))))))) (by decide +kernel))) (goodIn_sub (fun _ h => List.mem_cons_of_mem _ (List.mem_append_left _ (List.mem_append_left _ (List.mem_append_left _ (List.mem_append_left _ (List.mem_append_right _ h)))))) (by decide +kernel))) (goodIn_sub (fun _ h => List.mem_cons_of_mem _ (List.mem_append_left _ (List.mem_append_left _ (List.mem_append_left _ (List.mem_append_right _ h))))) (by decide +kernel))) (goodIn_sub (fun _ h => List.mem_cons_of_mem _ (List.mem_append_left _ (List.mem_append_left _ (List.mem_append_right _ h)))) (by decide +kernel))) (goodIn_sub (fun _ h => List.mem_cons_of_mem _ (List.mem_append_left _ (List.mem_append_right _ h))) (by decide +kernel))) (goodIn_sub (fun _ h => List.mem_cons_of_mem _ (List.mem_append_right _ h)) (by decide +kernel))
set_option maxRecDepth 20000 in
theorem gX10_stone_X10_refuse : GoodIn wsX10_stone (va_wsS RX10 61 yX10_refuse wsX10_refuse) := goodIn_app (goodIn_of _ (by decide +kernel)) ggX10_stone_X10_refuse
set_option maxRecDepth 20000 in
theorem ggX10_stone_X3_cellAt : GoodIn wsX10_stone wsX3_cellAt := goodIn_r _ [35] (by decide +kernel) (by decide +kernel)
set_option maxRecDepth 20000 in
theorem gX10_stone_X3_cellAt : GoodIn wsX10_stone (va_wsS RX10 124 yX3_cellAt wsX3_cellAt) := goodIn_app (goodIn_of _ (by decide +kernel)) ggX10_stone_X3_cellAt
set_option maxRecDepth 20000 in
theorem ggX10_stone_X7_stoneAt : GoodIn wsX10_stone wsX7_stoneAt := goodIn_ca (goodIn_r _ [40, 41, 51, 52, 53, 54, 55, 56, 57, 58, 59, 60, 61, 62, 63, 64, 65] (by decide +kernel) (by decide +kernel)) (goodIn_sub (fun _ h => List.mem_cons_of_mem _ (List.mem_append_left _ (List.mem_append_left _ (List.mem_append_left _ (List.mem_append_left _ (List.mem_append_left _ (List.mem_append_right _ h))))))) (by decide +kernel))
set_option maxRecDepth 20000 in
theorem gX10_stone_X7_stoneAt : GoodIn wsX10_stone (wsV RX10 130 RX7 yX7_stoneAt wsX7_stoneAt) := goodIn_app (goodIn_of _ (by decide +kernel)) ggX10_stone_X7_stoneAt
theorem dX10_stone_0 : decode cX10_stone 0 = .ok (.iload_n 1, 1) := by decide +kernel
theorem dX10_stone_1 : decode cX10_stone 1 = .ok (.iload_n 2, 1) := by decide +kernel
theorem dX10_stone_2 : decode cX10_stone 2 = .ok (.invokestatic 87, 3) := by decide +kernel
theorem dX10_stone_5 : decode cX10_stone 5 = .ok (.invokestatic 61, 3) := by decide +kernel
theorem dX10_stone_8 : decode cX10_stone 8 = .ok (.aload_n 0, 1) := by decide +kernel
theorem dX10_stone_9 : decode cX10_stone 9 = .ok (.getfield 10, 3) := by decide +kernel
theorem dX10_stone_12 : decode cX10_stone 12 = .ok (.iload_n 1, 1) := by decide +kernel
theorem dX10_stone_13 : decode cX10_stone 13 = .ok (.iload_n 2, 1) := by decide +kernel
theorem dX10_stone_14 : decode cX10_stone 14 = .ok (.invokestatic 124, 3) := by decide +kernel
theorem dX10_stone_17 : decode cX10_stone 17 = .ok (.invokevirtual 130, 3) := by decide +kernel
theorem dX10_stone_20 : decode cX10_stone 20 = .ok (.ireturn, 1) := by decide +kernel
set_option maxRecDepth 20000 in
theorem ggX10_isLedge_X3_cellFault : GoodIn wsX10_isLedge wsX3_cellFault := goodIn_r _ [5, 6, 7, 8, 9, 4, 10] (by decide +kernel) (by decide +kernel)
set_option maxRecDepth 20000 in
theorem gX10_isLedge_X3_cellFault : GoodIn wsX10_isLedge (va_wsS RX10 87 yX3_cellFault wsX3_cellFault) := goodIn_app (goodIn_of _ (by decide +kernel)) ggX10_isLedge_X3_cellFault
set_option maxRecDepth 20000 in
theorem ggX10_isLedge_X10_refuse : GoodIn wsX10_isLedge wsX10_refuse := goodIn_ca (goodIn_ca (goodIn_ca (goodIn_ca (goodIn_ca (goodIn_ca (goodIn_r _ [14, 15, 16, 17, 18, 19, 20, 21, 22, 23, 24, 25, 26, 27, 28, 29, 30, 31, 32] (by decide +kernel) (by decide +kernel)) (goodIn_sub (fun _ h => List.mem_cons_of_mem _ (List.mem_append_left _ (List.mem_append_left _ (List.mem_append_left _ (List.mem_append_left _ (List.mem_append_left _ (List.mem_append_right _ h))))))) (by decide +kernel))) (goodIn_sub (fun _ h => List.mem_cons_of_mem _ (List.mem_append_left _ (List.mem_append_left _ (List.mem_append_left _ (List.mem_append_left _ (List.mem_append_right _ h)))))) (by decide +kernel))) (goodIn_sub (fun _ h => List.mem_cons_of_mem _ (List.mem_append_left _ (List.mem_append_left _ (List.mem_append_left _ (List.mem_append_right _ h))))) (by decide +kernel))) (goodIn_sub (fun _ h => List.mem_cons_of_mem _ (List.mem_append_left _ (List.mem_append_left _ (List.mem_append_right _ h)))) (by decide +kernel))) (goodIn_sub (fun _ h => List.mem_cons_of_mem _ (List.mem_append_left _ (List.mem_append_right _ h))) (by decide +kernel))) (goodIn_sub (fun _ h => List.mem_cons_of_mem _ (List.mem_append_right _ h)) (by decide +kernel))
set_option maxRecDepth 20000 in
theorem gX10_isLedge_X10_refuse : GoodIn wsX10_isLedge (va_wsS RX10 61 yX10_refuse wsX10_refuse) := goodIn_app (goodIn_of _ (by decide +kernel)) ggX10_isLedge_X10_refuse
set_option maxRecDepth 20000 in
theorem ggX10_isLedge_X3_cellAt : GoodIn wsX10_isLedge wsX3_cellAt := goodIn_r _ [35] (by decide +kernel) (by decide +kernel)
set_option maxRecDepth 20000 in
theorem gX10_isLedge_X3_cellAt : GoodIn wsX10_isLedge (va_wsS RX10 124 yX3_cellAt wsX3_cellAt) := goodIn_app (goodIn_of _ (by decide +kernel)) ggX10_isLedge_X3_cellAt
set_option maxRecDepth 20000 in
theorem ggX10_isLedge_X7_hasLedgeAt : GoodIn wsX10_isLedge wsX7_hasLedgeAt := goodIn_ca (goodIn_r _ [40, 41, 51, 52, 53, 54, 55, 56, 57, 58, 59, 60, 61, 62, 63, 64, 65] (by decide +kernel) (by decide +kernel)) (goodIn_sub (fun _ h => List.mem_cons_of_mem _ (List.mem_append_left _ (List.mem_append_left _ (List.mem_append_left _ (List.mem_append_left _ (List.mem_append_left _ (List.mem_append_right _ h))))))) (by decide +kernel))
set_option maxRecDepth 20000 in
theorem gX10_isLedge_X7_hasLedgeAt : GoodIn wsX10_isLedge (wsV RX10 133 RX7 yX7_hasLedgeAt wsX7_hasLedgeAt) := goodIn_app (goodIn_of _ (by decide +kernel)) ggX10_isLedge_X7_hasLedgeAt
theorem dX10_isLedge_0 : decode cX10_isLedge 0 = .ok (.iload_n 1, 1) := by decide +kernel
theorem dX10_isLedge_1 : decode cX10_isLedge 1 = .ok (.iload_n 2, 1) := by decide +kernel
theorem dX10_isLedge_2 : decode cX10_isLedge 2 = .ok (.invokestatic 87, 3) := by decide +kernel
theorem dX10_isLedge_5 : decode cX10_isLedge 5 = .ok (.invokestatic 61, 3) := by decide +kernel
theorem dX10_isLedge_8 : decode cX10_isLedge 8 = .ok (.aload_n 0, 1) := by decide +kernel
theorem dX10_isLedge_9 : decode cX10_isLedge 9 = .ok (.getfield 10, 3) := by decide +kernel
theorem dX10_isLedge_12 : decode cX10_isLedge 12 = .ok (.iload_n 1, 1) := by decide +kernel
theorem dX10_isLedge_13 : decode cX10_isLedge 13 = .ok (.iload_n 2, 1) := by decide +kernel
theorem dX10_isLedge_14 : decode cX10_isLedge 14 = .ok (.invokestatic 124, 3) := by decide +kernel
theorem dX10_isLedge_17 : decode cX10_isLedge 17 = .ok (.invokevirtual 133, 3) := by decide +kernel
theorem dX10_isLedge_20 : decode cX10_isLedge 20 = .ok (.ireturn, 1) := by decide +kernel
set_option maxRecDepth 20000 in
theorem ggX10_looseBlocks_X3_cellFault : GoodIn wsX10_looseBlocks wsX3_cellFault := goodIn_r _ [5, 6, 7, 8, 9, 4, 10] (by decide +kernel) (by decide +kernel)
set_option maxRecDepth 20000 in
theorem gX10_looseBlocks_X3_cellFault : GoodIn wsX10_looseBlocks (va_wsS RX10 87 yX3_cellFault wsX3_cellFault) := goodIn_app (goodIn_of _ (by decide +kernel)) ggX10_looseBlocks_X3_cellFault
set_option maxRecDepth 20000 in
theorem ggX10_looseBlocks_X10_refuse : GoodIn wsX10_looseBlocks wsX10_refuse := goodIn_ca (goodIn_ca (goodIn_ca (goodIn_ca (goodIn_ca (goodIn_ca (goodIn_r _ [14, 15, 16, 17, 18, 19, 20, 21, 22, 23, 24, 25, 26, 27, 28, 29, 30, 31, 32] (by decide +kernel) (by decide +kernel)) (goodIn_sub (fun _ h => List.mem_cons_of_mem _ (List.mem_append_left _ (List.mem_append_left _ (List.mem_append_left _ (List.mem_append_left _ (List.mem_append_left _ (List.mem_append_right _ h))))))) (by decide +kernel))) (goodIn_sub (fun _ h => List.mem_cons_of_mem _ (List.mem_append_left _ (List.mem_append_left _ (List.mem_append_left _ (List.mem_append_left _ (List.mem_append_right _ h)))))) (by decide +kernel))) (goodIn_sub (fun _ h => List.mem_cons_of_mem _ (List.mem_append_left _ (List.mem_append_left _ (List.mem_append_left _ (List.mem_append_right _ h))))) (by decide +kernel))) (goodIn_sub (fun _ h => List.mem_cons_of_mem _ (List.mem_append_left _ (List.mem_append_left _ (List.mem_append_right _ h)))) (by decide +kernel))) (goodIn_sub (fun _ h => List.mem_cons_of_mem _ (List.mem_append_left _ (List.mem_append_right _ h))) (by decide +kernel))) (goodIn_sub (fun _ h => List.mem_cons_of_mem _ (List.mem_append_right _ h)) (by decide +kernel))
set_option maxRecDepth 20000 in
theorem gX10_looseBlocks_X10_refuse : GoodIn wsX10_looseBlocks (va_wsS RX10 61 yX10_refuse wsX10_refuse) := goodIn_app (goodIn_of _ (by decide +kernel)) ggX10_looseBlocks_X10_refuse
set_option maxRecDepth 20000 in
theorem ggX10_looseBlocks_X3_cellAt : GoodIn wsX10_looseBlocks wsX3_cellAt := goodIn_r _ [35] (by decide +kernel) (by decide +kernel)
set_option maxRecDepth 20000 in
theorem gX10_looseBlocks_X3_cellAt : GoodIn wsX10_looseBlocks (va_wsS RX10 124 yX3_cellAt wsX3_cellAt) := goodIn_app (goodIn_of _ (by decide +kernel)) ggX10_looseBlocks_X3_cellAt
set_option maxRecDepth 20000 in
theorem ggX10_looseBlocks_X7_blocksAt : GoodIn wsX10_looseBlocks wsX7_blocksAt := goodIn_ca (goodIn_r _ [40, 41, 51, 52, 53, 54, 55, 56, 57, 58, 59, 60, 61, 62, 63, 64, 65] (by decide +kernel) (by decide +kernel)) (goodIn_sub (fun _ h => List.mem_cons_of_mem _ (List.mem_append_left _ (List.mem_append_left _ (List.mem_append_left _ (List.mem_append_left _ (List.mem_append_left _ (List.mem_append_right _ h))))))) (by decide +kernel))
set_option maxRecDepth 20000 in
theorem gX10_looseBlocks_X7_blocksAt : GoodIn wsX10_looseBlocks (wsV RX10 137 RX7 yX7_blocksAt wsX7_blocksAt) := goodIn_app (goodIn_of _ (by decide +kernel)) ggX10_looseBlocks_X7_blocksAt
theorem dX10_looseBlocks_0 : decode cX10_looseBlocks 0 = .ok (.iload_n 1, 1) := by decide +kernel
theorem dX10_looseBlocks_1 : decode cX10_looseBlocks 1 = .ok (.iload_n 2, 1) := by decide +kernel
theorem dX10_looseBlocks_2 : decode cX10_looseBlocks 2 = .ok (.invokestatic 87, 3) := by decide +kernel
theorem dX10_looseBlocks_5 : decode cX10_looseBlocks 5 = .ok (.invokestatic 61, 3) := by decide +kernel
theorem dX10_looseBlocks_8 : decode cX10_looseBlocks 8 = .ok (.aload_n 0, 1) := by decide +kernel
theorem dX10_looseBlocks_9 : decode cX10_looseBlocks 9 = .ok (.getfield 10, 3) := by decide +kernel
theorem dX10_looseBlocks_12 : decode cX10_looseBlocks 12 = .ok (.iload_n 1, 1) := by decide +kernel
theorem dX10_looseBlocks_13 : decode cX10_looseBlocks 13 = .ok (.iload_n 2, 1) := by decide +kernel
theorem dX10_looseBlocks_14 : decode cX10_looseBlocks 14 = .ok (.invokestatic 124, 3) := by decide +kernel
theorem dX10_looseBlocks_17 : decode cX10_looseBlocks 17 = .ok (.invokevirtual 137, 3) := by decide +kernel
theorem dX10_looseBlocks_20 : decode cX10_looseBlocks 20 = .ok (.ireturn, 1) := by decide +kernel
set_option maxRecDepth 20000 in
theorem ggX10_topBlock_X7_topFault : GoodIn wsX10_topBlock wsX7_topFault := goodIn_ca (goodIn_r _ [6, 7, 8, 9, 10, 11, 12, 13, 14, 15, 16, 17, 18, 19, 20, 21, 22, 60, 61, 62, 63, 64, 65, 66, 67, 68, 69, 70, 71, 72, 73, 74] (by decide +kernel) (by decide +kernel)) (goodIn_sub (fun _ h => List.mem_cons_of_mem _ (List.mem_append_left _ (List.mem_append_left _ (List.mem_append_left _ (List.mem_append_left _ (List.mem_append_left _ (List.mem_append_right _ h))))))) (by decide +kernel))
set_option maxRecDepth 20000 in
theorem gX10_topBlock_X7_topFault : GoodIn wsX10_topBlock (wsV RX10 140 RX7 yX7_topFault wsX7_topFault) := goodIn_app (goodIn_of _ (by decide +kernel)) ggX10_topBlock_X7_topFault
set_option maxRecDepth 20000 in
theorem ggX10_topBlock_X10_refuse : GoodIn wsX10_topBlock wsX10_refuse := goodIn_ca (goodIn_ca (goodIn_ca (goodIn_ca (goodIn_ca (goodIn_ca (goodIn_r _ [26, 27, 28, 29, 30, 31, 32, 33, 34, 35, 36, 37, 38, 39, 40, 41, 42, 43, 44] (by decide +kernel) (by decide +kernel)) (goodIn_sub (fun _ h => List.mem_cons_of_mem _ (List.mem_append_left _ (List.mem_append_left _ (List.mem_append_left _ (List.mem_append_left _ (List.mem_append_left _ (List.mem_append_right _ h))))))) (by decide +kernel))) (goodIn_sub (fun _ h => List.mem_cons_of_mem _ (List.mem_append_left _ (List.mem_append_left _ (List.mem_append_left _ (List.mem_append_left _ (List.mem_append_right _ h)))))) (by decide +kernel))) (goodIn_sub (fun _ h => List.mem_cons_of_mem _ (List.mem_append_left _ (List.mem_append_left _ (List.mem_append_left _ (List.mem_append_right _ h))))) (by decide +kernel))) (goodIn_sub (fun _ h => List.mem_cons_of_mem _ (List.mem_append_left _ (List.mem_append_left _ (List.mem_append_right _ h)))) (by decide +kernel))) (goodIn_sub (fun _ h => List.mem_cons_of_mem _ (List.mem_append_left _ (List.mem_append_right _ h))) (by decide +kernel))) (goodIn_sub (fun _ h => List.mem_cons_of_mem _ (List.mem_append_right _ h)) (by decide +kernel))
set_option maxRecDepth 20000 in
theorem gX10_topBlock_X10_refuse : GoodIn wsX10_topBlock (va_wsS RX10 61 yX10_refuse wsX10_refuse) := goodIn_app (goodIn_of _ (by decide +kernel)) ggX10_topBlock_X10_refuse
set_option maxRecDepth 20000 in
theorem ggX10_topBlock_X3_cellAt : GoodIn wsX10_topBlock wsX3_cellAt := goodIn_r _ [22] (by decide +kernel) (by decide +kernel)
set_option maxRecDepth 20000 in
theorem gX10_topBlock_X3_cellAt : GoodIn wsX10_topBlock (va_wsS RX10 124 yX3_cellAt wsX3_cellAt) := goodIn_app (goodIn_of _ (by decide +kernel)) ggX10_topBlock_X3_cellAt
set_option maxRecDepth 20000 in
theorem ggX10_topBlock_X7_topStoneAt : GoodIn wsX10_topBlock wsX7_topStoneAt := goodIn_ca (goodIn_r _ [49, 50, 9, 60, 61, 62, 63, 64, 65, 66, 67, 68, 69, 70, 71, 72, 73, 74] (by decide +kernel) (by decide +kernel)) (goodIn_sub (fun _ h => List.mem_cons_of_mem _ (List.mem_append_left _ (List.mem_append_left _ (List.mem_append_left _ (List.mem_append_left _ (List.mem_append_left _ (List.mem_append_right _ h))))))) (by decide +kernel))
set_option maxRecDepth 20000 in
theorem gX10_topBlock_X7_topStoneAt : GoodIn wsX10_topBlock (wsV RX10 143 RX7 yX7_topStoneAt wsX7_topStoneAt) := goodIn_app (goodIn_of _ (by decide +kernel)) ggX10_topBlock_X7_topStoneAt
theorem dX10_topBlock_0 : decode cX10_topBlock 0 = .ok (.aload_n 0, 1) := by decide +kernel
theorem dX10_topBlock_1 : decode cX10_topBlock 1 = .ok (.getfield 10, 3) := by decide +kernel
theorem dX10_topBlock_4 : decode cX10_topBlock 4 = .ok (.iload_n 1, 1) := by decide +kernel
theorem dX10_topBlock_5 : decode cX10_topBlock 5 = .ok (.iload_n 2, 1) := by decide +kernel
theorem dX10_topBlock_6 : decode cX10_topBlock 6 = .ok (.invokevirtual 140, 3) := by decide +kernel
theorem dX10_topBlock_9 : decode cX10_topBlock 9 = .ok (.invokestatic 61, 3) := by decide +kernel
theorem dX10_topBlock_12 : decode cX10_topBlock 12 = .ok (.aload_n 0, 1) := by decide +kernel
theorem dX10_topBlock_13 : decode cX10_topBlock 13 = .ok (.getfield 10, 3) := by decide +kernel
theorem dX10_topBlock_16 : decode cX10_topBlock 16 = .ok (.iload_n 1, 1) := by decide +kernel
theorem dX10_topBlock_17 : decode cX10_topBlock 17 = .ok (.iload_n 2, 1) := by decide +kernel
theorem dX10_topBlock_18 : decode cX10_topBlock 18 = .ok (.invokestatic 124, 3) := by decide +kernel
theorem dX10_topBlock_21 : decode cX10_topBlock 21 = .ok (.invokevirtual 143, 3) := by decide +kernel
theorem dX10_topBlock_24 : decode cX10_topBlock 24 = .ok (.ireturn, 1) := by decide +kernel
set_option maxRecDepth 20000 in
theorem ggX10_steepestStep_X3_cellFault : GoodIn wsX10_steepestStep wsX3_cellFault := goodIn_r _ [5, 6, 7, 8, 9, 4, 10] (by decide +kernel) (by decide +kernel)
set_option maxRecDepth 20000 in
theorem gX10_steepestStep_X3_cellFault : GoodIn wsX10_steepestStep (va_wsS RX10 87 yX3_cellFault wsX3_cellFault) := goodIn_app (goodIn_of _ (by decide +kernel)) ggX10_steepestStep_X3_cellFault
set_option maxRecDepth 20000 in
theorem ggX10_steepestStep_X10_refuse : GoodIn wsX10_steepestStep wsX10_refuse := goodIn_ca (goodIn_ca (goodIn_ca (goodIn_ca (goodIn_ca (goodIn_ca (goodIn_r _ [14, 15, 16, 17, 18, 19, 20, 21, 22, 23, 24, 25, 26, 27, 28, 29, 30, 31, 32] (by decide +kernel) (by decide +kernel)) (goodIn_sub (fun _ h => List.mem_cons_of_mem _ (List.mem_append_left _ (List.mem_append_left _ (List.mem_append_left _ (List.mem_append_left _ (List.mem_append_left _ (List.mem_append_right _ h))))))) (by decide +kernel))) (goodIn_sub (fun _ h => List.mem_cons_of_mem _ (List.mem_append_left _ (List.mem_append_left _ (List.mem_append_left _ (List.mem_append_left _ (List.mem_append_right _ h)))))) (by decide +kernel))) (goodIn_sub (fun _ h => List.mem_cons_of_mem _ (List.mem_append_left _ (List.mem_append_left _ (List.mem_append_left _ (List.mem_append_right _ h))))) (by decide +kernel))) (goodIn_sub (fun _ h => List.mem_cons_of_mem _ (List.mem_append_left _ (List.mem_append_left _ (List.mem_append_right _ h)))) (by decide +kernel))) (goodIn_sub (fun _ h => List.mem_cons_of_mem _ (List.mem_append_left _ (List.mem_append_right _ h))) (by decide +kernel))) (goodIn_sub (fun _ h => List.mem_cons_of_mem _ (List.mem_append_right _ h)) (by decide +kernel))
set_option maxRecDepth 20000 in
theorem gX10_steepestStep_X10_refuse : GoodIn wsX10_steepestStep (va_wsS RX10 61 yX10_refuse wsX10_refuse) := goodIn_app (goodIn_of _ (by decide +kernel)) ggX10_steepestStep_X10_refuse
set_option maxRecDepth 20000 in
theorem ggX10_steepestStep_X3_cellAt : GoodIn wsX10_steepestStep wsX3_cellAt := goodIn_r _ [35] (by decide +kernel) (by decide +kernel)
set_option maxRecDepth 20000 in
theorem gX10_steepestStep_X3_cellAt : GoodIn wsX10_steepestStep (va_wsS RX10 124 yX3_cellAt wsX3_cellAt) := goodIn_app (goodIn_of _ (by decide +kernel)) ggX10_steepestStep_X3_cellAt
set_option maxRecDepth 20000 in
theorem ggX10_steepestStep_X7_steepestAt : GoodIn wsX10_steepestStep wsX7_steepestAt := goodIn_ca (goodIn_r _ [40, 41, 42, 43, 44, 39, 45, 46, 47, 48, 49, 50, 51, 52, 53, 54, 4, 55, 65, 66, 67, 68, 69, 70, 71, 72, 73, 74, 75, 76, 77, 78, 79] (by decide +kernel) (by decide +kernel)) (goodIn_sub (fun _ h => List.mem_cons_of_mem _ (List.mem_append_left _ (List.mem_append_left _ (List.mem_append_left _ (List.mem_append_left _ (List.mem_append_left _ (List.mem_append_right _ h))))))) (by decide +kernel))
set_option maxRecDepth 20000 in
theorem gX10_steepestStep_X7_steepestAt : GoodIn wsX10_steepestStep (wsV RX10 146 RX7 yX7_steepestAt wsX7_steepestAt) := goodIn_app (goodIn_of _ (by decide +kernel)) ggX10_steepestStep_X7_steepestAt
theorem dX10_steepestStep_0 : decode cX10_steepestStep 0 = .ok (.iload_n 1, 1) := by decide +kernel
theorem dX10_steepestStep_1 : decode cX10_steepestStep 1 = .ok (.iload_n 2, 1) := by decide +kernel
theorem dX10_steepestStep_2 : decode cX10_steepestStep 2 = .ok (.invokestatic 87, 3) := by decide +kernel
theorem dX10_steepestStep_5 : decode cX10_steepestStep 5 = .ok (.invokestatic 61, 3) := by decide +kernel
theorem dX10_steepestStep_8 : decode cX10_steepestStep 8 = .ok (.aload_n 0, 1) := by decide +kernel
theorem dX10_steepestStep_9 : decode cX10_steepestStep 9 = .ok (.getfield 10, 3) := by decide +kernel
theorem dX10_steepestStep_12 : decode cX10_steepestStep 12 = .ok (.iload_n 1, 1) := by decide +kernel
theorem dX10_steepestStep_13 : decode cX10_steepestStep 13 = .ok (.iload_n 2, 1) := by decide +kernel
theorem dX10_steepestStep_14 : decode cX10_steepestStep 14 = .ok (.invokestatic 124, 3) := by decide +kernel
theorem dX10_steepestStep_17 : decode cX10_steepestStep 17 = .ok (.invokevirtual 146, 3) := by decide +kernel
theorem dX10_steepestStep_20 : decode cX10_steepestStep 20 = .ok (.ireturn, 1) := by decide +kernel
set_option maxRecDepth 20000 in
theorem ggX10_canCut_X3_cellFault : GoodIn wsX10_canCut wsX3_cellFault := goodIn_r _ [6, 7, 8, 9, 10, 5, 11] (by decide +kernel) (by decide +kernel)
set_option maxRecDepth 20000 in
theorem gX10_canCut_X3_cellFault : GoodIn wsX10_canCut (va_wsS RX10 87 yX3_cellFault wsX3_cellFault) := goodIn_app (goodIn_of _ (by decide +kernel)) ggX10_canCut_X3_cellFault
set_option maxRecDepth 20000 in
theorem ggX10_canCut_X10_refuse : GoodIn wsX10_canCut wsX10_refuse := goodIn_ca (goodIn_ca (goodIn_ca (goodIn_ca (goodIn_ca (goodIn_ca (goodIn_r _ [15, 16, 17, 18, 19, 20, 21, 22, 23, 24, 25, 26, 27, 28, 29, 30, 31, 32, 33] (by decide +kernel) (by decide +kernel)) (goodIn_sub (fun _ h => List.mem_cons_of_mem _ (List.mem_append_left _ (List.mem_append_left _ (List.mem_append_left _ (List.mem_append_left _ (List.mem_append_left _ (List.mem_append_right _ h))))))) (by decide +kernel))) (goodIn_sub (fun _ h => List.mem_cons_of_mem _ (List.mem_append_left _ (List.mem_append_left _ (List.mem_append_left _ (List.mem_append_left _ (List.mem_append_right _ h)))))) (by decide +kernel))) (goodIn_sub (fun _ h => List.mem_cons_of_mem _ (List.mem_append_left _ (List.mem_append_left _ (List.mem_append_left _ (List.mem_append_right _ h))))) (by decide +kernel))) (goodIn_sub (fun _ h => List.mem_cons_of_mem _ (List.mem_append_left _ (List.mem_append_left _ (List.mem_append_right _ h)))) (by decide +kernel))) (goodIn_sub (fun _ h => List.mem_cons_of_mem _ (List.mem_append_left _ (List.mem_append_right _ h))) (by decide +kernel))) (goodIn_sub (fun _ h => List.mem_cons_of_mem _ (List.mem_append_right _ h)) (by decide +kernel))
set_option maxRecDepth 20000 in
theorem gX10_canCut_X10_refuse : GoodIn wsX10_canCut (va_wsS RX10 61 yX10_refuse wsX10_refuse) := goodIn_app (goodIn_of _ (by decide +kernel)) ggX10_canCut_X10_refuse
set_option maxRecDepth 20000 in
theorem ggX10_canCut_X7_cutFault : GoodIn wsX10_canCut wsX7_cutFault := goodIn_ca (goodIn_r _ [38, 39, 40, 41, 42, 43, 44, 45, 46, 47, 4, 5, 6, 7, 8, 9, 10, 11, 48, 49, 50, 51, 52, 53, 37, 54, 55, 56, 57, 58, 59, 60, 61, 62, 63, 64, 74, 75, 76, 77, 78, 79, 80, 81, 82, 83, 84, 85, 86, 87, 88] (by decide +kernel) (by decide +kernel)) (goodIn_sub (fun _ h => List.mem_cons_of_mem _ (List.mem_append_left _ (List.mem_append_left _ (List.mem_append_left _ (List.mem_append_left _ (List.mem_append_left _ (List.mem_append_right _ h))))))) (by decide +kernel))
set_option maxRecDepth 20000 in
theorem gX10_canCut_X7_cutFault : GoodIn wsX10_canCut (wsV RX10 73 RX7 yX7_cutFault wsX7_cutFault) := goodIn_app (goodIn_of _ (by decide +kernel)) ggX10_canCut_X7_cutFault
theorem dX10_canCut_0 : decode cX10_canCut 0 = .ok (.iload_n 1, 1) := by decide +kernel
theorem dX10_canCut_1 : decode cX10_canCut 1 = .ok (.iload_n 2, 1) := by decide +kernel
theorem dX10_canCut_2 : decode cX10_canCut 2 = .ok (.invokestatic 87, 3) := by decide +kernel
theorem dX10_canCut_5 : decode cX10_canCut 5 = .ok (.invokestatic 61, 3) := by decide +kernel
theorem dX10_canCut_8 : decode cX10_canCut 8 = .ok (.aload_n 0, 1) := by decide +kernel
theorem dX10_canCut_9 : decode cX10_canCut 9 = .ok (.getfield 10, 3) := by decide +kernel
theorem dX10_canCut_12 : decode cX10_canCut 12 = .ok (.iload_n 1, 1) := by decide +kernel
theorem dX10_canCut_13 : decode cX10_canCut 13 = .ok (.iload_n 2, 1) := by decide +kernel
theorem dX10_canCut_14 : decode cX10_canCut 14 = .ok (.invokevirtual 73, 3) := by decide +kernel
theorem dX10_canCut_17 : decode cX10_canCut 17 = .ok (.getstatic 149, 3) := by decide +kernel
theorem dX10_canCut_20 : decode cX10_canCut 20 = .ok (.if_acmp .ne 7, 3) := by decide +kernel
theorem dX10_canCut_23 : decode cX10_canCut 23 = .ok (.iconst 1, 1) := by decide +kernel
theorem dX10_canCut_24 : decode cX10_canCut 24 = .ok (.goto 4, 3) := by decide +kernel
theorem dX10_canCut_27 : decode cX10_canCut 27 = .ok (.iconst 0, 1) := by decide +kernel
theorem dX10_canCut_28 : decode cX10_canCut 28 = .ok (.ireturn, 1) := by decide +kernel
set_option maxRecDepth 20000 in
theorem ggX10_cuttableCells_X7_countCuttable : GoodIn wsX10_cuttableCells wsX7_countCuttable := goodIn_ca (goodIn_r _ [6, 7, 8, 9, 10, 11, 12, 13, 14, 15, 16, 17, 5, 18, 19, 20, 21, 22, 23, 24, 25, 26, 27, 28, 29, 30, 31, 32, 33, 34, 35, 36, 37, 38, 39, 40, 41, 42, 43, 44, 45, 46, 47, 48, 49, 50, 60, 61, 62, 63, 64, 65, 66, 67, 68, 69, 70, 71, 72, 73, 74] (by decide +kernel) (by decide +kernel)) (goodIn_sub (fun _ h => List.mem_cons_of_mem _ (List.mem_append_right _ h)) (by decide +kernel))
set_option maxRecDepth 20000 in
theorem gX10_cuttableCells_X7_countCuttable : GoodIn wsX10_cuttableCells (wsV RX10 155 RX7 yX7_countCuttable wsX7_countCuttable) := goodIn_app (goodIn_of _ (by decide +kernel)) ggX10_cuttableCells_X7_countCuttable
theorem dX10_cuttableCells_0 : decode cX10_cuttableCells 0 = .ok (.aload_n 0, 1) := by decide +kernel
theorem dX10_cuttableCells_1 : decode cX10_cuttableCells 1 = .ok (.getfield 10, 3) := by decide +kernel
theorem dX10_cuttableCells_4 : decode cX10_cuttableCells 4 = .ok (.invokevirtual 155, 3) := by decide +kernel
theorem dX10_cuttableCells_7 : decode cX10_cuttableCells 7 = .ok (.ireturn, 1) := by decide +kernel
set_option maxRecDepth 20000 in
theorem ggX10_cellsAt_X7_heightFault : GoodIn wsX10_cellsAt wsX7_heightFault := goodIn_r _ [5, 6, 7] (by decide +kernel) (by decide +kernel)
set_option maxRecDepth 20000 in
theorem gX10_cellsAt_X7_heightFault : GoodIn wsX10_cellsAt (va_wsS RX10 159 yX7_heightFault wsX7_heightFault) := goodIn_app (goodIn_of _ (by decide +kernel)) ggX10_cellsAt_X7_heightFault
set_option maxRecDepth 20000 in
theorem ggX10_cellsAt_X10_refuse : GoodIn wsX10_cellsAt wsX10_refuse := goodIn_ca (goodIn_ca (goodIn_ca (goodIn_ca (goodIn_ca (goodIn_ca (goodIn_r _ [11, 12, 13, 14, 15, 16, 17, 18, 19, 20, 21, 22, 23, 24, 25, 26, 27, 28, 29] (by decide +kernel) (by decide +kernel)) (goodIn_sub (fun _ h => List.mem_cons_of_mem _ (List.mem_append_left _ (List.mem_append_left _ (List.mem_append_left _ (List.mem_append_left _ (List.mem_append_left _ (List.mem_append_right _ h))))))) (by decide +kernel))) (goodIn_sub (fun _ h => List.mem_cons_of_mem _ (List.mem_append_left _ (List.mem_append_left _ (List.mem_append_left _ (List.mem_append_left _ (List.mem_append_right _ h)))))) (by decide +kernel))) (goodIn_sub (fun _ h => List.mem_cons_of_mem _ (List.mem_append_left _ (List.mem_append_left _ (List.mem_append_left _ (List.mem_append_right _ h))))) (by decide +kernel))) (goodIn_sub (fun _ h => List.mem_cons_of_mem _ (List.mem_append_left _ (List.mem_append_left _ (List.mem_append_right _ h)))) (by decide +kernel))) (goodIn_sub (fun _ h => List.mem_cons_of_mem _ (List.mem_append_left _ (List.mem_append_right _ h))) (by decide +kernel))) (goodIn_sub (fun _ h => List.mem_cons_of_mem _ (List.mem_append_right _ h)) (by decide +kernel))
set_option maxRecDepth 20000 in
theorem gX10_cellsAt_X10_refuse : GoodIn wsX10_cellsAt (va_wsS RX10 61 yX10_refuse wsX10_refuse) := goodIn_app (goodIn_of _ (by decide +kernel)) ggX10_cellsAt_X10_refuse
set_option maxRecDepth 20000 in
theorem ggX10_cellsAt_X7_countAt : GoodIn wsX10_cellsAt wsX7_countAt := goodIn_ca (goodIn_r _ [33, 34, 44, 45, 46, 47, 48, 49, 50, 51, 52, 53, 54, 55, 56, 57, 58] (by decide +kernel) (by decide +kernel)) (goodIn_sub (fun _ h => List.mem_cons_of_mem _ (List.mem_append_left _ (List.mem_append_left _ (List.mem_append_left _ (List.mem_append_left _ (List.mem_append_left _ (List.mem_append_right _ h))))))) (by decide +kernel))
set_option maxRecDepth 20000 in
theorem gX10_cellsAt_X7_countAt : GoodIn wsX10_cellsAt (wsV RX10 162 RX7 yX7_countAt wsX7_countAt) := goodIn_app (goodIn_of _ (by decide +kernel)) ggX10_cellsAt_X7_countAt
theorem dX10_cellsAt_0 : decode cX10_cellsAt 0 = .ok (.iload_n 1, 1) := by decide +kernel
theorem dX10_cellsAt_1 : decode cX10_cellsAt 1 = .ok (.invokestatic 159, 3) := by decide +kernel
theorem dX10_cellsAt_4 : decode cX10_cellsAt 4 = .ok (.invokestatic 61, 3) := by decide +kernel
theorem dX10_cellsAt_7 : decode cX10_cellsAt 7 = .ok (.aload_n 0, 1) := by decide +kernel
theorem dX10_cellsAt_8 : decode cX10_cellsAt 8 = .ok (.getfield 10, 3) := by decide +kernel
theorem dX10_cellsAt_11 : decode cX10_cellsAt 11 = .ok (.iload_n 1, 1) := by decide +kernel
theorem dX10_cellsAt_12 : decode cX10_cellsAt 12 = .ok (.invokevirtual 162, 3) := by decide +kernel
theorem dX10_cellsAt_15 : decode cX10_cellsAt 15 = .ok (.ireturn, 1) := by decide +kernel
set_option maxRecDepth 20000 in
theorem ggX10_cutsToLower_X7_lowerFault : GoodIn wsX10_cutsToLower wsX7_lowerFault := goodIn_ca (goodIn_r _ [6, 7, 8, 9, 10, 11, 12, 13, 14, 15, 16, 17, 18, 19, 20, 21, 22, 76, 77, 78, 79, 80, 81, 82, 83, 84, 85, 86, 87, 88, 89, 90] (by decide +kernel) (by decide +kernel)) (goodIn_sub (fun _ h => List.mem_cons_of_mem _ (List.mem_append_left _ (List.mem_append_left _ (List.mem_append_left _ (List.mem_append_left _ (List.mem_append_left _ (List.mem_append_right _ h))))))) (by decide +kernel))
set_option maxRecDepth 20000 in
theorem gX10_cutsToLower_X7_lowerFault : GoodIn wsX10_cutsToLower (wsV RX10 165 RX7 yX7_lowerFault wsX7_lowerFault) := goodIn_app (goodIn_of _ (by decide +kernel)) ggX10_cutsToLower_X7_lowerFault
set_option maxRecDepth 20000 in
theorem ggX10_cutsToLower_X10_refuse : GoodIn wsX10_cutsToLower wsX10_refuse := goodIn_ca (goodIn_ca (goodIn_ca (goodIn_ca (goodIn_ca (goodIn_ca (goodIn_r _ [26, 27, 28, 29, 30, 31, 32, 33, 34, 35, 36, 37, 38, 39, 40, 41, 42, 43, 44] (by decide +kernel) (by decide +kernel)) (goodIn_sub (fun _ h => List.mem_cons_of_mem _ (List.mem_append_left _ (List.mem_append_left _ (List.mem_append_left _ (List.mem_append_left _ (List.mem_append_left _ (List.mem_append_right _ h))))))) (by decide +kernel))) (goodIn_sub (fun _ h => List.mem_cons_of_mem _ (List.mem_append_left _ (List.mem_append_left _ (List.mem_append_left _ (List.mem_append_left _ (List.mem_append_right _ h)))))) (by decide +kernel))) (goodIn_sub (fun _ h => List.mem_cons_of_mem _ (List.mem_append_left _ (List.mem_append_left _ (List.mem_append_left _ (List.mem_append_right _ h))))) (by decide +kernel))) (goodIn_sub (fun _ h => List.mem_cons_of_mem _ (List.mem_append_left _ (List.mem_append_left _ (List.mem_append_right _ h)))) (by decide +kernel))) (goodIn_sub (fun _ h => List.mem_cons_of_mem _ (List.mem_append_left _ (List.mem_append_right _ h))) (by decide +kernel))) (goodIn_sub (fun _ h => List.mem_cons_of_mem _ (List.mem_append_right _ h)) (by decide +kernel))
set_option maxRecDepth 20000 in
theorem gX10_cutsToLower_X10_refuse : GoodIn wsX10_cutsToLower (va_wsS RX10 61 yX10_refuse wsX10_refuse) := goodIn_app (goodIn_of _ (by decide +kernel)) ggX10_cutsToLower_X10_refuse
set_option maxRecDepth 20000 in
theorem ggX10_cutsToLower_X3_cellAt : GoodIn wsX10_cutsToLower wsX3_cellAt := goodIn_r _ [22] (by decide +kernel) (by decide +kernel)
set_option maxRecDepth 20000 in
theorem gX10_cutsToLower_X3_cellAt : GoodIn wsX10_cutsToLower (va_wsS RX10 124 yX3_cellAt wsX3_cellAt) := goodIn_app (goodIn_of _ (by decide +kernel)) ggX10_cutsToLower_X3_cellAt
set_option maxRecDepth 20000 in
theorem ggX10_cutsToLower_X7_cutsByDistance : GoodIn wsX10_cutsToLower wsX7_cutsByDistance := goodIn_ca (goodIn_r _ [49, 50, 9, 51, 52, 53, 54, 55, 56, 13, 57, 58, 59, 60, 61, 62, 63, 64, 65, 66, 76, 77, 78, 79, 80, 81, 82, 83, 84, 85, 86, 87, 88, 89, 90] (by decide +kernel) (by decide +kernel)) (goodIn_sub (fun _ h => List.mem_cons_of_mem _ (List.mem_append_left _ (List.mem_append_left _ (List.mem_append_left _ (List.mem_append_left _ (List.mem_append_left _ (List.mem_append_right _ h))))))) (by decide +kernel))
set_option maxRecDepth 20000 in
theorem gX10_cutsToLower_X7_cutsByDistance : GoodIn wsX10_cutsToLower (wsV RX10 168 RX7 yX7_cutsByDistance wsX7_cutsByDistance) := goodIn_app (goodIn_of _ (by decide +kernel)) ggX10_cutsToLower_X7_cutsByDistance
theorem dX10_cutsToLower_0 : decode cX10_cutsToLower 0 = .ok (.aload_n 0, 1) := by decide +kernel
theorem dX10_cutsToLower_1 : decode cX10_cutsToLower 1 = .ok (.getfield 10, 3) := by decide +kernel
theorem dX10_cutsToLower_4 : decode cX10_cutsToLower 4 = .ok (.iload_n 1, 1) := by decide +kernel
theorem dX10_cutsToLower_5 : decode cX10_cutsToLower 5 = .ok (.iload_n 2, 1) := by decide +kernel
theorem dX10_cutsToLower_6 : decode cX10_cutsToLower 6 = .ok (.iload_n 3, 1) := by decide +kernel
theorem dX10_cutsToLower_7 : decode cX10_cutsToLower 7 = .ok (.invokevirtual 165, 3) := by decide +kernel
theorem dX10_cutsToLower_10 : decode cX10_cutsToLower 10 = .ok (.invokestatic 61, 3) := by decide +kernel
theorem dX10_cutsToLower_13 : decode cX10_cutsToLower 13 = .ok (.aload_n 0, 1) := by decide +kernel
theorem dX10_cutsToLower_14 : decode cX10_cutsToLower 14 = .ok (.getfield 10, 3) := by decide +kernel
theorem dX10_cutsToLower_17 : decode cX10_cutsToLower 17 = .ok (.iload_n 1, 1) := by decide +kernel
theorem dX10_cutsToLower_18 : decode cX10_cutsToLower 18 = .ok (.iload_n 2, 1) := by decide +kernel
theorem dX10_cutsToLower_19 : decode cX10_cutsToLower 19 = .ok (.invokestatic 124, 3) := by decide +kernel
theorem dX10_cutsToLower_22 : decode cX10_cutsToLower 22 = .ok (.iload_n 3, 1) := by decide +kernel
theorem dX10_cutsToLower_23 : decode cX10_cutsToLower 23 = .ok (.invokevirtual 168, 3) := by decide +kernel
theorem dX10_cutsToLower_26 : decode cX10_cutsToLower 26 = .ok (.ireturn, 1) := by decide +kernel
set_option maxRecDepth 20000 in
theorem ggX10_cutsToLowerBySpreading_X7_lowerFault : GoodIn wsX10_cutsToLowerBySpreading wsX7_lowerFault := goodIn_ca (goodIn_r _ [7, 8, 9, 10, 11, 12, 13, 14, 15, 16, 17, 18, 19, 20, 21, 22, 23, 79, 80, 81, 82, 83, 84, 85, 86, 87, 88, 89, 90, 91, 92, 93] (by decide +kernel) (by decide +kernel)) (goodIn_sub (fun _ h => List.mem_cons_of_mem _ (List.mem_append_left _ (List.mem_append_left _ (List.mem_append_left _ (List.mem_append_left _ (List.mem_append_left _ (List.mem_append_right _ h))))))) (by decide +kernel))
set_option maxRecDepth 20000 in
theorem gX10_cutsToLowerBySpreading_X7_lowerFault : GoodIn wsX10_cutsToLowerBySpreading (wsV RX10 165 RX7 yX7_lowerFault wsX7_lowerFault) := goodIn_app (goodIn_of _ (by decide +kernel)) ggX10_cutsToLowerBySpreading_X7_lowerFault
set_option maxRecDepth 20000 in
theorem ggX10_cutsToLowerBySpreading_X10_refuse : GoodIn wsX10_cutsToLowerBySpreading wsX10_refuse := goodIn_ca (goodIn_ca (goodIn_ca (goodIn_ca (goodIn_ca (goodIn_ca (goodIn_r _ [27, 28, 29, 30, 31, 32, 33, 34, 35, 36, 37, 38, 39, 40, 41, 42, 43, 44, 45] (by decide +kernel) (by decide +kernel)) (goodIn_sub (fun _ h => List.mem_cons_of_mem _ (List.mem_append_left _ (List.mem_append_left _ (List.mem_append_left _ (List.mem_append_left _ (List.mem_append_left _ (List.mem_append_right _ h))))))) (by decide +kernel))) (goodIn_sub (fun _ h => List.mem_cons_of_mem _ (List.mem_append_left _ (List.mem_append_left _ (List.mem_append_left _ (List.mem_append_left _ (List.mem_append_right _ h)))))) (by decide +kernel))) (goodIn_sub (fun _ h => List.mem_cons_of_mem _ (List.mem_append_left _ (List.mem_append_left _ (List.mem_append_left _ (List.mem_append_right _ h))))) (by decide +kernel))) (goodIn_sub (fun _ h => List.mem_cons_of_mem _ (List.mem_append_left _ (List.mem_append_left _ (List.mem_append_right _ h)))) (by decide +kernel))) (goodIn_sub (fun _ h => List.mem_cons_of_mem _ (List.mem_append_left _ (List.mem_append_right _ h))) (by decide +kernel))) (goodIn_sub (fun _ h => List.mem_cons_of_mem _ (List.mem_append_right _ h)) (by decide +kernel))
set_option maxRecDepth 20000 in
theorem gX10_cutsToLowerBySpreading_X10_refuse : GoodIn wsX10_cutsToLowerBySpreading (va_wsS RX10 61 yX10_refuse wsX10_refuse) := goodIn_app (goodIn_of _ (by decide +kernel)) ggX10_cutsToLowerBySpreading_X10_refuse
set_option maxRecDepth 20000 in
theorem ggX10_cutsToLowerBySpreading_X3_cellAt : GoodIn wsX10_cutsToLowerBySpreading wsX3_cellAt := goodIn_r _ [23] (by decide +kernel) (by decide +kernel)
set_option maxRecDepth 20000 in
theorem gX10_cutsToLowerBySpreading_X3_cellAt : GoodIn wsX10_cutsToLowerBySpreading (va_wsS RX10 124 yX3_cellAt wsX3_cellAt) := goodIn_app (goodIn_of _ (by decide +kernel)) ggX10_cutsToLowerBySpreading_X3_cellAt
set_option maxRecDepth 20000 in
theorem ggX10_cutsToLowerBySpreading_X8_cutsBySpreading : GoodIn wsX10_cutsToLowerBySpreading wsX8_cutsBySpreading := goodIn_ca (goodIn_r _ [51, 52, 53, 54, 55, 56, 6, 57, 10, 58, 59, 14, 60, 61, 62, 63, 64, 65, 66, 67, 68, 50, 69, 94, 95, 96, 97, 98, 79, 80, 81, 82, 83, 84, 85, 86, 87, 88, 89, 90, 91, 92, 93] (by decide +kernel) (by decide +kernel)) (goodIn_sub (fun _ h => List.mem_cons_of_mem _ (List.mem_append_left _ (List.mem_append_left _ (List.mem_append_left _ (List.mem_append_left _ (List.mem_append_left _ (List.mem_append_right _ h))))))) (by decide +kernel))
set_option maxRecDepth 20000 in
theorem gX10_cutsToLowerBySpreading_X8_cutsBySpreading : GoodIn wsX10_cutsToLowerBySpreading (wsV RX10 171 RX8 yX8_cutsBySpreading wsX8_cutsBySpreading) := goodIn_app (goodIn_of _ (by decide +kernel)) ggX10_cutsToLowerBySpreading_X8_cutsBySpreading
theorem dX10_cutsToLowerBySpreading_0 : decode cX10_cutsToLowerBySpreading 0 = .ok (.aload_n 0, 1) := by decide +kernel
theorem dX10_cutsToLowerBySpreading_1 : decode cX10_cutsToLowerBySpreading 1 = .ok (.getfield 10, 3) := by decide +kernel
theorem dX10_cutsToLowerBySpreading_4 : decode cX10_cutsToLowerBySpreading 4 = .ok (.iload_n 1, 1) := by decide +kernel
theorem dX10_cutsToLowerBySpreading_5 : decode cX10_cutsToLowerBySpreading 5 = .ok (.iload_n 2, 1) := by decide +kernel
theorem dX10_cutsToLowerBySpreading_6 : decode cX10_cutsToLowerBySpreading 6 = .ok (.iload_n 3, 1) := by decide +kernel
theorem dX10_cutsToLowerBySpreading_7 : decode cX10_cutsToLowerBySpreading 7 = .ok (.invokevirtual 165, 3) := by decide +kernel
theorem dX10_cutsToLowerBySpreading_10 : decode cX10_cutsToLowerBySpreading 10 = .ok (.invokestatic 61, 3) := by decide +kernel
theorem dX10_cutsToLowerBySpreading_13 : decode cX10_cutsToLowerBySpreading 13 = .ok (.aload_n 0, 1) := by decide +kernel
theorem dX10_cutsToLowerBySpreading_14 : decode cX10_cutsToLowerBySpreading 14 = .ok (.getfield 22, 3) := by decide +kernel
theorem dX10_cutsToLowerBySpreading_17 : decode cX10_cutsToLowerBySpreading 17 = .ok (.aload_n 0, 1) := by decide +kernel
theorem dX10_cutsToLowerBySpreading_18 : decode cX10_cutsToLowerBySpreading 18 = .ok (.getfield 10, 3) := by decide +kernel
theorem dX10_cutsToLowerBySpreading_21 : decode cX10_cutsToLowerBySpreading 21 = .ok (.iload_n 1, 1) := by decide +kernel
theorem dX10_cutsToLowerBySpreading_22 : decode cX10_cutsToLowerBySpreading 22 = .ok (.iload_n 2, 1) := by decide +kernel
theorem dX10_cutsToLowerBySpreading_23 : decode cX10_cutsToLowerBySpreading 23 = .ok (.invokestatic 124, 3) := by decide +kernel
theorem dX10_cutsToLowerBySpreading_26 : decode cX10_cutsToLowerBySpreading 26 = .ok (.iload_n 3, 1) := by decide +kernel
theorem dX10_cutsToLowerBySpreading_27 : decode cX10_cutsToLowerBySpreading 27 = .ok (.invokevirtual 171, 3) := by decide +kernel
theorem dX10_cutsToLowerBySpreading_30 : decode cX10_cutsToLowerBySpreading 30 = .ok (.ireturn, 1) := by decide +kernel
set_option maxRecDepth 20000 in
theorem ggX10_seamSize_X3_cellFault : GoodIn wsX10_seamSize wsX3_cellFault := goodIn_r _ [6, 7, 8, 9, 10, 5, 11] (by decide +kernel) (by decide +kernel)
set_option maxRecDepth 20000 in
theorem gX10_seamSize_X3_cellFault : GoodIn wsX10_seamSize (va_wsS RX10 87 yX3_cellFault wsX3_cellFault) := goodIn_app (goodIn_of _ (by decide +kernel)) ggX10_seamSize_X3_cellFault
set_option maxRecDepth 20000 in
theorem ggX10_seamSize_X10_refuse : GoodIn wsX10_seamSize wsX10_refuse := goodIn_ca (goodIn_ca (goodIn_ca (goodIn_ca (goodIn_ca (goodIn_ca (goodIn_r _ [15, 16, 17, 18, 19, 20, 21, 22, 23, 24, 25, 26, 27, 28, 29, 30, 31, 32, 33] (by decide +kernel) (by decide +kernel)) (goodIn_sub (fun _ h => List.mem_cons_of_mem _ (List.mem_append_left _ (List.mem_append_left _ (List.mem_append_left _ (List.mem_append_left _ (List.mem_append_left _ (List.mem_append_right _ h))))))) (by decide +kernel))) (goodIn_sub (fun _ h => List.mem_cons_of_mem _ (List.mem_append_left _ (List.mem_append_left _ (List.mem_append_left _ (List.mem_append_left _ (List.mem_append_right _ h)))))) (by decide +kernel))) (goodIn_sub (fun _ h => List.mem_cons_of_mem _ (List.mem_append_left _ (List.mem_append_left _ (List.mem_append_left _ (List.mem_append_right _ h))))) (by decide +kernel))) (goodIn_sub (fun _ h => List.mem_cons_of_mem _ (List.mem_append_left _ (List.mem_append_left _ (List.mem_append_right _ h)))) (by decide +kernel))) (goodIn_sub (fun _ h => List.mem_cons_of_mem _ (List.mem_append_left _ (List.mem_append_right _ h))) (by decide +kernel))) (goodIn_sub (fun _ h => List.mem_cons_of_mem _ (List.mem_append_right _ h)) (by decide +kernel))
set_option maxRecDepth 20000 in
theorem gX10_seamSize_X10_refuse : GoodIn wsX10_seamSize (va_wsS RX10 61 yX10_refuse wsX10_refuse) := goodIn_app (goodIn_of _ (by decide +kernel)) ggX10_seamSize_X10_refuse
set_option maxRecDepth 20000 in
theorem ggX10_seamSize_X3_cellAt : GoodIn wsX10_seamSize wsX3_cellAt := goodIn_r _ [36] (by decide +kernel) (by decide +kernel)
set_option maxRecDepth 20000 in
theorem gX10_seamSize_X3_cellAt : GoodIn wsX10_seamSize (va_wsS RX10 124 yX3_cellAt wsX3_cellAt) := goodIn_app (goodIn_of _ (by decide +kernel)) ggX10_seamSize_X3_cellAt
set_option maxRecDepth 20000 in
theorem ggX10_seamSize_X8_sizeOfSeam : GoodIn wsX10_seamSize wsX8_sizeOfSeam := goodIn_ca (goodIn_r _ [41, 42, 43, 44, 40, 45, 46, 47, 48, 49, 50, 51, 52, 53, 54, 55, 56, 57, 58, 59, 5, 60, 61, 62, 63, 64, 65, 66, 67, 68, 78, 79, 80, 81, 82, 83, 84, 85, 86, 87, 88, 89, 90, 91, 92, 93, 94, 95, 96, 97] (by decide +kernel) (by decide +kernel)) (goodIn_sub (fun _ h => List.mem_cons_of_mem _ (List.mem_append_left _ (List.mem_append_left _ (List.mem_append_left _ (List.mem_append_left _ (List.mem_append_left _ (List.mem_append_right _ h))))))) (by decide +kernel))
set_option maxRecDepth 20000 in
theorem gX10_seamSize_X8_sizeOfSeam : GoodIn wsX10_seamSize (wsV RX10 175 RX8 yX8_sizeOfSeam wsX8_sizeOfSeam) := goodIn_app (goodIn_of _ (by decide +kernel)) ggX10_seamSize_X8_sizeOfSeam
theorem dX10_seamSize_0 : decode cX10_seamSize 0 = .ok (.iload_n 1, 1) := by decide +kernel
theorem dX10_seamSize_1 : decode cX10_seamSize 1 = .ok (.iload_n 2, 1) := by decide +kernel
theorem dX10_seamSize_2 : decode cX10_seamSize 2 = .ok (.invokestatic 87, 3) := by decide +kernel
theorem dX10_seamSize_5 : decode cX10_seamSize 5 = .ok (.invokestatic 61, 3) := by decide +kernel
theorem dX10_seamSize_8 : decode cX10_seamSize 8 = .ok (.aload_n 0, 1) := by decide +kernel
theorem dX10_seamSize_9 : decode cX10_seamSize 9 = .ok (.getfield 22, 3) := by decide +kernel
theorem dX10_seamSize_12 : decode cX10_seamSize 12 = .ok (.aload_n 0, 1) := by decide +kernel
theorem dX10_seamSize_13 : decode cX10_seamSize 13 = .ok (.getfield 10, 3) := by decide +kernel
theorem dX10_seamSize_16 : decode cX10_seamSize 16 = .ok (.iload_n 1, 1) := by decide +kernel
theorem dX10_seamSize_17 : decode cX10_seamSize 17 = .ok (.iload_n 2, 1) := by decide +kernel
theorem dX10_seamSize_18 : decode cX10_seamSize 18 = .ok (.invokestatic 124, 3) := by decide +kernel
theorem dX10_seamSize_21 : decode cX10_seamSize 21 = .ok (.invokevirtual 175, 3) := by decide +kernel
theorem dX10_seamSize_24 : decode cX10_seamSize 24 = .ok (.ireturn, 1) := by decide +kernel
set_option maxRecDepth 20000 in
theorem ggX10_seamVolume_X3_cellFault : GoodIn wsX10_seamVolume wsX3_cellFault := goodIn_r _ [6, 7, 8, 9, 10, 5, 11] (by decide +kernel) (by decide +kernel)
set_option maxRecDepth 20000 in
theorem gX10_seamVolume_X3_cellFault : GoodIn wsX10_seamVolume (va_wsS RX10 87 yX3_cellFault wsX3_cellFault) := goodIn_app (goodIn_of _ (by decide +kernel)) ggX10_seamVolume_X3_cellFault
set_option maxRecDepth 20000 in
theorem ggX10_seamVolume_X10_refuse : GoodIn wsX10_seamVolume wsX10_refuse := goodIn_ca (goodIn_ca (goodIn_ca (goodIn_ca (goodIn_ca (goodIn_ca (goodIn_r _ [15, 16, 17, 18, 19, 20, 21, 22, 23, 24, 25, 26, 27, 28, 29, 30, 31, 32, 33] (by decide +kernel) (by decide +kernel)) (goodIn_sub (fun _ h => List.mem_cons_of_mem _ (List.mem_append_left _ (List.mem_append_left _ (List.mem_append_left _ (List.mem_append_left _ (List.mem_append_left _ (List.mem_append_right _ h))))))) (by decide +kernel))) (goodIn_sub (fun _ h => List.mem_cons_of_mem _ (List.mem_append_left _ (List.mem_append_left _ (List.mem_append_left _ (List.mem_append_left _ (List.mem_append_right _ h)))))) (by decide +kernel))) (goodIn_sub (fun _ h => List.mem_cons_of_mem _ (List.mem_append_left _ (List.mem_append_left _ (List.mem_append_left _ (List.mem_append_right _ h))))) (by decide +kernel))) (goodIn_sub (fun _ h => List.mem_cons_of_mem _ (List.mem_append_left _ (List.mem_append_left _ (List.mem_append_right _ h)))) (by decide +kernel))) (goodIn_sub (fun _ h => List.mem_cons_of_mem _ (List.mem_append_left _ (List.mem_append_right _ h))) (by decide +kernel))) (goodIn_sub (fun _ h => List.mem_cons_of_mem _ (List.mem_append_right _ h)) (by decide +kernel))
set_option maxRecDepth 20000 in
theorem gX10_seamVolume_X10_refuse : GoodIn wsX10_seamVolume (va_wsS RX10 61 yX10_refuse wsX10_refuse) := goodIn_app (goodIn_of _ (by decide +kernel)) ggX10_seamVolume_X10_refuse
set_option maxRecDepth 20000 in
theorem ggX10_seamVolume_X3_cellAt : GoodIn wsX10_seamVolume wsX3_cellAt := goodIn_r _ [36] (by decide +kernel) (by decide +kernel)
set_option maxRecDepth 20000 in
theorem gX10_seamVolume_X3_cellAt : GoodIn wsX10_seamVolume (va_wsS RX10 124 yX3_cellAt wsX3_cellAt) := goodIn_app (goodIn_of _ (by decide +kernel)) ggX10_seamVolume_X3_cellAt
set_option maxRecDepth 20000 in
theorem ggX10_seamVolume_X8_volumeOfSeam : GoodIn wsX10_seamVolume wsX8_volumeOfSeam := goodIn_ca (goodIn_r _ [41, 42, 43, 44, 45, 40, 46, 47, 48, 49, 50, 51, 52, 53, 54, 55, 56, 57, 58, 59, 5, 60, 61, 62, 63, 64, 65, 66, 67, 68, 78, 79, 80, 81, 82, 83, 84, 85, 86, 87, 88, 89, 90, 91, 92, 93, 94, 95, 96, 97] (by decide +kernel) (by decide +kernel)) (goodIn_sub (fun _ h => List.mem_cons_of_mem _ (List.mem_append_left _ (List.mem_append_left _ (List.mem_append_left _ (List.mem_append_left _ (List.mem_append_left _ (List.mem_append_right _ h))))))) (by decide +kernel))
set_option maxRecDepth 20000 in
theorem gX10_seamVolume_X8_volumeOfSeam : GoodIn wsX10_seamVolume (wsV RX10 179 RX8 yX8_volumeOfSeam wsX8_volumeOfSeam) := goodIn_app (goodIn_of _ (by decide +kernel)) ggX10_seamVolume_X8_volumeOfSeam
theorem dX10_seamVolume_0 : decode cX10_seamVolume 0 = .ok (.iload_n 1, 1) := by decide +kernel
theorem dX10_seamVolume_1 : decode cX10_seamVolume 1 = .ok (.iload_n 2, 1) := by decide +kernel
theorem dX10_seamVolume_2 : decode cX10_seamVolume 2 = .ok (.invokestatic 87, 3) := by decide +kernel
theorem dX10_seamVolume_5 : decode cX10_seamVolume 5 = .ok (.invokestatic 61, 3) := by decide +kernel
theorem dX10_seamVolume_8 : decode cX10_seamVolume 8 = .ok (.aload_n 0, 1) := by decide +kernel
theorem dX10_seamVolume_9 : decode cX10_seamVolume 9 = .ok (.getfield 22, 3) := by decide +kernel
theorem dX10_seamVolume_12 : decode cX10_seamVolume 12 = .ok (.aload_n 0, 1) := by decide +kernel
theorem dX10_seamVolume_13 : decode cX10_seamVolume 13 = .ok (.getfield 10, 3) := by decide +kernel
theorem dX10_seamVolume_16 : decode cX10_seamVolume 16 = .ok (.iload_n 1, 1) := by decide +kernel
theorem dX10_seamVolume_17 : decode cX10_seamVolume 17 = .ok (.iload_n 2, 1) := by decide +kernel
theorem dX10_seamVolume_18 : decode cX10_seamVolume 18 = .ok (.invokestatic 124, 3) := by decide +kernel
theorem dX10_seamVolume_21 : decode cX10_seamVolume 21 = .ok (.invokevirtual 179, 3) := by decide +kernel
theorem dX10_seamVolume_24 : decode cX10_seamVolume 24 = .ok (.ireturn, 1) := by decide +kernel
set_option maxRecDepth 20000 in
theorem ggX10_seamCount_X8_seamsBySearch : GoodIn wsX10_seamCount wsX8_seamsBySearch := goodIn_ca (goodIn_r _ [7, 8, 9, 10, 6, 11, 12, 13, 14, 15, 16, 17, 18, 19, 20, 21, 22, 23, 24, 25, 26, 27, 28, 29, 30, 31, 32, 33, 34, 35, 45, 46, 47, 48, 49, 50, 51, 52, 53, 54, 55, 56, 57, 58, 59, 60, 61, 62, 63, 64] (by decide +kernel) (by decide +kernel)) (goodIn_sub (fun _ h => List.mem_cons_of_mem _ (List.mem_append_right _ h)) (by decide +kernel))
set_option maxRecDepth 20000 in
theorem gX10_seamCount_X8_seamsBySearch : GoodIn wsX10_seamCount (wsV RX10 182 RX8 yX8_seamsBySearch wsX8_seamsBySearch) := goodIn_app (goodIn_of _ (by decide +kernel)) ggX10_seamCount_X8_seamsBySearch
theorem dX10_seamCount_0 : decode cX10_seamCount 0 = .ok (.aload_n 0, 1) := by decide +kernel
theorem dX10_seamCount_1 : decode cX10_seamCount 1 = .ok (.getfield 22, 3) := by decide +kernel
theorem dX10_seamCount_4 : decode cX10_seamCount 4 = .ok (.aload_n 0, 1) := by decide +kernel
theorem dX10_seamCount_5 : decode cX10_seamCount 5 = .ok (.getfield 10, 3) := by decide +kernel
theorem dX10_seamCount_8 : decode cX10_seamCount 8 = .ok (.invokevirtual 182, 3) := by decide +kernel
theorem dX10_seamCount_11 : decode cX10_seamCount 11 = .ok (.ireturn, 1) := by decide +kernel
set_option maxRecDepth 20000 in
theorem ggX10_seamCountByMerging_X8_seamsByMerging : GoodIn wsX10_seamCountByMerging wsX8_seamsByMerging := goodIn_ca (goodIn_r _ [7, 8, 9, 10, 11, 12, 13, 14, 15, 16, 17, 18, 19, 20, 6, 21, 22, 23, 24, 25, 26, 27, 28, 29, 30, 31, 32, 33, 34, 44, 45, 46, 47, 48, 49, 50, 51, 52, 53, 54, 55, 56, 57, 58, 59, 60, 61, 62, 63] (by decide +kernel) (by decide +kernel)) (goodIn_sub (fun _ h => List.mem_cons_of_mem _ (List.mem_append_right _ h)) (by decide +kernel))
set_option maxRecDepth 20000 in
theorem gX10_seamCountByMerging_X8_seamsByMerging : GoodIn wsX10_seamCountByMerging (wsV RX10 186 RX8 yX8_seamsByMerging wsX8_seamsByMerging) := goodIn_app (goodIn_of _ (by decide +kernel)) ggX10_seamCountByMerging_X8_seamsByMerging
theorem dX10_seamCountByMerging_0 : decode cX10_seamCountByMerging 0 = .ok (.aload_n 0, 1) := by decide +kernel
theorem dX10_seamCountByMerging_1 : decode cX10_seamCountByMerging 1 = .ok (.getfield 22, 3) := by decide +kernel
theorem dX10_seamCountByMerging_4 : decode cX10_seamCountByMerging 4 = .ok (.aload_n 0, 1) := by decide +kernel
theorem dX10_seamCountByMerging_5 : decode cX10_seamCountByMerging 5 = .ok (.getfield 10, 3) := by decide +kernel
theorem dX10_seamCountByMerging_8 : decode cX10_seamCountByMerging 8 = .ok (.invokevirtual 186, 3) := by decide +kernel
theorem dX10_seamCountByMerging_11 : decode cX10_seamCountByMerging 11 = .ok (.ireturn, 1) := by decide +kernel
set_option maxRecDepth 20000 in
theorem ggX10_footpath_X3_cellFault : GoodIn wsX10_footpath wsX3_cellFault := goodIn_r _ [8, 9, 10, 11, 12, 7, 13] (by decide +kernel) (by decide +kernel)
set_option maxRecDepth 20000 in
theorem gX10_footpath_X3_cellFault : GoodIn wsX10_footpath (va_wsS RX10 87 yX3_cellFault wsX3_cellFault) := goodIn_app (goodIn_of _ (by decide +kernel)) ggX10_footpath_X3_cellFault
set_option maxRecDepth 20000 in
theorem ggX10_footpath_X10_refuse : GoodIn wsX10_footpath wsX10_refuse := goodIn_ca (goodIn_ca (goodIn_ca (goodIn_ca (goodIn_ca (goodIn_ca (goodIn_r _ [17, 18, 19, 20, 21, 1, 2, 22, 23, 24, 25, 26, 27, 28, 29, 30, 31, 32, 33] (by decide +kernel) (by decide +kernel)) (goodIn_sub (fun _ h => List.mem_cons_of_mem _ (List.mem_append_left _ (List.mem_append_left _ (List.mem_append_left _ (List.mem_append_left _ (List.mem_append_right _ h)))))) (by decide +kernel))) (goodIn_sub (fun _ h => List.mem_cons_of_mem _ (List.mem_append_left _ (List.mem_append_left _ (List.mem_append_left _ (List.mem_append_right _ h))))) (by decide +kernel))) (goodIn_sub (fun _ h => List.mem_cons_of_mem _ (List.mem_append_left _ (List.mem_append_left _ (List.mem_append_right _ h)))) (by decide +kernel))) (goodIn_sub (fun _ h => List.mem_cons_of_mem _ (List.mem_append_left _ (List.mem_append_left _ (List.mem_append_left _ (List.mem_append_left _ (List.mem_append_left _ (List.mem_append_right _ h))))))) (by decide +kernel))) (goodIn_sub (fun _ h => List.mem_cons_of_mem _ (List.mem_append_left _ (List.mem_append_right _ h))) (by decide +kernel))) (goodIn_sub (fun _ h => List.mem_cons_of_mem _ (List.mem_append_right _ h)) (by decide +kernel))
set_option maxRecDepth 20000 in
theorem gX10_footpath_X10_refuse : GoodIn wsX10_footpath (va_wsS RX10 61 yX10_refuse wsX10_refuse) := goodIn_app (goodIn_of _ (by decide +kernel)) ggX10_footpath_X10_refuse
set_option maxRecDepth 20000 in
theorem ggX10_footpath_X3_cellAt : GoodIn wsX10_footpath wsX3_cellAt := goodIn_r _ [36] (by decide +kernel) (by decide +kernel)
set_option maxRecDepth 20000 in
theorem gX10_footpath_X3_cellAt : GoodIn wsX10_footpath (va_wsS RX10 124 yX3_cellAt wsX3_cellAt) := goodIn_app (goodIn_of _ (by decide +kernel)) ggX10_footpath_X3_cellAt
set_option maxRecDepth 20000 in
theorem ggX10_footpath_X8_shortestPath : GoodIn wsX10_footpath wsX8_shortestPath := goodIn_ca (goodIn_r _ [41, 42, 43, 44, 45, 46, 47, 48, 49, 50, 51, 7, 52, 53, 54, 40, 55, 56, 57, 58, 59, 60, 61, 62, 63, 64, 74, 75, 76, 77, 78, 79, 80, 81, 82, 83, 84, 85, 86, 87, 88, 89, 90, 91, 92, 93] (by decide +kernel) (by decide +kernel)) (goodIn_sub (fun _ h => List.mem_cons_of_mem _ (List.mem_append_left _ (List.mem_append_left _ (List.mem_append_left _ (List.mem_append_left _ (List.mem_append_right _ h)))))) (by decide +kernel))
set_option maxRecDepth 20000 in
theorem gX10_footpath_X8_shortestPath : GoodIn wsX10_footpath (wsV RX10 189 RX8 yX8_shortestPath wsX8_shortestPath) := goodIn_app (goodIn_of _ (by decide +kernel)) ggX10_footpath_X8_shortestPath
theorem dX10_footpath_0 : decode cX10_footpath 0 = .ok (.iload_n 1, 1) := by decide +kernel
theorem dX10_footpath_1 : decode cX10_footpath 1 = .ok (.iload_n 2, 1) := by decide +kernel
theorem dX10_footpath_2 : decode cX10_footpath 2 = .ok (.invokestatic 87, 3) := by decide +kernel
theorem dX10_footpath_5 : decode cX10_footpath 5 = .ok (.invokestatic 61, 3) := by decide +kernel
theorem dX10_footpath_8 : decode cX10_footpath 8 = .ok (.iload_n 3, 1) := by decide +kernel
theorem dX10_footpath_9 : decode cX10_footpath 9 = .ok (.iload 4, 2) := by decide +kernel
theorem dX10_footpath_11 : decode cX10_footpath 11 = .ok (.invokestatic 87, 3) := by decide +kernel
theorem dX10_footpath_14 : decode cX10_footpath 14 = .ok (.invokestatic 61, 3) := by decide +kernel
theorem dX10_footpath_17 : decode cX10_footpath 17 = .ok (.aload_n 0, 1) := by decide +kernel
theorem dX10_footpath_18 : decode cX10_footpath 18 = .ok (.getfield 22, 3) := by decide +kernel
theorem dX10_footpath_21 : decode cX10_footpath 21 = .ok (.aload_n 0, 1) := by decide +kernel
theorem dX10_footpath_22 : decode cX10_footpath 22 = .ok (.getfield 10, 3) := by decide +kernel
theorem dX10_footpath_25 : decode cX10_footpath 25 = .ok (.iload_n 1, 1) := by decide +kernel
theorem dX10_footpath_26 : decode cX10_footpath 26 = .ok (.iload_n 2, 1) := by decide +kernel
theorem dX10_footpath_27 : decode cX10_footpath 27 = .ok (.invokestatic 124, 3) := by decide +kernel
theorem dX10_footpath_30 : decode cX10_footpath 30 = .ok (.iload_n 3, 1) := by decide +kernel
theorem dX10_footpath_31 : decode cX10_footpath 31 = .ok (.iload 4, 2) := by decide +kernel
theorem dX10_footpath_33 : decode cX10_footpath 33 = .ok (.invokestatic 124, 3) := by decide +kernel
theorem dX10_footpath_36 : decode cX10_footpath 36 = .ok (.invokevirtual 189, 3) := by decide +kernel
theorem dX10_footpath_39 : decode cX10_footpath 39 = .ok (.istore 5, 2) := by decide +kernel
theorem dX10_footpath_41 : decode cX10_footpath 41 = .ok (.iload 5, 2) := by decide +kernel
theorem dX10_footpath_43 : decode cX10_footpath 43 = .ok (.iconst (-1), 1) := by decide +kernel
theorem dX10_footpath_44 : decode cX10_footpath 44 = .ok (.if_icmp .ne 13, 3) := by decide +kernel
theorem dX10_footpath_47 : decode cX10_footpath 47 = .ok (.new 192, 3) := by decide +kernel
theorem dX10_footpath_50 : decode cX10_footpath 50 = .ok (.dup, 1) := by decide +kernel
theorem dX10_footpath_51 : decode cX10_footpath 51 = .ok (.ldc 194, 2) := by decide +kernel
theorem dX10_footpath_53 : decode cX10_footpath 53 = .ok (.invokespecial 196, 3) := by decide +kernel
theorem dX10_footpath_56 : decode cX10_footpath 56 = .ok (.athrow, 1) := by decide +kernel
theorem dX10_footpath_57 : decode cX10_footpath 57 = .ok (.iload 5, 2) := by decide +kernel
theorem dX10_footpath_59 : decode cX10_footpath 59 = .ok (.ireturn, 1) := by decide +kernel
set_option maxRecDepth 20000 in
theorem ggX10_winchCount_X7_countWinches : GoodIn wsX10_winchCount wsX7_countWinches := goodIn_r _ [6, 7, 17, 18, 19, 20, 21, 22, 23, 24, 25, 26, 27, 28, 29, 30, 31] (by decide +kernel) (by decide +kernel)
set_option maxRecDepth 20000 in
theorem gX10_winchCount_X7_countWinches : GoodIn wsX10_winchCount (wsV RX10 199 RX7 yX7_countWinches wsX7_countWinches) := goodIn_app (goodIn_of _ (by decide +kernel)) ggX10_winchCount_X7_countWinches
theorem dX10_winchCount_0 : decode cX10_winchCount 0 = .ok (.aload_n 0, 1) := by decide +kernel
theorem dX10_winchCount_1 : decode cX10_winchCount 1 = .ok (.getfield 10, 3) := by decide +kernel
theorem dX10_winchCount_4 : decode cX10_winchCount 4 = .ok (.invokevirtual 199, 3) := by decide +kernel
theorem dX10_winchCount_7 : decode cX10_winchCount 7 = .ok (.ireturn, 1) := by decide +kernel
set_option maxRecDepth 20000 in
theorem ggX10_liftableCells_X7_hasWinch : GoodIn wsX10_liftableCells wsX7_hasWinch := goodIn_r _ [8, 9, 77, 78, 79, 80, 81, 82, 83, 84, 85, 86, 87, 88, 89, 90, 91] (by decide +kernel) (by decide +kernel)
set_option maxRecDepth 20000 in
theorem gX10_liftableCells_X7_hasWinch : GoodIn wsX10_liftableCells (wsV RX10 202 RX7 yX7_hasWinch wsX7_hasWinch) := goodIn_app (goodIn_of _ (by decide +kernel)) ggX10_liftableCells_X7_hasWinch
set_option maxRecDepth 20000 in
theorem ggX10_liftableCells_X7_countLiftable : GoodIn wsX10_liftableCells wsX7_countLiftable := goodIn_ca (goodIn_r _ [13, 14, 15, 16, 17, 18, 19, 20, 21, 22, 23, 24, 7, 25, 26, 27, 28, 29, 30, 31, 32, 33, 5, 6, 8, 9, 34, 35, 36, 37, 38, 39, 40, 41, 42, 43, 44, 45, 46, 47, 48, 49, 50, 51, 52, 53, 54, 55, 56, 57, 58, 59, 60, 61, 62, 63, 64, 65, 66, 67, 77, 78, 79, 80, 81, 82, 83, 84, 85, 86, 87, 88, 89, 90, 91] (by decide +kernel) (by decide +kernel)) (goodIn_sub (fun _ h => List.mem_cons_of_mem _ (List.mem_append_right _ h)) (by decide +kernel))
set_option maxRecDepth 20000 in
theorem gX10_liftableCells_X7_countLiftable : GoodIn wsX10_liftableCells (wsV RX10 210 RX7 yX7_countLiftable wsX7_countLiftable) := goodIn_app (goodIn_of _ (by decide +kernel)) ggX10_liftableCells_X7_countLiftable
theorem dX10_liftableCells_0 : decode cX10_liftableCells 0 = .ok (.aload_n 0, 1) := by decide +kernel
theorem dX10_liftableCells_1 : decode cX10_liftableCells 1 = .ok (.getfield 10, 3) := by decide +kernel
theorem dX10_liftableCells_4 : decode cX10_liftableCells 4 = .ok (.iload_n 1, 1) := by decide +kernel
theorem dX10_liftableCells_5 : decode cX10_liftableCells 5 = .ok (.invokevirtual 202, 3) := by decide +kernel
theorem dX10_liftableCells_8 : decode cX10_liftableCells 8 = .ok (.ifCond .ne 13, 3) := by decide +kernel
theorem dX10_liftableCells_11 : decode cX10_liftableCells 11 = .ok (.new 205, 3) := by decide +kernel
theorem dX10_liftableCells_14 : decode cX10_liftableCells 14 = .ok (.dup, 1) := by decide +kernel
theorem dX10_liftableCells_15 : decode cX10_liftableCells 15 = .ok (.ldc 207, 2) := by decide +kernel
theorem dX10_liftableCells_17 : decode cX10_liftableCells 17 = .ok (.invokespecial 209, 3) := by decide +kernel
theorem dX10_liftableCells_20 : decode cX10_liftableCells 20 = .ok (.athrow, 1) := by decide +kernel
theorem dX10_liftableCells_21 : decode cX10_liftableCells 21 = .ok (.aload_n 0, 1) := by decide +kernel
theorem dX10_liftableCells_22 : decode cX10_liftableCells 22 = .ok (.getfield 10, 3) := by decide +kernel
theorem dX10_liftableCells_25 : decode cX10_liftableCells 25 = .ok (.iload_n 1, 1) := by decide +kernel
theorem dX10_liftableCells_26 : decode cX10_liftableCells 26 = .ok (.invokevirtual 210, 3) := by decide +kernel
theorem dX10_liftableCells_29 : decode cX10_liftableCells 29 = .ok (.ireturn, 1) := by decide +kernel
set_option maxRecDepth 20000 in
theorem ggX10_bestWinch_X3_cellFault : GoodIn wsX10_bestWinch wsX3_cellFault := goodIn_r _ [7, 8, 9, 10, 11, 6, 12] (by decide +kernel) (by decide +kernel)
set_option maxRecDepth 20000 in
theorem gX10_bestWinch_X3_cellFault : GoodIn wsX10_bestWinch (va_wsS RX10 87 yX3_cellFault wsX3_cellFault) := goodIn_app (goodIn_of _ (by decide +kernel)) ggX10_bestWinch_X3_cellFault
set_option maxRecDepth 20000 in
theorem ggX10_bestWinch_X10_refuse : GoodIn wsX10_bestWinch wsX10_refuse := goodIn_ca (goodIn_ca (goodIn_ca (goodIn_ca (goodIn_ca (goodIn_ca (goodIn_r _ [16, 17, 18, 19, 20, 1, 2, 21, 22, 23, 24, 25, 26, 27, 28, 29, 30, 31, 32] (by decide +kernel) (by decide +kernel)) (goodIn_sub (fun _ h => List.mem_cons_of_mem _ (List.mem_append_left _ (List.mem_append_left _ (List.mem_append_left _ (List.mem_append_left _ (List.mem_append_right _ h)))))) (by decide +kernel))) (goodIn_sub (fun _ h => List.mem_cons_of_mem _ (List.mem_append_left _ (List.mem_append_left _ (List.mem_append_left _ (List.mem_append_right _ h))))) (by decide +kernel))) (goodIn_sub (fun _ h => List.mem_cons_of_mem _ (List.mem_append_left _ (List.mem_append_left _ (List.mem_append_right _ h)))) (by decide +kernel))) (goodIn_sub (fun _ h => List.mem_cons_of_mem _ (List.mem_append_left _ (List.mem_append_left _ (List.mem_append_left _ (List.mem_append_left _ (List.mem_append_left _ (List.mem_append_right _ h))))))) (by decide +kernel))) (goodIn_sub (fun _ h => List.mem_cons_of_mem _ (List.mem_append_left _ (List.mem_append_right _ h))) (by decide +kernel))) (goodIn_sub (fun _ h => List.mem_cons_of_mem _ (List.mem_append_right _ h)) (by decide +kernel))
set_option maxRecDepth 20000 in
theorem gX10_bestWinch_X10_refuse : GoodIn wsX10_bestWinch (va_wsS RX10 61 yX10_refuse wsX10_refuse) := goodIn_app (goodIn_of _ (by decide +kernel)) ggX10_bestWinch_X10_refuse
set_option maxRecDepth 20000 in
theorem ggX10_bestWinch_X7_leastAbleWinch : GoodIn wsX10_bestWinch wsX7_leastAbleWinch := goodIn_ca (goodIn_r _ [37, 38, 39, 40, 41, 42, 43, 36, 44, 45, 46, 47, 48, 49, 50, 51, 52, 53, 54, 55, 56, 57, 58, 59, 60, 61, 5, 6, 7, 8, 9, 10, 11, 12, 62, 63, 64, 65, 66, 67, 68, 69, 70, 71, 72, 73, 74, 75, 76, 77, 78, 79, 80, 81, 82, 83, 84, 85, 95, 96, 97, 98, 99, 100, 101, 102, 103, 104, 105, 106, 107, 108, 109] (by decide +kernel) (by decide +kernel)) (goodIn_sub (fun _ h => List.mem_cons_of_mem _ (List.mem_append_left _ (List.mem_append_left _ (List.mem_append_left _ (List.mem_append_left _ (List.mem_append_right _ h)))))) (by decide +kernel))
set_option maxRecDepth 20000 in
theorem gX10_bestWinch_X7_leastAbleWinch : GoodIn wsX10_bestWinch (wsV RX10 213 RX7 yX7_leastAbleWinch wsX7_leastAbleWinch) := goodIn_app (goodIn_of _ (by decide +kernel)) ggX10_bestWinch_X7_leastAbleWinch
theorem dX10_bestWinch_0 : decode cX10_bestWinch 0 = .ok (.iload_n 1, 1) := by decide +kernel
theorem dX10_bestWinch_1 : decode cX10_bestWinch 1 = .ok (.iload_n 2, 1) := by decide +kernel
theorem dX10_bestWinch_2 : decode cX10_bestWinch 2 = .ok (.invokestatic 87, 3) := by decide +kernel
theorem dX10_bestWinch_5 : decode cX10_bestWinch 5 = .ok (.invokestatic 61, 3) := by decide +kernel
theorem dX10_bestWinch_8 : decode cX10_bestWinch 8 = .ok (.aload_n 0, 1) := by decide +kernel
theorem dX10_bestWinch_9 : decode cX10_bestWinch 9 = .ok (.getfield 10, 3) := by decide +kernel
theorem dX10_bestWinch_12 : decode cX10_bestWinch 12 = .ok (.iload_n 1, 1) := by decide +kernel
theorem dX10_bestWinch_13 : decode cX10_bestWinch 13 = .ok (.iload_n 2, 1) := by decide +kernel
theorem dX10_bestWinch_14 : decode cX10_bestWinch 14 = .ok (.invokevirtual 213, 3) := by decide +kernel
theorem dX10_bestWinch_17 : decode cX10_bestWinch 17 = .ok (.istore_n 3, 1) := by decide +kernel
theorem dX10_bestWinch_18 : decode cX10_bestWinch 18 = .ok (.iload_n 3, 1) := by decide +kernel
theorem dX10_bestWinch_19 : decode cX10_bestWinch 19 = .ok (.iconst (-1), 1) := by decide +kernel
theorem dX10_bestWinch_20 : decode cX10_bestWinch 20 = .ok (.if_icmp .ne 13, 3) := by decide +kernel
theorem dX10_bestWinch_23 : decode cX10_bestWinch 23 = .ok (.new 192, 3) := by decide +kernel
theorem dX10_bestWinch_26 : decode cX10_bestWinch 26 = .ok (.dup, 1) := by decide +kernel
theorem dX10_bestWinch_27 : decode cX10_bestWinch 27 = .ok (.ldc 216, 2) := by decide +kernel
theorem dX10_bestWinch_29 : decode cX10_bestWinch 29 = .ok (.invokespecial 196, 3) := by decide +kernel
theorem dX10_bestWinch_32 : decode cX10_bestWinch 32 = .ok (.athrow, 1) := by decide +kernel
theorem dX10_bestWinch_33 : decode cX10_bestWinch 33 = .ok (.iload_n 3, 1) := by decide +kernel
theorem dX10_bestWinch_34 : decode cX10_bestWinch 34 = .ok (.ireturn, 1) := by decide +kernel
set_option maxRecDepth 20000 in
theorem ggX10_inYard_X7_isStone : GoodIn wsX10_inYard wsX7_isStone := goodIn_r _ [7] (by decide +kernel) (by decide +kernel)
set_option maxRecDepth 20000 in
theorem gX10_inYard_X7_isStone : GoodIn wsX10_inYard (va_wsS RX10 218 yX7_isStone wsX7_isStone) := goodIn_app (goodIn_of _ (by decide +kernel)) ggX10_inYard_X7_isStone
set_option maxRecDepth 20000 in
theorem ggX10_inYard_X7_yardBlocks : GoodIn wsX10_inYard wsX7_yardBlocks := goodIn_ca (goodIn_r _ [11, 12, 22, 23, 24, 25, 26, 27, 28, 29, 30, 31, 32, 33, 34, 35, 36] (by decide +kernel) (by decide +kernel)) (goodIn_sub (fun _ h => List.mem_cons_of_mem _ (List.mem_append_right _ h)) (by decide +kernel))
set_option maxRecDepth 20000 in
theorem gX10_inYard_X7_yardBlocks : GoodIn wsX10_inYard (wsV RX10 226 RX7 yX7_yardBlocks wsX7_yardBlocks) := goodIn_app (goodIn_of _ (by decide +kernel)) ggX10_inYard_X7_yardBlocks
theorem dX10_inYard_0 : decode cX10_inYard 0 = .ok (.iload_n 1, 1) := by decide +kernel
theorem dX10_inYard_1 : decode cX10_inYard 1 = .ok (.invokestatic 218, 3) := by decide +kernel
theorem dX10_inYard_4 : decode cX10_inYard 4 = .ok (.ifCond .ne 13, 3) := by decide +kernel
theorem dX10_inYard_7 : decode cX10_inYard 7 = .ok (.new 221, 3) := by decide +kernel
theorem dX10_inYard_10 : decode cX10_inYard 10 = .ok (.dup, 1) := by decide +kernel
theorem dX10_inYard_11 : decode cX10_inYard 11 = .ok (.ldc 223, 2) := by decide +kernel
theorem dX10_inYard_13 : decode cX10_inYard 13 = .ok (.invokespecial 225, 3) := by decide +kernel
theorem dX10_inYard_16 : decode cX10_inYard 16 = .ok (.athrow, 1) := by decide +kernel
theorem dX10_inYard_17 : decode cX10_inYard 17 = .ok (.aload_n 0, 1) := by decide +kernel
theorem dX10_inYard_18 : decode cX10_inYard 18 = .ok (.getfield 10, 3) := by decide +kernel
theorem dX10_inYard_21 : decode cX10_inYard 21 = .ok (.iload_n 1, 1) := by decide +kernel
theorem dX10_inYard_22 : decode cX10_inYard 22 = .ok (.invokevirtual 226, 3) := by decide +kernel
theorem dX10_inYard_25 : decode cX10_inYard 25 = .ok (.ireturn, 1) := by decide +kernel
set_option maxRecDepth 20000 in
theorem ggX10_yardWeight_X7_weightOfYard : GoodIn wsX10_yardWeight wsX7_weightOfYard := goodIn_ca (goodIn_r _ [6, 7, 8, 9, 5, 10, 20, 21, 22, 23, 24, 25, 26, 27, 28, 29, 30, 31, 32, 33, 34] (by decide +kernel) (by decide +kernel)) (goodIn_sub (fun _ h => List.mem_cons_of_mem _ (List.mem_append_right _ h)) (by decide +kernel))
set_option maxRecDepth 20000 in
theorem gX10_yardWeight_X7_weightOfYard : GoodIn wsX10_yardWeight (wsV RX10 229 RX7 yX7_weightOfYard wsX7_weightOfYard) := goodIn_app (goodIn_of _ (by decide +kernel)) ggX10_yardWeight_X7_weightOfYard
theorem dX10_yardWeight_0 : decode cX10_yardWeight 0 = .ok (.aload_n 0, 1) := by decide +kernel
theorem dX10_yardWeight_1 : decode cX10_yardWeight 1 = .ok (.getfield 10, 3) := by decide +kernel
theorem dX10_yardWeight_4 : decode cX10_yardWeight 4 = .ok (.invokevirtual 229, 3) := by decide +kernel
theorem dX10_yardWeight_7 : decode cX10_yardWeight 7 = .ok (.ireturn, 1) := by decide +kernel
set_option maxRecDepth 20000 in
theorem ggX10_rubble_X7_loads : GoodIn wsX10_rubble wsX7_loads := goodIn_r _ [6, 7, 17, 18, 19, 20, 21, 22, 23, 24, 25, 26, 27, 28, 29, 30, 31] (by decide +kernel) (by decide +kernel)
set_option maxRecDepth 20000 in
theorem gX10_rubble_X7_loads : GoodIn wsX10_rubble (wsV RX10 232 RX7 yX7_loads wsX7_loads) := goodIn_app (goodIn_of _ (by decide +kernel)) ggX10_rubble_X7_loads
theorem dX10_rubble_0 : decode cX10_rubble 0 = .ok (.aload_n 0, 1) := by decide +kernel
theorem dX10_rubble_1 : decode cX10_rubble 1 = .ok (.getfield 10, 3) := by decide +kernel
theorem dX10_rubble_4 : decode cX10_rubble 4 = .ok (.invokevirtual 232, 3) := by decide +kernel
theorem dX10_rubble_7 : decode cX10_rubble 7 = .ok (.ireturn, 1) := by decide +kernel
set_option maxRecDepth 20000 in
theorem ggX10_stepLimit_X7_limit : GoodIn wsX10_stepLimit wsX7_limit := goodIn_r _ [6, 7, 17, 18, 19, 20, 21, 22, 23, 24, 25, 26, 27, 28, 29, 30, 31] (by decide +kernel) (by decide +kernel)
set_option maxRecDepth 20000 in
theorem gX10_stepLimit_X7_limit : GoodIn wsX10_stepLimit (wsV RX10 235 RX7 yX7_limit wsX7_limit) := goodIn_app (goodIn_of _ (by decide +kernel)) ggX10_stepLimit_X7_limit
theorem dX10_stepLimit_0 : decode cX10_stepLimit 0 = .ok (.aload_n 0, 1) := by decide +kernel
theorem dX10_stepLimit_1 : decode cX10_stepLimit 1 = .ok (.getfield 10, 3) := by decide +kernel
theorem dX10_stepLimit_4 : decode cX10_stepLimit 4 = .ok (.invokevirtual 235, 3) := by decide +kernel
theorem dX10_stepLimit_7 : decode cX10_stepLimit 7 = .ok (.ireturn, 1) := by decide +kernel
set_option maxRecDepth 20000 in
theorem ggX10_cutTotal_X7_cutsDone : GoodIn wsX10_cutTotal wsX7_cutsDone := goodIn_r _ [6, 7, 17, 18, 19, 20, 21, 22, 23, 24, 25, 26, 27, 28, 29, 30, 31] (by decide +kernel) (by decide +kernel)
set_option maxRecDepth 20000 in
theorem gX10_cutTotal_X7_cutsDone : GoodIn wsX10_cutTotal (wsV RX10 238 RX7 yX7_cutsDone wsX7_cutsDone) := goodIn_app (goodIn_of _ (by decide +kernel)) ggX10_cutTotal_X7_cutsDone
theorem dX10_cutTotal_0 : decode cX10_cutTotal 0 = .ok (.aload_n 0, 1) := by decide +kernel
theorem dX10_cutTotal_1 : decode cX10_cutTotal 1 = .ok (.getfield 10, 3) := by decide +kernel
theorem dX10_cutTotal_4 : decode cX10_cutTotal 4 = .ok (.invokevirtual 238, 3) := by decide +kernel
theorem dX10_cutTotal_7 : decode cX10_cutTotal 7 = .ok (.ireturn, 1) := by decide +kernel
set_option maxRecDepth 20000 in
theorem ggX10_workTotal_X7_workDone : GoodIn wsX10_workTotal wsX7_workDone := goodIn_r _ [6, 7, 17, 18, 19, 20, 21, 22, 23, 24, 25, 26, 27, 28, 29, 30, 31] (by decide +kernel) (by decide +kernel)
set_option maxRecDepth 20000 in
theorem gX10_workTotal_X7_workDone : GoodIn wsX10_workTotal (wsV RX10 241 RX7 yX7_workDone wsX7_workDone) := goodIn_app (goodIn_of _ (by decide +kernel)) ggX10_workTotal_X7_workDone
theorem dX10_workTotal_0 : decode cX10_workTotal 0 = .ok (.aload_n 0, 1) := by decide +kernel
theorem dX10_workTotal_1 : decode cX10_workTotal 1 = .ok (.getfield 10, 3) := by decide +kernel
theorem dX10_workTotal_4 : decode cX10_workTotal 4 = .ok (.invokevirtual 241, 3) := by decide +kernel
theorem dX10_workTotal_7 : decode cX10_workTotal 7 = .ok (.lreturn, 1) := by decide +kernel
set_option maxRecDepth 20000 in
theorem ggX10_meanHeight_X7_heightSum : GoodIn wsX10_meanHeight wsX7_heightSum := goodIn_ca (goodIn_r _ [7, 8, 18, 19, 20, 21, 22, 23, 24, 25, 26, 27, 28, 29, 30, 31, 32] (by decide +kernel) (by decide +kernel)) (goodIn_sub (fun _ h => List.mem_cons_of_mem _ (List.mem_append_right _ h)) (by decide +kernel))
set_option maxRecDepth 20000 in
theorem gX10_meanHeight_X7_heightSum : GoodIn wsX10_meanHeight (wsV RX10 245 RX7 yX7_heightSum wsX7_heightSum) := goodIn_app (goodIn_of _ (by decide +kernel)) ggX10_meanHeight_X7_heightSum
theorem dX10_meanHeight_0 : decode cX10_meanHeight 0 = .ok (.aload_n 0, 1) := by decide +kernel
theorem dX10_meanHeight_1 : decode cX10_meanHeight 1 = .ok (.getfield 10, 3) := by decide +kernel
theorem dX10_meanHeight_4 : decode cX10_meanHeight 4 = .ok (.invokevirtual 245, 3) := by decide +kernel
theorem dX10_meanHeight_7 : decode cX10_meanHeight 7 = .ok (.i2d, 1) := by decide +kernel
theorem dX10_meanHeight_8 : decode cX10_meanHeight 8 = .ok (.ldc2_w 248, 3) := by decide +kernel
theorem dX10_meanHeight_11 : decode cX10_meanHeight 11 = .ok (.ddiv, 1) := by decide +kernel
theorem dX10_meanHeight_12 : decode cX10_meanHeight 12 = .ok (.dreturn, 1) := by decide +kernel
set_option maxRecDepth 20000 in
theorem ggX10_liftedShare_X7_cutsDone : GoodIn wsX10_liftedShare wsX7_cutsDone := goodIn_r _ [8, 9, 24, 25, 26, 27, 28, 29, 30, 31, 32, 33, 34, 35, 36, 37, 38] (by decide +kernel) (by decide +kernel)
set_option maxRecDepth 20000 in
theorem gX10_liftedShare_X7_cutsDone : GoodIn wsX10_liftedShare (wsV RX10 238 RX7 yX7_cutsDone wsX7_cutsDone) := goodIn_app (goodIn_of _ (by decide +kernel)) ggX10_liftedShare_X7_cutsDone
set_option maxRecDepth 20000 in
theorem ggX10_liftedShare_X7_liftsDone : GoodIn wsX10_liftedShare wsX7_liftsDone := goodIn_r _ [13, 14, 24, 25, 26, 27, 28, 29, 30, 31, 32, 33, 34, 35, 36, 37, 38] (by decide +kernel) (by decide +kernel)
set_option maxRecDepth 20000 in
theorem gX10_liftedShare_X7_liftsDone : GoodIn wsX10_liftedShare (wsV RX10 255 RX7 yX7_liftsDone wsX7_liftsDone) := goodIn_app (goodIn_of _ (by decide +kernel)) ggX10_liftedShare_X7_liftsDone
theorem dX10_liftedShare_0 : decode cX10_liftedShare 0 = .ok (.aload_n 0, 1) := by decide +kernel
theorem dX10_liftedShare_1 : decode cX10_liftedShare 1 = .ok (.getfield 10, 3) := by decide +kernel
theorem dX10_liftedShare_4 : decode cX10_liftedShare 4 = .ok (.invokevirtual 238, 3) := by decide +kernel
theorem dX10_liftedShare_7 : decode cX10_liftedShare 7 = .ok (.istore_n 1, 1) := by decide +kernel
theorem dX10_liftedShare_8 : decode cX10_liftedShare 8 = .ok (.iload_n 1, 1) := by decide +kernel
theorem dX10_liftedShare_9 : decode cX10_liftedShare 9 = .ok (.ifCond .ne 13, 3) := by decide +kernel
theorem dX10_liftedShare_12 : decode cX10_liftedShare 12 = .ok (.new 250, 3) := by decide +kernel
theorem dX10_liftedShare_15 : decode cX10_liftedShare 15 = .ok (.dup, 1) := by decide +kernel
theorem dX10_liftedShare_16 : decode cX10_liftedShare 16 = .ok (.ldc 252, 2) := by decide +kernel
theorem dX10_liftedShare_18 : decode cX10_liftedShare 18 = .ok (.invokespecial 254, 3) := by decide +kernel
theorem dX10_liftedShare_21 : decode cX10_liftedShare 21 = .ok (.athrow, 1) := by decide +kernel
theorem dX10_liftedShare_22 : decode cX10_liftedShare 22 = .ok (.aload_n 0, 1) := by decide +kernel
theorem dX10_liftedShare_23 : decode cX10_liftedShare 23 = .ok (.getfield 10, 3) := by decide +kernel
theorem dX10_liftedShare_26 : decode cX10_liftedShare 26 = .ok (.invokevirtual 255, 3) := by decide +kernel
theorem dX10_liftedShare_29 : decode cX10_liftedShare 29 = .ok (.i2f, 1) := by decide +kernel
theorem dX10_liftedShare_30 : decode cX10_liftedShare 30 = .ok (.iload_n 1, 1) := by decide +kernel
theorem dX10_liftedShare_31 : decode cX10_liftedShare 31 = .ok (.i2f, 1) := by decide +kernel
theorem dX10_liftedShare_32 : decode cX10_liftedShare 32 = .ok (.fdiv, 1) := by decide +kernel
theorem dX10_liftedShare_33 : decode cX10_liftedShare 33 = .ok (.freturn, 1) := by decide +kernel
set_option maxRecDepth 20000 in
theorem ggX10_isConsistent_X7_limit : GoodIn wsX10_isConsistent wsX7_limit := goodIn_r _ [7, 8, 123, 124, 125, 126, 127, 128, 129, 130, 131, 132, 133, 134, 135, 136, 137] (by decide +kernel) (by decide +kernel)
set_option maxRecDepth 20000 in
theorem gX10_isConsistent_X7_limit : GoodIn wsX10_isConsistent (wsV RX10 235 RX7 yX7_limit wsX7_limit) := goodIn_app (goodIn_of _ (by decide +kernel)) ggX10_isConsistent_X7_limit
set_option maxRecDepth 20000 in
theorem ggX10_isConsistent_X7_stepsWithin : GoodIn wsX10_isConsistent wsX7_stepsWithin := goodIn_ca (goodIn_r _ [12, 13, 14, 15, 16, 6, 17, 18, 19, 20, 21, 22, 23, 24, 25, 26, 27, 28, 123, 124, 125, 126, 127, 128, 129, 130, 131, 132, 133, 134, 135, 136, 137] (by decide +kernel) (by decide +kernel)) (goodIn_sub (fun _ h => List.mem_cons_of_mem _ (List.mem_append_right _ h)) (by decide +kernel))
set_option maxRecDepth 20000 in
theorem gX10_isConsistent_X7_stepsWithin : GoodIn wsX10_isConsistent (wsV RX10 258 RX7 yX7_stepsWithin wsX7_stepsWithin) := goodIn_app (goodIn_of _ (by decide +kernel)) ggX10_isConsistent_X7_stepsWithin
set_option maxRecDepth 20000 in
theorem ggX10_isConsistent_X8_seamsBySearch : GoodIn wsX10_isConsistent wsX8_seamsBySearch := goodIn_ca (goodIn_r _ [33, 34, 35, 36, 32, 37, 38, 39, 40, 41, 42, 43, 44, 45, 46, 6, 47, 13, 48, 26, 27, 28, 49, 50, 51, 52, 53, 54, 55, 56, 138, 139, 140, 141, 142, 123, 124, 125, 126, 127, 128, 129, 130, 131, 132, 133, 134, 135, 136, 137] (by decide +kernel) (by decide +kernel)) (goodIn_sub (fun _ h => List.mem_cons_of_mem _ (List.mem_append_right _ h)) (by decide +kernel))
set_option maxRecDepth 20000 in
theorem gX10_isConsistent_X8_seamsBySearch : GoodIn wsX10_isConsistent (wsV RX10 182 RX8 yX8_seamsBySearch wsX8_seamsBySearch) := goodIn_app (goodIn_of _ (by decide +kernel)) ggX10_isConsistent_X8_seamsBySearch
set_option maxRecDepth 20000 in
theorem ggX10_isConsistent_X8_seamsByMerging : GoodIn wsX10_isConsistent wsX8_seamsByMerging := goodIn_ca (goodIn_r _ [60, 61, 62, 63, 64, 6, 65, 13, 48, 26, 27, 28, 49, 50, 32, 51, 44, 45, 46, 47, 52, 53, 54, 55, 56, 66, 67, 68, 69, 138, 139, 140, 141, 142, 123, 124, 125, 126, 127, 128, 129, 130, 131, 132, 133, 134, 135, 136, 137] (by decide +kernel) (by decide +kernel)) (goodIn_sub (fun _ h => List.mem_cons_of_mem _ (List.mem_append_right _ h)) (by decide +kernel))
set_option maxRecDepth 20000 in
theorem gX10_isConsistent_X8_seamsByMerging : GoodIn wsX10_isConsistent (wsV RX10 186 RX8 yX8_seamsByMerging wsX8_seamsByMerging) := goodIn_app (goodIn_of _ (by decide +kernel)) ggX10_isConsistent_X8_seamsByMerging
set_option maxRecDepth 20000 in
theorem ggX10_isConsistent_X10_neededCutsAgree : GoodIn wsX10_isConsistent wsX10_neededCutsAgree := goodIn_ca (goodIn_r _ [74, 1, 2, 75, 76, 77, 6, 78, 8, 13, 22, 23, 20, 24, 79, 80, 27, 81, 82, 19, 21, 83, 84, 85, 86, 87, 88, 89, 90, 91, 32, 92, 93, 43, 44, 45, 46, 47, 48, 26, 28, 94, 4, 5, 7, 95, 96, 97, 98, 114, 115, 116, 117, 118, 119, 120, 121, 122, 123, 124, 125, 126, 127, 128, 129, 130, 131, 132, 133, 134, 135, 136, 137, 138, 139, 140, 141, 142] (by decide +kernel) (by decide +kernel)) (goodIn_sub (fun _ h => List.mem_cons_of_mem _ (List.mem_append_right _ h)) (by decide +kernel))
set_option maxRecDepth 20000 in
theorem gX10_isConsistent_X10_neededCutsAgree : GoodIn wsX10_isConsistent (wsV RX10 261 RX10 yX10_neededCutsAgree wsX10_neededCutsAgree) := goodIn_app (goodIn_of _ (by decide +kernel)) ggX10_isConsistent_X10_neededCutsAgree
set_option maxRecDepth 20000 in
theorem ggX10_isConsistent_X7_cutsDone : GoodIn wsX10_isConsistent wsX7_cutsDone := goodIn_r _ [102, 103, 123, 124, 125, 126, 127, 128, 129, 130, 131, 132, 133, 134, 135, 136, 137] (by decide +kernel) (by decide +kernel)
set_option maxRecDepth 20000 in
theorem gX10_isConsistent_X7_cutsDone : GoodIn wsX10_isConsistent (wsV RX10 238 RX7 yX7_cutsDone wsX7_cutsDone) := goodIn_app (goodIn_of _ (by decide +kernel)) ggX10_isConsistent_X7_cutsDone
set_option maxRecDepth 20000 in
theorem ggX10_isConsistent_X7_liftsDone : GoodIn wsX10_isConsistent wsX7_liftsDone := goodIn_r _ [107, 108, 123, 124, 125, 126, 127, 128, 129, 130, 131, 132, 133, 134, 135, 136, 137] (by decide +kernel) (by decide +kernel)
set_option maxRecDepth 20000 in
theorem gX10_isConsistent_X7_liftsDone : GoodIn wsX10_isConsistent (wsV RX10 255 RX7 yX7_liftsDone wsX7_liftsDone) := goodIn_app (goodIn_of _ (by decide +kernel)) ggX10_isConsistent_X7_liftsDone
set_option maxRecDepth 20000 in
theorem ggX10_isConsistent_X7_blockSum : GoodIn wsX10_isConsistent wsX7_blockSum := goodIn_ca (goodIn_r _ [112, 113, 123, 124, 125, 126, 127, 128, 129, 130, 131, 132, 133, 134, 135, 136, 137] (by decide +kernel) (by decide +kernel)) (goodIn_sub (fun _ h => List.mem_cons_of_mem _ (List.mem_append_right _ h)) (by decide +kernel))
set_option maxRecDepth 20000 in
theorem gX10_isConsistent_X7_blockSum : GoodIn wsX10_isConsistent (wsV RX10 265 RX7 yX7_blockSum wsX7_blockSum) := goodIn_app (goodIn_of _ (by decide +kernel)) ggX10_isConsistent_X7_blockSum
theorem dX10_isConsistent_0 : decode cX10_isConsistent 0 = .ok (.aload_n 0, 1) := by decide +kernel
theorem dX10_isConsistent_1 : decode cX10_isConsistent 1 = .ok (.getfield 10, 3) := by decide +kernel
theorem dX10_isConsistent_4 : decode cX10_isConsistent 4 = .ok (.aload_n 0, 1) := by decide +kernel
theorem dX10_isConsistent_5 : decode cX10_isConsistent 5 = .ok (.getfield 10, 3) := by decide +kernel
theorem dX10_isConsistent_8 : decode cX10_isConsistent 8 = .ok (.invokevirtual 235, 3) := by decide +kernel
theorem dX10_isConsistent_11 : decode cX10_isConsistent 11 = .ok (.invokevirtual 258, 3) := by decide +kernel
theorem dX10_isConsistent_14 : decode cX10_isConsistent 14 = .ok (.ifCond .eq 64, 3) := by decide +kernel
theorem dX10_isConsistent_17 : decode cX10_isConsistent 17 = .ok (.aload_n 0, 1) := by decide +kernel
theorem dX10_isConsistent_18 : decode cX10_isConsistent 18 = .ok (.getfield 22, 3) := by decide +kernel
theorem dX10_isConsistent_21 : decode cX10_isConsistent 21 = .ok (.aload_n 0, 1) := by decide +kernel
theorem dX10_isConsistent_22 : decode cX10_isConsistent 22 = .ok (.getfield 10, 3) := by decide +kernel
theorem dX10_isConsistent_25 : decode cX10_isConsistent 25 = .ok (.invokevirtual 182, 3) := by decide +kernel
theorem dX10_isConsistent_28 : decode cX10_isConsistent 28 = .ok (.aload_n 0, 1) := by decide +kernel
theorem dX10_isConsistent_29 : decode cX10_isConsistent 29 = .ok (.getfield 22, 3) := by decide +kernel
theorem dX10_isConsistent_32 : decode cX10_isConsistent 32 = .ok (.aload_n 0, 1) := by decide +kernel
theorem dX10_isConsistent_33 : decode cX10_isConsistent 33 = .ok (.getfield 10, 3) := by decide +kernel
theorem dX10_isConsistent_36 : decode cX10_isConsistent 36 = .ok (.invokevirtual 186, 3) := by decide +kernel
theorem dX10_isConsistent_39 : decode cX10_isConsistent 39 = .ok (.if_icmp .ne 39, 3) := by decide +kernel
theorem dX10_isConsistent_42 : decode cX10_isConsistent 42 = .ok (.aload_n 0, 1) := by decide +kernel
theorem dX10_isConsistent_43 : decode cX10_isConsistent 43 = .ok (.invokevirtual 261, 3) := by decide +kernel
theorem dX10_isConsistent_46 : decode cX10_isConsistent 46 = .ok (.ifCond .eq 32, 3) := by decide +kernel
theorem dX10_isConsistent_49 : decode cX10_isConsistent 49 = .ok (.aload_n 0, 1) := by decide +kernel
theorem dX10_isConsistent_50 : decode cX10_isConsistent 50 = .ok (.getfield 10, 3) := by decide +kernel
theorem dX10_isConsistent_53 : decode cX10_isConsistent 53 = .ok (.invokevirtual 238, 3) := by decide +kernel
theorem dX10_isConsistent_56 : decode cX10_isConsistent 56 = .ok (.aload_n 0, 1) := by decide +kernel
theorem dX10_isConsistent_57 : decode cX10_isConsistent 57 = .ok (.getfield 10, 3) := by decide +kernel
theorem dX10_isConsistent_60 : decode cX10_isConsistent 60 = .ok (.invokevirtual 255, 3) := by decide +kernel
theorem dX10_isConsistent_63 : decode cX10_isConsistent 63 = .ok (.aload_n 0, 1) := by decide +kernel
theorem dX10_isConsistent_64 : decode cX10_isConsistent 64 = .ok (.getfield 10, 3) := by decide +kernel
theorem dX10_isConsistent_67 : decode cX10_isConsistent 67 = .ok (.invokevirtual 265, 3) := by decide +kernel
theorem dX10_isConsistent_70 : decode cX10_isConsistent 70 = .ok (.iadd, 1) := by decide +kernel
theorem dX10_isConsistent_71 : decode cX10_isConsistent 71 = .ok (.if_icmp .ne 7, 3) := by decide +kernel
theorem dX10_isConsistent_74 : decode cX10_isConsistent 74 = .ok (.iconst 1, 1) := by decide +kernel
theorem dX10_isConsistent_75 : decode cX10_isConsistent 75 = .ok (.goto 4, 3) := by decide +kernel
theorem dX10_isConsistent_78 : decode cX10_isConsistent 78 = .ok (.iconst 0, 1) := by decide +kernel
theorem dX10_isConsistent_79 : decode cX10_isConsistent 79 = .ok (.ireturn, 1) := by decide +kernel
set_option maxRecDepth 20000 in
theorem ggX10_neededCutsAgree_X7_cutsByDistance : GoodIn wsX10_neededCutsAgree wsX7_cutsByDistance := goodIn_ca (goodIn_r _ [7, 8, 9, 10, 11, 12, 13, 14, 15, 16, 17, 18, 19, 20, 21, 22, 23, 24, 25, 26, 58, 59, 60, 61, 62, 63, 64, 65, 66, 67, 68, 69, 70, 71, 72] (by decide +kernel) (by decide +kernel)) (goodIn_sub (fun _ h => List.mem_cons_of_mem _ (List.mem_append_right _ h)) (by decide +kernel))
set_option maxRecDepth 20000 in
theorem gX10_neededCutsAgree_X7_cutsByDistance : GoodIn wsX10_neededCutsAgree (wsV RX10 168 RX7 yX7_cutsByDistance wsX7_cutsByDistance) := goodIn_app (goodIn_of _ (by decide +kernel)) ggX10_neededCutsAgree_X7_cutsByDistance
set_option maxRecDepth 20000 in
theorem ggX10_neededCutsAgree_X8_cutsBySpreading : GoodIn wsX10_neededCutsAgree wsX8_cutsBySpreading := goodIn_ca (goodIn_r _ [31, 32, 33, 34, 35, 36, 6, 37, 9, 38, 39, 16, 40, 41, 42, 43, 44, 8, 45, 46, 47, 30, 48, 73, 74, 75, 76, 77, 58, 59, 60, 61, 62, 63, 64, 65, 66, 67, 68, 69, 70, 71, 72] (by decide +kernel) (by decide +kernel)) (goodIn_sub (fun _ h => List.mem_cons_of_mem _ (List.mem_append_right _ h)) (by decide +kernel))
set_option maxRecDepth 20000 in
theorem gX10_neededCutsAgree_X8_cutsBySpreading : GoodIn wsX10_neededCutsAgree (wsV RX10 171 RX8 yX8_cutsBySpreading wsX8_cutsBySpreading) := goodIn_app (goodIn_of _ (by decide +kernel)) ggX10_neededCutsAgree_X8_cutsBySpreading
theorem dX10_neededCutsAgree_0 : decode cX10_neededCutsAgree 0 = .ok (.iconst 0, 1) := by decide +kernel
theorem dX10_neededCutsAgree_1 : decode cX10_neededCutsAgree 1 = .ok (.istore_n 1, 1) := by decide +kernel
theorem dX10_neededCutsAgree_2 : decode cX10_neededCutsAgree 2 = .ok (.iload_n 1, 1) := by decide +kernel
theorem dX10_neededCutsAgree_3 : decode cX10_neededCutsAgree 3 = .ok (.bipush 30, 2) := by decide +kernel
theorem dX10_neededCutsAgree_5 : decode cX10_neededCutsAgree 5 = .ok (.if_icmp .ge 36, 3) := by decide +kernel
theorem dX10_neededCutsAgree_8 : decode cX10_neededCutsAgree 8 = .ok (.aload_n 0, 1) := by decide +kernel
theorem dX10_neededCutsAgree_9 : decode cX10_neededCutsAgree 9 = .ok (.getfield 10, 3) := by decide +kernel
theorem dX10_neededCutsAgree_12 : decode cX10_neededCutsAgree 12 = .ok (.iload_n 1, 1) := by decide +kernel
theorem dX10_neededCutsAgree_13 : decode cX10_neededCutsAgree 13 = .ok (.iconst 0, 1) := by decide +kernel
theorem dX10_neededCutsAgree_14 : decode cX10_neededCutsAgree 14 = .ok (.invokevirtual 168, 3) := by decide +kernel
theorem dX10_neededCutsAgree_17 : decode cX10_neededCutsAgree 17 = .ok (.aload_n 0, 1) := by decide +kernel
theorem dX10_neededCutsAgree_18 : decode cX10_neededCutsAgree 18 = .ok (.getfield 22, 3) := by decide +kernel
theorem dX10_neededCutsAgree_21 : decode cX10_neededCutsAgree 21 = .ok (.aload_n 0, 1) := by decide +kernel
theorem dX10_neededCutsAgree_22 : decode cX10_neededCutsAgree 22 = .ok (.getfield 10, 3) := by decide +kernel
theorem dX10_neededCutsAgree_25 : decode cX10_neededCutsAgree 25 = .ok (.iload_n 1, 1) := by decide +kernel
theorem dX10_neededCutsAgree_26 : decode cX10_neededCutsAgree 26 = .ok (.iconst 0, 1) := by decide +kernel
theorem dX10_neededCutsAgree_27 : decode cX10_neededCutsAgree 27 = .ok (.invokevirtual 171, 3) := by decide +kernel
theorem dX10_neededCutsAgree_30 : decode cX10_neededCutsAgree 30 = .ok (.if_icmp .eq 5, 3) := by decide +kernel
theorem dX10_neededCutsAgree_33 : decode cX10_neededCutsAgree 33 = .ok (.iconst 0, 1) := by decide +kernel
theorem dX10_neededCutsAgree_34 : decode cX10_neededCutsAgree 34 = .ok (.ireturn, 1) := by decide +kernel
theorem dX10_neededCutsAgree_35 : decode cX10_neededCutsAgree 35 = .ok (.iinc 1 1, 3) := by decide +kernel
theorem dX10_neededCutsAgree_38 : decode cX10_neededCutsAgree 38 = .ok (.goto (-36), 3) := by decide +kernel
theorem dX10_neededCutsAgree_41 : decode cX10_neededCutsAgree 41 = .ok (.iconst 1, 1) := by decide +kernel
theorem dX10_neededCutsAgree_42 : decode cX10_neededCutsAgree 42 = .ok (.ireturn, 1) := by decide +kernel
set_option maxRecDepth 20000 in
theorem ggX10_run_X6_read : GoodIn wsX10_run wsX6_read := goodIn_ca (goodIn_r _ [15, 16, 17, 18, 19, 20, 21, 22, 23, 24, 25, 26, 27, 28, 29, 30, 14, 31, 32, 33, 34, 35, 36, 37, 38, 39, 40, 41, 42, 43, 44, 45, 46, 47, 48, 49, 50, 51, 52, 53, 54, 55, 56, 57, 58, 59, 60, 61, 62, 63, 64, 65, 66, 67, 68, 69, 70, 71, 72, 73, 74, 75, 76, 77, 78, 79, 80, 81, 82, 83, 84, 85, 86, 87, 88, 89, 90, 91, 92, 93, 94, 95, 96, 97, 98, 99, 100, 101, 102, 103, 104, 105, 106, 107, 108, 109, 110, 111, 112, 113, 114, 115, 116, 117, 118, 119, 120, 121, 122, 123, 124, 125, 126, 127, 128, 129, 130, 131, 132, 133, 134, 135, 136, 137, 138, 139, 140, 141, 142, 143, 144, 145, 146, 147, 148, 149, 150, 151, 152, 153, 154, 155, 156, 157, 158, 159, 160, 161, 162, 163, 164, 165, 166, 167, 168, 169, 170, 171, 172, 173, 174, 175, 176, 177, 178, 179, 180, 181, 182, 183, 184, 185, 186, 187, 188, 189, 190, 191, 192, 413, 414, 415, 416, 417, 418, 419, 420, 421, 422, 423] (by decide +kernel) (by decide +kernel)) (goodIn_sub (fun _ h => List.mem_cons_of_mem _ (List.mem_append_right _ h)) (by decide +kernel))
set_option maxRecDepth 20000 in
theorem gX10_run_X6_read : GoodIn wsX10_run (wsV RX10 280 RX6 yX6_read wsX6_read) := goodIn_app (goodIn_of _ (by decide +kernel)) ggX10_run_X6_read
set_option maxRecDepth 20000 in
theorem ggX10_run_X6_empty : GoodIn wsX10_run wsX6_empty := goodIn_r _ [196, 17, 413, 414, 415] (by decide +kernel) (by decide +kernel)
set_option maxRecDepth 20000 in
theorem gX10_run_X6_empty : GoodIn wsX10_run (wsV RX10 283 RX6 yX6_empty wsX6_empty) := goodIn_app (goodIn_of _ (by decide +kernel)) ggX10_run_X6_empty
set_option maxRecDepth 20000 in
theorem ggX10_run_X7_copyFrom : GoodIn wsX10_run wsX7_copyFrom := goodIn_ca (goodIn_r _ [201, 202, 203, 180, 181, 182, 204, 205, 206, 207, 208, 209, 210, 211, 212, 213, 214, 215, 216, 217, 424, 425, 426, 427, 428, 429, 430, 431, 432, 433, 434, 435, 436, 437, 438] (by decide +kernel) (by decide +kernel)) (goodIn_sub (fun _ h => List.mem_cons_of_mem _ (List.mem_append_right _ h)) (by decide +kernel))
set_option maxRecDepth 20000 in
theorem gX10_run_X7_copyFrom : GoodIn wsX10_run (wsV RX10 288 RX7 yX7_copyFrom wsX7_copyFrom) := goodIn_app (goodIn_of _ (by decide +kernel)) ggX10_run_X7_copyFrom
set_option maxRecDepth 20000 in
theorem ggX10_run_X6_carryOut : GoodIn wsX10_run wsX6_carryOut := goodIn_ca (goodIn_r _ [221, 16, 222, 223, 224, 225, 226, 22, 227, 27, 228, 229, 230, 231, 232, 233, 234, 235, 236, 86, 87, 88, 237, 238, 239, 240, 26, 241, 242, 243, 123, 244, 245, 131, 133, 246, 247, 248, 249, 250, 251, 252, 253, 254, 255, 200, 256, 257, 258, 259, 260, 261, 262, 263, 264, 265, 266, 267, 268, 269, 270, 271, 272, 273, 274, 275, 211, 202, 205, 276, 213, 277, 278, 279, 280, 281, 282, 283, 284, 285, 286, 115, 287, 288, 114, 116, 289, 290, 291, 292, 293, 294, 295, 214, 296, 297, 298, 299, 300, 301, 302, 303, 304, 305, 306, 307, 308, 212, 309, 310, 311, 312, 207, 313, 314, 315, 316, 209, 208, 317, 318, 319, 320, 321, 322, 323, 324, 325, 326, 327, 328, 329, 330, 331, 332, 333, 334, 335, 336, 337, 338, 339, 206, 340, 341, 342, 343, 344, 345, 346, 210, 347, 348, 349, 350, 351, 352, 353, 354, 204, 355, 356, 357, 358, 215, 359, 360, 361, 362, 363, 364, 365, 366, 367, 368, 369, 370, 371, 372, 373, 374, 375, 376, 377, 378, 216, 217, 379, 380, 381, 382, 413, 414, 415, 416, 417, 418, 421, 422, 423, 424, 425, 426, 427, 428, 429, 430, 431, 432, 433, 434, 435, 436, 437, 438] (by decide +kernel) (by decide +kernel)) (goodIn_sub (fun _ h => List.mem_cons_of_mem _ (List.mem_append_right _ h)) (by decide +kernel))
set_option maxRecDepth 20000 in
theorem gX10_run_X6_carryOut : GoodIn wsX10_run (wsV RX10 291 RX6 yX6_carryOut wsX6_carryOut) := goodIn_app (goodIn_of _ (by decide +kernel)) ggX10_run_X6_carryOut
set_option maxRecDepth 20000 in
theorem ggX10_run_X4_record : GoodIn wsX10_run wsX4_record := goodIn_ca (goodIn_r _ [387, 388, 389, 390, 391, 200, 392, 393, 177, 115, 178, 394, 395, 396, 397, 129, 130, 132, 202, 204, 398, 211, 205, 206, 207, 208, 209, 210, 213, 214, 399, 198, 199, 201, 203, 180, 181, 182, 212, 215, 216, 217, 439, 440, 441, 424, 425, 426, 427, 428, 429, 430, 431, 432, 433, 434, 435, 436, 437, 438] (by decide +kernel) (by decide +kernel)) (goodIn_sub (fun _ h => List.mem_cons_of_mem _ (List.mem_append_right _ h)) (by decide +kernel))
set_option maxRecDepth 20000 in
theorem gX10_run_X4_record : GoodIn wsX10_run (wsV RX10 65 RX4 yX4_record wsX4_record) := goodIn_app (goodIn_of _ (by decide +kernel)) ggX10_run_X4_record
set_option maxRecDepth 20000 in
theorem ggX10_run_X6_commandCount : GoodIn wsX10_run wsX6_commandCount := goodIn_r _ [403, 16, 224, 225, 226, 22, 227, 27, 413, 414, 415, 416, 417, 418] (by decide +kernel) (by decide +kernel)
set_option maxRecDepth 20000 in
theorem gX10_run_X6_commandCount : GoodIn wsX10_run (wsV RX10 299 RX6 yX6_commandCount wsX6_commandCount) := goodIn_app (goodIn_of _ (by decide +kernel)) ggX10_run_X6_commandCount
theorem dX10_run_0 : decode cX10_run 0 = .ok (.aload_n 0, 1) := by decide +kernel
theorem dX10_run_1 : decode cX10_run 1 = .ok (.getfield 36, 3) := by decide +kernel
theorem dX10_run_4 : decode cX10_run 4 = .ok (.invokevirtual 280, 3) := by decide +kernel
theorem dX10_run_7 : decode cX10_run 7 = .ok (.istore_n 1, 1) := by decide +kernel
theorem dX10_run_8 : decode cX10_run 8 = .ok (.aload_n 0, 1) := by decide +kernel
theorem dX10_run_9 : decode cX10_run 9 = .ok (.getfield 36, 3) := by decide +kernel
theorem dX10_run_12 : decode cX10_run 12 = .ok (.invokevirtual 283, 3) := by decide +kernel
theorem dX10_run_15 : decode cX10_run 15 = .ok (.iload_n 1, 1) := by decide +kernel
theorem dX10_run_16 : decode cX10_run 16 = .ok (.iconst (-1), 1) := by decide +kernel
theorem dX10_run_17 : decode cX10_run 17 = .ok (.if_icmp .eq 19, 3) := by decide +kernel
theorem dX10_run_20 : decode cX10_run 20 = .ok (.aload_n 0, 1) := by decide +kernel
theorem dX10_run_21 : decode cX10_run 21 = .ok (.iload_n 1, 1) := by decide +kernel
theorem dX10_run_22 : decode cX10_run 22 = .ok (.putfield 50, 3) := by decide +kernel
theorem dX10_run_25 : decode cX10_run 25 = .ok (.new 221, 3) := by decide +kernel
theorem dX10_run_28 : decode cX10_run 28 = .ok (.dup, 1) := by decide +kernel
theorem dX10_run_29 : decode cX10_run 29 = .ok (.ldc_w 286, 3) := by decide +kernel
theorem dX10_run_32 : decode cX10_run 32 = .ok (.invokespecial 225, 3) := by decide +kernel
theorem dX10_run_35 : decode cX10_run 35 = .ok (.athrow, 1) := by decide +kernel
theorem dX10_run_36 : decode cX10_run 36 = .ok (.aload_n 0, 1) := by decide +kernel
theorem dX10_run_37 : decode cX10_run 37 = .ok (.getfield 16, 3) := by decide +kernel
theorem dX10_run_40 : decode cX10_run 40 = .ok (.aload_n 0, 1) := by decide +kernel
theorem dX10_run_41 : decode cX10_run 41 = .ok (.getfield 10, 3) := by decide +kernel
theorem dX10_run_44 : decode cX10_run 44 = .ok (.invokevirtual 288, 3) := by decide +kernel
theorem dX10_run_47 : decode cX10_run 47 = .ok (.aload_n 0, 1) := by decide +kernel
theorem dX10_run_48 : decode cX10_run 48 = .ok (.getfield 36, 3) := by decide +kernel
theorem dX10_run_51 : decode cX10_run 51 = .ok (.aload_n 0, 1) := by decide +kernel
theorem dX10_run_52 : decode cX10_run 52 = .ok (.getfield 10, 3) := by decide +kernel
theorem dX10_run_55 : decode cX10_run 55 = .ok (.invokevirtual 291, 3) := by decide +kernel
theorem dX10_run_58 : decode cX10_run 58 = .ok (.istore_n 2, 1) := by decide +kernel
theorem dX10_run_59 : decode cX10_run 59 = .ok (.iload_n 2, 1) := by decide +kernel
theorem dX10_run_60 : decode cX10_run 60 = .ok (.iconst (-1), 1) := by decide +kernel
theorem dX10_run_61 : decode cX10_run 61 = .ok (.if_icmp .eq 30, 3) := by decide +kernel
theorem dX10_run_64 : decode cX10_run 64 = .ok (.aload_n 0, 1) := by decide +kernel
theorem dX10_run_65 : decode cX10_run 65 = .ok (.getfield 10, 3) := by decide +kernel
theorem dX10_run_68 : decode cX10_run 68 = .ok (.aload_n 0, 1) := by decide +kernel
theorem dX10_run_69 : decode cX10_run 69 = .ok (.getfield 16, 3) := by decide +kernel
theorem dX10_run_72 : decode cX10_run 72 = .ok (.invokevirtual 288, 3) := by decide +kernel
theorem dX10_run_75 : decode cX10_run 75 = .ok (.aload_n 0, 1) := by decide +kernel
theorem dX10_run_76 : decode cX10_run 76 = .ok (.iload_n 2, 1) := by decide +kernel
theorem dX10_run_77 : decode cX10_run 77 = .ok (.putfield 54, 3) := by decide +kernel
theorem dX10_run_80 : decode cX10_run 80 = .ok (.new 294, 3) := by decide +kernel
theorem dX10_run_83 : decode cX10_run 83 = .ok (.dup, 1) := by decide +kernel
theorem dX10_run_84 : decode cX10_run 84 = .ok (.ldc_w 296, 3) := by decide +kernel
theorem dX10_run_87 : decode cX10_run 87 = .ok (.invokespecial 298, 3) := by decide +kernel
theorem dX10_run_90 : decode cX10_run 90 = .ok (.athrow, 1) := by decide +kernel
theorem dX10_run_91 : decode cX10_run 91 = .ok (.aload_n 0, 1) := by decide +kernel
theorem dX10_run_92 : decode cX10_run 92 = .ok (.getfield 29, 3) := by decide +kernel
theorem dX10_run_95 : decode cX10_run 95 = .ok (.aload_n 0, 1) := by decide +kernel
theorem dX10_run_96 : decode cX10_run 96 = .ok (.getfield 16, 3) := by decide +kernel
theorem dX10_run_99 : decode cX10_run 99 = .ok (.invokevirtual 65, 3) := by decide +kernel
theorem dX10_run_102 : decode cX10_run 102 = .ok (.aload_n 0, 1) := by decide +kernel
theorem dX10_run_103 : decode cX10_run 103 = .ok (.getfield 36, 3) := by decide +kernel
theorem dX10_run_106 : decode cX10_run 106 = .ok (.invokevirtual 299, 3) := by decide +kernel
theorem dX10_run_109 : decode cX10_run 109 = .ok (.ireturn, 1) := by decide +kernel
theorem dX10_errorPosition_0 : decode cX10_errorPosition 0 = .ok (.aload_n 0, 1) := by decide +kernel
theorem dX10_errorPosition_1 : decode cX10_errorPosition 1 = .ok (.getfield 50, 3) := by decide +kernel
theorem dX10_errorPosition_4 : decode cX10_errorPosition 4 = .ok (.iconst (-1), 1) := by decide +kernel
theorem dX10_errorPosition_5 : decode cX10_errorPosition 5 = .ok (.if_icmp .ne 14, 3) := by decide +kernel
theorem dX10_errorPosition_8 : decode cX10_errorPosition 8 = .ok (.new 192, 3) := by decide +kernel
theorem dX10_errorPosition_11 : decode cX10_errorPosition 11 = .ok (.dup, 1) := by decide +kernel
theorem dX10_errorPosition_12 : decode cX10_errorPosition 12 = .ok (.ldc_w 302, 3) := by decide +kernel
theorem dX10_errorPosition_15 : decode cX10_errorPosition 15 = .ok (.invokespecial 196, 3) := by decide +kernel
theorem dX10_errorPosition_18 : decode cX10_errorPosition 18 = .ok (.athrow, 1) := by decide +kernel
theorem dX10_errorPosition_19 : decode cX10_errorPosition 19 = .ok (.aload_n 0, 1) := by decide +kernel
theorem dX10_errorPosition_20 : decode cX10_errorPosition 20 = .ok (.getfield 50, 3) := by decide +kernel
theorem dX10_errorPosition_23 : decode cX10_errorPosition 23 = .ok (.ireturn, 1) := by decide +kernel
theorem dX10_failedCommand_0 : decode cX10_failedCommand 0 = .ok (.aload_n 0, 1) := by decide +kernel
theorem dX10_failedCommand_1 : decode cX10_failedCommand 1 = .ok (.getfield 54, 3) := by decide +kernel
theorem dX10_failedCommand_4 : decode cX10_failedCommand 4 = .ok (.iconst (-1), 1) := by decide +kernel
theorem dX10_failedCommand_5 : decode cX10_failedCommand 5 = .ok (.if_icmp .ne 14, 3) := by decide +kernel
theorem dX10_failedCommand_8 : decode cX10_failedCommand 8 = .ok (.new 192, 3) := by decide +kernel
theorem dX10_failedCommand_11 : decode cX10_failedCommand 11 = .ok (.dup, 1) := by decide +kernel
theorem dX10_failedCommand_12 : decode cX10_failedCommand 12 = .ok (.ldc_w 304, 3) := by decide +kernel
theorem dX10_failedCommand_15 : decode cX10_failedCommand 15 = .ok (.invokespecial 196, 3) := by decide +kernel
theorem dX10_failedCommand_18 : decode cX10_failedCommand 18 = .ok (.athrow, 1) := by decide +kernel
theorem dX10_failedCommand_19 : decode cX10_failedCommand 19 = .ok (.aload_n 0, 1) := by decide +kernel
theorem dX10_failedCommand_20 : decode cX10_failedCommand 20 = .ok (.getfield 54, 3) := by decide +kernel
theorem dX10_failedCommand_23 : decode cX10_failedCommand 23 = .ok (.ireturn, 1) := by decide +kernel
set_option maxRecDepth 20000 in
theorem ggX10_writeRow_X3_hasRow : GoodIn wsX10_writeRow wsX3_hasRow := goodIn_r _ [8] (by decide +kernel) (by decide +kernel)
set_option maxRecDepth 20000 in
theorem gX10_writeRow_X3_hasRow : GoodIn wsX10_writeRow (va_wsS RX10 306 yX3_hasRow wsX3_hasRow) := goodIn_app (goodIn_of _ (by decide +kernel)) ggX10_writeRow_X3_hasRow
set_option maxRecDepth 20000 in
theorem ggX10_writeRow_X5_write : GoodIn wsX10_writeRow wsX5_write := goodIn_ca (goodIn_r _ [13, 14, 15, 16, 17, 12, 18, 19, 20, 21, 7, 22, 23, 24, 25, 26, 27, 28, 29, 30, 31, 32, 33, 34, 35, 36, 37, 38, 39, 40, 41, 42, 43, 44, 45, 46, 47, 48, 49, 50, 51, 52, 53, 63, 64, 65, 66, 67, 68, 69, 70, 71, 72, 73, 74, 75, 76, 77, 78, 79] (by decide +kernel) (by decide +kernel)) (goodIn_sub (fun _ h => List.mem_cons_of_mem _ (List.mem_append_right _ h)) (by decide +kernel))
set_option maxRecDepth 20000 in
theorem gX10_writeRow_X5_write : GoodIn wsX10_writeRow (wsV RX10 311 RX5 yX5_write wsX5_write) := goodIn_app (goodIn_of _ (by decide +kernel)) ggX10_writeRow_X5_write
theorem dX10_writeRow_0 : decode cX10_writeRow 0 = .ok (.iload_n 1, 1) := by decide +kernel
theorem dX10_writeRow_1 : decode cX10_writeRow 1 = .ok (.invokestatic 306, 3) := by decide +kernel
theorem dX10_writeRow_4 : decode cX10_writeRow 4 = .ok (.ifCond .ne 14, 3) := by decide +kernel
theorem dX10_writeRow_7 : decode cX10_writeRow 7 = .ok (.new 205, 3) := by decide +kernel
theorem dX10_writeRow_10 : decode cX10_writeRow 10 = .ok (.dup, 1) := by decide +kernel
theorem dX10_writeRow_11 : decode cX10_writeRow 11 = .ok (.ldc_w 309, 3) := by decide +kernel
theorem dX10_writeRow_14 : decode cX10_writeRow 14 = .ok (.invokespecial 209, 3) := by decide +kernel
theorem dX10_writeRow_17 : decode cX10_writeRow 17 = .ok (.athrow, 1) := by decide +kernel
theorem dX10_writeRow_18 : decode cX10_writeRow 18 = .ok (.aload_n 0, 1) := by decide +kernel
theorem dX10_writeRow_19 : decode cX10_writeRow 19 = .ok (.getfield 43, 3) := by decide +kernel
theorem dX10_writeRow_22 : decode cX10_writeRow 22 = .ok (.aload_n 0, 1) := by decide +kernel
theorem dX10_writeRow_23 : decode cX10_writeRow 23 = .ok (.getfield 10, 3) := by decide +kernel
theorem dX10_writeRow_26 : decode cX10_writeRow 26 = .ok (.iload_n 1, 1) := by decide +kernel
theorem dX10_writeRow_27 : decode cX10_writeRow 27 = .ok (.invokevirtual 311, 3) := by decide +kernel
theorem dX10_writeRow_30 : decode cX10_writeRow 30 = .ok (.ireturn, 1) := by decide +kernel
set_option maxRecDepth 20000 in
theorem ggX10_outputAt_X5_hasSign : GoodIn wsX10_outputAt wsX5_hasSign := goodIn_r _ [8, 9, 24, 25] (by decide +kernel) (by decide +kernel)
set_option maxRecDepth 20000 in
theorem gX10_outputAt_X5_hasSign : GoodIn wsX10_outputAt (wsV RX10 314 RX5 yX5_hasSign wsX5_hasSign) := goodIn_app (goodIn_of _ (by decide +kernel)) ggX10_outputAt_X5_hasSign
set_option maxRecDepth 20000 in
theorem ggX10_outputAt_X5_signAt : GoodIn wsX10_outputAt wsX5_signAt := goodIn_ca (goodIn_r _ [13, 14, 24, 25] (by decide +kernel) (by decide +kernel)) (goodIn_sub (fun _ h => List.mem_cons_of_mem _ (List.mem_append_right _ h)) (by decide +kernel))
set_option maxRecDepth 20000 in
theorem gX10_outputAt_X5_signAt : GoodIn wsX10_outputAt (wsV RX10 319 RX5 yX5_signAt wsX5_signAt) := goodIn_app (goodIn_of _ (by decide +kernel)) ggX10_outputAt_X5_signAt
theorem dX10_outputAt_0 : decode cX10_outputAt 0 = .ok (.aload_n 0, 1) := by decide +kernel
theorem dX10_outputAt_1 : decode cX10_outputAt 1 = .ok (.getfield 43, 3) := by decide +kernel
theorem dX10_outputAt_4 : decode cX10_outputAt 4 = .ok (.iload_n 1, 1) := by decide +kernel
theorem dX10_outputAt_5 : decode cX10_outputAt 5 = .ok (.invokevirtual 314, 3) := by decide +kernel
theorem dX10_outputAt_8 : decode cX10_outputAt 8 = .ok (.ifCond .ne 14, 3) := by decide +kernel
theorem dX10_outputAt_11 : decode cX10_outputAt 11 = .ok (.new 205, 3) := by decide +kernel
theorem dX10_outputAt_14 : decode cX10_outputAt 14 = .ok (.dup, 1) := by decide +kernel
theorem dX10_outputAt_15 : decode cX10_outputAt 15 = .ok (.ldc_w 317, 3) := by decide +kernel
theorem dX10_outputAt_18 : decode cX10_outputAt 18 = .ok (.invokespecial 209, 3) := by decide +kernel
theorem dX10_outputAt_21 : decode cX10_outputAt 21 = .ok (.athrow, 1) := by decide +kernel
theorem dX10_outputAt_22 : decode cX10_outputAt 22 = .ok (.aload_n 0, 1) := by decide +kernel
theorem dX10_outputAt_23 : decode cX10_outputAt 23 = .ok (.getfield 43, 3) := by decide +kernel
theorem dX10_outputAt_26 : decode cX10_outputAt 26 = .ok (.iload_n 1, 1) := by decide +kernel
theorem dX10_outputAt_27 : decode cX10_outputAt 27 = .ok (.invokevirtual 319, 3) := by decide +kernel
theorem dX10_outputAt_30 : decode cX10_outputAt 30 = .ok (.ireturn, 1) := by decide +kernel
set_option maxRecDepth 20000 in
theorem ggX10_save_X7_init : GoodIn wsX10_save wsX7_init := goodIn_ca (goodIn_r _ [8, 9, 10, 11, 12, 13, 14, 15, 16, 17, 18, 19, 20, 21, 22, 23, 24, 46, 47, 48, 49, 50, 51, 52, 53, 54, 55, 56, 57, 58, 59, 60] (by decide +kernel) (by decide +kernel)) (goodIn_sub (fun _ h => List.mem_cons_of_mem _ (List.mem_append_right _ h)) (by decide +kernel))
set_option maxRecDepth 20000 in
theorem gX10_save_X7_init : GoodIn wsX10_save (wsX7_init) := ggX10_save_X7_init
set_option maxRecDepth 20000 in
theorem ggX10_save_X7_copyFrom : GoodIn wsX10_save wsX7_copyFrom := goodIn_ca (goodIn_r _ [28, 13, 29, 30, 31, 32, 14, 17, 18, 19, 20, 21, 22, 16, 33, 23, 24, 34, 35, 36, 46, 47, 48, 49, 50, 51, 52, 53, 54, 55, 56, 57, 58, 59, 60] (by decide +kernel) (by decide +kernel)) (goodIn_sub (fun _ h => List.mem_cons_of_mem _ (List.mem_append_right _ h)) (by decide +kernel))
set_option maxRecDepth 20000 in
theorem gX10_save_X7_copyFrom : GoodIn wsX10_save (wsV RX10 288 RX7 yX7_copyFrom wsX7_copyFrom) := goodIn_app (goodIn_of _ (by decide +kernel)) ggX10_save_X7_copyFrom
theorem dX10_save_0 : decode cX10_save 0 = .ok (.aload_n 0, 1) := by decide +kernel
theorem dX10_save_1 : decode cX10_save 1 = .ok (.getfield 47, 3) := by decide +kernel
theorem dX10_save_4 : decode cX10_save 4 = .ok (.ifnonnull 14, 3) := by decide +kernel
theorem dX10_save_7 : decode cX10_save 7 = .ok (.aload_n 0, 1) := by decide +kernel
theorem dX10_save_8 : decode cX10_save 8 = .ok (.new 7, 3) := by decide +kernel
theorem dX10_save_11 : decode cX10_save 11 = .ok (.dup, 1) := by decide +kernel
theorem dX10_save_12 : decode cX10_save 12 = .ok (.invokespecial 9, 3) := by decide +kernel
theorem dX10_save_15 : decode cX10_save 15 = .ok (.putfield 47, 3) := by decide +kernel
theorem dX10_save_18 : decode cX10_save 18 = .ok (.aload_n 0, 1) := by decide +kernel
theorem dX10_save_19 : decode cX10_save 19 = .ok (.getfield 47, 3) := by decide +kernel
theorem dX10_save_22 : decode cX10_save 22 = .ok (.aload_n 0, 1) := by decide +kernel
theorem dX10_save_23 : decode cX10_save 23 = .ok (.getfield 10, 3) := by decide +kernel
theorem dX10_save_26 : decode cX10_save 26 = .ok (.invokevirtual 288, 3) := by decide +kernel
theorem dX10_save_29 : decode cX10_save 29 = .ok (.return_, 1) := by decide +kernel
set_option maxRecDepth 20000 in
theorem ggX10_restore_X7_copyFrom : GoodIn wsX10_restore wsX7_copyFrom := goodIn_ca (goodIn_r _ [10, 11, 12, 13, 14, 15, 16, 17, 18, 19, 20, 21, 22, 23, 24, 25, 26, 27, 28, 29, 45, 46, 47, 48, 49, 50, 51, 52, 53, 54, 55, 56, 57, 58, 59] (by decide +kernel) (by decide +kernel)) (goodIn_sub (fun _ h => List.mem_cons_of_mem _ (List.mem_append_right _ h)) (by decide +kernel))
set_option maxRecDepth 20000 in
theorem gX10_restore_X7_copyFrom : GoodIn wsX10_restore (wsV RX10 288 RX7 yX7_copyFrom wsX7_copyFrom) := goodIn_app (goodIn_of _ (by decide +kernel)) ggX10_restore_X7_copyFrom
set_option maxRecDepth 20000 in
theorem ggX10_restore_X4_forget : GoodIn wsX10_restore wsX4_forget := goodIn_r _ [34, 35, 60, 61, 62] (by decide +kernel) (by decide +kernel)
set_option maxRecDepth 20000 in
theorem gX10_restore_X4_forget : GoodIn wsX10_restore (wsV RX10 333 RX4 yX4_forget wsX4_forget) := goodIn_app (goodIn_of _ (by decide +kernel)) ggX10_restore_X4_forget
theorem dX10_restore_0 : decode cX10_restore 0 = .ok (.aload_n 0, 1) := by decide +kernel
theorem dX10_restore_1 : decode cX10_restore 1 = .ok (.getfield 47, 3) := by decide +kernel
theorem dX10_restore_4 : decode cX10_restore 4 = .ok (.ifnonnull 14, 3) := by decide +kernel
theorem dX10_restore_7 : decode cX10_restore 7 = .ok (.new 271, 3) := by decide +kernel
theorem dX10_restore_10 : decode cX10_restore 10 = .ok (.dup, 1) := by decide +kernel
theorem dX10_restore_11 : decode cX10_restore 11 = .ok (.ldc_w 331, 3) := by decide +kernel
theorem dX10_restore_14 : decode cX10_restore 14 = .ok (.invokespecial 275, 3) := by decide +kernel
theorem dX10_restore_17 : decode cX10_restore 17 = .ok (.athrow, 1) := by decide +kernel
theorem dX10_restore_18 : decode cX10_restore 18 = .ok (.aload_n 0, 1) := by decide +kernel
theorem dX10_restore_19 : decode cX10_restore 19 = .ok (.getfield 10, 3) := by decide +kernel
theorem dX10_restore_22 : decode cX10_restore 22 = .ok (.aload_n 0, 1) := by decide +kernel
theorem dX10_restore_23 : decode cX10_restore 23 = .ok (.getfield 47, 3) := by decide +kernel
theorem dX10_restore_26 : decode cX10_restore 26 = .ok (.invokevirtual 288, 3) := by decide +kernel
theorem dX10_restore_29 : decode cX10_restore 29 = .ok (.aload_n 0, 1) := by decide +kernel
theorem dX10_restore_30 : decode cX10_restore 30 = .ok (.getfield 29, 3) := by decide +kernel
theorem dX10_restore_33 : decode cX10_restore 33 = .ok (.invokevirtual 333, 3) := by decide +kernel
theorem dX10_restore_36 : decode cX10_restore 36 = .ok (.return_, 1) := by decide +kernel
set_option maxRecDepth 20000 in
theorem ggX10_refuse_Jx29ce0_ordinal_8abf5 : GoodIn wsX10_refuse wsJx29ce0_ordinal_8abf5 := goodIn_r _ [17, 18] (by decide +kernel) (by decide +kernel)
set_option maxRecDepth 20000 in
theorem gX10_refuse_Jx29ce0_ordinal_8abf5_u342X2 : GoodIn wsX10_refuse (va_wsU RX10 342 RX2 "java/lang/Enum" ⟨"TerraceQuarry$Fault", "ordinal", "()I"⟩ yJx29ce0_ordinal_8abf5 wsJx29ce0_ordinal_8abf5) := goodIn_app (goodIn_of _ (by decide +kernel)) ggX10_refuse_Jx29ce0_ordinal_8abf5
theorem dX10_refuse_0 : decode cX10_refuse 0 = .ok (.getstatic 336, 3) := by decide +kernel
theorem dX10_refuse_3 : decode cX10_refuse 3 = .ok (.aload_n 0, 1) := by decide +kernel
theorem dX10_refuse_4 : decode cX10_refuse 4 = .ok (.invokevirtual 342, 3) := by decide +kernel
theorem dX10_refuse_7 : decode cX10_refuse 7 = .ok (.iaload, 1) := by decide +kernel
theorem dX10_refuse_8 : decode cX10_refuse 8 = .ok (.tableswitch 91 1 5 #[36, 47, 58, 69, 80], 36) := by decide +kernel
theorem dX10_refuse_44 : decode cX10_refuse 44 = .ok (.new 205, 3) := by decide +kernel
theorem dX10_refuse_47 : decode cX10_refuse 47 = .ok (.dup, 1) := by decide +kernel
theorem dX10_refuse_48 : decode cX10_refuse 48 = .ok (.ldc_w 345, 3) := by decide +kernel
theorem dX10_refuse_51 : decode cX10_refuse 51 = .ok (.invokespecial 209, 3) := by decide +kernel
theorem dX10_refuse_54 : decode cX10_refuse 54 = .ok (.athrow, 1) := by decide +kernel
theorem dX10_refuse_55 : decode cX10_refuse 55 = .ok (.new 221, 3) := by decide +kernel
theorem dX10_refuse_58 : decode cX10_refuse 58 = .ok (.dup, 1) := by decide +kernel
theorem dX10_refuse_59 : decode cX10_refuse 59 = .ok (.ldc_w 347, 3) := by decide +kernel
theorem dX10_refuse_62 : decode cX10_refuse 62 = .ok (.invokespecial 225, 3) := by decide +kernel
theorem dX10_refuse_65 : decode cX10_refuse 65 = .ok (.athrow, 1) := by decide +kernel
theorem dX10_refuse_66 : decode cX10_refuse 66 = .ok (.new 192, 3) := by decide +kernel
theorem dX10_refuse_69 : decode cX10_refuse 69 = .ok (.dup, 1) := by decide +kernel
theorem dX10_refuse_70 : decode cX10_refuse 70 = .ok (.ldc_w 349, 3) := by decide +kernel
theorem dX10_refuse_73 : decode cX10_refuse 73 = .ok (.invokespecial 196, 3) := by decide +kernel
theorem dX10_refuse_76 : decode cX10_refuse 76 = .ok (.athrow, 1) := by decide +kernel
theorem dX10_refuse_77 : decode cX10_refuse 77 = .ok (.new 271, 3) := by decide +kernel
theorem dX10_refuse_80 : decode cX10_refuse 80 = .ok (.dup, 1) := by decide +kernel
theorem dX10_refuse_81 : decode cX10_refuse 81 = .ok (.ldc_w 351, 3) := by decide +kernel
theorem dX10_refuse_84 : decode cX10_refuse 84 = .ok (.invokespecial 275, 3) := by decide +kernel
theorem dX10_refuse_87 : decode cX10_refuse 87 = .ok (.athrow, 1) := by decide +kernel
theorem dX10_refuse_88 : decode cX10_refuse 88 = .ok (.new 294, 3) := by decide +kernel
theorem dX10_refuse_91 : decode cX10_refuse 91 = .ok (.dup, 1) := by decide +kernel
theorem dX10_refuse_92 : decode cX10_refuse 92 = .ok (.ldc_w 353, 3) := by decide +kernel
theorem dX10_refuse_95 : decode cX10_refuse 95 = .ok (.invokespecial 298, 3) := by decide +kernel
theorem dX10_refuse_98 : decode cX10_refuse 98 = .ok (.athrow, 1) := by decide +kernel
theorem dX10_refuse_99 : decode cX10_refuse 99 = .ok (.return_, 1) := by decide +kernel
theorem dJx00060_init_a7421_0 : decode cJx00060_init_a7421 0 = .ok (.aload_n 0, 1) := by decide +kernel
theorem dJx00060_init_a7421_1 : decode cJx00060_init_a7421 1 = .ok (.aload_n 1, 1) := by decide +kernel
theorem dJx00060_init_a7421_2 : decode cJx00060_init_a7421 2 = .ok (.invokespecial 7, 3) := by decide +kernel
theorem dJx00060_init_a7421_5 : decode cJx00060_init_a7421 5 = .ok (.return_, 1) := by decide +kernel
theorem dJx29ce0_ordinal_8abf5_0 : decode cJx29ce0_ordinal_8abf5 0 = .ok (.aload_n 0, 1) := by decide +kernel
theorem dJx29ce0_ordinal_8abf5_1 : decode cJx29ce0_ordinal_8abf5 1 = .ok (.getfield 7, 3) := by decide +kernel
theorem dJx29ce0_ordinal_8abf5_4 : decode cJx29ce0_ordinal_8abf5 4 = .ok (.ireturn, 1) := by decide +kernel
theorem dJ9_abs_0f7a4_0 : decode cJ9_abs_0f7a4 0 = .ok (.iload_n 0, 1) := by decide +kernel
theorem dJ9_abs_0f7a4_1 : decode cJ9_abs_0f7a4 1 = .ok (.ifCond .ge 8, 3) := by decide +kernel
theorem dJ9_abs_0f7a4_4 : decode cJ9_abs_0f7a4 4 = .ok (.iload_n 0, 1) := by decide +kernel
theorem dJ9_abs_0f7a4_5 : decode cJ9_abs_0f7a4 5 = .ok (.ineg, 1) := by decide +kernel
theorem dJ9_abs_0f7a4_6 : decode cJ9_abs_0f7a4 6 = .ok (.goto 4, 3) := by decide +kernel
theorem dJ9_abs_0f7a4_9 : decode cJ9_abs_0f7a4 9 = .ok (.iload_n 0, 1) := by decide +kernel
theorem dJ9_abs_0f7a4_10 : decode cJ9_abs_0f7a4 10 = .ok (.ireturn, 1) := by decide +kernel
theorem dJ9_max_7cf53_0 : decode cJ9_max_7cf53 0 = .ok (.iload_n 0, 1) := by decide +kernel
theorem dJ9_max_7cf53_1 : decode cJ9_max_7cf53 1 = .ok (.iload_n 1, 1) := by decide +kernel
theorem dJ9_max_7cf53_2 : decode cJ9_max_7cf53 2 = .ok (.if_icmp .lt 7, 3) := by decide +kernel
theorem dJ9_max_7cf53_5 : decode cJ9_max_7cf53 5 = .ok (.iload_n 0, 1) := by decide +kernel
theorem dJ9_max_7cf53_6 : decode cJ9_max_7cf53 6 = .ok (.goto 4, 3) := by decide +kernel
theorem dJ9_max_7cf53_9 : decode cJ9_max_7cf53 9 = .ok (.iload_n 1, 1) := by decide +kernel
theorem dJ9_max_7cf53_10 : decode cJ9_max_7cf53 10 = .ok (.ireturn, 1) := by decide +kernel
theorem dJ9_min_7cf53_0 : decode cJ9_min_7cf53 0 = .ok (.iload_n 0, 1) := by decide +kernel
theorem dJ9_min_7cf53_1 : decode cJ9_min_7cf53 1 = .ok (.iload_n 1, 1) := by decide +kernel
theorem dJ9_min_7cf53_2 : decode cJ9_min_7cf53 2 = .ok (.if_icmp .gt 7, 3) := by decide +kernel
theorem dJ9_min_7cf53_5 : decode cJ9_min_7cf53 5 = .ok (.iload_n 0, 1) := by decide +kernel
theorem dJ9_min_7cf53_6 : decode cJ9_min_7cf53 6 = .ok (.goto 4, 3) := by decide +kernel
theorem dJ9_min_7cf53_9 : decode cJ9_min_7cf53 9 = .ok (.iload_n 1, 1) := by decide +kernel
theorem dJ9_min_7cf53_10 : decode cJ9_min_7cf53 10 = .ok (.ireturn, 1) := by decide +kernel
set_option maxRecDepth 20000 in
theorem ggJ0_length_8abf5_J0_coder_7d493 : GoodIn wsJ0_length_8abf5 wsJ0_coder_7d493 := goodIn_r _ [6, 7, 8, 9, 10] (by decide +kernel) (by decide +kernel)
set_option maxRecDepth 20000 in
theorem gJ0_length_8abf5_J0_coder_7d493 : GoodIn wsJ0_length_8abf5 (wsV RJ0 335 RJ0 yJ0_coder_7d493 wsJ0_coder_7d493) := goodIn_app (goodIn_of _ (by decide +kernel)) ggJ0_length_8abf5_J0_coder_7d493
theorem dJ0_length_8abf5_0 : decode cJ0_length_8abf5 0 = .ok (.aload_n 0, 1) := by decide +kernel
theorem dJ0_length_8abf5_1 : decode cJ0_length_8abf5 1 = .ok (.getfield 9, 3) := by decide +kernel
theorem dJ0_length_8abf5_4 : decode cJ0_length_8abf5 4 = .ok (.arraylength, 1) := by decide +kernel
theorem dJ0_length_8abf5_5 : decode cJ0_length_8abf5 5 = .ok (.aload_n 0, 1) := by decide +kernel
theorem dJ0_length_8abf5_6 : decode cJ0_length_8abf5 6 = .ok (.invokevirtual 335, 3) := by decide +kernel
theorem dJ0_length_8abf5_9 : decode cJ0_length_8abf5 9 = .ok (.ishr, 1) := by decide +kernel
theorem dJ0_length_8abf5_10 : decode cJ0_length_8abf5 10 = .ok (.ireturn, 1) := by decide +kernel
set_option maxRecDepth 20000 in
theorem ggJ0_charAt_5068e_J0_isLatin1_aae02 : GoodIn wsJ0_charAt_5068e wsJ0_isLatin1_aae02 := goodIn_r _ [6, 7, 8, 38, 39] (by decide +kernel) (by decide +kernel)
set_option maxRecDepth 20000 in
theorem gJ0_charAt_5068e_J0_isLatin1_aae02 : GoodIn wsJ0_charAt_5068e (wsV RJ0 492 RJ0 yJ0_isLatin1_aae02 wsJ0_isLatin1_aae02) := goodIn_app (goodIn_of _ (by decide +kernel)) ggJ0_charAt_5068e_J0_isLatin1_aae02
set_option maxRecDepth 20000 in
theorem ggJ0_charAt_5068e_J1_charAt_3b067 : GoodIn wsJ0_charAt_5068e wsJ1_charAt_3b067 := goodIn_r _ [12, 13, 14, 5, 15, 16, 17, 18, 19, 20] (by decide +kernel) (by decide +kernel)
set_option maxRecDepth 20000 in
theorem gJ0_charAt_5068e_J1_charAt_3b067 : GoodIn wsJ0_charAt_5068e (va_wsS RJ0 495 yJ1_charAt_3b067 wsJ1_charAt_3b067) := goodIn_app (goodIn_of _ (by decide +kernel)) ggJ0_charAt_5068e_J1_charAt_3b067
set_option maxRecDepth 20000 in
theorem ggJ0_charAt_5068e_J2_charAt_3b067 : GoodIn wsJ0_charAt_5068e wsJ2_charAt_3b067 := goodIn_r _ [24, 25, 26, 23, 27, 28, 29, 30, 31, 14, 5, 15, 16, 17, 18, 19, 20, 32, 33, 34, 35, 36, 37] (by decide +kernel) (by decide +kernel)
set_option maxRecDepth 20000 in
theorem gJ0_charAt_5068e_J2_charAt_3b067 : GoodIn wsJ0_charAt_5068e (va_wsS RJ0 498 yJ2_charAt_3b067 wsJ2_charAt_3b067) := goodIn_app (goodIn_of _ (by decide +kernel)) ggJ0_charAt_5068e_J2_charAt_3b067
theorem dJ0_charAt_5068e_0 : decode cJ0_charAt_5068e 0 = .ok (.aload_n 0, 1) := by decide +kernel
theorem dJ0_charAt_5068e_1 : decode cJ0_charAt_5068e 1 = .ok (.invokevirtual 492, 3) := by decide +kernel
theorem dJ0_charAt_5068e_4 : decode cJ0_charAt_5068e 4 = .ok (.ifCond .eq 12, 3) := by decide +kernel
theorem dJ0_charAt_5068e_7 : decode cJ0_charAt_5068e 7 = .ok (.aload_n 0, 1) := by decide +kernel
theorem dJ0_charAt_5068e_8 : decode cJ0_charAt_5068e 8 = .ok (.getfield 9, 3) := by decide +kernel
theorem dJ0_charAt_5068e_11 : decode cJ0_charAt_5068e 11 = .ok (.iload_n 1, 1) := by decide +kernel
theorem dJ0_charAt_5068e_12 : decode cJ0_charAt_5068e 12 = .ok (.invokestatic 495, 3) := by decide +kernel
theorem dJ0_charAt_5068e_15 : decode cJ0_charAt_5068e 15 = .ok (.ireturn, 1) := by decide +kernel
theorem dJ0_charAt_5068e_16 : decode cJ0_charAt_5068e 16 = .ok (.aload_n 0, 1) := by decide +kernel
theorem dJ0_charAt_5068e_17 : decode cJ0_charAt_5068e 17 = .ok (.getfield 9, 3) := by decide +kernel
theorem dJ0_charAt_5068e_20 : decode cJ0_charAt_5068e 20 = .ok (.iload_n 1, 1) := by decide +kernel
theorem dJ0_charAt_5068e_21 : decode cJ0_charAt_5068e 21 = .ok (.invokestatic 498, 3) := by decide +kernel
theorem dJ0_charAt_5068e_24 : decode cJ0_charAt_5068e 24 = .ok (.ireturn, 1) := by decide +kernel
theorem dJ0_coder_7d493_0 : decode cJ0_coder_7d493 0 = .ok (.getstatic 38, 3) := by decide +kernel
theorem dJ0_coder_7d493_3 : decode cJ0_coder_7d493 3 = .ok (.ifCond .eq 10, 3) := by decide +kernel
theorem dJ0_coder_7d493_6 : decode cJ0_coder_7d493 6 = .ok (.aload_n 0, 1) := by decide +kernel
theorem dJ0_coder_7d493_7 : decode cJ0_coder_7d493 7 = .ok (.getfield 15, 3) := by decide +kernel
theorem dJ0_coder_7d493_10 : decode cJ0_coder_7d493 10 = .ok (.goto 4, 3) := by decide +kernel
theorem dJ0_coder_7d493_13 : decode cJ0_coder_7d493 13 = .ok (.iconst 1, 1) := by decide +kernel
theorem dJ0_coder_7d493_14 : decode cJ0_coder_7d493 14 = .ok (.ireturn, 1) := by decide +kernel
theorem dJ0_isLatin1_aae02_0 : decode cJ0_isLatin1_aae02 0 = .ok (.getstatic 38, 3) := by decide +kernel
theorem dJ0_isLatin1_aae02_3 : decode cJ0_isLatin1_aae02 3 = .ok (.ifCond .eq 14, 3) := by decide +kernel
theorem dJ0_isLatin1_aae02_6 : decode cJ0_isLatin1_aae02 6 = .ok (.aload_n 0, 1) := by decide +kernel
theorem dJ0_isLatin1_aae02_7 : decode cJ0_isLatin1_aae02 7 = .ok (.getfield 15, 3) := by decide +kernel
theorem dJ0_isLatin1_aae02_10 : decode cJ0_isLatin1_aae02 10 = .ok (.ifCond .ne 7, 3) := by decide +kernel
theorem dJ0_isLatin1_aae02_13 : decode cJ0_isLatin1_aae02 13 = .ok (.iconst 1, 1) := by decide +kernel
theorem dJ0_isLatin1_aae02_14 : decode cJ0_isLatin1_aae02 14 = .ok (.goto 4, 3) := by decide +kernel
theorem dJ0_isLatin1_aae02_17 : decode cJ0_isLatin1_aae02 17 = .ok (.iconst 0, 1) := by decide +kernel
theorem dJ0_isLatin1_aae02_18 : decode cJ0_isLatin1_aae02 18 = .ok (.ireturn, 1) := by decide +kernel
set_option maxRecDepth 20000 in
theorem ggJ0_checkIndex_df160_J3_checkIndex_8e157 : GoodIn wsJ0_checkIndex_df160 wsJ3_checkIndex_8e157 := goodIn_r _ [5] (by decide +kernel) (by decide +kernel)
set_option maxRecDepth 20000 in
theorem gJ0_checkIndex_df160_J3_checkIndex_8e157 : GoodIn wsJ0_checkIndex_df160 (va_wsS RJ0 1059 yJ3_checkIndex_8e157 wsJ3_checkIndex_8e157) := goodIn_app (goodIn_of _ (by decide +kernel)) ggJ0_checkIndex_df160_J3_checkIndex_8e157
theorem dJ0_checkIndex_df160_0 : decode cJ0_checkIndex_df160 0 = .ok (.iload_n 0, 1) := by decide +kernel
theorem dJ0_checkIndex_df160_1 : decode cJ0_checkIndex_df160 1 = .ok (.iload_n 1, 1) := by decide +kernel
theorem dJ0_checkIndex_df160_2 : decode cJ0_checkIndex_df160 2 = .ok (.getstatic 1053, 3) := by decide +kernel
theorem dJ0_checkIndex_df160_5 : decode cJ0_checkIndex_df160 5 = .ok (.invokestatic 1059, 3) := by decide +kernel
theorem dJ0_checkIndex_df160_8 : decode cJ0_checkIndex_df160 8 = .ok (.pop, 1) := by decide +kernel
theorem dJ0_checkIndex_df160_9 : decode cJ0_checkIndex_df160 9 = .ok (.return_, 1) := by decide +kernel
set_option maxRecDepth 20000 in
theorem ggJ1_charAt_3b067_J0_checkIndex_df160 : GoodIn wsJ1_charAt_3b067 wsJ0_checkIndex_df160 := goodIn_r _ [4, 5, 6, 7, 8, 9] (by decide +kernel) (by decide +kernel)
set_option maxRecDepth 20000 in
theorem gJ1_charAt_3b067_J0_checkIndex_df160 : GoodIn wsJ1_charAt_3b067 (va_wsS RJ1 9 yJ0_checkIndex_df160 wsJ0_checkIndex_df160) := goodIn_app (goodIn_of _ (by decide +kernel)) ggJ1_charAt_3b067_J0_checkIndex_df160
theorem dJ1_charAt_3b067_0 : decode cJ1_charAt_3b067 0 = .ok (.iload_n 1, 1) := by decide +kernel
theorem dJ1_charAt_3b067_1 : decode cJ1_charAt_3b067 1 = .ok (.aload_n 0, 1) := by decide +kernel
theorem dJ1_charAt_3b067_2 : decode cJ1_charAt_3b067 2 = .ok (.arraylength, 1) := by decide +kernel
theorem dJ1_charAt_3b067_3 : decode cJ1_charAt_3b067 3 = .ok (.invokestatic 9, 3) := by decide +kernel
theorem dJ1_charAt_3b067_6 : decode cJ1_charAt_3b067 6 = .ok (.aload_n 0, 1) := by decide +kernel
theorem dJ1_charAt_3b067_7 : decode cJ1_charAt_3b067 7 = .ok (.iload_n 1, 1) := by decide +kernel
theorem dJ1_charAt_3b067_8 : decode cJ1_charAt_3b067 8 = .ok (.baload, 1) := by decide +kernel
theorem dJ1_charAt_3b067_9 : decode cJ1_charAt_3b067 9 = .ok (.sipush 255, 3) := by decide +kernel
theorem dJ1_charAt_3b067_12 : decode cJ1_charAt_3b067 12 = .ok (.iand, 1) := by decide +kernel
theorem dJ1_charAt_3b067_13 : decode cJ1_charAt_3b067 13 = .ok (.i2c, 1) := by decide +kernel
theorem dJ1_charAt_3b067_14 : decode cJ1_charAt_3b067 14 = .ok (.ireturn, 1) := by decide +kernel
set_option maxRecDepth 20000 in
theorem ggJ2_getChar_3b067_J2_length_9d52b : GoodIn wsJ2_getChar_3b067 wsJ2_length_9d52b := goodIn_r _ [7] (by decide +kernel) (by decide +kernel)
set_option maxRecDepth 20000 in
theorem gJ2_getChar_3b067_J2_length_9d52b : GoodIn wsJ2_getChar_3b067 (va_wsS RJ2 48 yJ2_length_9d52b wsJ2_length_9d52b) := goodIn_app (goodIn_of _ (by decide +kernel)) ggJ2_getChar_3b067_J2_length_9d52b
theorem dJ2_getChar_3b067_0 : decode cJ2_getChar_3b067 0 = .ok (.getstatic 44, 3) := by decide +kernel
theorem dJ2_getChar_3b067_3 : decode cJ2_getChar_3b067 3 = .ok (.ifCond .ne 25, 3) := by decide +kernel
theorem dJ2_getChar_3b067_6 : decode cJ2_getChar_3b067 6 = .ok (.iload_n 1, 1) := by decide +kernel
theorem dJ2_getChar_3b067_7 : decode cJ2_getChar_3b067 7 = .ok (.ifCond .lt 11, 3) := by decide +kernel
theorem dJ2_getChar_3b067_10 : decode cJ2_getChar_3b067 10 = .ok (.iload_n 1, 1) := by decide +kernel
theorem dJ2_getChar_3b067_11 : decode cJ2_getChar_3b067 11 = .ok (.aload_n 0, 1) := by decide +kernel
theorem dJ2_getChar_3b067_12 : decode cJ2_getChar_3b067 12 = .ok (.invokestatic 48, 3) := by decide +kernel
theorem dJ2_getChar_3b067_15 : decode cJ2_getChar_3b067 15 = .ok (.if_icmp .lt 13, 3) := by decide +kernel
theorem dJ2_getChar_3b067_18 : decode cJ2_getChar_3b067 18 = .ok (.new 52, 3) := by decide +kernel
theorem dJ2_getChar_3b067_21 : decode cJ2_getChar_3b067 21 = .ok (.dup, 1) := by decide +kernel
theorem dJ2_getChar_3b067_22 : decode cJ2_getChar_3b067 22 = .ok (.ldc 54, 2) := by decide +kernel
theorem dJ2_getChar_3b067_24 : decode cJ2_getChar_3b067 24 = .ok (.invokespecial 56, 3) := by decide +kernel
theorem dJ2_getChar_3b067_27 : decode cJ2_getChar_3b067 27 = .ok (.athrow, 1) := by decide +kernel
theorem dJ2_getChar_3b067_28 : decode cJ2_getChar_3b067 28 = .ok (.iload_n 1, 1) := by decide +kernel
theorem dJ2_getChar_3b067_29 : decode cJ2_getChar_3b067 29 = .ok (.iconst 1, 1) := by decide +kernel
theorem dJ2_getChar_3b067_30 : decode cJ2_getChar_3b067 30 = .ok (.ishl, 1) := by decide +kernel
theorem dJ2_getChar_3b067_31 : decode cJ2_getChar_3b067 31 = .ok (.istore_n 1, 1) := by decide +kernel
theorem dJ2_getChar_3b067_32 : decode cJ2_getChar_3b067 32 = .ok (.aload_n 0, 1) := by decide +kernel
theorem dJ2_getChar_3b067_33 : decode cJ2_getChar_3b067 33 = .ok (.iload_n 1, 1) := by decide +kernel
theorem dJ2_getChar_3b067_34 : decode cJ2_getChar_3b067 34 = .ok (.iinc 1 1, 3) := by decide +kernel
theorem dJ2_getChar_3b067_37 : decode cJ2_getChar_3b067 37 = .ok (.baload, 1) := by decide +kernel
theorem dJ2_getChar_3b067_38 : decode cJ2_getChar_3b067 38 = .ok (.sipush 255, 3) := by decide +kernel
theorem dJ2_getChar_3b067_41 : decode cJ2_getChar_3b067 41 = .ok (.iand, 1) := by decide +kernel
theorem dJ2_getChar_3b067_42 : decode cJ2_getChar_3b067 42 = .ok (.getstatic 59, 3) := by decide +kernel
theorem dJ2_getChar_3b067_45 : decode cJ2_getChar_3b067 45 = .ok (.ishl, 1) := by decide +kernel
theorem dJ2_getChar_3b067_46 : decode cJ2_getChar_3b067 46 = .ok (.aload_n 0, 1) := by decide +kernel
theorem dJ2_getChar_3b067_47 : decode cJ2_getChar_3b067 47 = .ok (.iload_n 1, 1) := by decide +kernel
theorem dJ2_getChar_3b067_48 : decode cJ2_getChar_3b067 48 = .ok (.baload, 1) := by decide +kernel
theorem dJ2_getChar_3b067_49 : decode cJ2_getChar_3b067 49 = .ok (.sipush 255, 3) := by decide +kernel
theorem dJ2_getChar_3b067_52 : decode cJ2_getChar_3b067 52 = .ok (.iand, 1) := by decide +kernel
theorem dJ2_getChar_3b067_53 : decode cJ2_getChar_3b067 53 = .ok (.getstatic 63, 3) := by decide +kernel
theorem dJ2_getChar_3b067_56 : decode cJ2_getChar_3b067 56 = .ok (.ishl, 1) := by decide +kernel
theorem dJ2_getChar_3b067_57 : decode cJ2_getChar_3b067 57 = .ok (.ior, 1) := by decide +kernel
theorem dJ2_getChar_3b067_58 : decode cJ2_getChar_3b067 58 = .ok (.i2c, 1) := by decide +kernel
theorem dJ2_getChar_3b067_59 : decode cJ2_getChar_3b067 59 = .ok (.ireturn, 1) := by decide +kernel
theorem dJ2_length_9d52b_0 : decode cJ2_length_9d52b 0 = .ok (.aload_n 0, 1) := by decide +kernel
theorem dJ2_length_9d52b_1 : decode cJ2_length_9d52b 1 = .ok (.arraylength, 1) := by decide +kernel
theorem dJ2_length_9d52b_2 : decode cJ2_length_9d52b 2 = .ok (.iconst 1, 1) := by decide +kernel
theorem dJ2_length_9d52b_3 : decode cJ2_length_9d52b 3 = .ok (.ishr, 1) := by decide +kernel
theorem dJ2_length_9d52b_4 : decode cJ2_length_9d52b 4 = .ok (.ireturn, 1) := by decide +kernel
set_option maxRecDepth 20000 in
theorem ggJ2_charAt_3b067_J2_checkIndex_2214a : GoodIn wsJ2_charAt_3b067 wsJ2_checkIndex_2214a := goodIn_r _ [4, 5, 6, 3, 7, 8, 9, 10, 11, 12, 13, 14, 15, 16] (by decide +kernel) (by decide +kernel)
set_option maxRecDepth 20000 in
theorem gJ2_charAt_3b067_J2_checkIndex_2214a : GoodIn wsJ2_charAt_3b067 (va_wsS RJ2 67 yJ2_checkIndex_2214a wsJ2_checkIndex_2214a) := goodIn_app (goodIn_of _ (by decide +kernel)) ggJ2_charAt_3b067_J2_checkIndex_2214a
set_option maxRecDepth 20000 in
theorem ggJ2_charAt_3b067_J2_getChar_3b067 : GoodIn wsJ2_charAt_3b067 wsJ2_getChar_3b067 := goodIn_r _ [19, 20, 21, 22, 5, 6, 3, 7] (by decide +kernel) (by decide +kernel)
set_option maxRecDepth 20000 in
theorem gJ2_charAt_3b067_J2_getChar_3b067 : GoodIn wsJ2_charAt_3b067 (va_wsS RJ2 71 yJ2_getChar_3b067 wsJ2_getChar_3b067) := goodIn_app (goodIn_of _ (by decide +kernel)) ggJ2_charAt_3b067_J2_getChar_3b067
theorem dJ2_charAt_3b067_0 : decode cJ2_charAt_3b067 0 = .ok (.iload_n 1, 1) := by decide +kernel
theorem dJ2_charAt_3b067_1 : decode cJ2_charAt_3b067 1 = .ok (.aload_n 0, 1) := by decide +kernel
theorem dJ2_charAt_3b067_2 : decode cJ2_charAt_3b067 2 = .ok (.invokestatic 67, 3) := by decide +kernel
theorem dJ2_charAt_3b067_5 : decode cJ2_charAt_3b067 5 = .ok (.aload_n 0, 1) := by decide +kernel
theorem dJ2_charAt_3b067_6 : decode cJ2_charAt_3b067 6 = .ok (.iload_n 1, 1) := by decide +kernel
theorem dJ2_charAt_3b067_7 : decode cJ2_charAt_3b067 7 = .ok (.invokestatic 71, 3) := by decide +kernel
theorem dJ2_charAt_3b067_10 : decode cJ2_charAt_3b067 10 = .ok (.ireturn, 1) := by decide +kernel
set_option maxRecDepth 20000 in
theorem ggJ2_checkIndex_2214a_J2_length_9d52b : GoodIn wsJ2_checkIndex_2214a wsJ2_length_9d52b := goodIn_r _ [4] (by decide +kernel) (by decide +kernel)
set_option maxRecDepth 20000 in
theorem gJ2_checkIndex_2214a_J2_length_9d52b : GoodIn wsJ2_checkIndex_2214a (va_wsS RJ2 48 yJ2_length_9d52b wsJ2_length_9d52b) := goodIn_app (goodIn_of _ (by decide +kernel)) ggJ2_checkIndex_2214a_J2_length_9d52b
set_option maxRecDepth 20000 in
theorem ggJ2_checkIndex_2214a_J0_checkIndex_df160 : GoodIn wsJ2_checkIndex_2214a wsJ0_checkIndex_df160 := goodIn_r _ [8, 9, 10, 11, 12, 13] (by decide +kernel) (by decide +kernel)
set_option maxRecDepth 20000 in
theorem gJ2_checkIndex_2214a_J0_checkIndex_df160 : GoodIn wsJ2_checkIndex_2214a (va_wsS RJ2 414 yJ0_checkIndex_df160 wsJ0_checkIndex_df160) := goodIn_app (goodIn_of _ (by decide +kernel)) ggJ2_checkIndex_2214a_J0_checkIndex_df160
theorem dJ2_checkIndex_2214a_0 : decode cJ2_checkIndex_2214a 0 = .ok (.iload_n 0, 1) := by decide +kernel
theorem dJ2_checkIndex_2214a_1 : decode cJ2_checkIndex_2214a 1 = .ok (.aload_n 1, 1) := by decide +kernel
theorem dJ2_checkIndex_2214a_2 : decode cJ2_checkIndex_2214a 2 = .ok (.invokestatic 48, 3) := by decide +kernel
theorem dJ2_checkIndex_2214a_5 : decode cJ2_checkIndex_2214a 5 = .ok (.invokestatic 414, 3) := by decide +kernel
theorem dJ2_checkIndex_2214a_8 : decode cJ2_checkIndex_2214a 8 = .ok (.return_, 1) := by decide +kernel
theorem dJxa1e45_init_da8c8_0 : decode cJxa1e45_init_da8c8 0 = .ok (.aload_n 0, 1) := by decide +kernel
theorem dJxa1e45_init_da8c8_1 : decode cJxa1e45_init_da8c8 1 = .ok (.invokespecial 1, 3) := by decide +kernel
theorem dJxa1e45_init_da8c8_4 : decode cJxa1e45_init_da8c8 4 = .ok (.return_, 1) := by decide +kernel
set_option maxRecDepth 20000 in
theorem ggJxc12de_init_da8c8_Jxa1e45_init_da8c8 : GoodIn wsJxc12de_init_da8c8 wsJxa1e45_init_da8c8 := goodIn_r _ [5, 6, 7, 8] (by decide +kernel) (by decide +kernel)
set_option maxRecDepth 20000 in
theorem gJxc12de_init_da8c8_Jxa1e45_init_da8c8 : GoodIn wsJxc12de_init_da8c8 (wsJxa1e45_init_da8c8) := ggJxc12de_init_da8c8_Jxa1e45_init_da8c8
theorem dJxc12de_init_da8c8_0 : decode cJxc12de_init_da8c8 0 = .ok (.aload_n 0, 1) := by decide +kernel
theorem dJxc12de_init_da8c8_1 : decode cJxc12de_init_da8c8 1 = .ok (.invokespecial 1, 3) := by decide +kernel
theorem dJxc12de_init_da8c8_4 : decode cJxc12de_init_da8c8 4 = .ok (.aload_n 0, 1) := by decide +kernel
theorem dJxc12de_init_da8c8_5 : decode cJxc12de_init_da8c8 5 = .ok (.iconst 0, 1) := by decide +kernel
theorem dJxc12de_init_da8c8_6 : decode cJxc12de_init_da8c8 6 = .ok (.putfield 7, 3) := by decide +kernel
theorem dJxc12de_init_da8c8_9 : decode cJxc12de_init_da8c8 9 = .ok (.return_, 1) := by decide +kernel
set_option maxRecDepth 20000 in
theorem ggJx4a65c_init_da8c8_Jxc12de_init_da8c8 : GoodIn wsJx4a65c_init_da8c8 wsJxc12de_init_da8c8 := goodIn_r _ [6, 7, 8, 9, 10, 11, 12, 13, 14, 15, 16, 17] (by decide +kernel) (by decide +kernel)
set_option maxRecDepth 20000 in
theorem gJx4a65c_init_da8c8_Jxc12de_init_da8c8 : GoodIn wsJx4a65c_init_da8c8 (wsJxc12de_init_da8c8) := ggJx4a65c_init_da8c8_Jxc12de_init_da8c8
theorem dJx4a65c_init_da8c8_0 : decode cJx4a65c_init_da8c8 0 = .ok (.aload_n 0, 1) := by decide +kernel
theorem dJx4a65c_init_da8c8_1 : decode cJx4a65c_init_da8c8 1 = .ok (.invokespecial 1, 3) := by decide +kernel
theorem dJx4a65c_init_da8c8_4 : decode cJx4a65c_init_da8c8 4 = .ok (.aload_n 0, 1) := by decide +kernel
theorem dJx4a65c_init_da8c8_5 : decode cJx4a65c_init_da8c8 5 = .ok (.getstatic 39, 3) := by decide +kernel
theorem dJx4a65c_init_da8c8_8 : decode cJx4a65c_init_da8c8 8 = .ok (.putfield 9, 3) := by decide +kernel
theorem dJx4a65c_init_da8c8_11 : decode cJx4a65c_init_da8c8 11 = .ok (.return_, 1) := by decide +kernel
set_option maxRecDepth 20000 in
theorem ggJx4a65c_grow_92f84_J8_newLength_cabcc : GoodIn wsJx4a65c_grow_92f84 wsJ8_newLength_cabcc := goodIn_r _ [11, 12, 4, 5, 6, 13, 14, 15, 10, 16] (by decide +kernel) (by decide +kernel)
set_option maxRecDepth 20000 in
theorem gJx4a65c_grow_92f84_J8_newLength_cabcc : GoodIn wsJx4a65c_grow_92f84 (va_wsS RJx4a65c 73 yJ8_newLength_cabcc wsJ8_newLength_cabcc) := goodIn_app (goodIn_of _ (by decide +kernel)) ggJx4a65c_grow_92f84_J8_newLength_cabcc
set_option maxRecDepth 20000 in
theorem ggJx4a65c_grow_92f84_J7_copyOf_1904c : GoodIn wsJx4a65c_grow_92f84 wsJ7_copyOf_1904c := goodIn_r _ [20, 21, 22, 23, 24, 25, 26, 19, 27, 28, 29, 30, 31, 5, 32, 33, 34, 35, 36] (by decide +kernel) (by decide +kernel)
set_option maxRecDepth 20000 in
theorem gJx4a65c_grow_92f84_J7_copyOf_1904c : GoodIn wsJx4a65c_grow_92f84 (va_wsS RJx4a65c 66 yJ7_copyOf_1904c wsJ7_copyOf_1904c) := goodIn_app (goodIn_of _ (by decide +kernel)) ggJx4a65c_grow_92f84_J7_copyOf_1904c
theorem dJx4a65c_grow_92f84_0 : decode cJx4a65c_grow_92f84 0 = .ok (.aload_n 0, 1) := by decide +kernel
theorem dJx4a65c_grow_92f84_1 : decode cJx4a65c_grow_92f84 1 = .ok (.getfield 9, 3) := by decide +kernel
theorem dJx4a65c_grow_92f84_4 : decode cJx4a65c_grow_92f84 4 = .ok (.arraylength, 1) := by decide +kernel
theorem dJx4a65c_grow_92f84_5 : decode cJx4a65c_grow_92f84 5 = .ok (.istore_n 2, 1) := by decide +kernel
theorem dJx4a65c_grow_92f84_6 : decode cJx4a65c_grow_92f84 6 = .ok (.iload_n 2, 1) := by decide +kernel
theorem dJx4a65c_grow_92f84_7 : decode cJx4a65c_grow_92f84 7 = .ok (.ifCond .gt 13, 3) := by decide +kernel
theorem dJx4a65c_grow_92f84_10 : decode cJx4a65c_grow_92f84 10 = .ok (.aload_n 0, 1) := by decide +kernel
theorem dJx4a65c_grow_92f84_11 : decode cJx4a65c_grow_92f84 11 = .ok (.getfield 9, 3) := by decide +kernel
theorem dJx4a65c_grow_92f84_14 : decode cJx4a65c_grow_92f84 14 = .ok (.getstatic 39, 3) := by decide +kernel
theorem dJx4a65c_grow_92f84_17 : decode cJx4a65c_grow_92f84 17 = .ok (.if_acmp .eq 28, 3) := by decide +kernel
theorem dJx4a65c_grow_92f84_20 : decode cJx4a65c_grow_92f84 20 = .ok (.iload_n 2, 1) := by decide +kernel
theorem dJx4a65c_grow_92f84_21 : decode cJx4a65c_grow_92f84 21 = .ok (.iload_n 1, 1) := by decide +kernel
theorem dJx4a65c_grow_92f84_22 : decode cJx4a65c_grow_92f84 22 = .ok (.iload_n 2, 1) := by decide +kernel
theorem dJx4a65c_grow_92f84_23 : decode cJx4a65c_grow_92f84 23 = .ok (.isub, 1) := by decide +kernel
theorem dJx4a65c_grow_92f84_24 : decode cJx4a65c_grow_92f84 24 = .ok (.iload_n 2, 1) := by decide +kernel
theorem dJx4a65c_grow_92f84_25 : decode cJx4a65c_grow_92f84 25 = .ok (.iconst 1, 1) := by decide +kernel
theorem dJx4a65c_grow_92f84_26 : decode cJx4a65c_grow_92f84 26 = .ok (.ishr, 1) := by decide +kernel
theorem dJx4a65c_grow_92f84_27 : decode cJx4a65c_grow_92f84 27 = .ok (.invokestatic 73, 3) := by decide +kernel
theorem dJx4a65c_grow_92f84_30 : decode cJx4a65c_grow_92f84 30 = .ok (.istore_n 3, 1) := by decide +kernel
theorem dJx4a65c_grow_92f84_31 : decode cJx4a65c_grow_92f84 31 = .ok (.aload_n 0, 1) := by decide +kernel
theorem dJx4a65c_grow_92f84_32 : decode cJx4a65c_grow_92f84 32 = .ok (.aload_n 0, 1) := by decide +kernel
theorem dJx4a65c_grow_92f84_33 : decode cJx4a65c_grow_92f84 33 = .ok (.getfield 9, 3) := by decide +kernel
theorem dJx4a65c_grow_92f84_36 : decode cJx4a65c_grow_92f84 36 = .ok (.iload_n 3, 1) := by decide +kernel
theorem dJx4a65c_grow_92f84_37 : decode cJx4a65c_grow_92f84 37 = .ok (.invokestatic 66, 3) := by decide +kernel
theorem dJx4a65c_grow_92f84_40 : decode cJx4a65c_grow_92f84 40 = .ok (.dup_x1, 1) := by decide +kernel
theorem dJx4a65c_grow_92f84_41 : decode cJx4a65c_grow_92f84 41 = .ok (.putfield 9, 3) := by decide +kernel
theorem dJx4a65c_grow_92f84_44 : decode cJx4a65c_grow_92f84 44 = .ok (.areturn, 1) := by decide +kernel
theorem dJx4a65c_grow_92f84_45 : decode cJx4a65c_grow_92f84 45 = .ok (.aload_n 0, 1) := by decide +kernel
theorem dJx4a65c_grow_92f84_46 : decode cJx4a65c_grow_92f84 46 = .ok (.bipush 10, 2) := by decide +kernel
theorem dJx4a65c_grow_92f84_48 : decode cJx4a65c_grow_92f84 48 = .ok (.iload_n 1, 1) := by decide +kernel
theorem dJx4a65c_grow_92f84_49 : decode cJx4a65c_grow_92f84 49 = .ok (.invokestatic 79, 3) := by decide +kernel
theorem dJx4a65c_grow_92f84_52 : decode cJx4a65c_grow_92f84 52 = .ok (.anewarray 7, 3) := by decide +kernel
theorem dJx4a65c_grow_92f84_55 : decode cJx4a65c_grow_92f84 55 = .ok (.dup_x1, 1) := by decide +kernel
theorem dJx4a65c_grow_92f84_56 : decode cJx4a65c_grow_92f84 56 = .ok (.putfield 9, 3) := by decide +kernel
theorem dJx4a65c_grow_92f84_59 : decode cJx4a65c_grow_92f84 59 = .ok (.areturn, 1) := by decide +kernel
set_option maxRecDepth 20000 in
theorem ggJx4a65c_grow_d5877_Jx4a65c_grow_92f84 : GoodIn wsJx4a65c_grow_d5877 wsJx4a65c_grow_92f84 := goodIn_r _ [6, 7, 8, 9, 10, 11, 12, 13, 14, 15, 16, 17, 18, 19, 20, 21, 22, 23, 24, 25, 26, 27, 28, 29, 30, 31, 32, 33, 34, 35, 36, 37, 38, 39, 40, 41, 42, 43, 44, 45] (by decide +kernel) (by decide +kernel)
set_option maxRecDepth 20000 in
theorem gJx4a65c_grow_d5877_Jx4a65c_grow_92f84 : GoodIn wsJx4a65c_grow_d5877 (wsV RJx4a65c 69 RJx4a65c yJx4a65c_grow_92f84 wsJx4a65c_grow_92f84) := goodIn_app (goodIn_of _ (by decide +kernel)) ggJx4a65c_grow_d5877_Jx4a65c_grow_92f84
theorem dJx4a65c_grow_d5877_0 : decode cJx4a65c_grow_d5877 0 = .ok (.aload_n 0, 1) := by decide +kernel
theorem dJx4a65c_grow_d5877_1 : decode cJx4a65c_grow_d5877 1 = .ok (.aload_n 0, 1) := by decide +kernel
theorem dJx4a65c_grow_d5877_2 : decode cJx4a65c_grow_d5877 2 = .ok (.getfield 48, 3) := by decide +kernel
theorem dJx4a65c_grow_d5877_5 : decode cJx4a65c_grow_d5877 5 = .ok (.iconst 1, 1) := by decide +kernel
theorem dJx4a65c_grow_d5877_6 : decode cJx4a65c_grow_d5877 6 = .ok (.iadd, 1) := by decide +kernel
theorem dJx4a65c_grow_d5877_7 : decode cJx4a65c_grow_d5877 7 = .ok (.invokevirtual 69, 3) := by decide +kernel
theorem dJx4a65c_grow_d5877_10 : decode cJx4a65c_grow_d5877 10 = .ok (.areturn, 1) := by decide +kernel
theorem dJx4a65c_size_8abf5_0 : decode cJx4a65c_size_8abf5 0 = .ok (.aload_n 0, 1) := by decide +kernel
theorem dJx4a65c_size_8abf5_1 : decode cJx4a65c_size_8abf5 1 = .ok (.getfield 48, 3) := by decide +kernel
theorem dJx4a65c_size_8abf5_4 : decode cJx4a65c_size_8abf5 4 = .ok (.ireturn, 1) := by decide +kernel
theorem dJx4a65c_elementData_915e3_0 : decode cJx4a65c_elementData_915e3 0 = .ok (.aload_n 0, 1) := by decide +kernel
theorem dJx4a65c_elementData_915e3_1 : decode cJx4a65c_elementData_915e3 1 = .ok (.getfield 9, 3) := by decide +kernel
theorem dJx4a65c_elementData_915e3_4 : decode cJx4a65c_elementData_915e3 4 = .ok (.iload_n 1, 1) := by decide +kernel
theorem dJx4a65c_elementData_915e3_5 : decode cJx4a65c_elementData_915e3 5 = .ok (.aaload, 1) := by decide +kernel
theorem dJx4a65c_elementData_915e3_6 : decode cJx4a65c_elementData_915e3 6 = .ok (.areturn, 1) := by decide +kernel
set_option maxRecDepth 20000 in
theorem ggJx4a65c_get_915e3_J15_checkIndex_7cf53 : GoodIn wsJx4a65c_get_915e3 wsJ15_checkIndex_7cf53 := goodIn_r _ [5, 6, 7, 8, 9] (by decide +kernel) (by decide +kernel)
set_option maxRecDepth 20000 in
theorem gJx4a65c_get_915e3_J15_checkIndex_7cf53 : GoodIn wsJx4a65c_get_915e3 (va_wsS RJx4a65c 118 yJ15_checkIndex_7cf53 wsJ15_checkIndex_7cf53) := goodIn_app (goodIn_of _ (by decide +kernel)) ggJx4a65c_get_915e3_J15_checkIndex_7cf53
set_option maxRecDepth 20000 in
theorem ggJx4a65c_get_915e3_Jx4a65c_elementData_915e3 : GoodIn wsJx4a65c_get_915e3 wsJx4a65c_elementData_915e3 := goodIn_r _ [14, 15, 16, 17, 18] (by decide +kernel) (by decide +kernel)
set_option maxRecDepth 20000 in
theorem gJx4a65c_get_915e3_Jx4a65c_elementData_915e3 : GoodIn wsJx4a65c_get_915e3 (wsV RJx4a65c 123 RJx4a65c yJx4a65c_elementData_915e3 wsJx4a65c_elementData_915e3) := goodIn_app (goodIn_of _ (by decide +kernel)) ggJx4a65c_get_915e3_Jx4a65c_elementData_915e3
theorem dJx4a65c_get_915e3_0 : decode cJx4a65c_get_915e3 0 = .ok (.iload_n 1, 1) := by decide +kernel
theorem dJx4a65c_get_915e3_1 : decode cJx4a65c_get_915e3 1 = .ok (.aload_n 0, 1) := by decide +kernel
theorem dJx4a65c_get_915e3_2 : decode cJx4a65c_get_915e3 2 = .ok (.getfield 48, 3) := by decide +kernel
theorem dJx4a65c_get_915e3_5 : decode cJx4a65c_get_915e3 5 = .ok (.invokestatic 118, 3) := by decide +kernel
theorem dJx4a65c_get_915e3_8 : decode cJx4a65c_get_915e3 8 = .ok (.pop, 1) := by decide +kernel
theorem dJx4a65c_get_915e3_9 : decode cJx4a65c_get_915e3 9 = .ok (.aload_n 0, 1) := by decide +kernel
theorem dJx4a65c_get_915e3_10 : decode cJx4a65c_get_915e3 10 = .ok (.iload_n 1, 1) := by decide +kernel
theorem dJx4a65c_get_915e3_11 : decode cJx4a65c_get_915e3 11 = .ok (.invokevirtual 123, 3) := by decide +kernel
theorem dJx4a65c_get_915e3_14 : decode cJx4a65c_get_915e3 14 = .ok (.areturn, 1) := by decide +kernel
set_option maxRecDepth 20000 in
theorem ggJx4a65c_add_72be8_Jx4a65c_grow_d5877 : GoodIn wsJx4a65c_add_72be8 wsJx4a65c_grow_d5877 := goodIn_r _ [6, 1, 7, 8, 9, 5, 10, 11, 12, 13, 14, 15, 16, 17, 18, 19, 20, 21, 22, 23, 24, 25, 26, 27, 28, 29, 30, 31, 32, 33, 34, 35, 36, 37, 38, 39, 40, 41, 42, 43, 44, 45, 46, 47, 48, 49] (by decide +kernel) (by decide +kernel)
set_option maxRecDepth 20000 in
theorem gJx4a65c_add_72be8_Jx4a65c_grow_d5877 : GoodIn wsJx4a65c_add_72be8 (wsV RJx4a65c 129 RJx4a65c yJx4a65c_grow_d5877 wsJx4a65c_grow_d5877) := goodIn_app (goodIn_of _ (by decide +kernel)) ggJx4a65c_add_72be8_Jx4a65c_grow_d5877
theorem dJx4a65c_add_72be8_0 : decode cJx4a65c_add_72be8 0 = .ok (.iload_n 3, 1) := by decide +kernel
theorem dJx4a65c_add_72be8_1 : decode cJx4a65c_add_72be8 1 = .ok (.aload_n 2, 1) := by decide +kernel
theorem dJx4a65c_add_72be8_2 : decode cJx4a65c_add_72be8 2 = .ok (.arraylength, 1) := by decide +kernel
theorem dJx4a65c_add_72be8_3 : decode cJx4a65c_add_72be8 3 = .ok (.if_icmp .ne 8, 3) := by decide +kernel
theorem dJx4a65c_add_72be8_6 : decode cJx4a65c_add_72be8 6 = .ok (.aload_n 0, 1) := by decide +kernel
theorem dJx4a65c_add_72be8_7 : decode cJx4a65c_add_72be8 7 = .ok (.invokevirtual 129, 3) := by decide +kernel
theorem dJx4a65c_add_72be8_10 : decode cJx4a65c_add_72be8 10 = .ok (.astore_n 2, 1) := by decide +kernel
theorem dJx4a65c_add_72be8_11 : decode cJx4a65c_add_72be8 11 = .ok (.aload_n 2, 1) := by decide +kernel
theorem dJx4a65c_add_72be8_12 : decode cJx4a65c_add_72be8 12 = .ok (.iload_n 3, 1) := by decide +kernel
theorem dJx4a65c_add_72be8_13 : decode cJx4a65c_add_72be8 13 = .ok (.aload_n 1, 1) := by decide +kernel
theorem dJx4a65c_add_72be8_14 : decode cJx4a65c_add_72be8 14 = .ok (.aastore, 1) := by decide +kernel
theorem dJx4a65c_add_72be8_15 : decode cJx4a65c_add_72be8 15 = .ok (.aload_n 0, 1) := by decide +kernel
theorem dJx4a65c_add_72be8_16 : decode cJx4a65c_add_72be8 16 = .ok (.iload_n 3, 1) := by decide +kernel
theorem dJx4a65c_add_72be8_17 : decode cJx4a65c_add_72be8 17 = .ok (.iconst 1, 1) := by decide +kernel
theorem dJx4a65c_add_72be8_18 : decode cJx4a65c_add_72be8 18 = .ok (.iadd, 1) := by decide +kernel
theorem dJx4a65c_add_72be8_19 : decode cJx4a65c_add_72be8 19 = .ok (.putfield 48, 3) := by decide +kernel
theorem dJx4a65c_add_72be8_22 : decode cJx4a65c_add_72be8 22 = .ok (.return_, 1) := by decide +kernel
set_option maxRecDepth 20000 in
theorem ggJx4a65c_add_9ea2d_Jx4a65c_add_72be8 : GoodIn wsJx4a65c_add_9ea2d wsJx4a65c_add_72be8 := goodIn_r _ [9, 4, 10, 11, 12, 8, 13, 14, 15, 16, 17, 3, 18, 19, 20, 21, 22, 23, 24, 25, 26, 27, 28, 29, 30, 31, 32, 33, 34, 35, 36, 37, 38, 39, 40, 41, 42, 43, 44, 45, 46, 47, 48, 49, 50, 51, 52, 53, 54, 55] (by decide +kernel) (by decide +kernel)
set_option maxRecDepth 20000 in
theorem gJx4a65c_add_9ea2d_Jx4a65c_add_72be8 : GoodIn wsJx4a65c_add_9ea2d (wsV RJx4a65c 131 RJx4a65c yJx4a65c_add_72be8 wsJx4a65c_add_72be8) := goodIn_app (goodIn_of _ (by decide +kernel)) ggJx4a65c_add_9ea2d_Jx4a65c_add_72be8
theorem dJx4a65c_add_9ea2d_0 : decode cJx4a65c_add_9ea2d 0 = .ok (.aload_n 0, 1) := by decide +kernel
theorem dJx4a65c_add_9ea2d_1 : decode cJx4a65c_add_9ea2d 1 = .ok (.dup, 1) := by decide +kernel
theorem dJx4a65c_add_9ea2d_2 : decode cJx4a65c_add_9ea2d 2 = .ok (.getfield 63, 3) := by decide +kernel
theorem dJx4a65c_add_9ea2d_5 : decode cJx4a65c_add_9ea2d 5 = .ok (.iconst 1, 1) := by decide +kernel
theorem dJx4a65c_add_9ea2d_6 : decode cJx4a65c_add_9ea2d 6 = .ok (.iadd, 1) := by decide +kernel
theorem dJx4a65c_add_9ea2d_7 : decode cJx4a65c_add_9ea2d 7 = .ok (.putfield 63, 3) := by decide +kernel
theorem dJx4a65c_add_9ea2d_10 : decode cJx4a65c_add_9ea2d 10 = .ok (.aload_n 0, 1) := by decide +kernel
theorem dJx4a65c_add_9ea2d_11 : decode cJx4a65c_add_9ea2d 11 = .ok (.aload_n 1, 1) := by decide +kernel
theorem dJx4a65c_add_9ea2d_12 : decode cJx4a65c_add_9ea2d 12 = .ok (.aload_n 0, 1) := by decide +kernel
theorem dJx4a65c_add_9ea2d_13 : decode cJx4a65c_add_9ea2d 13 = .ok (.getfield 9, 3) := by decide +kernel
theorem dJx4a65c_add_9ea2d_16 : decode cJx4a65c_add_9ea2d 16 = .ok (.aload_n 0, 1) := by decide +kernel
theorem dJx4a65c_add_9ea2d_17 : decode cJx4a65c_add_9ea2d 17 = .ok (.getfield 48, 3) := by decide +kernel
theorem dJx4a65c_add_9ea2d_20 : decode cJx4a65c_add_9ea2d 20 = .ok (.invokevirtual 131, 3) := by decide +kernel
theorem dJx4a65c_add_9ea2d_23 : decode cJx4a65c_add_9ea2d 23 = .ok (.iconst 1, 1) := by decide +kernel
theorem dJx4a65c_add_9ea2d_24 : decode cJx4a65c_add_9ea2d 24 = .ok (.ireturn, 1) := by decide +kernel
theorem dJx4a65c_clear_da8c8_0 : decode cJx4a65c_clear_da8c8 0 = .ok (.aload_n 0, 1) := by decide +kernel
theorem dJx4a65c_clear_da8c8_1 : decode cJx4a65c_clear_da8c8 1 = .ok (.dup, 1) := by decide +kernel
theorem dJx4a65c_clear_da8c8_2 : decode cJx4a65c_clear_da8c8 2 = .ok (.getfield 63, 3) := by decide +kernel
theorem dJx4a65c_clear_da8c8_5 : decode cJx4a65c_clear_da8c8 5 = .ok (.iconst 1, 1) := by decide +kernel
theorem dJx4a65c_clear_da8c8_6 : decode cJx4a65c_clear_da8c8 6 = .ok (.iadd, 1) := by decide +kernel
theorem dJx4a65c_clear_da8c8_7 : decode cJx4a65c_clear_da8c8 7 = .ok (.putfield 63, 3) := by decide +kernel
theorem dJx4a65c_clear_da8c8_10 : decode cJx4a65c_clear_da8c8 10 = .ok (.aload_n 0, 1) := by decide +kernel
theorem dJx4a65c_clear_da8c8_11 : decode cJx4a65c_clear_da8c8 11 = .ok (.getfield 9, 3) := by decide +kernel
theorem dJx4a65c_clear_da8c8_14 : decode cJx4a65c_clear_da8c8 14 = .ok (.astore_n 1, 1) := by decide +kernel
theorem dJx4a65c_clear_da8c8_15 : decode cJx4a65c_clear_da8c8 15 = .ok (.aload_n 0, 1) := by decide +kernel
theorem dJx4a65c_clear_da8c8_16 : decode cJx4a65c_clear_da8c8 16 = .ok (.getfield 48, 3) := by decide +kernel
theorem dJx4a65c_clear_da8c8_19 : decode cJx4a65c_clear_da8c8 19 = .ok (.istore_n 2, 1) := by decide +kernel
theorem dJx4a65c_clear_da8c8_20 : decode cJx4a65c_clear_da8c8 20 = .ok (.aload_n 0, 1) := by decide +kernel
theorem dJx4a65c_clear_da8c8_21 : decode cJx4a65c_clear_da8c8 21 = .ok (.iconst 0, 1) := by decide +kernel
theorem dJx4a65c_clear_da8c8_22 : decode cJx4a65c_clear_da8c8 22 = .ok (.dup_x1, 1) := by decide +kernel
theorem dJx4a65c_clear_da8c8_23 : decode cJx4a65c_clear_da8c8 23 = .ok (.putfield 48, 3) := by decide +kernel
theorem dJx4a65c_clear_da8c8_26 : decode cJx4a65c_clear_da8c8 26 = .ok (.istore_n 3, 1) := by decide +kernel
theorem dJx4a65c_clear_da8c8_27 : decode cJx4a65c_clear_da8c8 27 = .ok (.iload_n 3, 1) := by decide +kernel
theorem dJx4a65c_clear_da8c8_28 : decode cJx4a65c_clear_da8c8 28 = .ok (.iload_n 2, 1) := by decide +kernel
theorem dJx4a65c_clear_da8c8_29 : decode cJx4a65c_clear_da8c8 29 = .ok (.if_icmp .ge 13, 3) := by decide +kernel
theorem dJx4a65c_clear_da8c8_32 : decode cJx4a65c_clear_da8c8 32 = .ok (.aload_n 1, 1) := by decide +kernel
theorem dJx4a65c_clear_da8c8_33 : decode cJx4a65c_clear_da8c8 33 = .ok (.iload_n 3, 1) := by decide +kernel
theorem dJx4a65c_clear_da8c8_34 : decode cJx4a65c_clear_da8c8 34 = .ok (.aconst_null, 1) := by decide +kernel
theorem dJx4a65c_clear_da8c8_35 : decode cJx4a65c_clear_da8c8 35 = .ok (.aastore, 1) := by decide +kernel
theorem dJx4a65c_clear_da8c8_36 : decode cJx4a65c_clear_da8c8 36 = .ok (.iinc 3 1, 3) := by decide +kernel
theorem dJx4a65c_clear_da8c8_39 : decode cJx4a65c_clear_da8c8 39 = .ok (.goto (-12), 3) := by decide +kernel
theorem dJx4a65c_clear_da8c8_42 : decode cJx4a65c_clear_da8c8 42 = .ok (.return_, 1) := by decide +kernel
set_option maxRecDepth 20000 in
theorem ggJ7_copyOf_1904c_J7_copyOf_6403c : GoodIn wsJ7_copyOf_1904c wsJ7_copyOf_6403c := goodIn_r _ [8, 9, 10, 11, 12, 13, 14, 15, 16, 17, 18] (by decide +kernel) (by decide +kernel)
set_option maxRecDepth 20000 in
theorem gJ7_copyOf_1904c_J7_copyOf_6403c : GoodIn wsJ7_copyOf_1904c (va_wsS RJ7 300 yJ7_copyOf_6403c wsJ7_copyOf_6403c) := goodIn_app (goodIn_of _ (by decide +kernel)) ggJ7_copyOf_1904c_J7_copyOf_6403c
theorem dJ7_copyOf_1904c_0 : decode cJ7_copyOf_1904c 0 = .ok (.aload_n 0, 1) := by decide +kernel
theorem dJ7_copyOf_1904c_1 : decode cJ7_copyOf_1904c 1 = .ok (.iload_n 1, 1) := by decide +kernel
theorem dJ7_copyOf_1904c_2 : decode cJ7_copyOf_1904c 2 = .ok (.aload_n 0, 1) := by decide +kernel
theorem dJ7_copyOf_1904c_3 : decode cJ7_copyOf_1904c 3 = .ok (.invokevirtual 86, 3) := by decide +kernel
theorem dJ7_copyOf_1904c_6 : decode cJ7_copyOf_1904c 6 = .ok (.invokestatic 300, 3) := by decide +kernel
theorem dJ7_copyOf_1904c_9 : decode cJ7_copyOf_1904c 9 = .ok (.areturn, 1) := by decide +kernel
theorem dJ7_copyOf_6403c_0 : decode cJ7_copyOf_6403c 0 = .ok (.aload_n 2, 1) := by decide +kernel
theorem dJ7_copyOf_6403c_1 : decode cJ7_copyOf_6403c 1 = .ok (.ldc 110, 2) := by decide +kernel
theorem dJ7_copyOf_6403c_3 : decode cJ7_copyOf_6403c 3 = .ok (.if_acmp .ne 10, 3) := by decide +kernel
theorem dJ7_copyOf_6403c_6 : decode cJ7_copyOf_6403c 6 = .ok (.iload_n 1, 1) := by decide +kernel
theorem dJ7_copyOf_6403c_7 : decode cJ7_copyOf_6403c 7 = .ok (.anewarray 2, 3) := by decide +kernel
theorem dJ7_copyOf_6403c_10 : decode cJ7_copyOf_6403c 10 = .ok (.goto 14, 3) := by decide +kernel
theorem dJ7_copyOf_6403c_13 : decode cJ7_copyOf_6403c 13 = .ok (.aload_n 2, 1) := by decide +kernel
theorem dJ7_copyOf_6403c_14 : decode cJ7_copyOf_6403c 14 = .ok (.invokevirtual 90, 3) := by decide +kernel
theorem dJ7_copyOf_6403c_17 : decode cJ7_copyOf_6403c 17 = .ok (.iload_n 1, 1) := by decide +kernel
theorem dJ7_copyOf_6403c_18 : decode cJ7_copyOf_6403c 18 = .ok (.invokestatic 95, 3) := by decide +kernel
theorem dJ7_copyOf_6403c_21 : decode cJ7_copyOf_6403c 21 = .ok (.checkcast 110, 3) := by decide +kernel
theorem dJ7_copyOf_6403c_24 : decode cJ7_copyOf_6403c 24 = .ok (.astore_n 3, 1) := by decide +kernel
theorem dJ7_copyOf_6403c_25 : decode cJ7_copyOf_6403c 25 = .ok (.aload_n 0, 1) := by decide +kernel
theorem dJ7_copyOf_6403c_26 : decode cJ7_copyOf_6403c 26 = .ok (.iconst 0, 1) := by decide +kernel
theorem dJ7_copyOf_6403c_27 : decode cJ7_copyOf_6403c 27 = .ok (.aload_n 3, 1) := by decide +kernel
theorem dJ7_copyOf_6403c_28 : decode cJ7_copyOf_6403c 28 = .ok (.iconst 0, 1) := by decide +kernel
theorem dJ7_copyOf_6403c_29 : decode cJ7_copyOf_6403c 29 = .ok (.aload_n 0, 1) := by decide +kernel
theorem dJ7_copyOf_6403c_30 : decode cJ7_copyOf_6403c 30 = .ok (.arraylength, 1) := by decide +kernel
theorem dJ7_copyOf_6403c_31 : decode cJ7_copyOf_6403c 31 = .ok (.iload_n 1, 1) := by decide +kernel
theorem dJ7_copyOf_6403c_32 : decode cJ7_copyOf_6403c 32 = .ok (.invokestatic 304, 3) := by decide +kernel
theorem dJ7_copyOf_6403c_35 : decode cJ7_copyOf_6403c 35 = .ok (.invokestatic 150, 3) := by decide +kernel
theorem dJ7_copyOf_6403c_38 : decode cJ7_copyOf_6403c 38 = .ok (.aload_n 3, 1) := by decide +kernel
theorem dJ7_copyOf_6403c_39 : decode cJ7_copyOf_6403c 39 = .ok (.areturn, 1) := by decide +kernel
set_option maxRecDepth 20000 in
theorem ggJ15_checkIndex_7cf53_J3_checkIndex_8e157 : GoodIn wsJ15_checkIndex_7cf53 wsJ3_checkIndex_8e157 := goodIn_r _ [4] (by decide +kernel) (by decide +kernel)
set_option maxRecDepth 20000 in
theorem gJ15_checkIndex_7cf53_J3_checkIndex_8e157 : GoodIn wsJ15_checkIndex_7cf53 (va_wsS RJ15 105 yJ3_checkIndex_8e157 wsJ3_checkIndex_8e157) := goodIn_app (goodIn_of _ (by decide +kernel)) ggJ15_checkIndex_7cf53_J3_checkIndex_8e157
theorem dJ15_checkIndex_7cf53_0 : decode cJ15_checkIndex_7cf53 0 = .ok (.iload_n 0, 1) := by decide +kernel
theorem dJ15_checkIndex_7cf53_1 : decode cJ15_checkIndex_7cf53 1 = .ok (.iload_n 1, 1) := by decide +kernel
theorem dJ15_checkIndex_7cf53_2 : decode cJ15_checkIndex_7cf53 2 = .ok (.aconst_null, 1) := by decide +kernel
theorem dJ15_checkIndex_7cf53_3 : decode cJ15_checkIndex_7cf53 3 = .ok (.invokestatic 105, 3) := by decide +kernel
theorem dJ15_checkIndex_7cf53_6 : decode cJ15_checkIndex_7cf53 6 = .ok (.ireturn, 1) := by decide +kernel
set_option maxRecDepth 20000 in
theorem ggJ8_newLength_cabcc_J8_hugeLength_7cf53 : GoodIn wsJ8_newLength_cabcc wsJ8_hugeLength_7cf53 := goodIn_r _ [9, 5] (by decide +kernel) (by decide +kernel)
set_option maxRecDepth 20000 in
theorem gJ8_newLength_cabcc_J8_hugeLength_7cf53 : GoodIn wsJ8_newLength_cabcc (va_wsS RJ8 201 yJ8_hugeLength_7cf53 wsJ8_hugeLength_7cf53) := goodIn_app (goodIn_of _ (by decide +kernel)) ggJ8_newLength_cabcc_J8_hugeLength_7cf53
theorem dJ8_newLength_cabcc_0 : decode cJ8_newLength_cabcc 0 = .ok (.iload_n 0, 1) := by decide +kernel
theorem dJ8_newLength_cabcc_1 : decode cJ8_newLength_cabcc 1 = .ok (.iload_n 1, 1) := by decide +kernel
theorem dJ8_newLength_cabcc_2 : decode cJ8_newLength_cabcc 2 = .ok (.iload_n 2, 1) := by decide +kernel
theorem dJ8_newLength_cabcc_3 : decode cJ8_newLength_cabcc 3 = .ok (.invokestatic 194, 3) := by decide +kernel
theorem dJ8_newLength_cabcc_6 : decode cJ8_newLength_cabcc 6 = .ok (.iadd, 1) := by decide +kernel
theorem dJ8_newLength_cabcc_7 : decode cJ8_newLength_cabcc 7 = .ok (.istore_n 3, 1) := by decide +kernel
theorem dJ8_newLength_cabcc_8 : decode cJ8_newLength_cabcc 8 = .ok (.iconst 0, 1) := by decide +kernel
theorem dJ8_newLength_cabcc_9 : decode cJ8_newLength_cabcc 9 = .ok (.iload_n 3, 1) := by decide +kernel
theorem dJ8_newLength_cabcc_10 : decode cJ8_newLength_cabcc 10 = .ok (.if_icmp .ge 11, 3) := by decide +kernel
theorem dJ8_newLength_cabcc_13 : decode cJ8_newLength_cabcc 13 = .ok (.iload_n 3, 1) := by decide +kernel
theorem dJ8_newLength_cabcc_14 : decode cJ8_newLength_cabcc 14 = .ok (.ldc 200, 2) := by decide +kernel
theorem dJ8_newLength_cabcc_16 : decode cJ8_newLength_cabcc 16 = .ok (.if_icmp .gt 5, 3) := by decide +kernel
theorem dJ8_newLength_cabcc_19 : decode cJ8_newLength_cabcc 19 = .ok (.iload_n 3, 1) := by decide +kernel
theorem dJ8_newLength_cabcc_20 : decode cJ8_newLength_cabcc 20 = .ok (.ireturn, 1) := by decide +kernel
theorem dJ8_newLength_cabcc_21 : decode cJ8_newLength_cabcc 21 = .ok (.iload_n 0, 1) := by decide +kernel
theorem dJ8_newLength_cabcc_22 : decode cJ8_newLength_cabcc 22 = .ok (.iload_n 1, 1) := by decide +kernel
theorem dJ8_newLength_cabcc_23 : decode cJ8_newLength_cabcc 23 = .ok (.invokestatic 201, 3) := by decide +kernel
theorem dJ8_newLength_cabcc_26 : decode cJ8_newLength_cabcc 26 = .ok (.ireturn, 1) := by decide +kernel
theorem dJ8_hugeLength_7cf53_0 : decode cJ8_hugeLength_7cf53 0 = .ok (.iload_n 0, 1) := by decide +kernel
theorem dJ8_hugeLength_7cf53_1 : decode cJ8_hugeLength_7cf53 1 = .ok (.iload_n 1, 1) := by decide +kernel
theorem dJ8_hugeLength_7cf53_2 : decode cJ8_hugeLength_7cf53 2 = .ok (.iadd, 1) := by decide +kernel
theorem dJ8_hugeLength_7cf53_3 : decode cJ8_hugeLength_7cf53 3 = .ok (.istore_n 2, 1) := by decide +kernel
theorem dJ8_hugeLength_7cf53_4 : decode cJ8_hugeLength_7cf53 4 = .ok (.iload_n 2, 1) := by decide +kernel
theorem dJ8_hugeLength_7cf53_5 : decode cJ8_hugeLength_7cf53 5 = .ok (.ifCond .ge 44, 3) := by decide +kernel
theorem dJ8_hugeLength_7cf53_8 : decode cJ8_hugeLength_7cf53 8 = .ok (.new 204, 3) := by decide +kernel
theorem dJ8_hugeLength_7cf53_11 : decode cJ8_hugeLength_7cf53 11 = .ok (.dup, 1) := by decide +kernel
theorem dJ8_hugeLength_7cf53_12 : decode cJ8_hugeLength_7cf53 12 = .ok (.new 89, 3) := by decide +kernel
theorem dJ8_hugeLength_7cf53_15 : decode cJ8_hugeLength_7cf53 15 = .ok (.dup, 1) := by decide +kernel
theorem dJ8_hugeLength_7cf53_16 : decode cJ8_hugeLength_7cf53 16 = .ok (.invokespecial 91, 3) := by decide +kernel
theorem dJ8_hugeLength_7cf53_19 : decode cJ8_hugeLength_7cf53 19 = .ok (.ldc 206, 2) := by decide +kernel
theorem dJ8_hugeLength_7cf53_21 : decode cJ8_hugeLength_7cf53 21 = .ok (.invokevirtual 94, 3) := by decide +kernel
theorem dJ8_hugeLength_7cf53_24 : decode cJ8_hugeLength_7cf53 24 = .ok (.iload_n 0, 1) := by decide +kernel
theorem dJ8_hugeLength_7cf53_25 : decode cJ8_hugeLength_7cf53 25 = .ok (.invokevirtual 98, 3) := by decide +kernel
theorem dJ8_hugeLength_7cf53_28 : decode cJ8_hugeLength_7cf53 28 = .ok (.ldc 208, 2) := by decide +kernel
theorem dJ8_hugeLength_7cf53_30 : decode cJ8_hugeLength_7cf53 30 = .ok (.invokevirtual 94, 3) := by decide +kernel
theorem dJ8_hugeLength_7cf53_33 : decode cJ8_hugeLength_7cf53 33 = .ok (.iload_n 1, 1) := by decide +kernel
theorem dJ8_hugeLength_7cf53_34 : decode cJ8_hugeLength_7cf53 34 = .ok (.invokevirtual 98, 3) := by decide +kernel
theorem dJ8_hugeLength_7cf53_37 : decode cJ8_hugeLength_7cf53 37 = .ok (.ldc 210, 2) := by decide +kernel
theorem dJ8_hugeLength_7cf53_39 : decode cJ8_hugeLength_7cf53 39 = .ok (.invokevirtual 94, 3) := by decide +kernel
theorem dJ8_hugeLength_7cf53_42 : decode cJ8_hugeLength_7cf53 42 = .ok (.invokevirtual 101, 3) := by decide +kernel
theorem dJ8_hugeLength_7cf53_45 : decode cJ8_hugeLength_7cf53 45 = .ok (.invokespecial 212, 3) := by decide +kernel
theorem dJ8_hugeLength_7cf53_48 : decode cJ8_hugeLength_7cf53 48 = .ok (.athrow, 1) := by decide +kernel
theorem dJ8_hugeLength_7cf53_49 : decode cJ8_hugeLength_7cf53 49 = .ok (.iload_n 2, 1) := by decide +kernel
theorem dJ8_hugeLength_7cf53_50 : decode cJ8_hugeLength_7cf53 50 = .ok (.ldc 200, 2) := by decide +kernel
theorem dJ8_hugeLength_7cf53_52 : decode cJ8_hugeLength_7cf53 52 = .ok (.if_icmp .gt 6, 3) := by decide +kernel
theorem dJ8_hugeLength_7cf53_55 : decode cJ8_hugeLength_7cf53 55 = .ok (.ldc 200, 2) := by decide +kernel
theorem dJ8_hugeLength_7cf53_57 : decode cJ8_hugeLength_7cf53 57 = .ok (.ireturn, 1) := by decide +kernel
theorem dJ8_hugeLength_7cf53_58 : decode cJ8_hugeLength_7cf53 58 = .ok (.iload_n 2, 1) := by decide +kernel
theorem dJ8_hugeLength_7cf53_59 : decode cJ8_hugeLength_7cf53 59 = .ok (.ireturn, 1) := by decide +kernel
theorem dJ3_checkIndex_8e157_0 : decode cJ3_checkIndex_8e157 0 = .ok (.iload_n 0, 1) := by decide +kernel
theorem dJ3_checkIndex_8e157_1 : decode cJ3_checkIndex_8e157 1 = .ok (.ifCond .lt 8, 3) := by decide +kernel
theorem dJ3_checkIndex_8e157_4 : decode cJ3_checkIndex_8e157 4 = .ok (.iload_n 0, 1) := by decide +kernel
theorem dJ3_checkIndex_8e157_5 : decode cJ3_checkIndex_8e157 5 = .ok (.iload_n 1, 1) := by decide +kernel
theorem dJ3_checkIndex_8e157_6 : decode cJ3_checkIndex_8e157 6 = .ok (.if_icmp .lt 10, 3) := by decide +kernel
theorem dJ3_checkIndex_8e157_9 : decode cJ3_checkIndex_8e157 9 = .ok (.aload_n 2, 1) := by decide +kernel
theorem dJ3_checkIndex_8e157_10 : decode cJ3_checkIndex_8e157 10 = .ok (.iload_n 0, 1) := by decide +kernel
theorem dJ3_checkIndex_8e157_11 : decode cJ3_checkIndex_8e157 11 = .ok (.iload_n 1, 1) := by decide +kernel
theorem dJ3_checkIndex_8e157_12 : decode cJ3_checkIndex_8e157 12 = .ok (.invokestatic 95, 3) := by decide +kernel
theorem dJ3_checkIndex_8e157_15 : decode cJ3_checkIndex_8e157 15 = .ok (.athrow, 1) := by decide +kernel
theorem dJ3_checkIndex_8e157_16 : decode cJ3_checkIndex_8e157 16 = .ok (.iload_n 0, 1) := by decide +kernel
theorem dJ3_checkIndex_8e157_17 : decode cJ3_checkIndex_8e157 17 = .ok (.ireturn, 1) := by decide +kernel
theorem dL_cell_0 : decode cL_cell 0 = .ok (.ldc 7, 2) := by decide +kernel
theorem dL_cell_2 : decode cL_cell 2 = .ok (.iload_n 1, 1) := by decide +kernel
theorem dL_cell_3 : decode cL_cell 3 = .ok (.aload_n 0, 1) := by decide +kernel
theorem dL_cell_4 : decode cL_cell 4 = .ok (.arraylength, 1) := by decide +kernel
theorem dL_cell_5 : decode cL_cell 5 = .ok (.if_icmp .ge 9, 3) := by decide +kernel
theorem dL_cell_8 : decode cL_cell 8 = .ok (.aload_n 0, 1) := by decide +kernel
theorem dL_cell_9 : decode cL_cell 9 = .ok (.iload_n 1, 1) := by decide +kernel
theorem dL_cell_10 : decode cL_cell 10 = .ok (.iaload, 1) := by decide +kernel
theorem dL_cell_11 : decode cL_cell 11 = .ok (.goto 4, 3) := by decide +kernel
theorem dL_cell_14 : decode cL_cell 14 = .ok (.iconst 0, 1) := by decide +kernel
theorem dL_cell_15 : decode cL_cell 15 = .ok (.sipush 1009, 3) := by decide +kernel
theorem dL_cell_18 : decode cL_cell 18 = .ok (.iload_n 1, 1) := by decide +kernel
theorem dL_cell_19 : decode cL_cell 19 = .ok (.imul, 1) := by decide +kernel
theorem dL_cell_20 : decode cL_cell 20 = .ok (.iadd, 1) := by decide +kernel
theorem dL_cell_21 : decode cL_cell 21 = .ok (.imul, 1) := by decide +kernel
theorem dL_cell_22 : decode cL_cell 22 = .ok (.sipush 12345, 3) := by decide +kernel
theorem dL_cell_25 : decode cL_cell 25 = .ok (.iadd, 1) := by decide +kernel
theorem dL_cell_26 : decode cL_cell 26 = .ok (.istore_n 2, 1) := by decide +kernel
theorem dL_cell_27 : decode cL_cell 27 = .ok (.iload_n 2, 1) := by decide +kernel
theorem dL_cell_28 : decode cL_cell 28 = .ok (.iload_n 2, 1) := by decide +kernel
theorem dL_cell_29 : decode cL_cell 29 = .ok (.bipush 13, 2) := by decide +kernel
theorem dL_cell_31 : decode cL_cell 31 = .ok (.iushr, 1) := by decide +kernel
theorem dL_cell_32 : decode cL_cell 32 = .ok (.ixor, 1) := by decide +kernel
theorem dL_cell_33 : decode cL_cell 33 = .ok (.ldc 8, 2) := by decide +kernel
theorem dL_cell_35 : decode cL_cell 35 = .ok (.imul, 1) := by decide +kernel
theorem dL_cell_36 : decode cL_cell 36 = .ok (.istore_n 2, 1) := by decide +kernel
theorem dL_cell_37 : decode cL_cell 37 = .ok (.iload_n 2, 1) := by decide +kernel
theorem dL_cell_38 : decode cL_cell 38 = .ok (.iload_n 2, 1) := by decide +kernel
theorem dL_cell_39 : decode cL_cell 39 = .ok (.bipush 16, 2) := by decide +kernel
theorem dL_cell_41 : decode cL_cell 41 = .ok (.iushr, 1) := by decide +kernel
theorem dL_cell_42 : decode cL_cell 42 = .ok (.ixor, 1) := by decide +kernel
theorem dL_cell_43 : decode cL_cell 43 = .ok (.ireturn, 1) := by decide +kernel
