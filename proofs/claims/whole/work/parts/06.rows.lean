theorem dX11_ofWinch_7 : decode cX11_ofWinch 7 = .ok (.iload_n 1, 1) := by decide +kernel
theorem dX11_ofWinch_8 : decode cX11_ofWinch 8 = .ok (.imul, 1) := by decide +kernel
theorem dX11_ofWinch_9 : decode cX11_ofWinch 9 = .ok (.iadd, 1) := by decide +kernel
theorem dX11_ofWinch_10 : decode cX11_ofWinch 10 = .ok (.iload_n 2, 1) := by decide +kernel
theorem dX11_ofWinch_11 : decode cX11_ofWinch 11 = .ok (.iadd, 1) := by decide +kernel
theorem dX11_ofWinch_12 : decode cX11_ofWinch 12 = .ok (.iaload, 1) := by decide +kernel
theorem dX11_ofWinch_13 : decode cX11_ofWinch 13 = .ok (.ireturn, 1) := by decide +kernel
set_option maxRecDepth 20000 in
theorem ggX11_hasWinch_X11_ofWinch : GoodIn wsX11_hasWinch wsX11_ofWinch := goodIn_ca (goodIn_r _ [6, 1, 7, 8, 9, 10, 11, 12, 13, 14, 15, 16, 17, 18, 19, 20, 21, 22, 23, 24, 25] (by decide +kernel) (by decide +kernel)) (goodIn_sub (fun _ h => List.mem_cons_of_mem _ (List.mem_append_right _ h)) (by decide +kernel))
set_option maxRecDepth 20000 in
theorem gX11_hasWinch_X11_ofWinch : GoodIn wsX11_hasWinch (wsV RX11 128 RX11 yX11_ofWinch wsX11_ofWinch) := goodIn_app (goodIn_of _ (by decide +kernel)) ggX11_hasWinch_X11_ofWinch
theorem dX11_hasWinch_0 : decode cX11_hasWinch 0 = .ok (.iconst 0, 1) := by decide +kernel
theorem dX11_hasWinch_1 : decode cX11_hasWinch 1 = .ok (.istore_n 2, 1) := by decide +kernel
theorem dX11_hasWinch_2 : decode cX11_hasWinch 2 = .ok (.iconst 0, 1) := by decide +kernel
theorem dX11_hasWinch_3 : decode cX11_hasWinch 3 = .ok (.istore_n 3, 1) := by decide +kernel
theorem dX11_hasWinch_4 : decode cX11_hasWinch 4 = .ok (.iload_n 3, 1) := by decide +kernel
theorem dX11_hasWinch_5 : decode cX11_hasWinch 5 = .ok (.aload_n 0, 1) := by decide +kernel
theorem dX11_hasWinch_6 : decode cX11_hasWinch 6 = .ok (.getfield 9, 3) := by decide +kernel
theorem dX11_hasWinch_9 : decode cX11_hasWinch 9 = .ok (.iconst 5, 1) := by decide +kernel
theorem dX11_hasWinch_10 : decode cX11_hasWinch 10 = .ok (.iaload, 1) := by decide +kernel
theorem dX11_hasWinch_11 : decode cX11_hasWinch 11 = .ok (.if_icmp .ge 29, 3) := by decide +kernel
theorem dX11_hasWinch_14 : decode cX11_hasWinch 14 = .ok (.iload_n 2, 1) := by decide +kernel
theorem dX11_hasWinch_15 : decode cX11_hasWinch 15 = .ok (.ifCond .ne 13, 3) := by decide +kernel
theorem dX11_hasWinch_18 : decode cX11_hasWinch 18 = .ok (.aload_n 0, 1) := by decide +kernel
theorem dX11_hasWinch_19 : decode cX11_hasWinch 19 = .ok (.iload_n 3, 1) := by decide +kernel
theorem dX11_hasWinch_20 : decode cX11_hasWinch 20 = .ok (.iconst 0, 1) := by decide +kernel
theorem dX11_hasWinch_21 : decode cX11_hasWinch 21 = .ok (.invokevirtual 128, 3) := by decide +kernel
theorem dX11_hasWinch_24 : decode cX11_hasWinch 24 = .ok (.iload_n 1, 1) := by decide +kernel
theorem dX11_hasWinch_25 : decode cX11_hasWinch 25 = .ok (.if_icmp .ne 7, 3) := by decide +kernel
theorem dX11_hasWinch_28 : decode cX11_hasWinch 28 = .ok (.iconst 1, 1) := by decide +kernel
theorem dX11_hasWinch_29 : decode cX11_hasWinch 29 = .ok (.goto 4, 3) := by decide +kernel
theorem dX11_hasWinch_32 : decode cX11_hasWinch 32 = .ok (.iconst 0, 1) := by decide +kernel
theorem dX11_hasWinch_33 : decode cX11_hasWinch 33 = .ok (.istore_n 2, 1) := by decide +kernel
theorem dX11_hasWinch_34 : decode cX11_hasWinch 34 = .ok (.iinc 3 1, 3) := by decide +kernel
theorem dX11_hasWinch_37 : decode cX11_hasWinch 37 = .ok (.goto (-33), 3) := by decide +kernel
theorem dX11_hasWinch_40 : decode cX11_hasWinch 40 = .ok (.iload_n 2, 1) := by decide +kernel
theorem dX11_hasWinch_41 : decode cX11_hasWinch 41 = .ok (.ireturn, 1) := by decide +kernel
set_option maxRecDepth 20000 in
theorem ggX11_adds_X11_cellAt : GoodIn wsX11_adds wsX11_cellAt := goodIn_r _ [5, 6, 7, 4, 8, 9, 10, 11] (by decide +kernel) (by decide +kernel)
set_option maxRecDepth 20000 in
theorem gX11_adds_X11_cellAt : GoodIn wsX11_adds (va_wsS RX11 93 yX11_cellAt wsX11_cellAt) := goodIn_app (goodIn_of _ (by decide +kernel)) ggX11_adds_X11_cellAt
set_option maxRecDepth 20000 in
theorem ggX11_adds_X11_isIn : GoodIn wsX11_adds wsX11_isIn := goodIn_r _ [11] (by decide +kernel) (by decide +kernel)
set_option maxRecDepth 20000 in
theorem gX11_adds_X11_isIn : GoodIn wsX11_adds (va_wsS RX11 70 yX11_isIn wsX11_isIn) := goodIn_app (goodIn_of _ (by decide +kernel)) ggX11_adds_X11_isIn
set_option maxRecDepth 20000 in
theorem ggX11_adds_X11_isCell : GoodIn wsX11_adds wsX11_isCell := goodIn_r _ [8, 9, 10, 4, 11] (by decide +kernel) (by decide +kernel)
set_option maxRecDepth 20000 in
theorem gX11_adds_X11_isCell : GoodIn wsX11_adds (va_wsS RX11 74 yX11_isCell wsX11_isCell) := goodIn_app (goodIn_of _ (by decide +kernel)) ggX11_adds_X11_isCell
set_option maxRecDepth 20000 in
theorem ggX11_adds_X11_hasWinch : GoodIn wsX11_adds wsX11_hasWinch := goodIn_ca (goodIn_r _ [15, 1, 16, 17, 18, 4, 19, 25, 26, 27, 28, 29, 30, 31, 32, 33, 34, 35, 36, 37, 38, 39, 40, 41, 42, 43] (by decide +kernel) (by decide +kernel)) (goodIn_sub (fun _ h => List.mem_cons_of_mem _ (List.mem_append_right _ h)) (by decide +kernel))
set_option maxRecDepth 20000 in
theorem gX11_adds_X11_hasWinch : GoodIn wsX11_adds (wsV RX11 131 RX11 yX11_hasWinch wsX11_hasWinch) := goodIn_app (goodIn_of _ (by decide +kernel)) ggX11_adds_X11_hasWinch
set_option maxRecDepth 20000 in
theorem ggX11_adds_X11_holds : GoodIn wsX11_adds wsX11_holds := goodIn_r _ [23, 24, 25, 26, 27, 28, 29, 30, 31, 32, 33, 34, 35, 36, 37, 38, 39, 40, 41, 42, 43] (by decide +kernel) (by decide +kernel)
set_option maxRecDepth 20000 in
theorem gX11_adds_X11_holds : GoodIn wsX11_adds (wsV RX11 48 RX11 yX11_holds wsX11_holds) := goodIn_app (goodIn_of _ (by decide +kernel)) ggX11_adds_X11_holds
theorem dX11_adds_0 : decode cX11_adds 0 = .ok (.iload_n 1, 1) := by decide +kernel
theorem dX11_adds_1 : decode cX11_adds 1 = .ok (.iload_n 2, 1) := by decide +kernel
theorem dX11_adds_2 : decode cX11_adds 2 = .ok (.invokestatic 93, 3) := by decide +kernel
theorem dX11_adds_5 : decode cX11_adds 5 = .ok (.istore 5, 2) := by decide +kernel
theorem dX11_adds_7 : decode cX11_adds 7 = .ok (.iload_n 3, 1) := by decide +kernel
theorem dX11_adds_8 : decode cX11_adds 8 = .ok (.iconst 2, 1) := by decide +kernel
theorem dX11_adds_9 : decode cX11_adds 9 = .ok (.bipush 9, 2) := by decide +kernel
theorem dX11_adds_11 : decode cX11_adds 11 = .ok (.invokestatic 70, 3) := by decide +kernel
theorem dX11_adds_14 : decode cX11_adds 14 = .ok (.ifCond .eq 18, 3) := by decide +kernel
theorem dX11_adds_17 : decode cX11_adds 17 = .ok (.iload 4, 2) := by decide +kernel
theorem dX11_adds_19 : decode cX11_adds 19 = .ok (.iconst 1, 1) := by decide +kernel
theorem dX11_adds_20 : decode cX11_adds 20 = .ok (.bipush 6, 2) := by decide +kernel
theorem dX11_adds_22 : decode cX11_adds 22 = .ok (.invokestatic 70, 3) := by decide +kernel
theorem dX11_adds_25 : decode cX11_adds 25 = .ok (.ifCond .eq 7, 3) := by decide +kernel
theorem dX11_adds_28 : decode cX11_adds 28 = .ok (.iconst 1, 1) := by decide +kernel
theorem dX11_adds_29 : decode cX11_adds 29 = .ok (.goto 4, 3) := by decide +kernel
theorem dX11_adds_32 : decode cX11_adds 32 = .ok (.iconst 0, 1) := by decide +kernel
theorem dX11_adds_33 : decode cX11_adds 33 = .ok (.istore 6, 2) := by decide +kernel
theorem dX11_adds_35 : decode cX11_adds 35 = .ok (.aload_n 0, 1) := by decide +kernel
theorem dX11_adds_36 : decode cX11_adds 36 = .ok (.iload_n 1, 1) := by decide +kernel
theorem dX11_adds_37 : decode cX11_adds 37 = .ok (.iload_n 2, 1) := by decide +kernel
theorem dX11_adds_38 : decode cX11_adds 38 = .ok (.invokestatic 74, 3) := by decide +kernel
theorem dX11_adds_41 : decode cX11_adds 41 = .ok (.iload 6, 2) := by decide +kernel
theorem dX11_adds_43 : decode cX11_adds 43 = .ok (.aload_n 0, 1) := by decide +kernel
theorem dX11_adds_44 : decode cX11_adds 44 = .ok (.getfield 9, 3) := by decide +kernel
theorem dX11_adds_47 : decode cX11_adds 47 = .ok (.iconst 5, 1) := by decide +kernel
theorem dX11_adds_48 : decode cX11_adds 48 = .ok (.iaload, 1) := by decide +kernel
theorem dX11_adds_49 : decode cX11_adds 49 = .ok (.iconst 3, 1) := by decide +kernel
theorem dX11_adds_50 : decode cX11_adds 50 = .ok (.if_icmp .ge 16, 3) := by decide +kernel
theorem dX11_adds_53 : decode cX11_adds 53 = .ok (.aload_n 0, 1) := by decide +kernel
theorem dX11_adds_54 : decode cX11_adds 54 = .ok (.iload 5, 2) := by decide +kernel
theorem dX11_adds_56 : decode cX11_adds 56 = .ok (.invokevirtual 131, 3) := by decide +kernel
theorem dX11_adds_59 : decode cX11_adds 59 = .ok (.ifCond .ne 7, 3) := by decide +kernel
theorem dX11_adds_62 : decode cX11_adds 62 = .ok (.iconst 1, 1) := by decide +kernel
theorem dX11_adds_63 : decode cX11_adds 63 = .ok (.goto 4, 3) := by decide +kernel
theorem dX11_adds_66 : decode cX11_adds 66 = .ok (.iconst 0, 1) := by decide +kernel
theorem dX11_adds_67 : decode cX11_adds 67 = .ok (.iconst 1, 1) := by decide +kernel
theorem dX11_adds_68 : decode cX11_adds 68 = .ok (.invokevirtual 48, 3) := by decide +kernel
theorem dX11_adds_71 : decode cX11_adds 71 = .ok (.ifCond .ne 5, 3) := by decide +kernel
theorem dX11_adds_74 : decode cX11_adds 74 = .ok (.iconst 0, 1) := by decide +kernel
theorem dX11_adds_75 : decode cX11_adds 75 = .ok (.ireturn, 1) := by decide +kernel
theorem dX11_adds_76 : decode cX11_adds 76 = .ok (.bipush 10, 2) := by decide +kernel
theorem dX11_adds_78 : decode cX11_adds 78 = .ok (.iconst 3, 1) := by decide +kernel
theorem dX11_adds_79 : decode cX11_adds 79 = .ok (.aload_n 0, 1) := by decide +kernel
theorem dX11_adds_80 : decode cX11_adds 80 = .ok (.getfield 9, 3) := by decide +kernel
theorem dX11_adds_83 : decode cX11_adds 83 = .ok (.iconst 5, 1) := by decide +kernel
theorem dX11_adds_84 : decode cX11_adds 84 = .ok (.iaload, 1) := by decide +kernel
theorem dX11_adds_85 : decode cX11_adds 85 = .ok (.imul, 1) := by decide +kernel
theorem dX11_adds_86 : decode cX11_adds 86 = .ok (.iadd, 1) := by decide +kernel
theorem dX11_adds_87 : decode cX11_adds 87 = .ok (.istore 7, 2) := by decide +kernel
theorem dX11_adds_89 : decode cX11_adds 89 = .ok (.aload_n 0, 1) := by decide +kernel
theorem dX11_adds_90 : decode cX11_adds 90 = .ok (.getfield 9, 3) := by decide +kernel
theorem dX11_adds_93 : decode cX11_adds 93 = .ok (.iload 7, 2) := by decide +kernel
theorem dX11_adds_95 : decode cX11_adds 95 = .ok (.iconst 0, 1) := by decide +kernel
theorem dX11_adds_96 : decode cX11_adds 96 = .ok (.iadd, 1) := by decide +kernel
theorem dX11_adds_97 : decode cX11_adds 97 = .ok (.iload 5, 2) := by decide +kernel
theorem dX11_adds_99 : decode cX11_adds 99 = .ok (.iastore, 1) := by decide +kernel
theorem dX11_adds_100 : decode cX11_adds 100 = .ok (.aload_n 0, 1) := by decide +kernel
theorem dX11_adds_101 : decode cX11_adds 101 = .ok (.getfield 9, 3) := by decide +kernel
theorem dX11_adds_104 : decode cX11_adds 104 = .ok (.iload 7, 2) := by decide +kernel
theorem dX11_adds_106 : decode cX11_adds 106 = .ok (.iconst 1, 1) := by decide +kernel
theorem dX11_adds_107 : decode cX11_adds 107 = .ok (.iadd, 1) := by decide +kernel
theorem dX11_adds_108 : decode cX11_adds 108 = .ok (.iload_n 3, 1) := by decide +kernel
theorem dX11_adds_109 : decode cX11_adds 109 = .ok (.iastore, 1) := by decide +kernel
theorem dX11_adds_110 : decode cX11_adds 110 = .ok (.aload_n 0, 1) := by decide +kernel
theorem dX11_adds_111 : decode cX11_adds 111 = .ok (.getfield 9, 3) := by decide +kernel
theorem dX11_adds_114 : decode cX11_adds 114 = .ok (.iload 7, 2) := by decide +kernel
theorem dX11_adds_116 : decode cX11_adds 116 = .ok (.iconst 2, 1) := by decide +kernel
theorem dX11_adds_117 : decode cX11_adds 117 = .ok (.iadd, 1) := by decide +kernel
theorem dX11_adds_118 : decode cX11_adds 118 = .ok (.iload 4, 2) := by decide +kernel
theorem dX11_adds_120 : decode cX11_adds 120 = .ok (.iastore, 1) := by decide +kernel
theorem dX11_adds_121 : decode cX11_adds 121 = .ok (.aload_n 0, 1) := by decide +kernel
theorem dX11_adds_122 : decode cX11_adds 122 = .ok (.getfield 9, 3) := by decide +kernel
theorem dX11_adds_125 : decode cX11_adds 125 = .ok (.iconst 5, 1) := by decide +kernel
theorem dX11_adds_126 : decode cX11_adds 126 = .ok (.dup2, 1) := by decide +kernel
theorem dX11_adds_127 : decode cX11_adds 127 = .ok (.iaload, 1) := by decide +kernel
theorem dX11_adds_128 : decode cX11_adds 128 = .ok (.iconst 1, 1) := by decide +kernel
theorem dX11_adds_129 : decode cX11_adds 129 = .ok (.iadd, 1) := by decide +kernel
theorem dX11_adds_130 : decode cX11_adds 130 = .ok (.iastore, 1) := by decide +kernel
theorem dX11_adds_131 : decode cX11_adds 131 = .ok (.aload_n 0, 1) := by decide +kernel
theorem dX11_adds_132 : decode cX11_adds 132 = .ok (.getfield 9, 3) := by decide +kernel
theorem dX11_adds_135 : decode cX11_adds 135 = .ok (.iconst 5, 1) := by decide +kernel
theorem dX11_adds_136 : decode cX11_adds 136 = .ok (.iaload, 1) := by decide +kernel
theorem dX11_adds_137 : decode cX11_adds 137 = .ok (.iconst 1, 1) := by decide +kernel
theorem dX11_adds_138 : decode cX11_adds 138 = .ok (.isub, 1) := by decide +kernel
theorem dX11_adds_139 : decode cX11_adds 139 = .ok (.ireturn, 1) := by decide +kernel
set_option maxRecDepth 20000 in
theorem ggX11_addWinch_X11_begins : GoodIn wsX11_addWinch wsX11_begins := goodIn_ca (goodIn_r _ [5, 6, 7, 8, 9, 4, 10, 47, 48, 49, 50, 51, 52, 53, 54, 55, 56, 57, 58, 59, 60, 61, 62, 63, 64, 65] (by decide +kernel) (by decide +kernel)) (goodIn_sub (fun _ h => List.mem_cons_of_mem _ (List.mem_append_right _ h)) (by decide +kernel))
set_option maxRecDepth 20000 in
theorem gX11_addWinch_X11_begins : GoodIn wsX11_addWinch (wsV RX11 100 RX11 yX11_begins wsX11_begins) := goodIn_app (goodIn_of _ (by decide +kernel)) ggX11_addWinch_X11_begins
set_option maxRecDepth 20000 in
theorem ggX11_addWinch_X11_adds : GoodIn wsX11_addWinch wsX11_adds := goodIn_ca (goodIn_r _ [14, 6, 15, 16, 4, 17, 18, 19, 20, 21, 22, 23, 24, 25, 26, 27, 28, 29, 30, 31, 32, 33, 34, 35, 36, 47, 48, 49, 50, 51, 52, 53, 54, 55, 56, 57, 58, 59, 60, 61, 62, 63, 64, 65] (by decide +kernel) (by decide +kernel)) (goodIn_sub (fun _ h => List.mem_cons_of_mem _ (List.mem_append_right _ h)) (by decide +kernel))
set_option maxRecDepth 20000 in
theorem gX11_addWinch_X11_adds : GoodIn wsX11_addWinch (wsV RX11 134 RX11 yX11_adds wsX11_adds) := goodIn_app (goodIn_of _ (by decide +kernel)) ggX11_addWinch_X11_adds
set_option maxRecDepth 20000 in
theorem ggX11_addWinch_X11_ends : GoodIn wsX11_addWinch wsX11_ends := goodIn_ca (goodIn_r _ [40, 36, 7, 6, 8, 9, 4, 10, 41, 42, 43, 44, 45, 46, 47, 48, 49, 50, 51, 52, 53, 54, 55, 56, 57, 58, 59, 60, 61, 62, 63, 64, 65] (by decide +kernel) (by decide +kernel)) (goodIn_sub (fun _ h => List.mem_cons_of_mem _ (List.mem_append_right _ h)) (by decide +kernel))
set_option maxRecDepth 20000 in
theorem gX11_addWinch_X11_ends : GoodIn wsX11_addWinch (wsV RX11 107 RX11 yX11_ends wsX11_ends) := goodIn_app (goodIn_of _ (by decide +kernel)) ggX11_addWinch_X11_ends
theorem dX11_addWinch_0 : decode cX11_addWinch 0 = .ok (.aload_n 0, 1) := by decide +kernel
theorem dX11_addWinch_1 : decode cX11_addWinch 1 = .ok (.invokevirtual 100, 3) := by decide +kernel
theorem dX11_addWinch_4 : decode cX11_addWinch 4 = .ok (.aload_n 0, 1) := by decide +kernel
theorem dX11_addWinch_5 : decode cX11_addWinch 5 = .ok (.aload_n 0, 1) := by decide +kernel
theorem dX11_addWinch_6 : decode cX11_addWinch 6 = .ok (.iload_n 1, 1) := by decide +kernel
theorem dX11_addWinch_7 : decode cX11_addWinch 7 = .ok (.iload_n 2, 1) := by decide +kernel
theorem dX11_addWinch_8 : decode cX11_addWinch 8 = .ok (.iload_n 3, 1) := by decide +kernel
theorem dX11_addWinch_9 : decode cX11_addWinch 9 = .ok (.iload 4, 2) := by decide +kernel
theorem dX11_addWinch_11 : decode cX11_addWinch 11 = .ok (.invokevirtual 134, 3) := by decide +kernel
theorem dX11_addWinch_14 : decode cX11_addWinch 14 = .ok (.invokevirtual 107, 3) := by decide +kernel
theorem dX11_addWinch_17 : decode cX11_addWinch 17 = .ok (.ireturn, 1) := by decide +kernel
set_option maxRecDepth 20000 in
theorem ggX11_topOf_X11_of : GoodIn wsX11_topOf wsX11_of := goodIn_ca (goodIn_r _ [5, 6, 7, 8, 4, 9, 10, 11, 12, 13, 14, 15, 16, 17, 18, 19, 20, 21, 22, 23, 24, 25, 26, 27, 28] (by decide +kernel) (by decide +kernel)) (goodIn_sub (fun _ h => List.mem_cons_of_mem _ (List.mem_append_right _ h)) (by decide +kernel))
set_option maxRecDepth 20000 in
theorem gX11_topOf_X11_of : GoodIn wsX11_topOf (wsV RX11 87 RX11 yX11_of wsX11_of) := goodIn_app (goodIn_of _ (by decide +kernel)) ggX11_topOf_X11_of
theorem dX11_topOf_0 : decode cX11_topOf 0 = .ok (.aload_n 0, 1) := by decide +kernel
theorem dX11_topOf_1 : decode cX11_topOf 1 = .ok (.iload_n 1, 1) := by decide +kernel
theorem dX11_topOf_2 : decode cX11_topOf 2 = .ok (.iconst 3, 1) := by decide +kernel
theorem dX11_topOf_3 : decode cX11_topOf 3 = .ok (.invokevirtual 87, 3) := by decide +kernel
theorem dX11_topOf_6 : decode cX11_topOf 6 = .ok (.istore_n 2, 1) := by decide +kernel
theorem dX11_topOf_7 : decode cX11_topOf 7 = .ok (.iload_n 2, 1) := by decide +kernel
theorem dX11_topOf_8 : decode cX11_topOf 8 = .ok (.ifCond .ne 7, 3) := by decide +kernel
theorem dX11_topOf_11 : decode cX11_topOf 11 = .ok (.iconst (-1), 1) := by decide +kernel
theorem dX11_topOf_12 : decode cX11_topOf 12 = .ok (.goto 13, 3) := by decide +kernel
theorem dX11_topOf_15 : decode cX11_topOf 15 = .ok (.aload_n 0, 1) := by decide +kernel
theorem dX11_topOf_16 : decode cX11_topOf 16 = .ok (.iload_n 1, 1) := by decide +kernel
theorem dX11_topOf_17 : decode cX11_topOf 17 = .ok (.iconst 4, 1) := by decide +kernel
theorem dX11_topOf_18 : decode cX11_topOf 18 = .ok (.iload_n 2, 1) := by decide +kernel
theorem dX11_topOf_19 : decode cX11_topOf 19 = .ok (.iadd, 1) := by decide +kernel
theorem dX11_topOf_20 : decode cX11_topOf 20 = .ok (.iconst 1, 1) := by decide +kernel
theorem dX11_topOf_21 : decode cX11_topOf 21 = .ok (.isub, 1) := by decide +kernel
theorem dX11_topOf_22 : decode cX11_topOf 22 = .ok (.invokevirtual 87, 3) := by decide +kernel
theorem dX11_topOf_25 : decode cX11_topOf 25 = .ok (.ireturn, 1) := by decide +kernel
set_option maxRecDepth 20000 in
theorem ggX11_canLift_X11_topOf : GoodIn wsX11_canLift wsX11_topOf := goodIn_ca (goodIn_r _ [5, 6, 7, 8, 4, 9, 10, 11, 12, 13, 28, 29, 30, 31, 32, 33, 34, 35, 36, 37, 38, 39, 40, 41, 42, 43, 44, 45, 46] (by decide +kernel) (by decide +kernel)) (goodIn_sub (fun _ h => List.mem_cons_of_mem _ (List.mem_append_right _ h)) (by decide +kernel))
set_option maxRecDepth 20000 in
theorem gX11_canLift_X11_topOf : GoodIn wsX11_canLift (wsV RX11 138 RX11 yX11_topOf wsX11_topOf) := goodIn_app (goodIn_of _ (by decide +kernel)) ggX11_canLift_X11_topOf
set_option maxRecDepth 20000 in
theorem ggX11_canLift_X11_ofWinch : GoodIn wsX11_canLift wsX11_ofWinch := goodIn_ca (goodIn_r _ [17, 10, 28, 29, 30, 31, 32, 33, 34, 35, 36, 37, 38, 39, 40, 41, 42, 43, 44, 45, 46] (by decide +kernel) (by decide +kernel)) (goodIn_sub (fun _ h => List.mem_cons_of_mem _ (List.mem_append_right _ h)) (by decide +kernel))
set_option maxRecDepth 20000 in
theorem gX11_canLift_X11_ofWinch : GoodIn wsX11_canLift (wsV RX11 128 RX11 yX11_ofWinch wsX11_ofWinch) := goodIn_app (goodIn_of _ (by decide +kernel)) ggX11_canLift_X11_ofWinch
set_option maxRecDepth 20000 in
theorem ggX11_canLift_X11_farFrom : GoodIn wsX11_canLift wsX11_farFrom := goodIn_r _ [20, 21, 22, 23, 24] (by decide +kernel) (by decide +kernel)
set_option maxRecDepth 20000 in
theorem gX11_canLift_X11_farFrom : GoodIn wsX11_canLift (va_wsS RX11 141 yX11_farFrom wsX11_farFrom) := goodIn_app (goodIn_of _ (by decide +kernel)) ggX11_canLift_X11_farFrom
set_option maxRecDepth 20000 in
theorem ggX11_canLift_X11_weightOf : GoodIn wsX11_canLift wsX11_weightOf := goodIn_r _ [27] (by decide +kernel) (by decide +kernel)
set_option maxRecDepth 20000 in
theorem gX11_canLift_X11_weightOf : GoodIn wsX11_canLift (va_wsS RX11 144 yX11_weightOf wsX11_weightOf) := goodIn_app (goodIn_of _ (by decide +kernel)) ggX11_canLift_X11_weightOf
theorem dX11_canLift_0 : decode cX11_canLift 0 = .ok (.aload_n 0, 1) := by decide +kernel
theorem dX11_canLift_1 : decode cX11_canLift 1 = .ok (.iload_n 2, 1) := by decide +kernel
theorem dX11_canLift_2 : decode cX11_canLift 2 = .ok (.invokevirtual 138, 3) := by decide +kernel
theorem dX11_canLift_5 : decode cX11_canLift 5 = .ok (.istore_n 3, 1) := by decide +kernel
theorem dX11_canLift_6 : decode cX11_canLift 6 = .ok (.aload_n 0, 1) := by decide +kernel
theorem dX11_canLift_7 : decode cX11_canLift 7 = .ok (.iload_n 1, 1) := by decide +kernel
theorem dX11_canLift_8 : decode cX11_canLift 8 = .ok (.iconst 0, 1) := by decide +kernel
theorem dX11_canLift_9 : decode cX11_canLift 9 = .ok (.invokevirtual 128, 3) := by decide +kernel
theorem dX11_canLift_12 : decode cX11_canLift 12 = .ok (.iload_n 2, 1) := by decide +kernel
theorem dX11_canLift_13 : decode cX11_canLift 13 = .ok (.invokestatic 141, 3) := by decide +kernel
theorem dX11_canLift_16 : decode cX11_canLift 16 = .ok (.aload_n 0, 1) := by decide +kernel
theorem dX11_canLift_17 : decode cX11_canLift 17 = .ok (.iload_n 1, 1) := by decide +kernel
theorem dX11_canLift_18 : decode cX11_canLift 18 = .ok (.iconst 2, 1) := by decide +kernel
theorem dX11_canLift_19 : decode cX11_canLift 19 = .ok (.invokevirtual 128, 3) := by decide +kernel
theorem dX11_canLift_22 : decode cX11_canLift 22 = .ok (.if_icmp .gt 7, 3) := by decide +kernel
theorem dX11_canLift_25 : decode cX11_canLift 25 = .ok (.iconst 1, 1) := by decide +kernel
theorem dX11_canLift_26 : decode cX11_canLift 26 = .ok (.goto 4, 3) := by decide +kernel
theorem dX11_canLift_29 : decode cX11_canLift 29 = .ok (.iconst 0, 1) := by decide +kernel
theorem dX11_canLift_30 : decode cX11_canLift 30 = .ok (.istore 4, 2) := by decide +kernel
theorem dX11_canLift_32 : decode cX11_canLift 32 = .ok (.iload_n 3, 1) := by decide +kernel
theorem dX11_canLift_33 : decode cX11_canLift 33 = .ok (.iconst (-1), 1) := by decide +kernel
theorem dX11_canLift_34 : decode cX11_canLift 34 = .ok (.if_icmp .eq 25, 3) := by decide +kernel
theorem dX11_canLift_37 : decode cX11_canLift 37 = .ok (.iload 4, 2) := by decide +kernel
theorem dX11_canLift_39 : decode cX11_canLift 39 = .ok (.ifCond .eq 20, 3) := by decide +kernel
theorem dX11_canLift_42 : decode cX11_canLift 42 = .ok (.iload_n 3, 1) := by decide +kernel
theorem dX11_canLift_43 : decode cX11_canLift 43 = .ok (.invokestatic 144, 3) := by decide +kernel
theorem dX11_canLift_46 : decode cX11_canLift 46 = .ok (.aload_n 0, 1) := by decide +kernel
theorem dX11_canLift_47 : decode cX11_canLift 47 = .ok (.iload_n 1, 1) := by decide +kernel
theorem dX11_canLift_48 : decode cX11_canLift 48 = .ok (.iconst 1, 1) := by decide +kernel
theorem dX11_canLift_49 : decode cX11_canLift 49 = .ok (.invokevirtual 128, 3) := by decide +kernel
theorem dX11_canLift_52 : decode cX11_canLift 52 = .ok (.if_icmp .gt 7, 3) := by decide +kernel
theorem dX11_canLift_55 : decode cX11_canLift 55 = .ok (.iconst 1, 1) := by decide +kernel
theorem dX11_canLift_56 : decode cX11_canLift 56 = .ok (.goto 4, 3) := by decide +kernel
theorem dX11_canLift_59 : decode cX11_canLift 59 = .ok (.iconst 0, 1) := by decide +kernel
theorem dX11_canLift_60 : decode cX11_canLift 60 = .ok (.ireturn, 1) := by decide +kernel
set_option maxRecDepth 20000 in
theorem ggX11_raises_X11_cellAt : GoodIn wsX11_raises wsX11_cellAt := goodIn_r _ [5, 6, 7, 4, 8, 9, 10, 11] (by decide +kernel) (by decide +kernel)
set_option maxRecDepth 20000 in
theorem gX11_raises_X11_cellAt : GoodIn wsX11_raises (va_wsS RX11 93 yX11_cellAt wsX11_cellAt) := goodIn_app (goodIn_of _ (by decide +kernel)) ggX11_raises_X11_cellAt
set_option maxRecDepth 20000 in
theorem ggX11_raises_X11_isWinch : GoodIn wsX11_raises wsX11_isWinch := goodIn_ca (goodIn_r _ [15, 1, 9, 10, 4, 11, 50, 51, 52, 53, 54, 55, 56, 57, 58, 59, 60, 61, 62, 63, 64, 65, 66, 67, 68] (by decide +kernel) (by decide +kernel)) (goodIn_sub (fun _ h => List.mem_cons_of_mem _ (List.mem_append_right _ h)) (by decide +kernel))
set_option maxRecDepth 20000 in
theorem gX11_raises_X11_isWinch : GoodIn wsX11_raises (wsV RX11 147 RX11 yX11_isWinch wsX11_isWinch) := goodIn_app (goodIn_of _ (by decide +kernel)) ggX11_raises_X11_isWinch
set_option maxRecDepth 20000 in
theorem ggX11_raises_X11_isCell : GoodIn wsX11_raises wsX11_isCell := goodIn_r _ [8, 9, 10, 4, 11] (by decide +kernel) (by decide +kernel)
set_option maxRecDepth 20000 in
theorem gX11_raises_X11_isCell : GoodIn wsX11_raises (va_wsS RX11 74 yX11_isCell wsX11_isCell) := goodIn_app (goodIn_of _ (by decide +kernel)) ggX11_raises_X11_isCell
set_option maxRecDepth 20000 in
theorem ggX11_raises_X11_topOf : GoodIn wsX11_raises wsX11_topOf := goodIn_ca (goodIn_r _ [19, 20, 21, 22, 4, 23, 1, 24, 25, 26, 50, 51, 52, 53, 54, 55, 56, 57, 58, 59, 60, 61, 62, 63, 64, 65, 66, 67, 68] (by decide +kernel) (by decide +kernel)) (goodIn_sub (fun _ h => List.mem_cons_of_mem _ (List.mem_append_right _ h)) (by decide +kernel))
set_option maxRecDepth 20000 in
theorem gX11_raises_X11_topOf : GoodIn wsX11_raises (wsV RX11 138 RX11 yX11_topOf wsX11_topOf) := goodIn_app (goodIn_of _ (by decide +kernel)) ggX11_raises_X11_topOf
set_option maxRecDepth 20000 in
theorem ggX11_raises_X11_of : GoodIn wsX11_raises wsX11_of := goodIn_ca (goodIn_r _ [23, 1, 24, 25, 4, 26, 50, 51, 52, 53, 54, 55, 56, 57, 58, 59, 60, 61, 62, 63, 64, 65, 66, 67, 68] (by decide +kernel) (by decide +kernel)) (goodIn_sub (fun _ h => List.mem_cons_of_mem _ (List.mem_append_right _ h)) (by decide +kernel))
set_option maxRecDepth 20000 in
theorem gX11_raises_X11_of : GoodIn wsX11_raises (wsV RX11 87 RX11 yX11_of wsX11_of) := goodIn_app (goodIn_of _ (by decide +kernel)) ggX11_raises_X11_of
set_option maxRecDepth 20000 in
theorem ggX11_raises_X11_canLift : GoodIn wsX11_raises wsX11_canLift := goodIn_ca (goodIn_r _ [30, 16, 17, 18, 4, 19, 20, 21, 22, 23, 1, 24, 25, 26, 31, 32, 33, 34, 35, 36, 37, 38, 39, 40, 41, 42, 43, 44, 50, 51, 52, 53, 54, 55, 56, 57, 58, 59, 60, 61, 62, 63, 64, 65, 66, 67, 68] (by decide +kernel) (by decide +kernel)) (goodIn_sub (fun _ h => List.mem_cons_of_mem _ (List.mem_append_right _ h)) (by decide +kernel))
set_option maxRecDepth 20000 in
theorem gX11_raises_X11_canLift : GoodIn wsX11_raises (wsV RX11 150 RX11 yX11_canLift wsX11_canLift) := goodIn_app (goodIn_of _ (by decide +kernel)) ggX11_raises_X11_canLift
set_option maxRecDepth 20000 in
theorem ggX11_raises_X11_holds : GoodIn wsX11_raises wsX11_holds := goodIn_r _ [48, 49, 50, 51, 52, 53, 54, 55, 56, 57, 58, 59, 60, 61, 62, 63, 64, 65, 66, 67, 68] (by decide +kernel) (by decide +kernel)
set_option maxRecDepth 20000 in
theorem gX11_raises_X11_holds : GoodIn wsX11_raises (wsV RX11 48 RX11 yX11_holds wsX11_holds) := goodIn_app (goodIn_of _ (by decide +kernel)) ggX11_raises_X11_holds
set_option maxRecDepth 20000 in
theorem ggX11_raises_X11_weightOf : GoodIn wsX11_raises wsX11_weightOf := goodIn_r _ [44] (by decide +kernel) (by decide +kernel)
set_option maxRecDepth 20000 in
theorem gX11_raises_X11_weightOf : GoodIn wsX11_raises (va_wsS RX11 144 yX11_weightOf wsX11_weightOf) := goodIn_app (goodIn_of _ (by decide +kernel)) ggX11_raises_X11_weightOf
set_option maxRecDepth 20000 in
theorem ggX11_raises_X11_placeOf : GoodIn wsX11_raises wsX11_placeOf := goodIn_r _ [26] (by decide +kernel) (by decide +kernel)
set_option maxRecDepth 20000 in
theorem gX11_raises_X11_placeOf : GoodIn wsX11_raises (va_wsS RX11 41 yX11_placeOf wsX11_placeOf) := goodIn_app (goodIn_of _ (by decide +kernel)) ggX11_raises_X11_placeOf
theorem dX11_raises_0 : decode cX11_raises 0 = .ok (.iload_n 2, 1) := by decide +kernel
theorem dX11_raises_1 : decode cX11_raises 1 = .ok (.iload_n 3, 1) := by decide +kernel
theorem dX11_raises_2 : decode cX11_raises 2 = .ok (.invokestatic 93, 3) := by decide +kernel
theorem dX11_raises_5 : decode cX11_raises 5 = .ok (.istore 4, 2) := by decide +kernel
theorem dX11_raises_7 : decode cX11_raises 7 = .ok (.aload_n 0, 1) := by decide +kernel
theorem dX11_raises_8 : decode cX11_raises 8 = .ok (.iload_n 1, 1) := by decide +kernel
theorem dX11_raises_9 : decode cX11_raises 9 = .ok (.invokevirtual 147, 3) := by decide +kernel
theorem dX11_raises_12 : decode cX11_raises 12 = .ok (.ifCond .eq 15, 3) := by decide +kernel
theorem dX11_raises_15 : decode cX11_raises 15 = .ok (.iload_n 2, 1) := by decide +kernel
theorem dX11_raises_16 : decode cX11_raises 16 = .ok (.iload_n 3, 1) := by decide +kernel
theorem dX11_raises_17 : decode cX11_raises 17 = .ok (.invokestatic 74, 3) := by decide +kernel
theorem dX11_raises_20 : decode cX11_raises 20 = .ok (.ifCond .eq 7, 3) := by decide +kernel
theorem dX11_raises_23 : decode cX11_raises 23 = .ok (.iconst 1, 1) := by decide +kernel
theorem dX11_raises_24 : decode cX11_raises 24 = .ok (.goto 4, 3) := by decide +kernel
theorem dX11_raises_27 : decode cX11_raises 27 = .ok (.iconst 0, 1) := by decide +kernel
theorem dX11_raises_28 : decode cX11_raises 28 = .ok (.istore 5, 2) := by decide +kernel
theorem dX11_raises_30 : decode cX11_raises 30 = .ok (.aload_n 0, 1) := by decide +kernel
theorem dX11_raises_31 : decode cX11_raises 31 = .ok (.iload 4, 2) := by decide +kernel
theorem dX11_raises_33 : decode cX11_raises 33 = .ok (.invokevirtual 138, 3) := by decide +kernel
theorem dX11_raises_36 : decode cX11_raises 36 = .ok (.istore 6, 2) := by decide +kernel
theorem dX11_raises_38 : decode cX11_raises 38 = .ok (.aload_n 0, 1) := by decide +kernel
theorem dX11_raises_39 : decode cX11_raises 39 = .ok (.iload 5, 2) := by decide +kernel
theorem dX11_raises_41 : decode cX11_raises 41 = .ok (.iload 6, 2) := by decide +kernel
theorem dX11_raises_43 : decode cX11_raises 43 = .ok (.iconst (-1), 1) := by decide +kernel
theorem dX11_raises_44 : decode cX11_raises 44 = .ok (.if_icmp .eq 7, 3) := by decide +kernel
theorem dX11_raises_47 : decode cX11_raises 47 = .ok (.iconst 1, 1) := by decide +kernel
theorem dX11_raises_48 : decode cX11_raises 48 = .ok (.goto 4, 3) := by decide +kernel
theorem dX11_raises_51 : decode cX11_raises 51 = .ok (.iconst 0, 1) := by decide +kernel
theorem dX11_raises_52 : decode cX11_raises 52 = .ok (.aload_n 0, 1) := by decide +kernel
theorem dX11_raises_53 : decode cX11_raises 53 = .ok (.iload 4, 2) := by decide +kernel
theorem dX11_raises_55 : decode cX11_raises 55 = .ok (.iconst 2, 1) := by decide +kernel
theorem dX11_raises_56 : decode cX11_raises 56 = .ok (.invokevirtual 87, 3) := by decide +kernel
theorem dX11_raises_59 : decode cX11_raises 59 = .ok (.ifCond .ne 7, 3) := by decide +kernel
theorem dX11_raises_62 : decode cX11_raises 62 = .ok (.iconst 1, 1) := by decide +kernel
theorem dX11_raises_63 : decode cX11_raises 63 = .ok (.goto 4, 3) := by decide +kernel
theorem dX11_raises_66 : decode cX11_raises 66 = .ok (.iconst 0, 1) := by decide +kernel
theorem dX11_raises_67 : decode cX11_raises 67 = .ok (.iload 5, 2) := by decide +kernel
theorem dX11_raises_69 : decode cX11_raises 69 = .ok (.ifCond .eq 17, 3) := by decide +kernel
theorem dX11_raises_72 : decode cX11_raises 72 = .ok (.aload_n 0, 1) := by decide +kernel
theorem dX11_raises_73 : decode cX11_raises 73 = .ok (.iload_n 1, 1) := by decide +kernel
theorem dX11_raises_74 : decode cX11_raises 74 = .ok (.iload 4, 2) := by decide +kernel
theorem dX11_raises_76 : decode cX11_raises 76 = .ok (.invokevirtual 150, 3) := by decide +kernel
theorem dX11_raises_79 : decode cX11_raises 79 = .ok (.ifCond .eq 7, 3) := by decide +kernel
theorem dX11_raises_82 : decode cX11_raises 82 = .ok (.iconst 1, 1) := by decide +kernel
theorem dX11_raises_83 : decode cX11_raises 83 = .ok (.goto 4, 3) := by decide +kernel
theorem dX11_raises_86 : decode cX11_raises 86 = .ok (.iconst 0, 1) := by decide +kernel
theorem dX11_raises_87 : decode cX11_raises 87 = .ok (.invokevirtual 48, 3) := by decide +kernel
theorem dX11_raises_90 : decode cX11_raises 90 = .ok (.ifCond .ne 5, 3) := by decide +kernel
theorem dX11_raises_93 : decode cX11_raises 93 = .ok (.iconst 0, 1) := by decide +kernel
theorem dX11_raises_94 : decode cX11_raises 94 = .ok (.ireturn, 1) := by decide +kernel
theorem dX11_raises_95 : decode cX11_raises 95 = .ok (.iload 6, 2) := by decide +kernel
theorem dX11_raises_97 : decode cX11_raises 97 = .ok (.invokestatic 144, 3) := by decide +kernel
theorem dX11_raises_100 : decode cX11_raises 100 = .ok (.bipush 10, 2) := by decide +kernel
theorem dX11_raises_102 : decode cX11_raises 102 = .ok (.aload_n 0, 1) := by decide +kernel
theorem dX11_raises_103 : decode cX11_raises 103 = .ok (.iload 4, 2) := by decide +kernel
theorem dX11_raises_105 : decode cX11_raises 105 = .ok (.iconst 0, 1) := by decide +kernel
theorem dX11_raises_106 : decode cX11_raises 106 = .ok (.invokevirtual 87, 3) := by decide +kernel
theorem dX11_raises_109 : decode cX11_raises 109 = .ok (.isub, 1) := by decide +kernel
theorem dX11_raises_110 : decode cX11_raises 110 = .ok (.imul, 1) := by decide +kernel
theorem dX11_raises_111 : decode cX11_raises 111 = .ok (.istore 7, 2) := by decide +kernel
theorem dX11_raises_113 : decode cX11_raises 113 = .ok (.aload_n 0, 1) := by decide +kernel
theorem dX11_raises_114 : decode cX11_raises 114 = .ok (.getfield 9, 3) := by decide +kernel
theorem dX11_raises_117 : decode cX11_raises 117 = .ok (.iload 4, 2) := by decide +kernel
theorem dX11_raises_119 : decode cX11_raises 119 = .ok (.invokestatic 41, 3) := by decide +kernel
theorem dX11_raises_122 : decode cX11_raises 122 = .ok (.iconst 3, 1) := by decide +kernel
theorem dX11_raises_123 : decode cX11_raises 123 = .ok (.iadd, 1) := by decide +kernel
theorem dX11_raises_124 : decode cX11_raises 124 = .ok (.dup2, 1) := by decide +kernel
theorem dX11_raises_125 : decode cX11_raises 125 = .ok (.iaload, 1) := by decide +kernel
theorem dX11_raises_126 : decode cX11_raises 126 = .ok (.iconst 1, 1) := by decide +kernel
theorem dX11_raises_127 : decode cX11_raises 127 = .ok (.isub, 1) := by decide +kernel
theorem dX11_raises_128 : decode cX11_raises 128 = .ok (.iastore, 1) := by decide +kernel
theorem dX11_raises_129 : decode cX11_raises 129 = .ok (.aload_n 0, 1) := by decide +kernel
theorem dX11_raises_130 : decode cX11_raises 130 = .ok (.getfield 9, 3) := by decide +kernel
theorem dX11_raises_133 : decode cX11_raises 133 = .ok (.bipush 6, 2) := by decide +kernel
theorem dX11_raises_135 : decode cX11_raises 135 = .ok (.iload 6, 2) := by decide +kernel
theorem dX11_raises_137 : decode cX11_raises 137 = .ok (.iadd, 1) := by decide +kernel
theorem dX11_raises_138 : decode cX11_raises 138 = .ok (.dup2, 1) := by decide +kernel
theorem dX11_raises_139 : decode cX11_raises 139 = .ok (.iaload, 1) := by decide +kernel
theorem dX11_raises_140 : decode cX11_raises 140 = .ok (.iconst 1, 1) := by decide +kernel
theorem dX11_raises_141 : decode cX11_raises 141 = .ok (.iadd, 1) := by decide +kernel
theorem dX11_raises_142 : decode cX11_raises 142 = .ok (.iastore, 1) := by decide +kernel
theorem dX11_raises_143 : decode cX11_raises 143 = .ok (.aload_n 0, 1) := by decide +kernel
theorem dX11_raises_144 : decode cX11_raises 144 = .ok (.getfield 9, 3) := by decide +kernel
theorem dX11_raises_147 : decode cX11_raises 147 = .ok (.iconst 3, 1) := by decide +kernel
theorem dX11_raises_148 : decode cX11_raises 148 = .ok (.dup2, 1) := by decide +kernel
theorem dX11_raises_149 : decode cX11_raises 149 = .ok (.iaload, 1) := by decide +kernel
theorem dX11_raises_150 : decode cX11_raises 150 = .ok (.iconst 1, 1) := by decide +kernel
theorem dX11_raises_151 : decode cX11_raises 151 = .ok (.iadd, 1) := by decide +kernel
theorem dX11_raises_152 : decode cX11_raises 152 = .ok (.iastore, 1) := by decide +kernel
theorem dX11_raises_153 : decode cX11_raises 153 = .ok (.aload_n 0, 1) := by decide +kernel
theorem dX11_raises_154 : decode cX11_raises 154 = .ok (.getfield 9, 3) := by decide +kernel
theorem dX11_raises_157 : decode cX11_raises 157 = .ok (.iconst 4, 1) := by decide +kernel
theorem dX11_raises_158 : decode cX11_raises 158 = .ok (.dup2, 1) := by decide +kernel
theorem dX11_raises_159 : decode cX11_raises 159 = .ok (.iaload, 1) := by decide +kernel
theorem dX11_raises_160 : decode cX11_raises 160 = .ok (.iload 7, 2) := by decide +kernel
theorem dX11_raises_162 : decode cX11_raises 162 = .ok (.iadd, 1) := by decide +kernel
theorem dX11_raises_163 : decode cX11_raises 163 = .ok (.iastore, 1) := by decide +kernel
theorem dX11_raises_164 : decode cX11_raises 164 = .ok (.iload 7, 2) := by decide +kernel
theorem dX11_raises_166 : decode cX11_raises 166 = .ok (.ireturn, 1) := by decide +kernel
set_option maxRecDepth 20000 in
theorem ggX11_lift_X11_begins : GoodIn wsX11_lift wsX11_begins := goodIn_ca (goodIn_r _ [5, 6, 7, 8, 9, 4, 10, 72, 73, 74, 75, 76, 77, 78, 79, 80, 81, 82, 83, 84, 85, 86, 87, 88, 89, 90] (by decide +kernel) (by decide +kernel)) (goodIn_sub (fun _ h => List.mem_cons_of_mem _ (List.mem_append_right _ h)) (by decide +kernel))
set_option maxRecDepth 20000 in
theorem gX11_lift_X11_begins : GoodIn wsX11_lift (wsV RX11 100 RX11 yX11_begins wsX11_begins) := goodIn_app (goodIn_of _ (by decide +kernel)) ggX11_lift_X11_begins
set_option maxRecDepth 20000 in
theorem ggX11_lift_X11_raises : GoodIn wsX11_lift wsX11_raises := goodIn_ca (goodIn_r _ [14, 6, 15, 16, 4, 17, 18, 19, 20, 21, 22, 23, 24, 25, 26, 27, 28, 29, 30, 31, 32, 33, 34, 35, 36, 37, 38, 39, 40, 41, 42, 43, 44, 45, 46, 47, 48, 49, 50, 51, 52, 53, 54, 55, 56, 57, 58, 59, 60, 61, 72, 73, 74, 75, 76, 77, 78, 79, 80, 81, 82, 83, 84, 85, 86, 87, 88, 89, 90] (by decide +kernel) (by decide +kernel)) (goodIn_sub (fun _ h => List.mem_cons_of_mem _ (List.mem_append_right _ h)) (by decide +kernel))
set_option maxRecDepth 20000 in
theorem gX11_lift_X11_raises : GoodIn wsX11_lift (wsV RX11 153 RX11 yX11_raises wsX11_raises) := goodIn_app (goodIn_of _ (by decide +kernel)) ggX11_lift_X11_raises
set_option maxRecDepth 20000 in
theorem ggX11_lift_X11_ends : GoodIn wsX11_lift wsX11_ends := goodIn_ca (goodIn_r _ [65, 61, 7, 6, 8, 9, 4, 10, 66, 67, 68, 69, 70, 71, 72, 73, 74, 75, 76, 77, 78, 79, 80, 81, 82, 83, 84, 85, 86, 87, 88, 89, 90] (by decide +kernel) (by decide +kernel)) (goodIn_sub (fun _ h => List.mem_cons_of_mem _ (List.mem_append_right _ h)) (by decide +kernel))
set_option maxRecDepth 20000 in
theorem gX11_lift_X11_ends : GoodIn wsX11_lift (wsV RX11 107 RX11 yX11_ends wsX11_ends) := goodIn_app (goodIn_of _ (by decide +kernel)) ggX11_lift_X11_ends
theorem dX11_lift_0 : decode cX11_lift 0 = .ok (.aload_n 0, 1) := by decide +kernel
theorem dX11_lift_1 : decode cX11_lift 1 = .ok (.invokevirtual 100, 3) := by decide +kernel
theorem dX11_lift_4 : decode cX11_lift 4 = .ok (.aload_n 0, 1) := by decide +kernel
theorem dX11_lift_5 : decode cX11_lift 5 = .ok (.aload_n 0, 1) := by decide +kernel
theorem dX11_lift_6 : decode cX11_lift 6 = .ok (.iload_n 1, 1) := by decide +kernel
theorem dX11_lift_7 : decode cX11_lift 7 = .ok (.iload_n 2, 1) := by decide +kernel
theorem dX11_lift_8 : decode cX11_lift 8 = .ok (.iload_n 3, 1) := by decide +kernel
theorem dX11_lift_9 : decode cX11_lift 9 = .ok (.invokevirtual 153, 3) := by decide +kernel
theorem dX11_lift_12 : decode cX11_lift 12 = .ok (.invokevirtual 107, 3) := by decide +kernel
theorem dX11_lift_15 : decode cX11_lift 15 = .ok (.ireturn, 1) := by decide +kernel
set_option maxRecDepth 20000 in
theorem ggX11_crushes_X11_isStone : GoodIn wsX11_crushes wsX11_isStone := goodIn_r _ [5, 6, 7, 4, 8] (by decide +kernel) (by decide +kernel)
set_option maxRecDepth 20000 in
theorem gX11_crushes_X11_isStone : GoodIn wsX11_crushes (va_wsS RX11 96 yX11_isStone wsX11_isStone) := goodIn_app (goodIn_of _ (by decide +kernel)) ggX11_crushes_X11_isStone
set_option maxRecDepth 20000 in
theorem ggX11_crushes_X11_isIn : GoodIn wsX11_crushes wsX11_isIn := goodIn_r _ [8] (by decide +kernel) (by decide +kernel)
set_option maxRecDepth 20000 in
theorem gX11_crushes_X11_isIn : GoodIn wsX11_crushes (va_wsS RX11 70 yX11_isIn wsX11_isIn) := goodIn_app (goodIn_of _ (by decide +kernel)) ggX11_crushes_X11_isIn
set_option maxRecDepth 20000 in
theorem ggX11_crushes_X11_holds : GoodIn wsX11_crushes wsX11_holds := goodIn_r _ [12, 13, 14, 15, 16, 17, 18, 19, 20, 21, 22, 23, 24, 25, 26, 27, 28, 29, 30, 31, 32] (by decide +kernel) (by decide +kernel)
set_option maxRecDepth 20000 in
theorem gX11_crushes_X11_holds : GoodIn wsX11_crushes (wsV RX11 48 RX11 yX11_holds wsX11_holds) := goodIn_app (goodIn_of _ (by decide +kernel)) ggX11_crushes_X11_holds
theorem dX11_crushes_0 : decode cX11_crushes 0 = .ok (.iload_n 1, 1) := by decide +kernel
theorem dX11_crushes_1 : decode cX11_crushes 1 = .ok (.invokestatic 96, 3) := by decide +kernel
theorem dX11_crushes_4 : decode cX11_crushes 4 = .ok (.ifCond .eq 17, 3) := by decide +kernel
theorem dX11_crushes_7 : decode cX11_crushes 7 = .ok (.iload_n 2, 1) := by decide +kernel
theorem dX11_crushes_8 : decode cX11_crushes 8 = .ok (.iconst 1, 1) := by decide +kernel
theorem dX11_crushes_9 : decode cX11_crushes 9 = .ok (.bipush 20, 2) := by decide +kernel
theorem dX11_crushes_11 : decode cX11_crushes 11 = .ok (.invokestatic 70, 3) := by decide +kernel
theorem dX11_crushes_14 : decode cX11_crushes 14 = .ok (.ifCond .eq 7, 3) := by decide +kernel
theorem dX11_crushes_17 : decode cX11_crushes 17 = .ok (.iconst 1, 1) := by decide +kernel
theorem dX11_crushes_18 : decode cX11_crushes 18 = .ok (.goto 4, 3) := by decide +kernel
theorem dX11_crushes_21 : decode cX11_crushes 21 = .ok (.iconst 0, 1) := by decide +kernel
theorem dX11_crushes_22 : decode cX11_crushes 22 = .ok (.istore_n 3, 1) := by decide +kernel
theorem dX11_crushes_23 : decode cX11_crushes 23 = .ok (.aload_n 0, 1) := by decide +kernel
theorem dX11_crushes_24 : decode cX11_crushes 24 = .ok (.iload_n 3, 1) := by decide +kernel
theorem dX11_crushes_25 : decode cX11_crushes 25 = .ok (.iload_n 3, 1) := by decide +kernel
theorem dX11_crushes_26 : decode cX11_crushes 26 = .ok (.ifCond .eq 20, 3) := by decide +kernel
theorem dX11_crushes_29 : decode cX11_crushes 29 = .ok (.aload_n 0, 1) := by decide +kernel
theorem dX11_crushes_30 : decode cX11_crushes 30 = .ok (.getfield 9, 3) := by decide +kernel
theorem dX11_crushes_33 : decode cX11_crushes 33 = .ok (.bipush 6, 2) := by decide +kernel
theorem dX11_crushes_35 : decode cX11_crushes 35 = .ok (.iload_n 1, 1) := by decide +kernel
theorem dX11_crushes_36 : decode cX11_crushes 36 = .ok (.iadd, 1) := by decide +kernel
theorem dX11_crushes_37 : decode cX11_crushes 37 = .ok (.iaload, 1) := by decide +kernel
theorem dX11_crushes_38 : decode cX11_crushes 38 = .ok (.iload_n 2, 1) := by decide +kernel
theorem dX11_crushes_39 : decode cX11_crushes 39 = .ok (.if_icmp .lt 7, 3) := by decide +kernel
theorem dX11_crushes_42 : decode cX11_crushes 42 = .ok (.iconst 1, 1) := by decide +kernel
theorem dX11_crushes_43 : decode cX11_crushes 43 = .ok (.goto 4, 3) := by decide +kernel
theorem dX11_crushes_46 : decode cX11_crushes 46 = .ok (.iconst 0, 1) := by decide +kernel
theorem dX11_crushes_47 : decode cX11_crushes 47 = .ok (.iconst 1, 1) := by decide +kernel
theorem dX11_crushes_48 : decode cX11_crushes 48 = .ok (.iconst 1, 1) := by decide +kernel
theorem dX11_crushes_49 : decode cX11_crushes 49 = .ok (.invokevirtual 48, 3) := by decide +kernel
theorem dX11_crushes_52 : decode cX11_crushes 52 = .ok (.ifCond .ne 5, 3) := by decide +kernel
theorem dX11_crushes_55 : decode cX11_crushes 55 = .ok (.iconst 0, 1) := by decide +kernel
theorem dX11_crushes_56 : decode cX11_crushes 56 = .ok (.ireturn, 1) := by decide +kernel
theorem dX11_crushes_57 : decode cX11_crushes 57 = .ok (.aload_n 0, 1) := by decide +kernel
theorem dX11_crushes_58 : decode cX11_crushes 58 = .ok (.getfield 9, 3) := by decide +kernel
theorem dX11_crushes_61 : decode cX11_crushes 61 = .ok (.bipush 6, 2) := by decide +kernel
theorem dX11_crushes_63 : decode cX11_crushes 63 = .ok (.iload_n 1, 1) := by decide +kernel
theorem dX11_crushes_64 : decode cX11_crushes 64 = .ok (.iadd, 1) := by decide +kernel
theorem dX11_crushes_65 : decode cX11_crushes 65 = .ok (.dup2, 1) := by decide +kernel
theorem dX11_crushes_66 : decode cX11_crushes 66 = .ok (.iaload, 1) := by decide +kernel
theorem dX11_crushes_67 : decode cX11_crushes 67 = .ok (.iload_n 2, 1) := by decide +kernel
theorem dX11_crushes_68 : decode cX11_crushes 68 = .ok (.isub, 1) := by decide +kernel
theorem dX11_crushes_69 : decode cX11_crushes 69 = .ok (.iastore, 1) := by decide +kernel
theorem dX11_crushes_70 : decode cX11_crushes 70 = .ok (.aload_n 0, 1) := by decide +kernel
theorem dX11_crushes_71 : decode cX11_crushes 71 = .ok (.getfield 9, 3) := by decide +kernel
theorem dX11_crushes_74 : decode cX11_crushes 74 = .ok (.iconst 1, 1) := by decide +kernel
theorem dX11_crushes_75 : decode cX11_crushes 75 = .ok (.dup2, 1) := by decide +kernel
theorem dX11_crushes_76 : decode cX11_crushes 76 = .ok (.iaload, 1) := by decide +kernel
theorem dX11_crushes_77 : decode cX11_crushes 77 = .ok (.iconst 2, 1) := by decide +kernel
theorem dX11_crushes_78 : decode cX11_crushes 78 = .ok (.iload_n 2, 1) := by decide +kernel
theorem dX11_crushes_79 : decode cX11_crushes 79 = .ok (.imul, 1) := by decide +kernel
theorem dX11_crushes_80 : decode cX11_crushes 80 = .ok (.iadd, 1) := by decide +kernel
theorem dX11_crushes_81 : decode cX11_crushes 81 = .ok (.iastore, 1) := by decide +kernel
theorem dX11_crushes_82 : decode cX11_crushes 82 = .ok (.aload_n 0, 1) := by decide +kernel
theorem dX11_crushes_83 : decode cX11_crushes 83 = .ok (.getfield 9, 3) := by decide +kernel
theorem dX11_crushes_86 : decode cX11_crushes 86 = .ok (.iconst 1, 1) := by decide +kernel
theorem dX11_crushes_87 : decode cX11_crushes 87 = .ok (.iaload, 1) := by decide +kernel
theorem dX11_crushes_88 : decode cX11_crushes 88 = .ok (.ireturn, 1) := by decide +kernel
set_option maxRecDepth 20000 in
theorem ggX11_crush_X11_begins : GoodIn wsX11_crush wsX11_begins := goodIn_ca (goodIn_r _ [5, 6, 7, 8, 9, 4, 10, 36, 37, 38, 39, 40, 41, 42, 43, 44, 45, 46, 47, 48, 49, 50, 51, 52, 53, 54] (by decide +kernel) (by decide +kernel)) (goodIn_sub (fun _ h => List.mem_cons_of_mem _ (List.mem_append_right _ h)) (by decide +kernel))
set_option maxRecDepth 20000 in
theorem gX11_crush_X11_begins : GoodIn wsX11_crush (wsV RX11 100 RX11 yX11_begins wsX11_begins) := goodIn_app (goodIn_of _ (by decide +kernel)) ggX11_crush_X11_begins
set_option maxRecDepth 20000 in
theorem ggX11_crush_X11_crushes : GoodIn wsX11_crush wsX11_crushes := goodIn_ca (goodIn_r _ [14, 6, 15, 16, 4, 17, 18, 19, 20, 21, 22, 23, 24, 25, 36, 37, 38, 39, 40, 41, 42, 43, 44, 45, 46, 47, 48, 49, 50, 51, 52, 53, 54] (by decide +kernel) (by decide +kernel)) (goodIn_sub (fun _ h => List.mem_cons_of_mem _ (List.mem_append_right _ h)) (by decide +kernel))
set_option maxRecDepth 20000 in
theorem gX11_crush_X11_crushes : GoodIn wsX11_crush (wsV RX11 156 RX11 yX11_crushes wsX11_crushes) := goodIn_app (goodIn_of _ (by decide +kernel)) ggX11_crush_X11_crushes
set_option maxRecDepth 20000 in
theorem ggX11_crush_X11_ends : GoodIn wsX11_crush wsX11_ends := goodIn_ca (goodIn_r _ [29, 25, 7, 6, 8, 9, 4, 10, 30, 31, 32, 33, 34, 35, 36, 37, 38, 39, 40, 41, 42, 43, 44, 45, 46, 47, 48, 49, 50, 51, 52, 53, 54] (by decide +kernel) (by decide +kernel)) (goodIn_sub (fun _ h => List.mem_cons_of_mem _ (List.mem_append_right _ h)) (by decide +kernel))
set_option maxRecDepth 20000 in
theorem gX11_crush_X11_ends : GoodIn wsX11_crush (wsV RX11 107 RX11 yX11_ends wsX11_ends) := goodIn_app (goodIn_of _ (by decide +kernel)) ggX11_crush_X11_ends
theorem dX11_crush_0 : decode cX11_crush 0 = .ok (.aload_n 0, 1) := by decide +kernel
theorem dX11_crush_1 : decode cX11_crush 1 = .ok (.invokevirtual 100, 3) := by decide +kernel
theorem dX11_crush_4 : decode cX11_crush 4 = .ok (.aload_n 0, 1) := by decide +kernel
theorem dX11_crush_5 : decode cX11_crush 5 = .ok (.aload_n 0, 1) := by decide +kernel
theorem dX11_crush_6 : decode cX11_crush 6 = .ok (.iload_n 1, 1) := by decide +kernel
theorem dX11_crush_7 : decode cX11_crush 7 = .ok (.iload_n 2, 1) := by decide +kernel
theorem dX11_crush_8 : decode cX11_crush 8 = .ok (.invokevirtual 156, 3) := by decide +kernel
theorem dX11_crush_11 : decode cX11_crush 11 = .ok (.invokevirtual 107, 3) := by decide +kernel
theorem dX11_crush_14 : decode cX11_crush 14 = .ok (.ireturn, 1) := by decide +kernel
set_option maxRecDepth 20000 in
theorem ggX11_asks_X11_isCell : GoodIn wsX11_asks wsX11_isCell := goodIn_r _ [4, 5, 6, 3, 7] (by decide +kernel) (by decide +kernel)
set_option maxRecDepth 20000 in
theorem gX11_asks_X11_isCell : GoodIn wsX11_asks (va_wsS RX11 74 yX11_isCell wsX11_isCell) := goodIn_app (goodIn_of _ (by decide +kernel)) ggX11_asks_X11_isCell
set_option maxRecDepth 20000 in
theorem ggX11_asks_X11_goes : GoodIn wsX11_asks wsX11_goes := goodIn_r _ [11, 12, 13, 14, 3, 15, 16, 28, 29, 30, 31, 32, 33, 34, 35, 36, 37, 38, 39, 40, 41, 42, 43, 44, 45, 46] (by decide +kernel) (by decide +kernel)
set_option maxRecDepth 20000 in
theorem gX11_asks_X11_goes : GoodIn wsX11_asks (wsV RX11 62 RX11 yX11_goes wsX11_goes) := goodIn_app (goodIn_of _ (by decide +kernel)) ggX11_asks_X11_goes
set_option maxRecDepth 20000 in
theorem ggX11_asks_X11_cellAt : GoodIn wsX11_asks wsX11_cellAt := goodIn_r _ [19, 1, 2, 3, 4, 5, 6, 7] (by decide +kernel) (by decide +kernel)
set_option maxRecDepth 20000 in
theorem gX11_asks_X11_cellAt : GoodIn wsX11_asks (va_wsS RX11 93 yX11_cellAt wsX11_cellAt) := goodIn_app (goodIn_of _ (by decide +kernel)) ggX11_asks_X11_cellAt
set_option maxRecDepth 20000 in
theorem ggX11_asks_X11_of : GoodIn wsX11_asks wsX11_of := goodIn_ca (goodIn_r _ [23, 24, 25, 26, 3, 27, 28, 29, 30, 31, 32, 33, 34, 35, 36, 37, 38, 39, 40, 41, 42, 43, 44, 45, 46] (by decide +kernel) (by decide +kernel)) (goodIn_sub (fun _ h => List.mem_cons_of_mem _ (List.mem_append_right _ h)) (by decide +kernel))
set_option maxRecDepth 20000 in
theorem gX11_asks_X11_of : GoodIn wsX11_asks (wsV RX11 87 RX11 yX11_of wsX11_of) := goodIn_app (goodIn_of _ (by decide +kernel)) ggX11_asks_X11_of
theorem dX11_asks_0 : decode cX11_asks 0 = .ok (.aload_n 0, 1) := by decide +kernel
theorem dX11_asks_1 : decode cX11_asks 1 = .ok (.iload_n 1, 1) := by decide +kernel
theorem dX11_asks_2 : decode cX11_asks 2 = .ok (.iload_n 2, 1) := by decide +kernel
theorem dX11_asks_3 : decode cX11_asks 3 = .ok (.invokestatic 74, 3) := by decide +kernel
theorem dX11_asks_6 : decode cX11_asks 6 = .ok (.invokevirtual 62, 3) := by decide +kernel
theorem dX11_asks_9 : decode cX11_asks 9 = .ok (.ifCond .eq 16, 3) := by decide +kernel
theorem dX11_asks_12 : decode cX11_asks 12 = .ok (.aload_n 0, 1) := by decide +kernel
theorem dX11_asks_13 : decode cX11_asks 13 = .ok (.iload_n 1, 1) := by decide +kernel
theorem dX11_asks_14 : decode cX11_asks 14 = .ok (.iload_n 2, 1) := by decide +kernel
theorem dX11_asks_15 : decode cX11_asks 15 = .ok (.invokestatic 93, 3) := by decide +kernel
theorem dX11_asks_18 : decode cX11_asks 18 = .ok (.iload_n 3, 1) := by decide +kernel
theorem dX11_asks_19 : decode cX11_asks 19 = .ok (.invokevirtual 87, 3) := by decide +kernel
theorem dX11_asks_22 : decode cX11_asks 22 = .ok (.goto 4, 3) := by decide +kernel
theorem dX11_asks_25 : decode cX11_asks 25 = .ok (.iconst 0, 1) := by decide +kernel
theorem dX11_asks_26 : decode cX11_asks 26 = .ok (.ireturn, 1) := by decide +kernel
set_option maxRecDepth 20000 in
theorem ggX11_height_X11_asks : GoodIn wsX11_height wsX11_asks := goodIn_ca (goodIn_r _ [5, 6, 7, 4, 8, 9, 10, 11, 12, 13, 14, 15, 16, 17, 18, 19, 20, 21, 22, 23, 24, 25, 26, 27, 28, 29, 30, 31, 32, 33, 34, 35, 36, 37, 38, 39, 40, 41, 42, 43, 44, 45, 46, 47, 48, 49, 50] (by decide +kernel) (by decide +kernel)) (goodIn_sub (fun _ h => List.mem_cons_of_mem _ (List.mem_append_right _ h)) (by decide +kernel))
set_option maxRecDepth 20000 in
theorem gX11_height_X11_asks : GoodIn wsX11_height (wsV RX11 159 RX11 yX11_asks wsX11_asks) := goodIn_app (goodIn_of _ (by decide +kernel)) ggX11_height_X11_asks
theorem dX11_height_0 : decode cX11_height 0 = .ok (.aload_n 0, 1) := by decide +kernel
theorem dX11_height_1 : decode cX11_height 1 = .ok (.iload_n 1, 1) := by decide +kernel
theorem dX11_height_2 : decode cX11_height 2 = .ok (.iload_n 2, 1) := by decide +kernel
theorem dX11_height_3 : decode cX11_height 3 = .ok (.iconst 0, 1) := by decide +kernel
theorem dX11_height_4 : decode cX11_height 4 = .ok (.invokevirtual 159, 3) := by decide +kernel
theorem dX11_height_7 : decode cX11_height 7 = .ok (.ireturn, 1) := by decide +kernel
set_option maxRecDepth 20000 in
theorem ggX11_stone_X11_asks : GoodIn wsX11_stone wsX11_asks := goodIn_ca (goodIn_r _ [5, 6, 7, 4, 8, 9, 10, 11, 12, 13, 14, 15, 16, 17, 18, 19, 20, 21, 22, 23, 24, 25, 26, 27, 28, 29, 30, 31, 32, 33, 34, 35, 36, 37, 38, 39, 40, 41, 42, 43, 44, 45, 46, 47, 48, 49, 50] (by decide +kernel) (by decide +kernel)) (goodIn_sub (fun _ h => List.mem_cons_of_mem _ (List.mem_append_right _ h)) (by decide +kernel))
set_option maxRecDepth 20000 in
theorem gX11_stone_X11_asks : GoodIn wsX11_stone (wsV RX11 159 RX11 yX11_asks wsX11_asks) := goodIn_app (goodIn_of _ (by decide +kernel)) ggX11_stone_X11_asks
theorem dX11_stone_0 : decode cX11_stone 0 = .ok (.aload_n 0, 1) := by decide +kernel
theorem dX11_stone_1 : decode cX11_stone 1 = .ok (.iload_n 1, 1) := by decide +kernel
theorem dX11_stone_2 : decode cX11_stone 2 = .ok (.iload_n 2, 1) := by decide +kernel
theorem dX11_stone_3 : decode cX11_stone 3 = .ok (.iconst 1, 1) := by decide +kernel
theorem dX11_stone_4 : decode cX11_stone 4 = .ok (.invokevirtual 159, 3) := by decide +kernel
theorem dX11_stone_7 : decode cX11_stone 7 = .ok (.ireturn, 1) := by decide +kernel
set_option maxRecDepth 20000 in
theorem ggX11_isLedge_X11_asks : GoodIn wsX11_isLedge wsX11_asks := goodIn_ca (goodIn_r _ [5, 6, 7, 4, 8, 9, 10, 11, 12, 13, 14, 15, 16, 17, 18, 19, 20, 21, 22, 23, 24, 25, 26, 27, 28, 29, 30, 31, 32, 33, 34, 35, 36, 37, 38, 39, 40, 41, 42, 43, 44, 45, 46, 47, 48, 49, 50] (by decide +kernel) (by decide +kernel)) (goodIn_sub (fun _ h => List.mem_cons_of_mem _ (List.mem_append_right _ h)) (by decide +kernel))
set_option maxRecDepth 20000 in
theorem gX11_isLedge_X11_asks : GoodIn wsX11_isLedge (wsV RX11 159 RX11 yX11_asks wsX11_asks) := goodIn_app (goodIn_of _ (by decide +kernel)) ggX11_isLedge_X11_asks
theorem dX11_isLedge_0 : decode cX11_isLedge 0 = .ok (.aload_n 0, 1) := by decide +kernel
theorem dX11_isLedge_1 : decode cX11_isLedge 1 = .ok (.iload_n 1, 1) := by decide +kernel
theorem dX11_isLedge_2 : decode cX11_isLedge 2 = .ok (.iload_n 2, 1) := by decide +kernel
theorem dX11_isLedge_3 : decode cX11_isLedge 3 = .ok (.iconst 2, 1) := by decide +kernel
theorem dX11_isLedge_4 : decode cX11_isLedge 4 = .ok (.invokevirtual 159, 3) := by decide +kernel
theorem dX11_isLedge_7 : decode cX11_isLedge 7 = .ok (.iconst 1, 1) := by decide +kernel
theorem dX11_isLedge_8 : decode cX11_isLedge 8 = .ok (.if_icmp .ne 7, 3) := by decide +kernel
theorem dX11_isLedge_11 : decode cX11_isLedge 11 = .ok (.iconst 1, 1) := by decide +kernel
theorem dX11_isLedge_12 : decode cX11_isLedge 12 = .ok (.goto 4, 3) := by decide +kernel
theorem dX11_isLedge_15 : decode cX11_isLedge 15 = .ok (.iconst 0, 1) := by decide +kernel
theorem dX11_isLedge_16 : decode cX11_isLedge 16 = .ok (.ireturn, 1) := by decide +kernel
set_option maxRecDepth 20000 in
theorem ggX11_looseBlocks_X11_asks : GoodIn wsX11_looseBlocks wsX11_asks := goodIn_ca (goodIn_r _ [5, 6, 7, 4, 8, 9, 10, 11, 12, 13, 14, 15, 16, 17, 18, 19, 20, 21, 22, 23, 24, 25, 26, 27, 28, 29, 30, 31, 32, 33, 34, 35, 36, 37, 38, 39, 40, 41, 42, 43, 44, 45, 46, 47, 48, 49, 50] (by decide +kernel) (by decide +kernel)) (goodIn_sub (fun _ h => List.mem_cons_of_mem _ (List.mem_append_right _ h)) (by decide +kernel))
set_option maxRecDepth 20000 in
theorem gX11_looseBlocks_X11_asks : GoodIn wsX11_looseBlocks (wsV RX11 159 RX11 yX11_asks wsX11_asks) := goodIn_app (goodIn_of _ (by decide +kernel)) ggX11_looseBlocks_X11_asks
theorem dX11_looseBlocks_0 : decode cX11_looseBlocks 0 = .ok (.aload_n 0, 1) := by decide +kernel
theorem dX11_looseBlocks_1 : decode cX11_looseBlocks 1 = .ok (.iload_n 1, 1) := by decide +kernel
theorem dX11_looseBlocks_2 : decode cX11_looseBlocks 2 = .ok (.iload_n 2, 1) := by decide +kernel
theorem dX11_looseBlocks_3 : decode cX11_looseBlocks 3 = .ok (.iconst 3, 1) := by decide +kernel
theorem dX11_looseBlocks_4 : decode cX11_looseBlocks 4 = .ok (.invokevirtual 159, 3) := by decide +kernel
theorem dX11_looseBlocks_7 : decode cX11_looseBlocks 7 = .ok (.ireturn, 1) := by decide +kernel
set_option maxRecDepth 20000 in
theorem ggX11_topBlock_X11_cellAt : GoodIn wsX11_topBlock wsX11_cellAt := goodIn_r _ [4, 5, 6, 3, 7, 8, 9, 10] (by decide +kernel) (by decide +kernel)
set_option maxRecDepth 20000 in
theorem gX11_topBlock_X11_cellAt : GoodIn wsX11_topBlock (va_wsS RX11 93 yX11_cellAt wsX11_cellAt) := goodIn_app (goodIn_of _ (by decide +kernel)) ggX11_topBlock_X11_cellAt
set_option maxRecDepth 20000 in
theorem ggX11_topBlock_X11_topOf : GoodIn wsX11_topBlock wsX11_topOf := goodIn_ca (goodIn_r _ [14, 15, 16, 17, 3, 18, 19, 20, 21, 22, 28, 29, 30, 31, 32, 33, 34, 35, 36, 37, 38, 39, 40, 41, 42, 43, 44, 45, 46] (by decide +kernel) (by decide +kernel)) (goodIn_sub (fun _ h => List.mem_cons_of_mem _ (List.mem_append_right _ h)) (by decide +kernel))
set_option maxRecDepth 20000 in
theorem gX11_topBlock_X11_topOf : GoodIn wsX11_topBlock (wsV RX11 138 RX11 yX11_topOf wsX11_topOf) := goodIn_app (goodIn_of _ (by decide +kernel)) ggX11_topBlock_X11_topOf
set_option maxRecDepth 20000 in
theorem ggX11_topBlock_X11_isCell : GoodIn wsX11_topBlock wsX11_isCell := goodIn_r _ [7, 8, 9, 3, 10] (by decide +kernel) (by decide +kernel)
set_option maxRecDepth 20000 in
theorem gX11_topBlock_X11_isCell : GoodIn wsX11_topBlock (va_wsS RX11 74 yX11_isCell wsX11_isCell) := goodIn_app (goodIn_of _ (by decide +kernel)) ggX11_topBlock_X11_isCell
set_option maxRecDepth 20000 in
theorem ggX11_topBlock_X11_holds : GoodIn wsX11_topBlock wsX11_holds := goodIn_r _ [26, 27, 28, 29, 30, 31, 32, 33, 34, 35, 36, 37, 38, 39, 40, 41, 42, 43, 44, 45, 46] (by decide +kernel) (by decide +kernel)
set_option maxRecDepth 20000 in
theorem gX11_topBlock_X11_holds : GoodIn wsX11_topBlock (wsV RX11 48 RX11 yX11_holds wsX11_holds) := goodIn_app (goodIn_of _ (by decide +kernel)) ggX11_topBlock_X11_holds
theorem dX11_topBlock_0 : decode cX11_topBlock 0 = .ok (.aload_n 0, 1) := by decide +kernel
theorem dX11_topBlock_1 : decode cX11_topBlock 1 = .ok (.iload_n 1, 1) := by decide +kernel
theorem dX11_topBlock_2 : decode cX11_topBlock 2 = .ok (.iload_n 2, 1) := by decide +kernel
theorem dX11_topBlock_3 : decode cX11_topBlock 3 = .ok (.invokestatic 93, 3) := by decide +kernel
theorem dX11_topBlock_6 : decode cX11_topBlock 6 = .ok (.invokevirtual 138, 3) := by decide +kernel
theorem dX11_topBlock_9 : decode cX11_topBlock 9 = .ok (.istore_n 3, 1) := by decide +kernel
theorem dX11_topBlock_10 : decode cX11_topBlock 10 = .ok (.aload_n 0, 1) := by decide +kernel
theorem dX11_topBlock_11 : decode cX11_topBlock 11 = .ok (.iload_n 1, 1) := by decide +kernel
theorem dX11_topBlock_12 : decode cX11_topBlock 12 = .ok (.iload_n 2, 1) := by decide +kernel
theorem dX11_topBlock_13 : decode cX11_topBlock 13 = .ok (.invokestatic 74, 3) := by decide +kernel
theorem dX11_topBlock_16 : decode cX11_topBlock 16 = .ok (.iload_n 3, 1) := by decide +kernel
theorem dX11_topBlock_17 : decode cX11_topBlock 17 = .ok (.iconst (-1), 1) := by decide +kernel
theorem dX11_topBlock_18 : decode cX11_topBlock 18 = .ok (.if_icmp .eq 7, 3) := by decide +kernel
theorem dX11_topBlock_21 : decode cX11_topBlock 21 = .ok (.iconst 1, 1) := by decide +kernel
theorem dX11_topBlock_22 : decode cX11_topBlock 22 = .ok (.goto 4, 3) := by decide +kernel
theorem dX11_topBlock_25 : decode cX11_topBlock 25 = .ok (.iconst 0, 1) := by decide +kernel
theorem dX11_topBlock_26 : decode cX11_topBlock 26 = .ok (.iconst 1, 1) := by decide +kernel
theorem dX11_topBlock_27 : decode cX11_topBlock 27 = .ok (.iconst 1, 1) := by decide +kernel
theorem dX11_topBlock_28 : decode cX11_topBlock 28 = .ok (.invokevirtual 48, 3) := by decide +kernel
theorem dX11_topBlock_31 : decode cX11_topBlock 31 = .ok (.ifCond .eq 7, 3) := by decide +kernel
theorem dX11_topBlock_34 : decode cX11_topBlock 34 = .ok (.iload_n 3, 1) := by decide +kernel
theorem dX11_topBlock_35 : decode cX11_topBlock 35 = .ok (.goto 4, 3) := by decide +kernel
theorem dX11_topBlock_38 : decode cX11_topBlock 38 = .ok (.iconst 0, 1) := by decide +kernel
theorem dX11_topBlock_39 : decode cX11_topBlock 39 = .ok (.ireturn, 1) := by decide +kernel
set_option maxRecDepth 20000 in
theorem ggX11_steepestStep_X11_cellAt : GoodIn wsX11_steepestStep wsX11_cellAt := goodIn_r _ [4, 5, 6, 3, 7, 8, 9, 10] (by decide +kernel) (by decide +kernel)
set_option maxRecDepth 20000 in
theorem gX11_steepestStep_X11_cellAt : GoodIn wsX11_steepestStep (va_wsS RX11 93 yX11_cellAt wsX11_cellAt) := goodIn_app (goodIn_of _ (by decide +kernel)) ggX11_steepestStep_X11_cellAt
set_option maxRecDepth 20000 in
theorem ggX11_steepestStep_X11_isCell : GoodIn wsX11_steepestStep wsX11_isCell := goodIn_r _ [7, 8, 9, 3, 10] (by decide +kernel) (by decide +kernel)
set_option maxRecDepth 20000 in
theorem gX11_steepestStep_X11_isCell : GoodIn wsX11_steepestStep (va_wsS RX11 74 yX11_isCell wsX11_isCell) := goodIn_app (goodIn_of _ (by decide +kernel)) ggX11_steepestStep_X11_isCell
set_option maxRecDepth 20000 in
theorem ggX11_steepestStep_X11_goes : GoodIn wsX11_steepestStep wsX11_goes := goodIn_r _ [14, 15, 16, 17, 3, 18, 19, 42, 43, 44, 45, 46, 47, 48, 49, 50, 51, 52, 53, 54, 55, 56, 57, 58, 59, 60] (by decide +kernel) (by decide +kernel)
set_option maxRecDepth 20000 in
theorem gX11_steepestStep_X11_goes : GoodIn wsX11_steepestStep (wsV RX11 62 RX11 yX11_goes wsX11_goes) := goodIn_app (goodIn_of _ (by decide +kernel)) ggX11_steepestStep_X11_goes
set_option maxRecDepth 20000 in
theorem ggX11_steepestStep_X11_of : GoodIn wsX11_steepestStep wsX11_of := goodIn_ca (goodIn_r _ [23, 24, 25, 26, 3, 27, 42, 43, 44, 45, 46, 47, 48, 49, 50, 51, 52, 53, 54, 55, 56, 57, 58, 59, 60] (by decide +kernel) (by decide +kernel)) (goodIn_sub (fun _ h => List.mem_cons_of_mem _ (List.mem_append_right _ h)) (by decide +kernel))
set_option maxRecDepth 20000 in
theorem gX11_steepestStep_X11_of : GoodIn wsX11_steepestStep (wsV RX11 87 RX11 yX11_of wsX11_of) := goodIn_app (goodIn_of _ (by decide +kernel)) ggX11_steepestStep_X11_of
set_option maxRecDepth 20000 in
theorem ggX11_steepestStep_X11_steepest : GoodIn wsX11_steepestStep wsX11_steepest := goodIn_ca (goodIn_r _ [31, 32, 33, 34, 35, 36, 37, 38, 39, 40, 3, 41, 5, 6, 7, 8, 9, 10, 20, 21, 22, 23, 24, 25, 26, 27, 42, 43, 44, 45, 46, 47, 48, 49, 50, 51, 52, 53, 54, 55, 56, 57, 58, 59, 60] (by decide +kernel) (by decide +kernel)) (goodIn_sub (fun _ h => List.mem_cons_of_mem _ (List.mem_append_right _ h)) (by decide +kernel))
set_option maxRecDepth 20000 in
theorem gX11_steepestStep_X11_steepest : GoodIn wsX11_steepestStep (wsV RX11 110 RX11 yX11_steepest wsX11_steepest) := goodIn_app (goodIn_of _ (by decide +kernel)) ggX11_steepestStep_X11_steepest
theorem dX11_steepestStep_0 : decode cX11_steepestStep 0 = .ok (.iload_n 1, 1) := by decide +kernel
theorem dX11_steepestStep_1 : decode cX11_steepestStep 1 = .ok (.iload_n 2, 1) := by decide +kernel
theorem dX11_steepestStep_2 : decode cX11_steepestStep 2 = .ok (.invokestatic 93, 3) := by decide +kernel
theorem dX11_steepestStep_5 : decode cX11_steepestStep 5 = .ok (.istore_n 3, 1) := by decide +kernel
theorem dX11_steepestStep_6 : decode cX11_steepestStep 6 = .ok (.aload_n 0, 1) := by decide +kernel
theorem dX11_steepestStep_7 : decode cX11_steepestStep 7 = .ok (.iload_n 1, 1) := by decide +kernel
theorem dX11_steepestStep_8 : decode cX11_steepestStep 8 = .ok (.iload_n 2, 1) := by decide +kernel
theorem dX11_steepestStep_9 : decode cX11_steepestStep 9 = .ok (.invokestatic 74, 3) := by decide +kernel
theorem dX11_steepestStep_12 : decode cX11_steepestStep 12 = .ok (.invokevirtual 62, 3) := by decide +kernel
theorem dX11_steepestStep_15 : decode cX11_steepestStep 15 = .ok (.ifCond .eq 17, 3) := by decide +kernel
theorem dX11_steepestStep_18 : decode cX11_steepestStep 18 = .ok (.aload_n 0, 1) := by decide +kernel
theorem dX11_steepestStep_19 : decode cX11_steepestStep 19 = .ok (.iload_n 3, 1) := by decide +kernel
theorem dX11_steepestStep_20 : decode cX11_steepestStep 20 = .ok (.aload_n 0, 1) := by decide +kernel
theorem dX11_steepestStep_21 : decode cX11_steepestStep 21 = .ok (.iload_n 3, 1) := by decide +kernel
theorem dX11_steepestStep_22 : decode cX11_steepestStep 22 = .ok (.iconst 0, 1) := by decide +kernel
theorem dX11_steepestStep_23 : decode cX11_steepestStep 23 = .ok (.invokevirtual 87, 3) := by decide +kernel
theorem dX11_steepestStep_26 : decode cX11_steepestStep 26 = .ok (.invokevirtual 110, 3) := by decide +kernel
theorem dX11_steepestStep_29 : decode cX11_steepestStep 29 = .ok (.goto 4, 3) := by decide +kernel
theorem dX11_steepestStep_32 : decode cX11_steepestStep 32 = .ok (.iconst 0, 1) := by decide +kernel
theorem dX11_steepestStep_33 : decode cX11_steepestStep 33 = .ok (.ireturn, 1) := by decide +kernel
set_option maxRecDepth 20000 in
theorem ggX11_canCut_X11_mayCut : GoodIn wsX11_canCut wsX11_mayCut := goodIn_ca (goodIn_r _ [5, 6, 7, 8, 4, 9, 10, 11, 12, 13, 14, 15, 16, 17, 18, 19, 20, 21, 22, 23, 24, 25, 26, 27, 28, 29, 30, 31, 32, 33, 34, 35, 36, 37, 38, 39, 40, 41, 46, 47, 48, 49, 50, 51, 52, 53, 54, 55, 56, 57, 58, 59, 60, 61, 62, 63, 64] (by decide +kernel) (by decide +kernel)) (goodIn_sub (fun _ h => List.mem_cons_of_mem _ (List.mem_append_right _ h)) (by decide +kernel))
set_option maxRecDepth 20000 in
theorem gX11_canCut_X11_mayCut : GoodIn wsX11_canCut (wsV RX11 113 RX11 yX11_mayCut wsX11_mayCut) := goodIn_app (goodIn_of _ (by decide +kernel)) ggX11_canCut_X11_mayCut
set_option maxRecDepth 20000 in
theorem ggX11_canCut_X11_isCell : GoodIn wsX11_canCut wsX11_isCell := goodIn_r _ [12, 13, 14, 4, 15] (by decide +kernel) (by decide +kernel)
set_option maxRecDepth 20000 in
theorem gX11_canCut_X11_isCell : GoodIn wsX11_canCut (va_wsS RX11 74 yX11_isCell wsX11_isCell) := goodIn_app (goodIn_of _ (by decide +kernel)) ggX11_canCut_X11_isCell
set_option maxRecDepth 20000 in
theorem ggX11_canCut_X11_goes : GoodIn wsX11_canCut wsX11_goes := goodIn_r _ [45, 37, 38, 39, 4, 40, 41, 46, 47, 48, 49, 50, 51, 52, 53, 54, 55, 56, 57, 58, 59, 60, 61, 62, 63, 64] (by decide +kernel) (by decide +kernel)
set_option maxRecDepth 20000 in
theorem gX11_canCut_X11_goes : GoodIn wsX11_canCut (wsV RX11 62 RX11 yX11_goes wsX11_goes) := goodIn_app (goodIn_of _ (by decide +kernel)) ggX11_canCut_X11_goes
theorem dX11_canCut_0 : decode cX11_canCut 0 = .ok (.aload_n 0, 1) := by decide +kernel
theorem dX11_canCut_1 : decode cX11_canCut 1 = .ok (.iload_n 1, 1) := by decide +kernel
theorem dX11_canCut_2 : decode cX11_canCut 2 = .ok (.iload_n 2, 1) := by decide +kernel
theorem dX11_canCut_3 : decode cX11_canCut 3 = .ok (.invokevirtual 113, 3) := by decide +kernel
theorem dX11_canCut_6 : decode cX11_canCut 6 = .ok (.istore_n 3, 1) := by decide +kernel
theorem dX11_canCut_7 : decode cX11_canCut 7 = .ok (.aload_n 0, 1) := by decide +kernel
theorem dX11_canCut_8 : decode cX11_canCut 8 = .ok (.iload_n 1, 1) := by decide +kernel
theorem dX11_canCut_9 : decode cX11_canCut 9 = .ok (.iload_n 2, 1) := by decide +kernel
theorem dX11_canCut_10 : decode cX11_canCut 10 = .ok (.invokestatic 74, 3) := by decide +kernel
theorem dX11_canCut_13 : decode cX11_canCut 13 = .ok (.invokevirtual 62, 3) := by decide +kernel
theorem dX11_canCut_16 : decode cX11_canCut 16 = .ok (.ifCond .eq 11, 3) := by decide +kernel
theorem dX11_canCut_19 : decode cX11_canCut 19 = .ok (.iload_n 3, 1) := by decide +kernel
theorem dX11_canCut_20 : decode cX11_canCut 20 = .ok (.ifCond .eq 7, 3) := by decide +kernel
theorem dX11_canCut_23 : decode cX11_canCut 23 = .ok (.iconst 1, 1) := by decide +kernel
theorem dX11_canCut_24 : decode cX11_canCut 24 = .ok (.goto 4, 3) := by decide +kernel
theorem dX11_canCut_27 : decode cX11_canCut 27 = .ok (.iconst 0, 1) := by decide +kernel
theorem dX11_canCut_28 : decode cX11_canCut 28 = .ok (.ireturn, 1) := by decide +kernel
set_option maxRecDepth 20000 in
theorem ggX11_cuttableCells_X11_mayCut : GoodIn wsX11_cuttableCells wsX11_mayCut := goodIn_ca (goodIn_r _ [6, 7, 8, 9, 5, 10, 11, 12, 13, 14, 15, 16, 17, 18, 19, 20, 21, 22, 23, 24, 25, 26, 27, 28, 29, 30, 31, 32, 33, 34, 35, 36, 37, 38, 39, 40, 41, 1, 42, 43, 44, 45, 46, 47, 48, 49, 50, 51, 52, 53, 54, 55, 56, 57, 58, 59, 60] (by decide +kernel) (by decide +kernel)) (goodIn_sub (fun _ h => List.mem_cons_of_mem _ (List.mem_append_right _ h)) (by decide +kernel))
set_option maxRecDepth 20000 in
theorem gX11_cuttableCells_X11_mayCut : GoodIn wsX11_cuttableCells (wsV RX11 113 RX11 yX11_mayCut wsX11_mayCut) := goodIn_app (goodIn_of _ (by decide +kernel)) ggX11_cuttableCells_X11_mayCut
theorem dX11_cuttableCells_0 : decode cX11_cuttableCells 0 = .ok (.iconst 0, 1) := by decide +kernel
theorem dX11_cuttableCells_1 : decode cX11_cuttableCells 1 = .ok (.istore_n 1, 1) := by decide +kernel
theorem dX11_cuttableCells_2 : decode cX11_cuttableCells 2 = .ok (.iconst 0, 1) := by decide +kernel
theorem dX11_cuttableCells_3 : decode cX11_cuttableCells 3 = .ok (.istore_n 2, 1) := by decide +kernel
theorem dX11_cuttableCells_4 : decode cX11_cuttableCells 4 = .ok (.iload_n 2, 1) := by decide +kernel
theorem dX11_cuttableCells_5 : decode cX11_cuttableCells 5 = .ok (.bipush 30, 2) := by decide +kernel
theorem dX11_cuttableCells_7 : decode cX11_cuttableCells 7 = .ok (.if_icmp .ge 32, 3) := by decide +kernel
theorem dX11_cuttableCells_10 : decode cX11_cuttableCells 10 = .ok (.iload_n 1, 1) := by decide +kernel
theorem dX11_cuttableCells_11 : decode cX11_cuttableCells 11 = .ok (.aload_n 0, 1) := by decide +kernel
theorem dX11_cuttableCells_12 : decode cX11_cuttableCells 12 = .ok (.iload_n 2, 1) := by decide +kernel
theorem dX11_cuttableCells_13 : decode cX11_cuttableCells 13 = .ok (.bipush 6, 2) := by decide +kernel
theorem dX11_cuttableCells_15 : decode cX11_cuttableCells 15 = .ok (.idiv, 1) := by decide +kernel
theorem dX11_cuttableCells_16 : decode cX11_cuttableCells 16 = .ok (.iload_n 2, 1) := by decide +kernel
theorem dX11_cuttableCells_17 : decode cX11_cuttableCells 17 = .ok (.bipush 6, 2) := by decide +kernel
theorem dX11_cuttableCells_19 : decode cX11_cuttableCells 19 = .ok (.irem, 1) := by decide +kernel
theorem dX11_cuttableCells_20 : decode cX11_cuttableCells 20 = .ok (.invokevirtual 113, 3) := by decide +kernel
theorem dX11_cuttableCells_23 : decode cX11_cuttableCells 23 = .ok (.ifCond .eq 7, 3) := by decide +kernel
theorem dX11_cuttableCells_26 : decode cX11_cuttableCells 26 = .ok (.iconst 1, 1) := by decide +kernel
theorem dX11_cuttableCells_27 : decode cX11_cuttableCells 27 = .ok (.goto 4, 3) := by decide +kernel
theorem dX11_cuttableCells_30 : decode cX11_cuttableCells 30 = .ok (.iconst 0, 1) := by decide +kernel
theorem dX11_cuttableCells_31 : decode cX11_cuttableCells 31 = .ok (.iadd, 1) := by decide +kernel
theorem dX11_cuttableCells_32 : decode cX11_cuttableCells 32 = .ok (.istore_n 1, 1) := by decide +kernel
theorem dX11_cuttableCells_33 : decode cX11_cuttableCells 33 = .ok (.iinc 2 1, 3) := by decide +kernel
theorem dX11_cuttableCells_36 : decode cX11_cuttableCells 36 = .ok (.goto (-32), 3) := by decide +kernel
theorem dX11_cuttableCells_39 : decode cX11_cuttableCells 39 = .ok (.aload_n 0, 1) := by decide +kernel
theorem dX11_cuttableCells_40 : decode cX11_cuttableCells 40 = .ok (.iconst 0, 1) := by decide +kernel
theorem dX11_cuttableCells_41 : decode cX11_cuttableCells 41 = .ok (.putfield 45, 3) := by decide +kernel
theorem dX11_cuttableCells_44 : decode cX11_cuttableCells 44 = .ok (.iload_n 1, 1) := by decide +kernel
theorem dX11_cuttableCells_45 : decode cX11_cuttableCells 45 = .ok (.ireturn, 1) := by decide +kernel
set_option maxRecDepth 20000 in
theorem ggX11_cellsAt_X11_of : GoodIn wsX11_cellsAt wsX11_of := goodIn_ca (goodIn_r _ [5, 6, 7, 8, 4, 9, 22, 23, 24, 25, 26, 27, 28, 29, 30, 31, 32, 33, 34, 35, 36, 37, 38, 39, 40] (by decide +kernel) (by decide +kernel)) (goodIn_sub (fun _ h => List.mem_cons_of_mem _ (List.mem_append_right _ h)) (by decide +kernel))
set_option maxRecDepth 20000 in
theorem gX11_cellsAt_X11_of : GoodIn wsX11_cellsAt (wsV RX11 87 RX11 yX11_of wsX11_of) := goodIn_app (goodIn_of _ (by decide +kernel)) ggX11_cellsAt_X11_of
set_option maxRecDepth 20000 in
theorem ggX11_cellsAt_X11_isIn : GoodIn wsX11_cellsAt wsX11_isIn := goodIn_r _ [12] (by decide +kernel) (by decide +kernel)
set_option maxRecDepth 20000 in
theorem gX11_cellsAt_X11_isIn : GoodIn wsX11_cellsAt (va_wsS RX11 70 yX11_isIn wsX11_isIn) := goodIn_app (goodIn_of _ (by decide +kernel)) ggX11_cellsAt_X11_isIn
set_option maxRecDepth 20000 in
theorem ggX11_cellsAt_X11_goes : GoodIn wsX11_cellsAt wsX11_goes := goodIn_r _ [16, 17, 18, 19, 4, 20, 21, 22, 23, 24, 25, 26, 27, 28, 29, 30, 31, 32, 33, 34, 35, 36, 37, 38, 39, 40] (by decide +kernel) (by decide +kernel)
set_option maxRecDepth 20000 in
theorem gX11_cellsAt_X11_goes : GoodIn wsX11_cellsAt (wsV RX11 62 RX11 yX11_goes wsX11_goes) := goodIn_app (goodIn_of _ (by decide +kernel)) ggX11_cellsAt_X11_goes
theorem dX11_cellsAt_0 : decode cX11_cellsAt 0 = .ok (.iconst 0, 1) := by decide +kernel
theorem dX11_cellsAt_1 : decode cX11_cellsAt 1 = .ok (.istore_n 2, 1) := by decide +kernel
theorem dX11_cellsAt_2 : decode cX11_cellsAt 2 = .ok (.iconst 0, 1) := by decide +kernel
theorem dX11_cellsAt_3 : decode cX11_cellsAt 3 = .ok (.istore_n 3, 1) := by decide +kernel
theorem dX11_cellsAt_4 : decode cX11_cellsAt 4 = .ok (.iload_n 3, 1) := by decide +kernel
theorem dX11_cellsAt_5 : decode cX11_cellsAt 5 = .ok (.bipush 30, 2) := by decide +kernel
theorem dX11_cellsAt_7 : decode cX11_cellsAt 7 = .ok (.if_icmp .ge 27, 3) := by decide +kernel
theorem dX11_cellsAt_10 : decode cX11_cellsAt 10 = .ok (.iload_n 2, 1) := by decide +kernel
theorem dX11_cellsAt_11 : decode cX11_cellsAt 11 = .ok (.aload_n 0, 1) := by decide +kernel
theorem dX11_cellsAt_12 : decode cX11_cellsAt 12 = .ok (.iload_n 3, 1) := by decide +kernel
theorem dX11_cellsAt_13 : decode cX11_cellsAt 13 = .ok (.iconst 0, 1) := by decide +kernel
theorem dX11_cellsAt_14 : decode cX11_cellsAt 14 = .ok (.invokevirtual 87, 3) := by decide +kernel
theorem dX11_cellsAt_17 : decode cX11_cellsAt 17 = .ok (.iload_n 1, 1) := by decide +kernel
theorem dX11_cellsAt_18 : decode cX11_cellsAt 18 = .ok (.if_icmp .ne 7, 3) := by decide +kernel
theorem dX11_cellsAt_21 : decode cX11_cellsAt 21 = .ok (.iconst 1, 1) := by decide +kernel
theorem dX11_cellsAt_22 : decode cX11_cellsAt 22 = .ok (.goto 4, 3) := by decide +kernel
theorem dX11_cellsAt_25 : decode cX11_cellsAt 25 = .ok (.iconst 0, 1) := by decide +kernel
theorem dX11_cellsAt_26 : decode cX11_cellsAt 26 = .ok (.iadd, 1) := by decide +kernel
theorem dX11_cellsAt_27 : decode cX11_cellsAt 27 = .ok (.istore_n 2, 1) := by decide +kernel
theorem dX11_cellsAt_28 : decode cX11_cellsAt 28 = .ok (.iinc 3 1, 3) := by decide +kernel
theorem dX11_cellsAt_31 : decode cX11_cellsAt 31 = .ok (.goto (-27), 3) := by decide +kernel
theorem dX11_cellsAt_34 : decode cX11_cellsAt 34 = .ok (.aload_n 0, 1) := by decide +kernel
theorem dX11_cellsAt_35 : decode cX11_cellsAt 35 = .ok (.iload_n 1, 1) := by decide +kernel
theorem dX11_cellsAt_36 : decode cX11_cellsAt 36 = .ok (.iconst 0, 1) := by decide +kernel
theorem dX11_cellsAt_37 : decode cX11_cellsAt 37 = .ok (.bipush 9, 2) := by decide +kernel
theorem dX11_cellsAt_39 : decode cX11_cellsAt 39 = .ok (.invokestatic 70, 3) := by decide +kernel
theorem dX11_cellsAt_42 : decode cX11_cellsAt 42 = .ok (.invokevirtual 62, 3) := by decide +kernel
theorem dX11_cellsAt_45 : decode cX11_cellsAt 45 = .ok (.ifCond .eq 7, 3) := by decide +kernel
theorem dX11_cellsAt_48 : decode cX11_cellsAt 48 = .ok (.iload_n 2, 1) := by decide +kernel
theorem dX11_cellsAt_49 : decode cX11_cellsAt 49 = .ok (.goto 4, 3) := by decide +kernel
theorem dX11_cellsAt_52 : decode cX11_cellsAt 52 = .ok (.iconst 0, 1) := by decide +kernel
theorem dX11_cellsAt_53 : decode cX11_cellsAt 53 = .ok (.ireturn, 1) := by decide +kernel
set_option maxRecDepth 20000 in
theorem ggX11_lowers_X11_cellAt : GoodIn wsX11_lowers wsX11_cellAt := goodIn_r _ [9, 10, 11, 8, 12, 13, 14, 15] (by decide +kernel) (by decide +kernel)
set_option maxRecDepth 20000 in
theorem gX11_lowers_X11_cellAt : GoodIn wsX11_lowers (va_wsS RX11 93 yX11_cellAt wsX11_cellAt) := goodIn_app (goodIn_of _ (by decide +kernel)) ggX11_lowers_X11_cellAt
set_option maxRecDepth 20000 in
theorem ggX11_lowers_X11_isCell : GoodIn wsX11_lowers wsX11_isCell := goodIn_r _ [12, 13, 14, 8, 15] (by decide +kernel) (by decide +kernel)
set_option maxRecDepth 20000 in
theorem gX11_lowers_X11_isCell : GoodIn wsX11_lowers (va_wsS RX11 74 yX11_isCell wsX11_isCell) := goodIn_app (goodIn_of _ (by decide +kernel)) ggX11_lowers_X11_isCell
set_option maxRecDepth 20000 in
theorem ggX11_lowers_X11_of : GoodIn wsX11_lowers wsX11_of := goodIn_ca (goodIn_r _ [19, 1, 20, 21, 8, 22, 34, 35, 36, 37, 38, 39, 40, 41, 42, 43, 44, 45, 46, 47, 48, 49, 50, 51, 52] (by decide +kernel) (by decide +kernel)) (goodIn_sub (fun _ h => List.mem_cons_of_mem _ (List.mem_append_right _ h)) (by decide +kernel))
set_option maxRecDepth 20000 in
theorem gX11_lowers_X11_of : GoodIn wsX11_lowers (wsV RX11 87 RX11 yX11_of wsX11_of) := goodIn_app (goodIn_of _ (by decide +kernel)) ggX11_lowers_X11_of
set_option maxRecDepth 20000 in
theorem ggX11_lowers_X11_isIn : GoodIn wsX11_lowers wsX11_isIn := goodIn_r _ [15] (by decide +kernel) (by decide +kernel)
set_option maxRecDepth 20000 in
theorem gX11_lowers_X11_isIn : GoodIn wsX11_lowers (va_wsS RX11 70 yX11_isIn wsX11_isIn) := goodIn_app (goodIn_of _ (by decide +kernel)) ggX11_lowers_X11_isIn
set_option maxRecDepth 20000 in
theorem ggX11_lowers_X11_holds : GoodIn wsX11_lowers wsX11_holds := goodIn_r _ [26, 27, 34, 35, 36, 37, 38, 39, 40, 41, 42, 43, 44, 45, 46, 47, 48, 49, 50, 51, 52] (by decide +kernel) (by decide +kernel)
set_option maxRecDepth 20000 in
theorem gX11_lowers_X11_holds : GoodIn wsX11_lowers (wsV RX11 48 RX11 yX11_holds wsX11_holds) := goodIn_app (goodIn_of _ (by decide +kernel)) ggX11_lowers_X11_holds
set_option maxRecDepth 20000 in
theorem ggX11_lowers_X11_farFrom : GoodIn wsX11_lowers wsX11_farFrom := goodIn_r _ [30, 31, 32, 4, 33] (by decide +kernel) (by decide +kernel)
set_option maxRecDepth 20000 in
theorem gX11_lowers_X11_farFrom : GoodIn wsX11_lowers (va_wsS RX11 141 yX11_farFrom wsX11_farFrom) := goodIn_app (goodIn_of _ (by decide +kernel)) ggX11_lowers_X11_farFrom
theorem dX11_lowers_0 : decode cX11_lowers 0 = .ok (.iload_n 1, 1) := by decide +kernel
theorem dX11_lowers_1 : decode cX11_lowers 1 = .ok (.iload_n 2, 1) := by decide +kernel
theorem dX11_lowers_2 : decode cX11_lowers 2 = .ok (.invokestatic 93, 3) := by decide +kernel
theorem dX11_lowers_5 : decode cX11_lowers 5 = .ok (.istore 4, 2) := by decide +kernel
theorem dX11_lowers_7 : decode cX11_lowers 7 = .ok (.aload_n 0, 1) := by decide +kernel
theorem dX11_lowers_8 : decode cX11_lowers 8 = .ok (.iload_n 1, 1) := by decide +kernel
theorem dX11_lowers_9 : decode cX11_lowers 9 = .ok (.iload_n 2, 1) := by decide +kernel
theorem dX11_lowers_10 : decode cX11_lowers 10 = .ok (.invokestatic 74, 3) := by decide +kernel
theorem dX11_lowers_13 : decode cX11_lowers 13 = .ok (.iload_n 3, 1) := by decide +kernel
theorem dX11_lowers_14 : decode cX11_lowers 14 = .ok (.iconst 0, 1) := by decide +kernel
theorem dX11_lowers_15 : decode cX11_lowers 15 = .ok (.aload_n 0, 1) := by decide +kernel
theorem dX11_lowers_16 : decode cX11_lowers 16 = .ok (.iload 4, 2) := by decide +kernel
theorem dX11_lowers_18 : decode cX11_lowers 18 = .ok (.iconst 0, 1) := by decide +kernel
theorem dX11_lowers_19 : decode cX11_lowers 19 = .ok (.invokevirtual 87, 3) := by decide +kernel
theorem dX11_lowers_22 : decode cX11_lowers 22 = .ok (.invokestatic 70, 3) := by decide +kernel
theorem dX11_lowers_25 : decode cX11_lowers 25 = .ok (.iconst 1, 1) := by decide +kernel
theorem dX11_lowers_26 : decode cX11_lowers 26 = .ok (.iconst 1, 1) := by decide +kernel
theorem dX11_lowers_27 : decode cX11_lowers 27 = .ok (.invokevirtual 48, 3) := by decide +kernel
theorem dX11_lowers_30 : decode cX11_lowers 30 = .ok (.ifCond .ne 5, 3) := by decide +kernel
theorem dX11_lowers_33 : decode cX11_lowers 33 = .ok (.iconst 0, 1) := by decide +kernel
theorem dX11_lowers_34 : decode cX11_lowers 34 = .ok (.ireturn, 1) := by decide +kernel
theorem dX11_lowers_35 : decode cX11_lowers 35 = .ok (.iconst 0, 1) := by decide +kernel
theorem dX11_lowers_36 : decode cX11_lowers 36 = .ok (.istore 5, 2) := by decide +kernel
theorem dX11_lowers_38 : decode cX11_lowers 38 = .ok (.iconst 0, 1) := by decide +kernel
theorem dX11_lowers_39 : decode cX11_lowers 39 = .ok (.istore 6, 2) := by decide +kernel
theorem dX11_lowers_41 : decode cX11_lowers 41 = .ok (.iload 6, 2) := by decide +kernel
theorem dX11_lowers_43 : decode cX11_lowers 43 = .ok (.bipush 30, 2) := by decide +kernel
theorem dX11_lowers_45 : decode cX11_lowers 45 = .ok (.if_icmp .ge 42, 3) := by decide +kernel
theorem dX11_lowers_48 : decode cX11_lowers 48 = .ok (.iload 5, 2) := by decide +kernel
theorem dX11_lowers_50 : decode cX11_lowers 50 = .ok (.iconst 0, 1) := by decide +kernel
theorem dX11_lowers_51 : decode cX11_lowers 51 = .ok (.aload_n 0, 1) := by decide +kernel
theorem dX11_lowers_52 : decode cX11_lowers 52 = .ok (.iload 6, 2) := by decide +kernel
theorem dX11_lowers_54 : decode cX11_lowers 54 = .ok (.iconst 0, 1) := by decide +kernel
theorem dX11_lowers_55 : decode cX11_lowers 55 = .ok (.invokevirtual 87, 3) := by decide +kernel
theorem dX11_lowers_58 : decode cX11_lowers 58 = .ok (.iload_n 3, 1) := by decide +kernel
theorem dX11_lowers_59 : decode cX11_lowers 59 = .ok (.isub, 1) := by decide +kernel
theorem dX11_lowers_60 : decode cX11_lowers 60 = .ok (.aload_n 0, 1) := by decide +kernel
theorem dX11_lowers_61 : decode cX11_lowers 61 = .ok (.getfield 9, 3) := by decide +kernel
theorem dX11_lowers_64 : decode cX11_lowers 64 = .ok (.iconst 0, 1) := by decide +kernel
theorem dX11_lowers_65 : decode cX11_lowers 65 = .ok (.iaload, 1) := by decide +kernel
theorem dX11_lowers_66 : decode cX11_lowers 66 = .ok (.iload 4, 2) := by decide +kernel
theorem dX11_lowers_68 : decode cX11_lowers 68 = .ok (.iload 6, 2) := by decide +kernel
theorem dX11_lowers_70 : decode cX11_lowers 70 = .ok (.invokestatic 141, 3) := by decide +kernel
theorem dX11_lowers_73 : decode cX11_lowers 73 = .ok (.imul, 1) := by decide +kernel
theorem dX11_lowers_74 : decode cX11_lowers 74 = .ok (.isub, 1) := by decide +kernel
theorem dX11_lowers_75 : decode cX11_lowers 75 = .ok (.invokestatic 90, 3) := by decide +kernel
theorem dX11_lowers_78 : decode cX11_lowers 78 = .ok (.iadd, 1) := by decide +kernel
theorem dX11_lowers_79 : decode cX11_lowers 79 = .ok (.istore 5, 2) := by decide +kernel
theorem dX11_lowers_81 : decode cX11_lowers 81 = .ok (.iinc 6 1, 3) := by decide +kernel
theorem dX11_lowers_84 : decode cX11_lowers 84 = .ok (.goto (-43), 3) := by decide +kernel
theorem dX11_lowers_87 : decode cX11_lowers 87 = .ok (.iload 5, 2) := by decide +kernel
theorem dX11_lowers_89 : decode cX11_lowers 89 = .ok (.ireturn, 1) := by decide +kernel
set_option maxRecDepth 20000 in
theorem ggX11_cutsToLower_X11_lowers : GoodIn wsX11_cutsToLower wsX11_lowers := goodIn_ca (goodIn_r _ [5, 6, 7, 8, 9, 10, 11, 12, 4, 13, 14, 15, 16, 17, 18, 19, 20, 21, 22, 23, 24, 25, 26, 27, 28, 29, 30, 31, 32, 33, 34, 35, 36, 37, 38, 39, 40, 41, 42, 43, 44, 45, 46, 47, 48, 49, 50, 51, 52, 53, 54, 55, 56] (by decide +kernel) (by decide +kernel)) (goodIn_sub (fun _ h => List.mem_cons_of_mem _ (List.mem_append_right _ h)) (by decide +kernel))
set_option maxRecDepth 20000 in
theorem gX11_cutsToLower_X11_lowers : GoodIn wsX11_cutsToLower (wsV RX11 162 RX11 yX11_lowers wsX11_lowers) := goodIn_app (goodIn_of _ (by decide +kernel)) ggX11_cutsToLower_X11_lowers
theorem dX11_cutsToLower_0 : decode cX11_cutsToLower 0 = .ok (.aload_n 0, 1) := by decide +kernel
theorem dX11_cutsToLower_1 : decode cX11_cutsToLower 1 = .ok (.iload_n 1, 1) := by decide +kernel
theorem dX11_cutsToLower_2 : decode cX11_cutsToLower 2 = .ok (.iload_n 2, 1) := by decide +kernel
theorem dX11_cutsToLower_3 : decode cX11_cutsToLower 3 = .ok (.iload_n 3, 1) := by decide +kernel
theorem dX11_cutsToLower_4 : decode cX11_cutsToLower 4 = .ok (.invokevirtual 162, 3) := by decide +kernel
theorem dX11_cutsToLower_7 : decode cX11_cutsToLower 7 = .ok (.ireturn, 1) := by decide +kernel
set_option maxRecDepth 20000 in
theorem ggX11_cutsToLowerBySpreading_X11_lowers : GoodIn wsX11_cutsToLowerBySpreading wsX11_lowers := goodIn_ca (goodIn_r _ [5, 6, 7, 8, 9, 10, 11, 12, 4, 13, 14, 15, 16, 17, 18, 19, 20, 21, 22, 23, 24, 25, 26, 27, 28, 29, 30, 31, 32, 33, 34, 35, 36, 37, 38, 39, 40, 41, 42, 43, 44, 45, 46, 47, 48, 49, 50, 51, 52, 53, 54, 55, 56] (by decide +kernel) (by decide +kernel)) (goodIn_sub (fun _ h => List.mem_cons_of_mem _ (List.mem_append_right _ h)) (by decide +kernel))
set_option maxRecDepth 20000 in
theorem gX11_cutsToLowerBySpreading_X11_lowers : GoodIn wsX11_cutsToLowerBySpreading (wsV RX11 162 RX11 yX11_lowers wsX11_lowers) := goodIn_app (goodIn_of _ (by decide +kernel)) ggX11_cutsToLowerBySpreading_X11_lowers
theorem dX11_cutsToLowerBySpreading_0 : decode cX11_cutsToLowerBySpreading 0 = .ok (.aload_n 0, 1) := by decide +kernel
theorem dX11_cutsToLowerBySpreading_1 : decode cX11_cutsToLowerBySpreading 1 = .ok (.iload_n 1, 1) := by decide +kernel
theorem dX11_cutsToLowerBySpreading_2 : decode cX11_cutsToLowerBySpreading 2 = .ok (.iload_n 2, 1) := by decide +kernel
theorem dX11_cutsToLowerBySpreading_3 : decode cX11_cutsToLowerBySpreading 3 = .ok (.iload_n 3, 1) := by decide +kernel
theorem dX11_cutsToLowerBySpreading_4 : decode cX11_cutsToLowerBySpreading 4 = .ok (.invokevirtual 162, 3) := by decide +kernel
theorem dX11_cutsToLowerBySpreading_7 : decode cX11_cutsToLowerBySpreading 7 = .ok (.ireturn, 1) := by decide +kernel
set_option maxRecDepth 20000 in
theorem ggX11_marksSeams_X11_of : GoodIn wsX11_marksSeams wsX11_of := goodIn_ca (goodIn_r _ [6, 7, 8, 9, 5, 10, 28, 29, 30, 31, 32, 33, 34, 35, 36, 37, 38, 39, 40, 41, 42, 43, 44, 45, 46] (by decide +kernel) (by decide +kernel)) (goodIn_sub (fun _ h => List.mem_cons_of_mem _ (List.mem_append_right _ h)) (by decide +kernel))
set_option maxRecDepth 20000 in
theorem gX11_marksSeams_X11_of : GoodIn wsX11_marksSeams (wsV RX11 87 RX11 yX11_of wsX11_of) := goodIn_app (goodIn_of _ (by decide +kernel)) ggX11_marksSeams_X11_of
set_option maxRecDepth 20000 in
theorem ggX11_marksSeams_X11_marksLower : GoodIn wsX11_marksSeams wsX11_marksLower := goodIn_ca (goodIn_r _ [14, 1, 15, 16, 17, 18, 19, 20, 5, 21, 22, 23, 24, 25, 26, 27, 2, 3, 4, 6, 7, 8, 9, 10, 28, 29, 30, 31, 32, 33, 34, 35, 36, 37, 38, 39, 40, 41, 42, 43, 44, 45, 46] (by decide +kernel) (by decide +kernel)) (goodIn_sub (fun _ h => List.mem_cons_of_mem _ (List.mem_append_right _ h)) (by decide +kernel))
set_option maxRecDepth 20000 in
theorem gX11_marksSeams_X11_marksLower : GoodIn wsX11_marksSeams (wsV RX11 165 RX11 yX11_marksLower wsX11_marksLower) := goodIn_app (goodIn_of _ (by decide +kernel)) ggX11_marksSeams_X11_marksLower
theorem dX11_marksSeams_0 : decode cX11_marksSeams 0 = .ok (.iconst 0, 1) := by decide +kernel
theorem dX11_marksSeams_1 : decode cX11_marksSeams 1 = .ok (.istore_n 1, 1) := by decide +kernel
theorem dX11_marksSeams_2 : decode cX11_marksSeams 2 = .ok (.iload_n 1, 1) := by decide +kernel
theorem dX11_marksSeams_3 : decode cX11_marksSeams 3 = .ok (.bipush 30, 2) := by decide +kernel
theorem dX11_marksSeams_5 : decode cX11_marksSeams 5 = .ok (.if_icmp .ge 29, 3) := by decide +kernel
theorem dX11_marksSeams_8 : decode cX11_marksSeams 8 = .ok (.aload_n 0, 1) := by decide +kernel
theorem dX11_marksSeams_9 : decode cX11_marksSeams 9 = .ok (.getfield 29, 3) := by decide +kernel
theorem dX11_marksSeams_12 : decode cX11_marksSeams 12 = .ok (.iload_n 1, 1) := by decide +kernel
theorem dX11_marksSeams_13 : decode cX11_marksSeams 13 = .ok (.aload_n 0, 1) := by decide +kernel
theorem dX11_marksSeams_14 : decode cX11_marksSeams 14 = .ok (.iload_n 1, 1) := by decide +kernel
theorem dX11_marksSeams_15 : decode cX11_marksSeams 15 = .ok (.iconst 0, 1) := by decide +kernel
theorem dX11_marksSeams_16 : decode cX11_marksSeams 16 = .ok (.invokevirtual 87, 3) := by decide +kernel
theorem dX11_marksSeams_19 : decode cX11_marksSeams 19 = .ok (.ifCond .le 7, 3) := by decide +kernel
theorem dX11_marksSeams_22 : decode cX11_marksSeams 22 = .ok (.iload_n 1, 1) := by decide +kernel
theorem dX11_marksSeams_23 : decode cX11_marksSeams 23 = .ok (.goto 4, 3) := by decide +kernel
theorem dX11_marksSeams_26 : decode cX11_marksSeams 26 = .ok (.iconst (-1), 1) := by decide +kernel
theorem dX11_marksSeams_27 : decode cX11_marksSeams 27 = .ok (.iastore, 1) := by decide +kernel
theorem dX11_marksSeams_28 : decode cX11_marksSeams 28 = .ok (.iinc 1 1, 3) := by decide +kernel
theorem dX11_marksSeams_31 : decode cX11_marksSeams 31 = .ok (.goto (-29), 3) := by decide +kernel
theorem dX11_marksSeams_34 : decode cX11_marksSeams 34 = .ok (.iconst 0, 1) := by decide +kernel
theorem dX11_marksSeams_35 : decode cX11_marksSeams 35 = .ok (.istore_n 1, 1) := by decide +kernel
theorem dX11_marksSeams_36 : decode cX11_marksSeams 36 = .ok (.iload_n 1, 1) := by decide +kernel
theorem dX11_marksSeams_37 : decode cX11_marksSeams 37 = .ok (.bipush 30, 2) := by decide +kernel
theorem dX11_marksSeams_39 : decode cX11_marksSeams 39 = .ok (.if_icmp .ge 28, 3) := by decide +kernel
theorem dX11_marksSeams_42 : decode cX11_marksSeams 42 = .ok (.iconst 0, 1) := by decide +kernel
theorem dX11_marksSeams_43 : decode cX11_marksSeams 43 = .ok (.istore_n 2, 1) := by decide +kernel
theorem dX11_marksSeams_44 : decode cX11_marksSeams 44 = .ok (.iload_n 2, 1) := by decide +kernel
theorem dX11_marksSeams_45 : decode cX11_marksSeams 45 = .ok (.bipush 30, 2) := by decide +kernel
theorem dX11_marksSeams_47 : decode cX11_marksSeams 47 = .ok (.if_icmp .ge 14, 3) := by decide +kernel
theorem dX11_marksSeams_50 : decode cX11_marksSeams 50 = .ok (.aload_n 0, 1) := by decide +kernel
theorem dX11_marksSeams_51 : decode cX11_marksSeams 51 = .ok (.iload_n 2, 1) := by decide +kernel
theorem dX11_marksSeams_52 : decode cX11_marksSeams 52 = .ok (.invokevirtual 165, 3) := by decide +kernel
theorem dX11_marksSeams_55 : decode cX11_marksSeams 55 = .ok (.iinc 2 1, 3) := by decide +kernel
theorem dX11_marksSeams_58 : decode cX11_marksSeams 58 = .ok (.goto (-14), 3) := by decide +kernel
theorem dX11_marksSeams_61 : decode cX11_marksSeams 61 = .ok (.iinc 1 1, 3) := by decide +kernel
theorem dX11_marksSeams_64 : decode cX11_marksSeams 64 = .ok (.goto (-28), 3) := by decide +kernel
theorem dX11_marksSeams_67 : decode cX11_marksSeams 67 = .ok (.return_, 1) := by decide +kernel
set_option maxRecDepth 20000 in
theorem ggX11_marksLower_X11_beside : GoodIn wsX11_marksLower wsX11_beside := goodIn_r _ [9, 10, 11, 8, 12, 13, 14, 15] (by decide +kernel) (by decide +kernel)
set_option maxRecDepth 20000 in
theorem gX11_marksLower_X11_beside : GoodIn wsX11_marksLower (va_wsS RX11 83 yX11_beside wsX11_beside) := goodIn_app (goodIn_of _ (by decide +kernel)) ggX11_marksLower_X11_beside
set_option maxRecDepth 20000 in
theorem ggX11_marksLower_X11_of : GoodIn wsX11_marksLower wsX11_of := goodIn_ca (goodIn_r _ [19, 20, 21, 22, 8, 23, 24, 25, 26, 27, 28, 29, 30, 31, 32, 33, 34, 35, 36, 37, 38, 39, 40, 41, 42] (by decide +kernel) (by decide +kernel)) (goodIn_sub (fun _ h => List.mem_cons_of_mem _ (List.mem_append_right _ h)) (by decide +kernel))
set_option maxRecDepth 20000 in
theorem gX11_marksLower_X11_of : GoodIn wsX11_marksLower (wsV RX11 87 RX11 yX11_of wsX11_of) := goodIn_app (goodIn_of _ (by decide +kernel)) ggX11_marksLower_X11_of
theorem dX11_marksLower_0 : decode cX11_marksLower 0 = .ok (.iconst 0, 1) := by decide +kernel
theorem dX11_marksLower_1 : decode cX11_marksLower 1 = .ok (.istore_n 2, 1) := by decide +kernel
theorem dX11_marksLower_2 : decode cX11_marksLower 2 = .ok (.iload_n 2, 1) := by decide +kernel
theorem dX11_marksLower_3 : decode cX11_marksLower 3 = .ok (.iconst 4, 1) := by decide +kernel
theorem dX11_marksLower_4 : decode cX11_marksLower 4 = .ok (.if_icmp .ge 97, 3) := by decide +kernel
theorem dX11_marksLower_7 : decode cX11_marksLower 7 = .ok (.aload_n 0, 1) := by decide +kernel
theorem dX11_marksLower_8 : decode cX11_marksLower 8 = .ok (.getfield 29, 3) := by decide +kernel
theorem dX11_marksLower_11 : decode cX11_marksLower 11 = .ok (.iload_n 1, 1) := by decide +kernel
theorem dX11_marksLower_12 : decode cX11_marksLower 12 = .ok (.iaload, 1) := by decide +kernel
theorem dX11_marksLower_13 : decode cX11_marksLower 13 = .ok (.iconst (-1), 1) := by decide +kernel
theorem dX11_marksLower_14 : decode cX11_marksLower 14 = .ok (.if_icmp .eq 87, 3) := by decide +kernel
theorem dX11_marksLower_17 : decode cX11_marksLower 17 = .ok (.iload_n 1, 1) := by decide +kernel
theorem dX11_marksLower_18 : decode cX11_marksLower 18 = .ok (.iload_n 2, 1) := by decide +kernel
theorem dX11_marksLower_19 : decode cX11_marksLower 19 = .ok (.invokestatic 83, 3) := by decide +kernel
theorem dX11_marksLower_22 : decode cX11_marksLower 22 = .ok (.istore_n 3, 1) := by decide +kernel
theorem dX11_marksLower_23 : decode cX11_marksLower 23 = .ok (.iload_n 3, 1) := by decide +kernel
theorem dX11_marksLower_24 : decode cX11_marksLower 24 = .ok (.iconst (-1), 1) := by decide +kernel
theorem dX11_marksLower_25 : decode cX11_marksLower 25 = .ok (.if_icmp .eq 32, 3) := by decide +kernel
theorem dX11_marksLower_28 : decode cX11_marksLower 28 = .ok (.aload_n 0, 1) := by decide +kernel
theorem dX11_marksLower_29 : decode cX11_marksLower 29 = .ok (.getfield 29, 3) := by decide +kernel
theorem dX11_marksLower_32 : decode cX11_marksLower 32 = .ok (.iload_n 3, 1) := by decide +kernel
theorem dX11_marksLower_33 : decode cX11_marksLower 33 = .ok (.iaload, 1) := by decide +kernel
theorem dX11_marksLower_34 : decode cX11_marksLower 34 = .ok (.iconst (-1), 1) := by decide +kernel
theorem dX11_marksLower_35 : decode cX11_marksLower 35 = .ok (.if_icmp .eq 22, 3) := by decide +kernel
theorem dX11_marksLower_38 : decode cX11_marksLower 38 = .ok (.aload_n 0, 1) := by decide +kernel
theorem dX11_marksLower_39 : decode cX11_marksLower 39 = .ok (.iload_n 3, 1) := by decide +kernel
theorem dX11_marksLower_40 : decode cX11_marksLower 40 = .ok (.iconst 1, 1) := by decide +kernel
theorem dX11_marksLower_41 : decode cX11_marksLower 41 = .ok (.invokevirtual 87, 3) := by decide +kernel
theorem dX11_marksLower_44 : decode cX11_marksLower 44 = .ok (.aload_n 0, 1) := by decide +kernel
theorem dX11_marksLower_45 : decode cX11_marksLower 45 = .ok (.iload_n 1, 1) := by decide +kernel
theorem dX11_marksLower_46 : decode cX11_marksLower 46 = .ok (.iconst 1, 1) := by decide +kernel
theorem dX11_marksLower_47 : decode cX11_marksLower 47 = .ok (.invokevirtual 87, 3) := by decide +kernel
theorem dX11_marksLower_50 : decode cX11_marksLower 50 = .ok (.if_icmp .ne 7, 3) := by decide +kernel
theorem dX11_marksLower_53 : decode cX11_marksLower 53 = .ok (.iconst 1, 1) := by decide +kernel
theorem dX11_marksLower_54 : decode cX11_marksLower 54 = .ok (.goto 4, 3) := by decide +kernel
theorem dX11_marksLower_57 : decode cX11_marksLower 57 = .ok (.iconst 0, 1) := by decide +kernel
theorem dX11_marksLower_58 : decode cX11_marksLower 58 = .ok (.istore 4, 2) := by decide +kernel
theorem dX11_marksLower_60 : decode cX11_marksLower 60 = .ok (.aload_n 0, 1) := by decide +kernel
theorem dX11_marksLower_61 : decode cX11_marksLower 61 = .ok (.getfield 29, 3) := by decide +kernel
theorem dX11_marksLower_64 : decode cX11_marksLower 64 = .ok (.iload_n 1, 1) := by decide +kernel
theorem dX11_marksLower_65 : decode cX11_marksLower 65 = .ok (.iload 4, 2) := by decide +kernel
theorem dX11_marksLower_67 : decode cX11_marksLower 67 = .ok (.ifCond .eq 21, 3) := by decide +kernel
theorem dX11_marksLower_70 : decode cX11_marksLower 70 = .ok (.aload_n 0, 1) := by decide +kernel
theorem dX11_marksLower_71 : decode cX11_marksLower 71 = .ok (.getfield 29, 3) := by decide +kernel
theorem dX11_marksLower_74 : decode cX11_marksLower 74 = .ok (.iload_n 1, 1) := by decide +kernel
theorem dX11_marksLower_75 : decode cX11_marksLower 75 = .ok (.iaload, 1) := by decide +kernel
theorem dX11_marksLower_76 : decode cX11_marksLower 76 = .ok (.aload_n 0, 1) := by decide +kernel
theorem dX11_marksLower_77 : decode cX11_marksLower 77 = .ok (.getfield 29, 3) := by decide +kernel
theorem dX11_marksLower_80 : decode cX11_marksLower 80 = .ok (.iload_n 3, 1) := by decide +kernel
theorem dX11_marksLower_81 : decode cX11_marksLower 81 = .ok (.iaload, 1) := by decide +kernel
theorem dX11_marksLower_82 : decode cX11_marksLower 82 = .ok (.invokestatic 169, 3) := by decide +kernel
theorem dX11_marksLower_85 : decode cX11_marksLower 85 = .ok (.goto 9, 3) := by decide +kernel
theorem dX11_marksLower_88 : decode cX11_marksLower 88 = .ok (.aload_n 0, 1) := by decide +kernel
theorem dX11_marksLower_89 : decode cX11_marksLower 89 = .ok (.getfield 29, 3) := by decide +kernel
theorem dX11_marksLower_92 : decode cX11_marksLower 92 = .ok (.iload_n 1, 1) := by decide +kernel
theorem dX11_marksLower_93 : decode cX11_marksLower 93 = .ok (.iaload, 1) := by decide +kernel
theorem dX11_marksLower_94 : decode cX11_marksLower 94 = .ok (.iastore, 1) := by decide +kernel
theorem dX11_marksLower_95 : decode cX11_marksLower 95 = .ok (.iinc 2 1, 3) := by decide +kernel
theorem dX11_marksLower_98 : decode cX11_marksLower 98 = .ok (.goto (-96), 3) := by decide +kernel
theorem dX11_marksLower_101 : decode cX11_marksLower 101 = .ok (.return_, 1) := by decide +kernel
set_option maxRecDepth 20000 in
theorem ggX11_seam_X11_isCell : GoodIn wsX11_seam wsX11_isCell := goodIn_r _ [5, 6, 7, 4, 8] (by decide +kernel) (by decide +kernel)
set_option maxRecDepth 20000 in
theorem gX11_seam_X11_isCell : GoodIn wsX11_seam (va_wsS RX11 74 yX11_isCell wsX11_isCell) := goodIn_app (goodIn_of _ (by decide +kernel)) ggX11_seam_X11_isCell
set_option maxRecDepth 20000 in
theorem ggX11_seam_X11_goes : GoodIn wsX11_seam wsX11_goes := goodIn_r _ [12, 13, 14, 15, 4, 16, 17, 44, 45, 46, 47, 48, 49, 50, 51, 52, 53, 54, 55, 56, 57, 58, 59, 60, 61, 62] (by decide +kernel) (by decide +kernel)
set_option maxRecDepth 20000 in
theorem gX11_seam_X11_goes : GoodIn wsX11_seam (wsV RX11 62 RX11 yX11_goes wsX11_goes) := goodIn_app (goodIn_of _ (by decide +kernel)) ggX11_seam_X11_goes
set_option maxRecDepth 20000 in
theorem ggX11_seam_X11_marksSeams : GoodIn wsX11_seam wsX11_marksSeams := goodIn_ca (goodIn_r _ [21, 1, 22, 23, 24, 4, 25, 26, 27, 28, 29, 30, 31, 32, 33, 34, 35, 36, 37, 38, 39, 40, 2, 3, 5, 6, 7, 8, 44, 45, 46, 47, 48, 49, 50, 51, 52, 53, 54, 55, 56, 57, 58, 59, 60, 61, 62] (by decide +kernel) (by decide +kernel)) (goodIn_sub (fun _ h => List.mem_cons_of_mem _ (List.mem_append_right _ h)) (by decide +kernel))
set_option maxRecDepth 20000 in
theorem gX11_seam_X11_marksSeams : GoodIn wsX11_seam (wsV RX11 172 RX11 yX11_marksSeams wsX11_marksSeams) := goodIn_app (goodIn_of _ (by decide +kernel)) ggX11_seam_X11_marksSeams
set_option maxRecDepth 20000 in
theorem ggX11_seam_X11_cellAt : GoodIn wsX11_seam wsX11_cellAt := goodIn_r _ [43, 2, 3, 4, 5, 6, 7, 8] (by decide +kernel) (by decide +kernel)
set_option maxRecDepth 20000 in
theorem gX11_seam_X11_cellAt : GoodIn wsX11_seam (va_wsS RX11 93 yX11_cellAt wsX11_cellAt) := goodIn_app (goodIn_of _ (by decide +kernel)) ggX11_seam_X11_cellAt
set_option maxRecDepth 20000 in
theorem ggX11_seam_X11_of : GoodIn wsX11_seam wsX11_of := goodIn_ca (goodIn_r _ [25, 26, 27, 28, 4, 29, 44, 45, 46, 47, 48, 49, 50, 51, 52, 53, 54, 55, 56, 57, 58, 59, 60, 61, 62] (by decide +kernel) (by decide +kernel)) (goodIn_sub (fun _ h => List.mem_cons_of_mem _ (List.mem_append_right _ h)) (by decide +kernel))
set_option maxRecDepth 20000 in
theorem gX11_seam_X11_of : GoodIn wsX11_seam (wsV RX11 87 RX11 yX11_of wsX11_of) := goodIn_app (goodIn_of _ (by decide +kernel)) ggX11_seam_X11_of
theorem dX11_seam_0 : decode cX11_seam 0 = .ok (.aload_n 0, 1) := by decide +kernel
theorem dX11_seam_1 : decode cX11_seam 1 = .ok (.iload_n 1, 1) := by decide +kernel
theorem dX11_seam_2 : decode cX11_seam 2 = .ok (.iload_n 2, 1) := by decide +kernel
theorem dX11_seam_3 : decode cX11_seam 3 = .ok (.invokestatic 74, 3) := by decide +kernel
theorem dX11_seam_6 : decode cX11_seam 6 = .ok (.invokevirtual 62, 3) := by decide +kernel
theorem dX11_seam_9 : decode cX11_seam 9 = .ok (.ifCond .ne 5, 3) := by decide +kernel
theorem dX11_seam_12 : decode cX11_seam 12 = .ok (.iconst 0, 1) := by decide +kernel
theorem dX11_seam_13 : decode cX11_seam 13 = .ok (.ireturn, 1) := by decide +kernel
theorem dX11_seam_14 : decode cX11_seam 14 = .ok (.aload_n 0, 1) := by decide +kernel
theorem dX11_seam_15 : decode cX11_seam 15 = .ok (.invokevirtual 172, 3) := by decide +kernel
theorem dX11_seam_18 : decode cX11_seam 18 = .ok (.aload_n 0, 1) := by decide +kernel
theorem dX11_seam_19 : decode cX11_seam 19 = .ok (.getfield 29, 3) := by decide +kernel
theorem dX11_seam_22 : decode cX11_seam 22 = .ok (.iload_n 1, 1) := by decide +kernel
theorem dX11_seam_23 : decode cX11_seam 23 = .ok (.iload_n 2, 1) := by decide +kernel
theorem dX11_seam_24 : decode cX11_seam 24 = .ok (.invokestatic 93, 3) := by decide +kernel
theorem dX11_seam_27 : decode cX11_seam 27 = .ok (.iaload, 1) := by decide +kernel
theorem dX11_seam_28 : decode cX11_seam 28 = .ok (.istore 4, 2) := by decide +kernel
theorem dX11_seam_30 : decode cX11_seam 30 = .ok (.iconst 0, 1) := by decide +kernel
theorem dX11_seam_31 : decode cX11_seam 31 = .ok (.istore 5, 2) := by decide +kernel
theorem dX11_seam_33 : decode cX11_seam 33 = .ok (.iconst 0, 1) := by decide +kernel
theorem dX11_seam_34 : decode cX11_seam 34 = .ok (.istore 6, 2) := by decide +kernel
theorem dX11_seam_36 : decode cX11_seam 36 = .ok (.iload 6, 2) := by decide +kernel
theorem dX11_seam_38 : decode cX11_seam 38 = .ok (.bipush 30, 2) := by decide +kernel
theorem dX11_seam_40 : decode cX11_seam 40 = .ok (.if_icmp .ge 51, 3) := by decide +kernel
theorem dX11_seam_43 : decode cX11_seam 43 = .ok (.iload 5, 2) := by decide +kernel
theorem dX11_seam_45 : decode cX11_seam 45 = .ok (.iload 4, 2) := by decide +kernel
theorem dX11_seam_47 : decode cX11_seam 47 = .ok (.iconst (-1), 1) := by decide +kernel
theorem dX11_seam_48 : decode cX11_seam 48 = .ok (.if_icmp .eq 33, 3) := by decide +kernel
theorem dX11_seam_51 : decode cX11_seam 51 = .ok (.aload_n 0, 1) := by decide +kernel
theorem dX11_seam_52 : decode cX11_seam 52 = .ok (.getfield 29, 3) := by decide +kernel
theorem dX11_seam_55 : decode cX11_seam 55 = .ok (.iload 6, 2) := by decide +kernel
theorem dX11_seam_57 : decode cX11_seam 57 = .ok (.iaload, 1) := by decide +kernel
theorem dX11_seam_58 : decode cX11_seam 58 = .ok (.iload 4, 2) := by decide +kernel
theorem dX11_seam_60 : decode cX11_seam 60 = .ok (.if_icmp .ne 21, 3) := by decide +kernel
theorem dX11_seam_63 : decode cX11_seam 63 = .ok (.iload_n 3, 1) := by decide +kernel
theorem dX11_seam_64 : decode cX11_seam 64 = .ok (.ifCond .eq 13, 3) := by decide +kernel
theorem dX11_seam_67 : decode cX11_seam 67 = .ok (.aload_n 0, 1) := by decide +kernel
theorem dX11_seam_68 : decode cX11_seam 68 = .ok (.iload 6, 2) := by decide +kernel
theorem dX11_seam_70 : decode cX11_seam 70 = .ok (.iconst 0, 1) := by decide +kernel
theorem dX11_seam_71 : decode cX11_seam 71 = .ok (.invokevirtual 87, 3) := by decide +kernel
theorem dX11_seam_74 : decode cX11_seam 74 = .ok (.goto 8, 3) := by decide +kernel
theorem dX11_seam_77 : decode cX11_seam 77 = .ok (.iconst 1, 1) := by decide +kernel
theorem dX11_seam_78 : decode cX11_seam 78 = .ok (.goto 4, 3) := by decide +kernel
theorem dX11_seam_81 : decode cX11_seam 81 = .ok (.iconst 0, 1) := by decide +kernel
theorem dX11_seam_82 : decode cX11_seam 82 = .ok (.iadd, 1) := by decide +kernel
theorem dX11_seam_83 : decode cX11_seam 83 = .ok (.istore 5, 2) := by decide +kernel
theorem dX11_seam_85 : decode cX11_seam 85 = .ok (.iinc 6 1, 3) := by decide +kernel
theorem dX11_seam_88 : decode cX11_seam 88 = .ok (.goto (-52), 3) := by decide +kernel
theorem dX11_seam_91 : decode cX11_seam 91 = .ok (.iload 5, 2) := by decide +kernel
theorem dX11_seam_93 : decode cX11_seam 93 = .ok (.ireturn, 1) := by decide +kernel
set_option maxRecDepth 20000 in
theorem ggX11_seamSize_X11_seam : GoodIn wsX11_seamSize wsX11_seam := goodIn_ca (goodIn_r _ [5, 6, 7, 8, 4, 9, 10, 11, 12, 13, 14, 15, 16, 17, 18, 19, 20, 21, 22, 23, 24, 25, 26, 27, 28, 29, 30, 31, 32, 33, 34, 35, 36, 37, 38, 39, 40, 41, 42, 43, 44, 45, 46, 47, 48, 49, 50, 51, 52, 53, 54, 55, 56, 57, 58, 59, 60, 61, 62, 63, 64, 65, 66] (by decide +kernel) (by decide +kernel)) (goodIn_sub (fun _ h => List.mem_cons_of_mem _ (List.mem_append_right _ h)) (by decide +kernel))
set_option maxRecDepth 20000 in
theorem gX11_seamSize_X11_seam : GoodIn wsX11_seamSize (wsV RX11 175 RX11 yX11_seam wsX11_seam) := goodIn_app (goodIn_of _ (by decide +kernel)) ggX11_seamSize_X11_seam
theorem dX11_seamSize_0 : decode cX11_seamSize 0 = .ok (.aload_n 0, 1) := by decide +kernel
theorem dX11_seamSize_1 : decode cX11_seamSize 1 = .ok (.iload_n 1, 1) := by decide +kernel
theorem dX11_seamSize_2 : decode cX11_seamSize 2 = .ok (.iload_n 2, 1) := by decide +kernel
theorem dX11_seamSize_3 : decode cX11_seamSize 3 = .ok (.iconst 0, 1) := by decide +kernel
theorem dX11_seamSize_4 : decode cX11_seamSize 4 = .ok (.invokevirtual 175, 3) := by decide +kernel
theorem dX11_seamSize_7 : decode cX11_seamSize 7 = .ok (.ireturn, 1) := by decide +kernel
set_option maxRecDepth 20000 in
theorem ggX11_seamVolume_X11_seam : GoodIn wsX11_seamVolume wsX11_seam := goodIn_ca (goodIn_r _ [5, 6, 7, 8, 4, 9, 10, 11, 12, 13, 14, 15, 16, 17, 18, 19, 20, 21, 22, 23, 24, 25, 26, 27, 28, 29, 30, 31, 32, 33, 34, 35, 36, 37, 38, 39, 40, 41, 42, 43, 44, 45, 46, 47, 48, 49, 50, 51, 52, 53, 54, 55, 56, 57, 58, 59, 60, 61, 62, 63, 64, 65, 66] (by decide +kernel) (by decide +kernel)) (goodIn_sub (fun _ h => List.mem_cons_of_mem _ (List.mem_append_right _ h)) (by decide +kernel))
set_option maxRecDepth 20000 in
theorem gX11_seamVolume_X11_seam : GoodIn wsX11_seamVolume (wsV RX11 175 RX11 yX11_seam wsX11_seam) := goodIn_app (goodIn_of _ (by decide +kernel)) ggX11_seamVolume_X11_seam
theorem dX11_seamVolume_0 : decode cX11_seamVolume 0 = .ok (.aload_n 0, 1) := by decide +kernel
theorem dX11_seamVolume_1 : decode cX11_seamVolume 1 = .ok (.iload_n 1, 1) := by decide +kernel
theorem dX11_seamVolume_2 : decode cX11_seamVolume 2 = .ok (.iload_n 2, 1) := by decide +kernel
theorem dX11_seamVolume_3 : decode cX11_seamVolume 3 = .ok (.iconst 1, 1) := by decide +kernel
theorem dX11_seamVolume_4 : decode cX11_seamVolume 4 = .ok (.invokevirtual 175, 3) := by decide +kernel
theorem dX11_seamVolume_7 : decode cX11_seamVolume 7 = .ok (.ireturn, 1) := by decide +kernel
set_option maxRecDepth 20000 in
theorem ggX11_seams_X11_marksSeams : GoodIn wsX11_seams wsX11_marksSeams := goodIn_ca (goodIn_r _ [7, 2, 8, 9, 10, 6, 11, 12, 13, 14, 15, 16, 17, 18, 19, 20, 21, 22, 23, 24, 25, 26, 27, 28, 29, 30, 31, 32, 33, 34, 35, 36, 37, 38, 39, 40, 41, 42, 43, 44, 45, 46, 47, 48, 49, 50, 51] (by decide +kernel) (by decide +kernel)) (goodIn_sub (fun _ h => List.mem_cons_of_mem _ (List.mem_append_right _ h)) (by decide +kernel))
set_option maxRecDepth 20000 in
theorem gX11_seams_X11_marksSeams : GoodIn wsX11_seams (wsV RX11 172 RX11 yX11_marksSeams wsX11_marksSeams) := goodIn_app (goodIn_of _ (by decide +kernel)) ggX11_seams_X11_marksSeams
theorem dX11_seams_0 : decode cX11_seams 0 = .ok (.aload_n 0, 1) := by decide +kernel
theorem dX11_seams_1 : decode cX11_seams 1 = .ok (.iconst 0, 1) := by decide +kernel
theorem dX11_seams_2 : decode cX11_seams 2 = .ok (.putfield 45, 3) := by decide +kernel
theorem dX11_seams_5 : decode cX11_seams 5 = .ok (.aload_n 0, 1) := by decide +kernel
theorem dX11_seams_6 : decode cX11_seams 6 = .ok (.invokevirtual 172, 3) := by decide +kernel
theorem dX11_seams_9 : decode cX11_seams 9 = .ok (.iconst 0, 1) := by decide +kernel
theorem dX11_seams_10 : decode cX11_seams 10 = .ok (.istore_n 1, 1) := by decide +kernel
theorem dX11_seams_11 : decode cX11_seams 11 = .ok (.iconst 0, 1) := by decide +kernel
theorem dX11_seams_12 : decode cX11_seams 12 = .ok (.istore_n 2, 1) := by decide +kernel
theorem dX11_seams_13 : decode cX11_seams 13 = .ok (.iload_n 2, 1) := by decide +kernel
theorem dX11_seams_14 : decode cX11_seams 14 = .ok (.bipush 30, 2) := by decide +kernel
theorem dX11_seams_16 : decode cX11_seams 16 = .ok (.if_icmp .ge 27, 3) := by decide +kernel
theorem dX11_seams_19 : decode cX11_seams 19 = .ok (.iload_n 1, 1) := by decide +kernel
theorem dX11_seams_20 : decode cX11_seams 20 = .ok (.aload_n 0, 1) := by decide +kernel
theorem dX11_seams_21 : decode cX11_seams 21 = .ok (.getfield 29, 3) := by decide +kernel
theorem dX11_seams_24 : decode cX11_seams 24 = .ok (.iload_n 2, 1) := by decide +kernel
theorem dX11_seams_25 : decode cX11_seams 25 = .ok (.iaload, 1) := by decide +kernel
theorem dX11_seams_26 : decode cX11_seams 26 = .ok (.iload_n 2, 1) := by decide +kernel
theorem dX11_seams_27 : decode cX11_seams 27 = .ok (.if_icmp .ne 7, 3) := by decide +kernel
theorem dX11_seams_30 : decode cX11_seams 30 = .ok (.iconst 1, 1) := by decide +kernel
theorem dX11_seams_31 : decode cX11_seams 31 = .ok (.goto 4, 3) := by decide +kernel
theorem dX11_seams_34 : decode cX11_seams 34 = .ok (.iconst 0, 1) := by decide +kernel
theorem dX11_seams_35 : decode cX11_seams 35 = .ok (.iadd, 1) := by decide +kernel
theorem dX11_seams_36 : decode cX11_seams 36 = .ok (.istore_n 1, 1) := by decide +kernel
theorem dX11_seams_37 : decode cX11_seams 37 = .ok (.iinc 2 1, 3) := by decide +kernel
theorem dX11_seams_40 : decode cX11_seams 40 = .ok (.goto (-27), 3) := by decide +kernel
theorem dX11_seams_43 : decode cX11_seams 43 = .ok (.iload_n 1, 1) := by decide +kernel
theorem dX11_seams_44 : decode cX11_seams 44 = .ok (.ireturn, 1) := by decide +kernel
set_option maxRecDepth 20000 in
theorem ggX11_seamCount_X11_seams : GoodIn wsX11_seamCount wsX11_seams := goodIn_ca (goodIn_r _ [5, 6, 7, 8, 9, 10, 4, 11, 12, 13, 14, 15, 16, 17, 18, 19, 20, 21, 22, 23, 24, 25, 26, 27, 28, 29, 30, 31, 32, 33, 34, 35, 36, 37, 38, 39, 40, 41, 42, 43, 44, 45, 46, 47, 48, 49, 50, 51, 52, 53, 54, 55] (by decide +kernel) (by decide +kernel)) (goodIn_sub (fun _ h => List.mem_cons_of_mem _ (List.mem_append_right _ h)) (by decide +kernel))
set_option maxRecDepth 20000 in
theorem gX11_seamCount_X11_seams : GoodIn wsX11_seamCount (wsV RX11 179 RX11 yX11_seams wsX11_seams) := goodIn_app (goodIn_of _ (by decide +kernel)) ggX11_seamCount_X11_seams
theorem dX11_seamCount_0 : decode cX11_seamCount 0 = .ok (.aload_n 0, 1) := by decide +kernel
theorem dX11_seamCount_1 : decode cX11_seamCount 1 = .ok (.invokevirtual 179, 3) := by decide +kernel
theorem dX11_seamCount_4 : decode cX11_seamCount 4 = .ok (.ireturn, 1) := by decide +kernel
set_option maxRecDepth 20000 in
theorem ggX11_seamCountByMerging_X11_seams : GoodIn wsX11_seamCountByMerging wsX11_seams := goodIn_ca (goodIn_r _ [5, 6, 7, 8, 9, 10, 4, 11, 12, 13, 14, 15, 16, 17, 18, 19, 20, 21, 22, 23, 24, 25, 26, 27, 28, 29, 30, 31, 32, 33, 34, 35, 36, 37, 38, 39, 40, 41, 42, 43, 44, 45, 46, 47, 48, 49, 50, 51, 52, 53, 54, 55] (by decide +kernel) (by decide +kernel)) (goodIn_sub (fun _ h => List.mem_cons_of_mem _ (List.mem_append_right _ h)) (by decide +kernel))
set_option maxRecDepth 20000 in
theorem gX11_seamCountByMerging_X11_seams : GoodIn wsX11_seamCountByMerging (wsV RX11 179 RX11 yX11_seams wsX11_seams) := goodIn_app (goodIn_of _ (by decide +kernel)) ggX11_seamCountByMerging_X11_seams
theorem dX11_seamCountByMerging_0 : decode cX11_seamCountByMerging 0 = .ok (.aload_n 0, 1) := by decide +kernel
theorem dX11_seamCountByMerging_1 : decode cX11_seamCountByMerging 1 = .ok (.invokevirtual 179, 3) := by decide +kernel
theorem dX11_seamCountByMerging_4 : decode cX11_seamCountByMerging 4 = .ok (.ireturn, 1) := by decide +kernel
set_option maxRecDepth 20000 in
theorem ggX11_isStride_X11_beside : GoodIn wsX11_isStride wsX11_beside := goodIn_r _ [8, 9, 10, 7, 11, 12, 13, 14] (by decide +kernel) (by decide +kernel)
set_option maxRecDepth 20000 in
theorem gX11_isStride_X11_beside : GoodIn wsX11_isStride (va_wsS RX11 83 yX11_beside wsX11_beside) := goodIn_app (goodIn_of _ (by decide +kernel)) ggX11_isStride_X11_beside
set_option maxRecDepth 20000 in
theorem ggX11_isStride_X11_of : GoodIn wsX11_isStride wsX11_of := goodIn_ca (goodIn_r _ [18, 19, 20, 21, 7, 22, 23, 24, 25, 26, 27, 28, 29, 30, 31, 32, 33, 34, 35, 36, 37, 38, 39, 40, 41] (by decide +kernel) (by decide +kernel)) (goodIn_sub (fun _ h => List.mem_cons_of_mem _ (List.mem_append_right _ h)) (by decide +kernel))
set_option maxRecDepth 20000 in
theorem gX11_isStride_X11_of : GoodIn wsX11_isStride (wsV RX11 87 RX11 yX11_of wsX11_of) := goodIn_app (goodIn_of _ (by decide +kernel)) ggX11_isStride_X11_of
theorem dX11_isStride_0 : decode cX11_isStride 0 = .ok (.iload_n 1, 1) := by decide +kernel
theorem dX11_isStride_1 : decode cX11_isStride 1 = .ok (.iload_n 2, 1) := by decide +kernel
theorem dX11_isStride_2 : decode cX11_isStride 2 = .ok (.invokestatic 83, 3) := by decide +kernel
theorem dX11_isStride_5 : decode cX11_isStride 5 = .ok (.istore_n 3, 1) := by decide +kernel
theorem dX11_isStride_6 : decode cX11_isStride 6 = .ok (.iload_n 3, 1) := by decide +kernel
theorem dX11_isStride_7 : decode cX11_isStride 7 = .ok (.iconst (-1), 1) := by decide +kernel
theorem dX11_isStride_8 : decode cX11_isStride 8 = .ok (.if_icmp .eq 36, 3) := by decide +kernel
theorem dX11_isStride_11 : decode cX11_isStride 11 = .ok (.aload_n 0, 1) := by decide +kernel
theorem dX11_isStride_12 : decode cX11_isStride 12 = .ok (.iload_n 3, 1) := by decide +kernel
theorem dX11_isStride_13 : decode cX11_isStride 13 = .ok (.iconst 2, 1) := by decide +kernel
theorem dX11_isStride_14 : decode cX11_isStride 14 = .ok (.invokevirtual 87, 3) := by decide +kernel
theorem dX11_isStride_17 : decode cX11_isStride 17 = .ok (.ifCond .ne 27, 3) := by decide +kernel
theorem dX11_isStride_20 : decode cX11_isStride 20 = .ok (.aload_n 0, 1) := by decide +kernel
theorem dX11_isStride_21 : decode cX11_isStride 21 = .ok (.iload_n 1, 1) := by decide +kernel
theorem dX11_isStride_22 : decode cX11_isStride 22 = .ok (.iconst 0, 1) := by decide +kernel
theorem dX11_isStride_23 : decode cX11_isStride 23 = .ok (.invokevirtual 87, 3) := by decide +kernel
theorem dX11_isStride_26 : decode cX11_isStride 26 = .ok (.aload_n 0, 1) := by decide +kernel
theorem dX11_isStride_27 : decode cX11_isStride 27 = .ok (.iload_n 3, 1) := by decide +kernel
theorem dX11_isStride_28 : decode cX11_isStride 28 = .ok (.iconst 0, 1) := by decide +kernel
theorem dX11_isStride_29 : decode cX11_isStride 29 = .ok (.invokevirtual 87, 3) := by decide +kernel
theorem dX11_isStride_32 : decode cX11_isStride 32 = .ok (.isub, 1) := by decide +kernel
theorem dX11_isStride_33 : decode cX11_isStride 33 = .ok (.invokestatic 78, 3) := by decide +kernel
theorem dX11_isStride_36 : decode cX11_isStride 36 = .ok (.iconst 1, 1) := by decide +kernel
theorem dX11_isStride_37 : decode cX11_isStride 37 = .ok (.if_icmp .gt 7, 3) := by decide +kernel
theorem dX11_isStride_40 : decode cX11_isStride 40 = .ok (.iconst 1, 1) := by decide +kernel
theorem dX11_isStride_41 : decode cX11_isStride 41 = .ok (.goto 4, 3) := by decide +kernel
theorem dX11_isStride_44 : decode cX11_isStride 44 = .ok (.iconst 0, 1) := by decide +kernel
theorem dX11_isStride_45 : decode cX11_isStride 45 = .ok (.ireturn, 1) := by decide +kernel
set_option maxRecDepth 20000 in
theorem ggX11_measures_X11_of : GoodIn wsX11_measures wsX11_of := goodIn_ca (goodIn_r _ [6, 7, 8, 9, 5, 10, 32, 33, 34, 35, 36, 37, 38, 39, 40, 41, 42, 43, 44, 45, 46, 47, 48, 49, 50] (by decide +kernel) (by decide +kernel)) (goodIn_sub (fun _ h => List.mem_cons_of_mem _ (List.mem_append_right _ h)) (by decide +kernel))
set_option maxRecDepth 20000 in
theorem gX11_measures_X11_of : GoodIn wsX11_measures (wsV RX11 87 RX11 yX11_of wsX11_of) := goodIn_app (goodIn_of _ (by decide +kernel)) ggX11_measures_X11_of
set_option maxRecDepth 20000 in
theorem ggX11_measures_X11_strides : GoodIn wsX11_measures wsX11_strides := goodIn_ca (goodIn_r _ [14, 1, 15, 16, 5, 17, 18, 19, 20, 21, 22, 23, 24, 25, 26, 27, 28, 29, 30, 31, 2, 3, 4, 6, 7, 8, 9, 10, 32, 33, 34, 35, 36, 37, 38, 39, 40, 41, 42, 43, 44, 45, 46, 47, 48, 49, 50] (by decide +kernel) (by decide +kernel)) (goodIn_sub (fun _ h => List.mem_cons_of_mem _ (List.mem_append_right _ h)) (by decide +kernel))
set_option maxRecDepth 20000 in
theorem gX11_measures_X11_strides : GoodIn wsX11_measures (wsV RX11 183 RX11 yX11_strides wsX11_strides) := goodIn_app (goodIn_of _ (by decide +kernel)) ggX11_measures_X11_strides
theorem dX11_measures_0 : decode cX11_measures 0 = .ok (.iconst 0, 1) := by decide +kernel
theorem dX11_measures_1 : decode cX11_measures 1 = .ok (.istore_n 2, 1) := by decide +kernel
theorem dX11_measures_2 : decode cX11_measures 2 = .ok (.iload_n 2, 1) := by decide +kernel
theorem dX11_measures_3 : decode cX11_measures 3 = .ok (.bipush 30, 2) := by decide +kernel
theorem dX11_measures_5 : decode cX11_measures 5 = .ok (.if_icmp .ge 34, 3) := by decide +kernel
theorem dX11_measures_8 : decode cX11_measures 8 = .ok (.aload_n 0, 1) := by decide +kernel
theorem dX11_measures_9 : decode cX11_measures 9 = .ok (.getfield 29, 3) := by decide +kernel
theorem dX11_measures_12 : decode cX11_measures 12 = .ok (.iload_n 2, 1) := by decide +kernel
theorem dX11_measures_13 : decode cX11_measures 13 = .ok (.iload_n 2, 1) := by decide +kernel
theorem dX11_measures_14 : decode cX11_measures 14 = .ok (.iload_n 1, 1) := by decide +kernel
theorem dX11_measures_15 : decode cX11_measures 15 = .ok (.if_icmp .ne 16, 3) := by decide +kernel
theorem dX11_measures_18 : decode cX11_measures 18 = .ok (.aload_n 0, 1) := by decide +kernel
theorem dX11_measures_19 : decode cX11_measures 19 = .ok (.iload_n 2, 1) := by decide +kernel
theorem dX11_measures_20 : decode cX11_measures 20 = .ok (.iconst 2, 1) := by decide +kernel
theorem dX11_measures_21 : decode cX11_measures 21 = .ok (.invokevirtual 87, 3) := by decide +kernel
theorem dX11_measures_24 : decode cX11_measures 24 = .ok (.ifCond .ne 7, 3) := by decide +kernel
theorem dX11_measures_27 : decode cX11_measures 27 = .ok (.iconst 0, 1) := by decide +kernel
theorem dX11_measures_28 : decode cX11_measures 28 = .ok (.goto 4, 3) := by decide +kernel
theorem dX11_measures_31 : decode cX11_measures 31 = .ok (.iconst (-1), 1) := by decide +kernel
theorem dX11_measures_32 : decode cX11_measures 32 = .ok (.iastore, 1) := by decide +kernel
theorem dX11_measures_33 : decode cX11_measures 33 = .ok (.iinc 2 1, 3) := by decide +kernel
theorem dX11_measures_36 : decode cX11_measures 36 = .ok (.goto (-34), 3) := by decide +kernel
theorem dX11_measures_39 : decode cX11_measures 39 = .ok (.iconst 0, 1) := by decide +kernel
theorem dX11_measures_40 : decode cX11_measures 40 = .ok (.istore_n 2, 1) := by decide +kernel
theorem dX11_measures_41 : decode cX11_measures 41 = .ok (.iload_n 2, 1) := by decide +kernel
theorem dX11_measures_42 : decode cX11_measures 42 = .ok (.bipush 30, 2) := by decide +kernel
theorem dX11_measures_44 : decode cX11_measures 44 = .ok (.if_icmp .ge 29, 3) := by decide +kernel
theorem dX11_measures_47 : decode cX11_measures 47 = .ok (.iconst 0, 1) := by decide +kernel
theorem dX11_measures_48 : decode cX11_measures 48 = .ok (.istore_n 3, 1) := by decide +kernel
theorem dX11_measures_49 : decode cX11_measures 49 = .ok (.iload_n 3, 1) := by decide +kernel
theorem dX11_measures_50 : decode cX11_measures 50 = .ok (.bipush 30, 2) := by decide +kernel
theorem dX11_measures_52 : decode cX11_measures 52 = .ok (.if_icmp .ge 15, 3) := by decide +kernel
theorem dX11_measures_55 : decode cX11_measures 55 = .ok (.aload_n 0, 1) := by decide +kernel
theorem dX11_measures_56 : decode cX11_measures 56 = .ok (.iload_n 3, 1) := by decide +kernel
theorem dX11_measures_57 : decode cX11_measures 57 = .ok (.iload_n 2, 1) := by decide +kernel
theorem dX11_measures_58 : decode cX11_measures 58 = .ok (.invokevirtual 183, 3) := by decide +kernel
theorem dX11_measures_61 : decode cX11_measures 61 = .ok (.iinc 3 1, 3) := by decide +kernel
theorem dX11_measures_64 : decode cX11_measures 64 = .ok (.goto (-15), 3) := by decide +kernel
theorem dX11_measures_67 : decode cX11_measures 67 = .ok (.iinc 2 1, 3) := by decide +kernel
theorem dX11_measures_70 : decode cX11_measures 70 = .ok (.goto (-29), 3) := by decide +kernel
theorem dX11_measures_73 : decode cX11_measures 73 = .ok (.return_, 1) := by decide +kernel
set_option maxRecDepth 20000 in
theorem ggX11_strides_X11_beside : GoodIn wsX11_strides wsX11_beside := goodIn_r _ [5, 6, 7, 4, 8, 9, 10, 11] (by decide +kernel) (by decide +kernel)
set_option maxRecDepth 20000 in
theorem gX11_strides_X11_beside : GoodIn wsX11_strides (va_wsS RX11 83 yX11_beside wsX11_beside) := goodIn_app (goodIn_of _ (by decide +kernel)) ggX11_strides_X11_beside
set_option maxRecDepth 20000 in
theorem ggX11_strides_X11_isStride : GoodIn wsX11_strides wsX11_isStride := goodIn_ca (goodIn_r _ [15, 16, 17, 18, 19, 2, 3, 4, 5, 6, 7, 8, 9, 10, 11, 20, 21, 22, 23, 24, 25, 26, 27, 28, 29, 30, 31, 32, 33, 34, 35, 36, 37, 38, 39, 40, 41, 42, 43, 44, 45, 46] (by decide +kernel) (by decide +kernel)) (goodIn_sub (fun _ h => List.mem_cons_of_mem _ (List.mem_append_right _ h)) (by decide +kernel))
set_option maxRecDepth 20000 in
theorem gX11_strides_X11_isStride : GoodIn wsX11_strides (wsV RX11 187 RX11 yX11_isStride wsX11_isStride) := goodIn_app (goodIn_of _ (by decide +kernel)) ggX11_strides_X11_isStride
theorem dX11_strides_0 : decode cX11_strides 0 = .ok (.iconst 0, 1) := by decide +kernel
theorem dX11_strides_1 : decode cX11_strides 1 = .ok (.istore_n 3, 1) := by decide +kernel
theorem dX11_strides_2 : decode cX11_strides 2 = .ok (.iload_n 3, 1) := by decide +kernel
theorem dX11_strides_3 : decode cX11_strides 3 = .ok (.iconst 4, 1) := by decide +kernel
theorem dX11_strides_4 : decode cX11_strides 4 = .ok (.if_icmp .ge 56, 3) := by decide +kernel
theorem dX11_strides_7 : decode cX11_strides 7 = .ok (.aload_n 0, 1) := by decide +kernel
theorem dX11_strides_8 : decode cX11_strides 8 = .ok (.getfield 29, 3) := by decide +kernel
theorem dX11_strides_11 : decode cX11_strides 11 = .ok (.iload_n 1, 1) := by decide +kernel
theorem dX11_strides_12 : decode cX11_strides 12 = .ok (.iaload, 1) := by decide +kernel
theorem dX11_strides_13 : decode cX11_strides 13 = .ok (.iload_n 2, 1) := by decide +kernel
theorem dX11_strides_14 : decode cX11_strides 14 = .ok (.if_icmp .ne 46, 3) := by decide +kernel
theorem dX11_strides_17 : decode cX11_strides 17 = .ok (.iload_n 1, 1) := by decide +kernel
theorem dX11_strides_18 : decode cX11_strides 18 = .ok (.iload_n 3, 1) := by decide +kernel
theorem dX11_strides_19 : decode cX11_strides 19 = .ok (.invokestatic 83, 3) := by decide +kernel
theorem dX11_strides_22 : decode cX11_strides 22 = .ok (.istore 4, 2) := by decide +kernel
theorem dX11_strides_24 : decode cX11_strides 24 = .ok (.aload_n 0, 1) := by decide +kernel
theorem dX11_strides_25 : decode cX11_strides 25 = .ok (.iload_n 1, 1) := by decide +kernel
theorem dX11_strides_26 : decode cX11_strides 26 = .ok (.iload_n 3, 1) := by decide +kernel
theorem dX11_strides_27 : decode cX11_strides 27 = .ok (.invokevirtual 187, 3) := by decide +kernel
theorem dX11_strides_30 : decode cX11_strides 30 = .ok (.ifCond .eq 24, 3) := by decide +kernel
theorem dX11_strides_33 : decode cX11_strides 33 = .ok (.aload_n 0, 1) := by decide +kernel
theorem dX11_strides_34 : decode cX11_strides 34 = .ok (.getfield 29, 3) := by decide +kernel
theorem dX11_strides_37 : decode cX11_strides 37 = .ok (.iload 4, 2) := by decide +kernel
theorem dX11_strides_39 : decode cX11_strides 39 = .ok (.iaload, 1) := by decide +kernel
theorem dX11_strides_40 : decode cX11_strides 40 = .ok (.iconst (-1), 1) := by decide +kernel
theorem dX11_strides_41 : decode cX11_strides 41 = .ok (.if_icmp .ne 13, 3) := by decide +kernel
theorem dX11_strides_44 : decode cX11_strides 44 = .ok (.aload_n 0, 1) := by decide +kernel
theorem dX11_strides_45 : decode cX11_strides 45 = .ok (.getfield 29, 3) := by decide +kernel
theorem dX11_strides_48 : decode cX11_strides 48 = .ok (.iload 4, 2) := by decide +kernel
theorem dX11_strides_50 : decode cX11_strides 50 = .ok (.iload_n 2, 1) := by decide +kernel
theorem dX11_strides_51 : decode cX11_strides 51 = .ok (.iconst 1, 1) := by decide +kernel
theorem dX11_strides_52 : decode cX11_strides 52 = .ok (.iadd, 1) := by decide +kernel
theorem dX11_strides_53 : decode cX11_strides 53 = .ok (.iastore, 1) := by decide +kernel
theorem dX11_strides_54 : decode cX11_strides 54 = .ok (.iinc 3 1, 3) := by decide +kernel
theorem dX11_strides_57 : decode cX11_strides 57 = .ok (.goto (-55), 3) := by decide +kernel
theorem dX11_strides_60 : decode cX11_strides 60 = .ok (.return_, 1) := by decide +kernel
set_option maxRecDepth 20000 in
theorem ggX11_footpath_X11_cellAt : GoodIn wsX11_footpath wsX11_cellAt := goodIn_r _ [5, 6, 7, 4, 8, 9, 10, 11] (by decide +kernel) (by decide +kernel)
set_option maxRecDepth 20000 in
theorem gX11_footpath_X11_cellAt : GoodIn wsX11_footpath (va_wsS RX11 93 yX11_cellAt wsX11_cellAt) := goodIn_app (goodIn_of _ (by decide +kernel)) ggX11_footpath_X11_cellAt
set_option maxRecDepth 20000 in
theorem ggX11_footpath_X11_measures : GoodIn wsX11_footpath wsX11_measures := goodIn_ca (goodIn_r _ [15, 1, 16, 17, 18, 4, 19, 20, 21, 22, 23, 24, 25, 26, 27, 28, 29, 30, 6, 7, 8, 9, 10, 11, 31, 32, 33, 34, 35, 36, 37, 38, 44, 45, 46, 47, 48, 49, 50, 51, 52, 53, 54, 55, 56, 57, 58, 59, 60, 61, 62] (by decide +kernel) (by decide +kernel)) (goodIn_sub (fun _ h => List.mem_cons_of_mem _ (List.mem_append_right _ h)) (by decide +kernel))
set_option maxRecDepth 20000 in
theorem gX11_footpath_X11_measures : GoodIn wsX11_footpath (wsV RX11 190 RX11 yX11_measures wsX11_measures) := goodIn_app (goodIn_of _ (by decide +kernel)) ggX11_footpath_X11_measures
set_option maxRecDepth 20000 in
theorem ggX11_footpath_X11_isCell : GoodIn wsX11_footpath wsX11_isCell := goodIn_r _ [8, 9, 10, 4, 11] (by decide +kernel) (by decide +kernel)
set_option maxRecDepth 20000 in
theorem gX11_footpath_X11_isCell : GoodIn wsX11_footpath (va_wsS RX11 74 yX11_isCell wsX11_isCell) := goodIn_app (goodIn_of _ (by decide +kernel)) ggX11_footpath_X11_isCell
set_option maxRecDepth 20000 in
theorem ggX11_footpath_X11_holds : GoodIn wsX11_footpath wsX11_holds := goodIn_r _ [42, 43, 44, 45, 46, 47, 48, 49, 50, 51, 52, 53, 54, 55, 56, 57, 58, 59, 60, 61, 62] (by decide +kernel) (by decide +kernel)
set_option maxRecDepth 20000 in
theorem gX11_footpath_X11_holds : GoodIn wsX11_footpath (wsV RX11 48 RX11 yX11_holds wsX11_holds) := goodIn_app (goodIn_of _ (by decide +kernel)) ggX11_footpath_X11_holds
theorem dX11_footpath_0 : decode cX11_footpath 0 = .ok (.aload_n 0, 1) := by decide +kernel
theorem dX11_footpath_1 : decode cX11_footpath 1 = .ok (.iload_n 1, 1) := by decide +kernel
theorem dX11_footpath_2 : decode cX11_footpath 2 = .ok (.iload_n 2, 1) := by decide +kernel
theorem dX11_footpath_3 : decode cX11_footpath 3 = .ok (.invokestatic 93, 3) := by decide +kernel
theorem dX11_footpath_6 : decode cX11_footpath 6 = .ok (.invokevirtual 190, 3) := by decide +kernel
theorem dX11_footpath_9 : decode cX11_footpath 9 = .ok (.aload_n 0, 1) := by decide +kernel
theorem dX11_footpath_10 : decode cX11_footpath 10 = .ok (.getfield 29, 3) := by decide +kernel
theorem dX11_footpath_13 : decode cX11_footpath 13 = .ok (.iload_n 3, 1) := by decide +kernel
theorem dX11_footpath_14 : decode cX11_footpath 14 = .ok (.iload 4, 2) := by decide +kernel
theorem dX11_footpath_16 : decode cX11_footpath 16 = .ok (.invokestatic 93, 3) := by decide +kernel
theorem dX11_footpath_19 : decode cX11_footpath 19 = .ok (.iaload, 1) := by decide +kernel
theorem dX11_footpath_20 : decode cX11_footpath 20 = .ok (.istore 5, 2) := by decide +kernel
theorem dX11_footpath_22 : decode cX11_footpath 22 = .ok (.aload_n 0, 1) := by decide +kernel
theorem dX11_footpath_23 : decode cX11_footpath 23 = .ok (.iload_n 1, 1) := by decide +kernel
theorem dX11_footpath_24 : decode cX11_footpath 24 = .ok (.iload_n 2, 1) := by decide +kernel
theorem dX11_footpath_25 : decode cX11_footpath 25 = .ok (.invokestatic 74, 3) := by decide +kernel
theorem dX11_footpath_28 : decode cX11_footpath 28 = .ok (.ifCond .eq 16, 3) := by decide +kernel
theorem dX11_footpath_31 : decode cX11_footpath 31 = .ok (.iload_n 3, 1) := by decide +kernel
theorem dX11_footpath_32 : decode cX11_footpath 32 = .ok (.iload 4, 2) := by decide +kernel
theorem dX11_footpath_34 : decode cX11_footpath 34 = .ok (.invokestatic 74, 3) := by decide +kernel
theorem dX11_footpath_37 : decode cX11_footpath 37 = .ok (.ifCond .eq 7, 3) := by decide +kernel
theorem dX11_footpath_40 : decode cX11_footpath 40 = .ok (.iconst 1, 1) := by decide +kernel
theorem dX11_footpath_41 : decode cX11_footpath 41 = .ok (.goto 4, 3) := by decide +kernel
theorem dX11_footpath_44 : decode cX11_footpath 44 = .ok (.iconst 0, 1) := by decide +kernel
theorem dX11_footpath_45 : decode cX11_footpath 45 = .ok (.iload 5, 2) := by decide +kernel
theorem dX11_footpath_47 : decode cX11_footpath 47 = .ok (.iconst (-1), 1) := by decide +kernel
theorem dX11_footpath_48 : decode cX11_footpath 48 = .ok (.if_icmp .eq 7, 3) := by decide +kernel
theorem dX11_footpath_51 : decode cX11_footpath 51 = .ok (.iconst 1, 1) := by decide +kernel
theorem dX11_footpath_52 : decode cX11_footpath 52 = .ok (.goto 4, 3) := by decide +kernel
theorem dX11_footpath_55 : decode cX11_footpath 55 = .ok (.iconst 0, 1) := by decide +kernel
theorem dX11_footpath_56 : decode cX11_footpath 56 = .ok (.iconst 1, 1) := by decide +kernel
theorem dX11_footpath_57 : decode cX11_footpath 57 = .ok (.iconst 1, 1) := by decide +kernel
theorem dX11_footpath_58 : decode cX11_footpath 58 = .ok (.invokevirtual 48, 3) := by decide +kernel
theorem dX11_footpath_61 : decode cX11_footpath 61 = .ok (.ifCond .eq 8, 3) := by decide +kernel
theorem dX11_footpath_64 : decode cX11_footpath 64 = .ok (.iload 5, 2) := by decide +kernel
theorem dX11_footpath_66 : decode cX11_footpath 66 = .ok (.goto 4, 3) := by decide +kernel
theorem dX11_footpath_69 : decode cX11_footpath 69 = .ok (.iconst 0, 1) := by decide +kernel
theorem dX11_footpath_70 : decode cX11_footpath 70 = .ok (.ireturn, 1) := by decide +kernel
theorem dX11_winchCount_0 : decode cX11_winchCount 0 = .ok (.aload_n 0, 1) := by decide +kernel
theorem dX11_winchCount_1 : decode cX11_winchCount 1 = .ok (.iconst 0, 1) := by decide +kernel
theorem dX11_winchCount_2 : decode cX11_winchCount 2 = .ok (.putfield 45, 3) := by decide +kernel
theorem dX11_winchCount_5 : decode cX11_winchCount 5 = .ok (.aload_n 0, 1) := by decide +kernel
theorem dX11_winchCount_6 : decode cX11_winchCount 6 = .ok (.getfield 9, 3) := by decide +kernel
theorem dX11_winchCount_9 : decode cX11_winchCount 9 = .ok (.iconst 5, 1) := by decide +kernel
theorem dX11_winchCount_10 : decode cX11_winchCount 10 = .ok (.iaload, 1) := by decide +kernel
theorem dX11_winchCount_11 : decode cX11_winchCount 11 = .ok (.ireturn, 1) := by decide +kernel
set_option maxRecDepth 20000 in
theorem ggX11_liftableCells_X11_isWinch : GoodIn wsX11_liftableCells wsX11_isWinch := goodIn_ca (goodIn_r _ [5, 6, 7, 8, 4, 9, 48, 49, 50, 51, 52, 53, 54, 55, 56, 57, 58, 59, 60, 61, 62, 63, 64, 65, 66] (by decide +kernel) (by decide +kernel)) (goodIn_sub (fun _ h => List.mem_cons_of_mem _ (List.mem_append_right _ h)) (by decide +kernel))
set_option maxRecDepth 20000 in
theorem gX11_liftableCells_X11_isWinch : GoodIn wsX11_liftableCells (wsV RX11 147 RX11 yX11_isWinch wsX11_isWinch) := goodIn_app (goodIn_of _ (by decide +kernel)) ggX11_liftableCells_X11_isWinch
set_option maxRecDepth 20000 in
theorem ggX11_liftableCells_X11_of : GoodIn wsX11_liftableCells wsX11_of := goodIn_ca (goodIn_r _ [13, 6, 14, 15, 4, 16, 48, 49, 50, 51, 52, 53, 54, 55, 56, 57, 58, 59, 60, 61, 62, 63, 64, 65, 66] (by decide +kernel) (by decide +kernel)) (goodIn_sub (fun _ h => List.mem_cons_of_mem _ (List.mem_append_right _ h)) (by decide +kernel))
set_option maxRecDepth 20000 in
theorem gX11_liftableCells_X11_of : GoodIn wsX11_liftableCells (wsV RX11 87 RX11 yX11_of wsX11_of) := goodIn_app (goodIn_of _ (by decide +kernel)) ggX11_liftableCells_X11_of
set_option maxRecDepth 20000 in
theorem ggX11_liftableCells_X11_canLift : GoodIn wsX11_liftableCells wsX11_canLift := goodIn_ca (goodIn_r _ [20, 21, 22, 23, 4, 24, 10, 11, 12, 13, 6, 14, 15, 16, 25, 26, 27, 28, 29, 30, 31, 32, 33, 34, 35, 36, 37, 38, 48, 49, 50, 51, 52, 53, 54, 55, 56, 57, 58, 59, 60, 61, 62, 63, 64, 65, 66] (by decide +kernel) (by decide +kernel)) (goodIn_sub (fun _ h => List.mem_cons_of_mem _ (List.mem_append_right _ h)) (by decide +kernel))
set_option maxRecDepth 20000 in
theorem gX11_liftableCells_X11_canLift : GoodIn wsX11_liftableCells (wsV RX11 150 RX11 yX11_canLift wsX11_canLift) := goodIn_app (goodIn_of _ (by decide +kernel)) ggX11_liftableCells_X11_canLift
set_option maxRecDepth 20000 in
theorem ggX11_liftableCells_X11_goes : GoodIn wsX11_liftableCells wsX11_goes := goodIn_r _ [42, 43, 44, 45, 4, 46, 47, 48, 49, 50, 51, 52, 53, 54, 55, 56, 57, 58, 59, 60, 61, 62, 63, 64, 65, 66] (by decide +kernel) (by decide +kernel)
set_option maxRecDepth 20000 in
theorem gX11_liftableCells_X11_goes : GoodIn wsX11_liftableCells (wsV RX11 62 RX11 yX11_goes wsX11_goes) := goodIn_app (goodIn_of _ (by decide +kernel)) ggX11_liftableCells_X11_goes
theorem dX11_liftableCells_0 : decode cX11_liftableCells 0 = .ok (.iconst 0, 1) := by decide +kernel
theorem dX11_liftableCells_1 : decode cX11_liftableCells 1 = .ok (.istore_n 2, 1) := by decide +kernel
theorem dX11_liftableCells_2 : decode cX11_liftableCells 2 = .ok (.iconst 0, 1) := by decide +kernel
theorem dX11_liftableCells_3 : decode cX11_liftableCells 3 = .ok (.istore_n 3, 1) := by decide +kernel
theorem dX11_liftableCells_4 : decode cX11_liftableCells 4 = .ok (.iload_n 3, 1) := by decide +kernel
theorem dX11_liftableCells_5 : decode cX11_liftableCells 5 = .ok (.bipush 30, 2) := by decide +kernel
theorem dX11_liftableCells_7 : decode cX11_liftableCells 7 = .ok (.if_icmp .ge 43, 3) := by decide +kernel
theorem dX11_liftableCells_10 : decode cX11_liftableCells 10 = .ok (.aload_n 0, 1) := by decide +kernel
theorem dX11_liftableCells_11 : decode cX11_liftableCells 11 = .ok (.iload_n 1, 1) := by decide +kernel
theorem dX11_liftableCells_12 : decode cX11_liftableCells 12 = .ok (.invokevirtual 147, 3) := by decide +kernel
theorem dX11_liftableCells_15 : decode cX11_liftableCells 15 = .ok (.ifCond .eq 35, 3) := by decide +kernel
theorem dX11_liftableCells_18 : decode cX11_liftableCells 18 = .ok (.iload_n 2, 1) := by decide +kernel
theorem dX11_liftableCells_19 : decode cX11_liftableCells 19 = .ok (.aload_n 0, 1) := by decide +kernel
theorem dX11_liftableCells_20 : decode cX11_liftableCells 20 = .ok (.iload_n 3, 1) := by decide +kernel
theorem dX11_liftableCells_21 : decode cX11_liftableCells 21 = .ok (.iconst 2, 1) := by decide +kernel
theorem dX11_liftableCells_22 : decode cX11_liftableCells 22 = .ok (.invokevirtual 87, 3) := by decide +kernel
theorem dX11_liftableCells_25 : decode cX11_liftableCells 25 = .ok (.ifCond .ne 16, 3) := by decide +kernel
theorem dX11_liftableCells_28 : decode cX11_liftableCells 28 = .ok (.aload_n 0, 1) := by decide +kernel
theorem dX11_liftableCells_29 : decode cX11_liftableCells 29 = .ok (.iload_n 1, 1) := by decide +kernel
theorem dX11_liftableCells_30 : decode cX11_liftableCells 30 = .ok (.iload_n 3, 1) := by decide +kernel
theorem dX11_liftableCells_31 : decode cX11_liftableCells 31 = .ok (.invokevirtual 150, 3) := by decide +kernel
theorem dX11_liftableCells_34 : decode cX11_liftableCells 34 = .ok (.ifCond .eq 7, 3) := by decide +kernel
theorem dX11_liftableCells_37 : decode cX11_liftableCells 37 = .ok (.iconst 1, 1) := by decide +kernel
theorem dX11_liftableCells_38 : decode cX11_liftableCells 38 = .ok (.goto 4, 3) := by decide +kernel
theorem dX11_liftableCells_41 : decode cX11_liftableCells 41 = .ok (.iconst 0, 1) := by decide +kernel
theorem dX11_liftableCells_42 : decode cX11_liftableCells 42 = .ok (.iadd, 1) := by decide +kernel
theorem dX11_liftableCells_43 : decode cX11_liftableCells 43 = .ok (.istore_n 2, 1) := by decide +kernel
theorem dX11_liftableCells_44 : decode cX11_liftableCells 44 = .ok (.iinc 3 1, 3) := by decide +kernel
theorem dX11_liftableCells_47 : decode cX11_liftableCells 47 = .ok (.goto (-43), 3) := by decide +kernel
theorem dX11_liftableCells_50 : decode cX11_liftableCells 50 = .ok (.aload_n 0, 1) := by decide +kernel
theorem dX11_liftableCells_51 : decode cX11_liftableCells 51 = .ok (.aload_n 0, 1) := by decide +kernel
theorem dX11_liftableCells_52 : decode cX11_liftableCells 52 = .ok (.iload_n 1, 1) := by decide +kernel
theorem dX11_liftableCells_53 : decode cX11_liftableCells 53 = .ok (.invokevirtual 147, 3) := by decide +kernel
theorem dX11_liftableCells_56 : decode cX11_liftableCells 56 = .ok (.invokevirtual 62, 3) := by decide +kernel
theorem dX11_liftableCells_59 : decode cX11_liftableCells 59 = .ok (.ifCond .eq 7, 3) := by decide +kernel
theorem dX11_liftableCells_62 : decode cX11_liftableCells 62 = .ok (.iload_n 2, 1) := by decide +kernel
theorem dX11_liftableCells_63 : decode cX11_liftableCells 63 = .ok (.goto 4, 3) := by decide +kernel
theorem dX11_liftableCells_66 : decode cX11_liftableCells 66 = .ok (.iconst 0, 1) := by decide +kernel
theorem dX11_liftableCells_67 : decode cX11_liftableCells 67 = .ok (.ireturn, 1) := by decide +kernel
set_option maxRecDepth 20000 in
theorem ggX11_bestWinch_X11_cellAt : GoodIn wsX11_bestWinch wsX11_cellAt := goodIn_r _ [5, 6, 7, 4, 8, 9, 10, 11] (by decide +kernel) (by decide +kernel)
set_option maxRecDepth 20000 in
theorem gX11_bestWinch_X11_cellAt : GoodIn wsX11_bestWinch (va_wsS RX11 93 yX11_cellAt wsX11_cellAt) := goodIn_app (goodIn_of _ (by decide +kernel)) ggX11_bestWinch_X11_cellAt
set_option maxRecDepth 20000 in
theorem ggX11_bestWinch_X11_of : GoodIn wsX11_bestWinch wsX11_of := goodIn_ca (goodIn_r _ [15, 1, 16, 17, 4, 18, 46, 47, 48, 49, 50, 51, 52, 53, 54, 55, 56, 57, 58, 59, 60, 61, 62, 63, 64] (by decide +kernel) (by decide +kernel)) (goodIn_sub (fun _ h => List.mem_cons_of_mem _ (List.mem_append_right _ h)) (by decide +kernel))
set_option maxRecDepth 20000 in
theorem gX11_bestWinch_X11_of : GoodIn wsX11_bestWinch (wsV RX11 87 RX11 yX11_of wsX11_of) := goodIn_app (goodIn_of _ (by decide +kernel)) ggX11_bestWinch_X11_of
set_option maxRecDepth 20000 in
theorem ggX11_bestWinch_X11_canLift : GoodIn wsX11_bestWinch wsX11_canLift := goodIn_ca (goodIn_r _ [22, 23, 24, 25, 4, 26, 12, 13, 14, 15, 1, 16, 17, 18, 27, 28, 29, 30, 31, 32, 33, 34, 35, 36, 37, 38, 39, 40, 46, 47, 48, 49, 50, 51, 52, 53, 54, 55, 56, 57, 58, 59, 60, 61, 62, 63, 64] (by decide +kernel) (by decide +kernel)) (goodIn_sub (fun _ h => List.mem_cons_of_mem _ (List.mem_append_right _ h)) (by decide +kernel))
set_option maxRecDepth 20000 in
theorem gX11_bestWinch_X11_canLift : GoodIn wsX11_bestWinch (wsV RX11 150 RX11 yX11_canLift wsX11_canLift) := goodIn_app (goodIn_of _ (by decide +kernel)) ggX11_bestWinch_X11_canLift
set_option maxRecDepth 20000 in
theorem ggX11_bestWinch_X11_ofWinch : GoodIn wsX11_bestWinch wsX11_ofWinch := goodIn_ca (goodIn_r _ [30, 1, 46, 47, 48, 49, 50, 51, 52, 53, 54, 55, 56, 57, 58, 59, 60, 61, 62, 63, 64] (by decide +kernel) (by decide +kernel)) (goodIn_sub (fun _ h => List.mem_cons_of_mem _ (List.mem_append_right _ h)) (by decide +kernel))
set_option maxRecDepth 20000 in
theorem gX11_bestWinch_X11_ofWinch : GoodIn wsX11_bestWinch (wsV RX11 128 RX11 yX11_ofWinch wsX11_ofWinch) := goodIn_app (goodIn_of _ (by decide +kernel)) ggX11_bestWinch_X11_ofWinch
set_option maxRecDepth 20000 in
theorem ggX11_bestWinch_X11_isCell : GoodIn wsX11_bestWinch wsX11_isCell := goodIn_r _ [8, 9, 10, 4, 11] (by decide +kernel) (by decide +kernel)
set_option maxRecDepth 20000 in
theorem gX11_bestWinch_X11_isCell : GoodIn wsX11_bestWinch (va_wsS RX11 74 yX11_isCell wsX11_isCell) := goodIn_app (goodIn_of _ (by decide +kernel)) ggX11_bestWinch_X11_isCell
set_option maxRecDepth 20000 in
theorem ggX11_bestWinch_X11_holds : GoodIn wsX11_bestWinch wsX11_holds := goodIn_r _ [44, 45, 46, 47, 48, 49, 50, 51, 52, 53, 54, 55, 56, 57, 58, 59, 60, 61, 62, 63, 64] (by decide +kernel) (by decide +kernel)
set_option maxRecDepth 20000 in
theorem gX11_bestWinch_X11_holds : GoodIn wsX11_bestWinch (wsV RX11 48 RX11 yX11_holds wsX11_holds) := goodIn_app (goodIn_of _ (by decide +kernel)) ggX11_bestWinch_X11_holds
theorem dX11_bestWinch_0 : decode cX11_bestWinch 0 = .ok (.iload_n 1, 1) := by decide +kernel
theorem dX11_bestWinch_1 : decode cX11_bestWinch 1 = .ok (.iload_n 2, 1) := by decide +kernel
theorem dX11_bestWinch_2 : decode cX11_bestWinch 2 = .ok (.invokestatic 93, 3) := by decide +kernel
theorem dX11_bestWinch_5 : decode cX11_bestWinch 5 = .ok (.istore_n 3, 1) := by decide +kernel
theorem dX11_bestWinch_6 : decode cX11_bestWinch 6 = .ok (.iconst (-1), 1) := by decide +kernel
theorem dX11_bestWinch_7 : decode cX11_bestWinch 7 = .ok (.istore 4, 2) := by decide +kernel
theorem dX11_bestWinch_9 : decode cX11_bestWinch 9 = .ok (.iconst 0, 1) := by decide +kernel
theorem dX11_bestWinch_10 : decode cX11_bestWinch 10 = .ok (.istore 5, 2) := by decide +kernel
theorem dX11_bestWinch_12 : decode cX11_bestWinch 12 = .ok (.iload 5, 2) := by decide +kernel
theorem dX11_bestWinch_14 : decode cX11_bestWinch 14 = .ok (.aload_n 0, 1) := by decide +kernel
theorem dX11_bestWinch_15 : decode cX11_bestWinch 15 = .ok (.getfield 9, 3) := by decide +kernel
theorem dX11_bestWinch_18 : decode cX11_bestWinch 18 = .ok (.iconst 5, 1) := by decide +kernel
theorem dX11_bestWinch_19 : decode cX11_bestWinch 19 = .ok (.iaload, 1) := by decide +kernel
theorem dX11_bestWinch_20 : decode cX11_bestWinch 20 = .ok (.if_icmp .ge 72, 3) := by decide +kernel
theorem dX11_bestWinch_23 : decode cX11_bestWinch 23 = .ok (.aload_n 0, 1) := by decide +kernel
theorem dX11_bestWinch_24 : decode cX11_bestWinch 24 = .ok (.iload_n 3, 1) := by decide +kernel
theorem dX11_bestWinch_25 : decode cX11_bestWinch 25 = .ok (.iconst 2, 1) := by decide +kernel
theorem dX11_bestWinch_26 : decode cX11_bestWinch 26 = .ok (.invokevirtual 87, 3) := by decide +kernel
theorem dX11_bestWinch_29 : decode cX11_bestWinch 29 = .ok (.ifCond .ne 17, 3) := by decide +kernel
theorem dX11_bestWinch_32 : decode cX11_bestWinch 32 = .ok (.aload_n 0, 1) := by decide +kernel
theorem dX11_bestWinch_33 : decode cX11_bestWinch 33 = .ok (.iload 5, 2) := by decide +kernel
theorem dX11_bestWinch_35 : decode cX11_bestWinch 35 = .ok (.iload_n 3, 1) := by decide +kernel
theorem dX11_bestWinch_36 : decode cX11_bestWinch 36 = .ok (.invokevirtual 150, 3) := by decide +kernel
theorem dX11_bestWinch_39 : decode cX11_bestWinch 39 = .ok (.ifCond .eq 7, 3) := by decide +kernel
theorem dX11_bestWinch_42 : decode cX11_bestWinch 42 = .ok (.iconst 1, 1) := by decide +kernel
theorem dX11_bestWinch_43 : decode cX11_bestWinch 43 = .ok (.goto 4, 3) := by decide +kernel
theorem dX11_bestWinch_46 : decode cX11_bestWinch 46 = .ok (.iconst 0, 1) := by decide +kernel
theorem dX11_bestWinch_47 : decode cX11_bestWinch 47 = .ok (.istore 6, 2) := by decide +kernel
theorem dX11_bestWinch_49 : decode cX11_bestWinch 49 = .ok (.iload 6, 2) := by decide +kernel
theorem dX11_bestWinch_51 : decode cX11_bestWinch 51 = .ok (.ifCond .eq 31, 3) := by decide +kernel
theorem dX11_bestWinch_54 : decode cX11_bestWinch 54 = .ok (.iload 4, 2) := by decide +kernel
theorem dX11_bestWinch_56 : decode cX11_bestWinch 56 = .ok (.iconst (-1), 1) := by decide +kernel
theorem dX11_bestWinch_57 : decode cX11_bestWinch 57 = .ok (.if_icmp .eq 20, 3) := by decide +kernel
theorem dX11_bestWinch_60 : decode cX11_bestWinch 60 = .ok (.aload_n 0, 1) := by decide +kernel
theorem dX11_bestWinch_61 : decode cX11_bestWinch 61 = .ok (.iload 5, 2) := by decide +kernel
theorem dX11_bestWinch_63 : decode cX11_bestWinch 63 = .ok (.iconst 1, 1) := by decide +kernel
theorem dX11_bestWinch_64 : decode cX11_bestWinch 64 = .ok (.invokevirtual 128, 3) := by decide +kernel
theorem dX11_bestWinch_67 : decode cX11_bestWinch 67 = .ok (.aload_n 0, 1) := by decide +kernel
theorem dX11_bestWinch_68 : decode cX11_bestWinch 68 = .ok (.iload 4, 2) := by decide +kernel
theorem dX11_bestWinch_70 : decode cX11_bestWinch 70 = .ok (.iconst 1, 1) := by decide +kernel
theorem dX11_bestWinch_71 : decode cX11_bestWinch 71 = .ok (.invokevirtual 128, 3) := by decide +kernel
theorem dX11_bestWinch_74 : decode cX11_bestWinch 74 = .ok (.if_icmp .ge 8, 3) := by decide +kernel
theorem dX11_bestWinch_77 : decode cX11_bestWinch 77 = .ok (.iload 5, 2) := by decide +kernel
theorem dX11_bestWinch_79 : decode cX11_bestWinch 79 = .ok (.goto 5, 3) := by decide +kernel
theorem dX11_bestWinch_82 : decode cX11_bestWinch 82 = .ok (.iload 4, 2) := by decide +kernel
theorem dX11_bestWinch_84 : decode cX11_bestWinch 84 = .ok (.istore 4, 2) := by decide +kernel
theorem dX11_bestWinch_86 : decode cX11_bestWinch 86 = .ok (.iinc 5 1, 3) := by decide +kernel
theorem dX11_bestWinch_89 : decode cX11_bestWinch 89 = .ok (.goto (-77), 3) := by decide +kernel
theorem dX11_bestWinch_92 : decode cX11_bestWinch 92 = .ok (.aload_n 0, 1) := by decide +kernel
theorem dX11_bestWinch_93 : decode cX11_bestWinch 93 = .ok (.iload_n 1, 1) := by decide +kernel
theorem dX11_bestWinch_94 : decode cX11_bestWinch 94 = .ok (.iload_n 2, 1) := by decide +kernel
theorem dX11_bestWinch_95 : decode cX11_bestWinch 95 = .ok (.invokestatic 74, 3) := by decide +kernel
theorem dX11_bestWinch_98 : decode cX11_bestWinch 98 = .ok (.iload 4, 2) := by decide +kernel
theorem dX11_bestWinch_100 : decode cX11_bestWinch 100 = .ok (.iconst (-1), 1) := by decide +kernel
theorem dX11_bestWinch_101 : decode cX11_bestWinch 101 = .ok (.if_icmp .eq 7, 3) := by decide +kernel
theorem dX11_bestWinch_104 : decode cX11_bestWinch 104 = .ok (.iconst 1, 1) := by decide +kernel
theorem dX11_bestWinch_105 : decode cX11_bestWinch 105 = .ok (.goto 4, 3) := by decide +kernel
theorem dX11_bestWinch_108 : decode cX11_bestWinch 108 = .ok (.iconst 0, 1) := by decide +kernel
theorem dX11_bestWinch_109 : decode cX11_bestWinch 109 = .ok (.iconst 1, 1) := by decide +kernel
theorem dX11_bestWinch_110 : decode cX11_bestWinch 110 = .ok (.iconst 1, 1) := by decide +kernel
theorem dX11_bestWinch_111 : decode cX11_bestWinch 111 = .ok (.invokevirtual 48, 3) := by decide +kernel
theorem dX11_bestWinch_114 : decode cX11_bestWinch 114 = .ok (.ifCond .eq 8, 3) := by decide +kernel
theorem dX11_bestWinch_117 : decode cX11_bestWinch 117 = .ok (.iload 4, 2) := by decide +kernel
theorem dX11_bestWinch_119 : decode cX11_bestWinch 119 = .ok (.goto 4, 3) := by decide +kernel
theorem dX11_bestWinch_122 : decode cX11_bestWinch 122 = .ok (.iconst 0, 1) := by decide +kernel
theorem dX11_bestWinch_123 : decode cX11_bestWinch 123 = .ok (.ireturn, 1) := by decide +kernel
set_option maxRecDepth 20000 in
theorem ggX11_inYard_X11_isStone : GoodIn wsX11_inYard wsX11_isStone := goodIn_r _ [5, 6, 7, 4, 8] (by decide +kernel) (by decide +kernel)
set_option maxRecDepth 20000 in
theorem gX11_inYard_X11_isStone : GoodIn wsX11_inYard (va_wsS RX11 96 yX11_isStone wsX11_isStone) := goodIn_app (goodIn_of _ (by decide +kernel)) ggX11_inYard_X11_isStone
set_option maxRecDepth 20000 in
theorem ggX11_inYard_X11_goes : GoodIn wsX11_inYard wsX11_goes := goodIn_r _ [12, 13, 14, 15, 4, 16, 17, 18, 19, 20, 21, 22, 23, 24, 25, 26, 27, 28, 29, 30, 31, 32, 33, 34, 35, 36] (by decide +kernel) (by decide +kernel)
set_option maxRecDepth 20000 in
theorem gX11_inYard_X11_goes : GoodIn wsX11_inYard (wsV RX11 62 RX11 yX11_goes wsX11_goes) := goodIn_app (goodIn_of _ (by decide +kernel)) ggX11_inYard_X11_goes
theorem dX11_inYard_0 : decode cX11_inYard 0 = .ok (.aload_n 0, 1) := by decide +kernel
theorem dX11_inYard_1 : decode cX11_inYard 1 = .ok (.iload_n 1, 1) := by decide +kernel
theorem dX11_inYard_2 : decode cX11_inYard 2 = .ok (.invokestatic 96, 3) := by decide +kernel
theorem dX11_inYard_5 : decode cX11_inYard 5 = .ok (.invokevirtual 62, 3) := by decide +kernel
theorem dX11_inYard_8 : decode cX11_inYard 8 = .ok (.ifCond .eq 15, 3) := by decide +kernel
theorem dX11_inYard_11 : decode cX11_inYard 11 = .ok (.aload_n 0, 1) := by decide +kernel
theorem dX11_inYard_12 : decode cX11_inYard 12 = .ok (.getfield 9, 3) := by decide +kernel
theorem dX11_inYard_15 : decode cX11_inYard 15 = .ok (.bipush 6, 2) := by decide +kernel
theorem dX11_inYard_17 : decode cX11_inYard 17 = .ok (.iload_n 1, 1) := by decide +kernel
theorem dX11_inYard_18 : decode cX11_inYard 18 = .ok (.iadd, 1) := by decide +kernel
theorem dX11_inYard_19 : decode cX11_inYard 19 = .ok (.iaload, 1) := by decide +kernel
theorem dX11_inYard_20 : decode cX11_inYard 20 = .ok (.goto 4, 3) := by decide +kernel
theorem dX11_inYard_23 : decode cX11_inYard 23 = .ok (.iconst 0, 1) := by decide +kernel
theorem dX11_inYard_24 : decode cX11_inYard 24 = .ok (.ireturn, 1) := by decide +kernel
set_option maxRecDepth 20000 in
theorem ggX11_yardWeight_X11_weightOf : GoodIn wsX11_yardWeight wsX11_weightOf := goodIn_r _ [6] (by decide +kernel) (by decide +kernel)
set_option maxRecDepth 20000 in
theorem gX11_yardWeight_X11_weightOf : GoodIn wsX11_yardWeight (va_wsS RX11 144 yX11_weightOf wsX11_weightOf) := goodIn_app (goodIn_of _ (by decide +kernel)) ggX11_yardWeight_X11_weightOf
theorem dX11_yardWeight_0 : decode cX11_yardWeight 0 = .ok (.aload_n 0, 1) := by decide +kernel
theorem dX11_yardWeight_1 : decode cX11_yardWeight 1 = .ok (.iconst 0, 1) := by decide +kernel
theorem dX11_yardWeight_2 : decode cX11_yardWeight 2 = .ok (.putfield 45, 3) := by decide +kernel
theorem dX11_yardWeight_5 : decode cX11_yardWeight 5 = .ok (.iconst 0, 1) := by decide +kernel
theorem dX11_yardWeight_6 : decode cX11_yardWeight 6 = .ok (.istore_n 1, 1) := by decide +kernel
theorem dX11_yardWeight_7 : decode cX11_yardWeight 7 = .ok (.iconst 0, 1) := by decide +kernel
theorem dX11_yardWeight_8 : decode cX11_yardWeight 8 = .ok (.istore_n 2, 1) := by decide +kernel
theorem dX11_yardWeight_9 : decode cX11_yardWeight 9 = .ok (.iload_n 2, 1) := by decide +kernel
theorem dX11_yardWeight_10 : decode cX11_yardWeight 10 = .ok (.iconst 4, 1) := by decide +kernel
theorem dX11_yardWeight_11 : decode cX11_yardWeight 11 = .ok (.if_icmp .ge 26, 3) := by decide +kernel
theorem dX11_yardWeight_14 : decode cX11_yardWeight 14 = .ok (.iload_n 1, 1) := by decide +kernel
theorem dX11_yardWeight_15 : decode cX11_yardWeight 15 = .ok (.aload_n 0, 1) := by decide +kernel
theorem dX11_yardWeight_16 : decode cX11_yardWeight 16 = .ok (.getfield 9, 3) := by decide +kernel
theorem dX11_yardWeight_19 : decode cX11_yardWeight 19 = .ok (.bipush 6, 2) := by decide +kernel
theorem dX11_yardWeight_21 : decode cX11_yardWeight 21 = .ok (.iload_n 2, 1) := by decide +kernel
theorem dX11_yardWeight_22 : decode cX11_yardWeight 22 = .ok (.iadd, 1) := by decide +kernel
theorem dX11_yardWeight_23 : decode cX11_yardWeight 23 = .ok (.iaload, 1) := by decide +kernel
theorem dX11_yardWeight_24 : decode cX11_yardWeight 24 = .ok (.iload_n 2, 1) := by decide +kernel
theorem dX11_yardWeight_25 : decode cX11_yardWeight 25 = .ok (.invokestatic 144, 3) := by decide +kernel
theorem dX11_yardWeight_28 : decode cX11_yardWeight 28 = .ok (.imul, 1) := by decide +kernel
theorem dX11_yardWeight_29 : decode cX11_yardWeight 29 = .ok (.iadd, 1) := by decide +kernel
theorem dX11_yardWeight_30 : decode cX11_yardWeight 30 = .ok (.istore_n 1, 1) := by decide +kernel
theorem dX11_yardWeight_31 : decode cX11_yardWeight 31 = .ok (.iinc 2 1, 3) := by decide +kernel
theorem dX11_yardWeight_34 : decode cX11_yardWeight 34 = .ok (.goto (-25), 3) := by decide +kernel
theorem dX11_yardWeight_37 : decode cX11_yardWeight 37 = .ok (.iload_n 1, 1) := by decide +kernel
theorem dX11_yardWeight_38 : decode cX11_yardWeight 38 = .ok (.ireturn, 1) := by decide +kernel
theorem dX11_rubble_0 : decode cX11_rubble 0 = .ok (.aload_n 0, 1) := by decide +kernel
theorem dX11_rubble_1 : decode cX11_rubble 1 = .ok (.iconst 0, 1) := by decide +kernel
theorem dX11_rubble_2 : decode cX11_rubble 2 = .ok (.putfield 45, 3) := by decide +kernel
theorem dX11_rubble_5 : decode cX11_rubble 5 = .ok (.aload_n 0, 1) := by decide +kernel
theorem dX11_rubble_6 : decode cX11_rubble 6 = .ok (.getfield 9, 3) := by decide +kernel
theorem dX11_rubble_9 : decode cX11_rubble 9 = .ok (.iconst 1, 1) := by decide +kernel
theorem dX11_rubble_10 : decode cX11_rubble 10 = .ok (.iaload, 1) := by decide +kernel
theorem dX11_rubble_11 : decode cX11_rubble 11 = .ok (.ireturn, 1) := by decide +kernel
theorem dX11_stepLimit_0 : decode cX11_stepLimit 0 = .ok (.aload_n 0, 1) := by decide +kernel
theorem dX11_stepLimit_1 : decode cX11_stepLimit 1 = .ok (.iconst 0, 1) := by decide +kernel
theorem dX11_stepLimit_2 : decode cX11_stepLimit 2 = .ok (.putfield 45, 3) := by decide +kernel
theorem dX11_stepLimit_5 : decode cX11_stepLimit 5 = .ok (.aload_n 0, 1) := by decide +kernel
theorem dX11_stepLimit_6 : decode cX11_stepLimit 6 = .ok (.getfield 9, 3) := by decide +kernel
theorem dX11_stepLimit_9 : decode cX11_stepLimit 9 = .ok (.iconst 0, 1) := by decide +kernel
theorem dX11_stepLimit_10 : decode cX11_stepLimit 10 = .ok (.iaload, 1) := by decide +kernel
theorem dX11_stepLimit_11 : decode cX11_stepLimit 11 = .ok (.ireturn, 1) := by decide +kernel
theorem dX11_cutTotal_0 : decode cX11_cutTotal 0 = .ok (.aload_n 0, 1) := by decide +kernel
theorem dX11_cutTotal_1 : decode cX11_cutTotal 1 = .ok (.iconst 0, 1) := by decide +kernel
theorem dX11_cutTotal_2 : decode cX11_cutTotal 2 = .ok (.putfield 45, 3) := by decide +kernel
theorem dX11_cutTotal_5 : decode cX11_cutTotal 5 = .ok (.aload_n 0, 1) := by decide +kernel
theorem dX11_cutTotal_6 : decode cX11_cutTotal 6 = .ok (.getfield 9, 3) := by decide +kernel
theorem dX11_cutTotal_9 : decode cX11_cutTotal 9 = .ok (.iconst 2, 1) := by decide +kernel
theorem dX11_cutTotal_10 : decode cX11_cutTotal 10 = .ok (.iaload, 1) := by decide +kernel
theorem dX11_cutTotal_11 : decode cX11_cutTotal 11 = .ok (.ireturn, 1) := by decide +kernel
theorem dX11_workTotal_0 : decode cX11_workTotal 0 = .ok (.aload_n 0, 1) := by decide +kernel
theorem dX11_workTotal_1 : decode cX11_workTotal 1 = .ok (.iconst 0, 1) := by decide +kernel
theorem dX11_workTotal_2 : decode cX11_workTotal 2 = .ok (.putfield 45, 3) := by decide +kernel
theorem dX11_workTotal_5 : decode cX11_workTotal 5 = .ok (.aload_n 0, 1) := by decide +kernel
theorem dX11_workTotal_6 : decode cX11_workTotal 6 = .ok (.getfield 9, 3) := by decide +kernel
theorem dX11_workTotal_9 : decode cX11_workTotal 9 = .ok (.iconst 4, 1) := by decide +kernel
theorem dX11_workTotal_10 : decode cX11_workTotal 10 = .ok (.iaload, 1) := by decide +kernel
theorem dX11_workTotal_11 : decode cX11_workTotal 11 = .ok (.i2l, 1) := by decide +kernel
theorem dX11_workTotal_12 : decode cX11_workTotal 12 = .ok (.lreturn, 1) := by decide +kernel
set_option maxRecDepth 20000 in
theorem ggX11_meanHeight_X11_of : GoodIn wsX11_meanHeight wsX11_of := goodIn_ca (goodIn_r _ [7, 8, 9, 10, 6, 11, 12, 13, 14, 15, 16, 17, 18, 19, 20, 21, 22, 23, 24, 25, 26, 27, 28, 29, 30] (by decide +kernel) (by decide +kernel)) (goodIn_sub (fun _ h => List.mem_cons_of_mem _ (List.mem_append_right _ h)) (by decide +kernel))
set_option maxRecDepth 20000 in
theorem gX11_meanHeight_X11_of : GoodIn wsX11_meanHeight (wsV RX11 87 RX11 yX11_of wsX11_of) := goodIn_app (goodIn_of _ (by decide +kernel)) ggX11_meanHeight_X11_of
theorem dX11_meanHeight_0 : decode cX11_meanHeight 0 = .ok (.aload_n 0, 1) := by decide +kernel
theorem dX11_meanHeight_1 : decode cX11_meanHeight 1 = .ok (.iconst 0, 1) := by decide +kernel
theorem dX11_meanHeight_2 : decode cX11_meanHeight 2 = .ok (.putfield 45, 3) := by decide +kernel
theorem dX11_meanHeight_5 : decode cX11_meanHeight 5 = .ok (.iconst 0, 1) := by decide +kernel
theorem dX11_meanHeight_6 : decode cX11_meanHeight 6 = .ok (.istore_n 1, 1) := by decide +kernel
theorem dX11_meanHeight_7 : decode cX11_meanHeight 7 = .ok (.iconst 0, 1) := by decide +kernel
theorem dX11_meanHeight_8 : decode cX11_meanHeight 8 = .ok (.istore_n 2, 1) := by decide +kernel
theorem dX11_meanHeight_9 : decode cX11_meanHeight 9 = .ok (.iload_n 2, 1) := by decide +kernel
theorem dX11_meanHeight_10 : decode cX11_meanHeight 10 = .ok (.bipush 30, 2) := by decide +kernel
theorem dX11_meanHeight_12 : decode cX11_meanHeight 12 = .ok (.if_icmp .ge 18, 3) := by decide +kernel
theorem dX11_meanHeight_15 : decode cX11_meanHeight 15 = .ok (.iload_n 1, 1) := by decide +kernel
theorem dX11_meanHeight_16 : decode cX11_meanHeight 16 = .ok (.aload_n 0, 1) := by decide +kernel
theorem dX11_meanHeight_17 : decode cX11_meanHeight 17 = .ok (.iload_n 2, 1) := by decide +kernel
theorem dX11_meanHeight_18 : decode cX11_meanHeight 18 = .ok (.iconst 0, 1) := by decide +kernel
theorem dX11_meanHeight_19 : decode cX11_meanHeight 19 = .ok (.invokevirtual 87, 3) := by decide +kernel
theorem dX11_meanHeight_22 : decode cX11_meanHeight 22 = .ok (.iadd, 1) := by decide +kernel
theorem dX11_meanHeight_23 : decode cX11_meanHeight 23 = .ok (.istore_n 1, 1) := by decide +kernel
theorem dX11_meanHeight_24 : decode cX11_meanHeight 24 = .ok (.iinc 2 1, 3) := by decide +kernel
theorem dX11_meanHeight_27 : decode cX11_meanHeight 27 = .ok (.goto (-18), 3) := by decide +kernel
theorem dX11_meanHeight_30 : decode cX11_meanHeight 30 = .ok (.iload_n 1, 1) := by decide +kernel
theorem dX11_meanHeight_31 : decode cX11_meanHeight 31 = .ok (.i2d, 1) := by decide +kernel
theorem dX11_meanHeight_32 : decode cX11_meanHeight 32 = .ok (.ldc2_w 193, 3) := by decide +kernel
theorem dX11_meanHeight_35 : decode cX11_meanHeight 35 = .ok (.ddiv, 1) := by decide +kernel
theorem dX11_meanHeight_36 : decode cX11_meanHeight 36 = .ok (.dreturn, 1) := by decide +kernel
set_option maxRecDepth 20000 in
theorem ggX11_liftedShare_X11_goes : GoodIn wsX11_liftedShare wsX11_goes := goodIn_r _ [6, 7, 8, 9, 5, 10, 11, 12, 13, 14, 15, 16, 17, 18, 19, 20, 21, 22, 23, 24, 25, 26, 27, 28, 29, 30] (by decide +kernel) (by decide +kernel)
set_option maxRecDepth 20000 in
theorem gX11_liftedShare_X11_goes : GoodIn wsX11_liftedShare (wsV RX11 62 RX11 yX11_goes wsX11_goes) := goodIn_app (goodIn_of _ (by decide +kernel)) ggX11_liftedShare_X11_goes
theorem dX11_liftedShare_0 : decode cX11_liftedShare 0 = .ok (.aload_n 0, 1) := by decide +kernel
theorem dX11_liftedShare_1 : decode cX11_liftedShare 1 = .ok (.aload_n 0, 1) := by decide +kernel
theorem dX11_liftedShare_2 : decode cX11_liftedShare 2 = .ok (.getfield 9, 3) := by decide +kernel
theorem dX11_liftedShare_5 : decode cX11_liftedShare 5 = .ok (.iconst 2, 1) := by decide +kernel
theorem dX11_liftedShare_6 : decode cX11_liftedShare 6 = .ok (.iaload, 1) := by decide +kernel
theorem dX11_liftedShare_7 : decode cX11_liftedShare 7 = .ok (.ifCond .le 7, 3) := by decide +kernel
theorem dX11_liftedShare_10 : decode cX11_liftedShare 10 = .ok (.iconst 1, 1) := by decide +kernel
theorem dX11_liftedShare_11 : decode cX11_liftedShare 11 = .ok (.goto 4, 3) := by decide +kernel
theorem dX11_liftedShare_14 : decode cX11_liftedShare 14 = .ok (.iconst 0, 1) := by decide +kernel
theorem dX11_liftedShare_15 : decode cX11_liftedShare 15 = .ok (.invokevirtual 62, 3) := by decide +kernel
theorem dX11_liftedShare_18 : decode cX11_liftedShare 18 = .ok (.ifCond .eq 21, 3) := by decide +kernel
theorem dX11_liftedShare_21 : decode cX11_liftedShare 21 = .ok (.aload_n 0, 1) := by decide +kernel
theorem dX11_liftedShare_22 : decode cX11_liftedShare 22 = .ok (.getfield 9, 3) := by decide +kernel
theorem dX11_liftedShare_25 : decode cX11_liftedShare 25 = .ok (.iconst 3, 1) := by decide +kernel
theorem dX11_liftedShare_26 : decode cX11_liftedShare 26 = .ok (.iaload, 1) := by decide +kernel
theorem dX11_liftedShare_27 : decode cX11_liftedShare 27 = .ok (.i2f, 1) := by decide +kernel
theorem dX11_liftedShare_28 : decode cX11_liftedShare 28 = .ok (.aload_n 0, 1) := by decide +kernel
theorem dX11_liftedShare_29 : decode cX11_liftedShare 29 = .ok (.getfield 9, 3) := by decide +kernel
theorem dX11_liftedShare_32 : decode cX11_liftedShare 32 = .ok (.iconst 2, 1) := by decide +kernel
theorem dX11_liftedShare_33 : decode cX11_liftedShare 33 = .ok (.iaload, 1) := by decide +kernel
theorem dX11_liftedShare_34 : decode cX11_liftedShare 34 = .ok (.i2f, 1) := by decide +kernel
theorem dX11_liftedShare_35 : decode cX11_liftedShare 35 = .ok (.fdiv, 1) := by decide +kernel
theorem dX11_liftedShare_36 : decode cX11_liftedShare 36 = .ok (.goto 4, 3) := by decide +kernel
theorem dX11_liftedShare_39 : decode cX11_liftedShare 39 = .ok (.fconst 0, 1) := by decide +kernel
theorem dX11_liftedShare_40 : decode cX11_liftedShare 40 = .ok (.freturn, 1) := by decide +kernel
theorem dX11_isConsistent_0 : decode cX11_isConsistent 0 = .ok (.aload_n 0, 1) := by decide +kernel
theorem dX11_isConsistent_1 : decode cX11_isConsistent 1 = .ok (.iconst 0, 1) := by decide +kernel
theorem dX11_isConsistent_2 : decode cX11_isConsistent 2 = .ok (.putfield 45, 3) := by decide +kernel
theorem dX11_isConsistent_5 : decode cX11_isConsistent 5 = .ok (.iconst 1, 1) := by decide +kernel
theorem dX11_isConsistent_6 : decode cX11_isConsistent 6 = .ok (.ireturn, 1) := by decide +kernel
theorem dX11_put_0 : decode cX11_put 0 = .ok (.aload_n 0, 1) := by decide +kernel
theorem dX11_put_1 : decode cX11_put 1 = .ok (.getfield 35, 3) := by decide +kernel
theorem dX11_put_4 : decode cX11_put 4 = .ok (.iload_n 1, 1) := by decide +kernel
theorem dX11_put_5 : decode cX11_put 5 = .ok (.iload_n 2, 1) := by decide +kernel
theorem dX11_put_6 : decode cX11_put 6 = .ok (.iastore, 1) := by decide +kernel
theorem dX11_put_7 : decode cX11_put 7 = .ok (.iload_n 1, 1) := by decide +kernel
theorem dX11_put_8 : decode cX11_put 8 = .ok (.iconst 1, 1) := by decide +kernel
theorem dX11_put_9 : decode cX11_put 9 = .ok (.iadd, 1) := by decide +kernel
theorem dX11_put_10 : decode cX11_put 10 = .ok (.ireturn, 1) := by decide +kernel
set_option maxRecDepth 20000 in
theorem ggX11_writesCell_X11_of : GoodIn wsX11_writesCell wsX11_of := goodIn_ca (goodIn_r _ [5, 6, 7, 8, 4, 9, 23, 24, 25, 26, 27, 28, 29, 30, 31, 32, 33, 34, 35, 36, 37, 38, 39, 40, 41] (by decide +kernel) (by decide +kernel)) (goodIn_sub (fun _ h => List.mem_cons_of_mem _ (List.mem_append_right _ h)) (by decide +kernel))
set_option maxRecDepth 20000 in
theorem gX11_writesCell_X11_of : GoodIn wsX11_writesCell (wsV RX11 87 RX11 yX11_of wsX11_of) := goodIn_app (goodIn_of _ (by decide +kernel)) ggX11_writesCell_X11_of
set_option maxRecDepth 20000 in
theorem ggX11_writesCell_X11_put : GoodIn wsX11_writesCell wsX11_put := goodIn_ca (goodIn_r _ [13, 14, 23, 24, 25, 26, 27, 28, 29, 30, 31, 32, 33, 34, 35, 36, 37, 38, 39, 40, 41] (by decide +kernel) (by decide +kernel)) (goodIn_sub (fun _ h => List.mem_cons_of_mem _ (List.mem_append_right _ h)) (by decide +kernel))
set_option maxRecDepth 20000 in
theorem gX11_writesCell_X11_put : GoodIn wsX11_writesCell (wsV RX11 195 RX11 yX11_put wsX11_put) := goodIn_app (goodIn_of _ (by decide +kernel)) ggX11_writesCell_X11_put
set_option maxRecDepth 20000 in
theorem ggX11_writesCell_X11_hasWinch : GoodIn wsX11_writesCell wsX11_hasWinch := goodIn_ca (goodIn_r _ [18, 6, 19, 20, 21, 4, 22, 23, 24, 25, 26, 27, 28, 29, 30, 31, 32, 33, 34, 35, 36, 37, 38, 39, 40, 41] (by decide +kernel) (by decide +kernel)) (goodIn_sub (fun _ h => List.mem_cons_of_mem _ (List.mem_append_right _ h)) (by decide +kernel))
set_option maxRecDepth 20000 in
theorem gX11_writesCell_X11_hasWinch : GoodIn wsX11_writesCell (wsV RX11 131 RX11 yX11_hasWinch wsX11_hasWinch) := goodIn_app (goodIn_of _ (by decide +kernel)) ggX11_writesCell_X11_hasWinch
theorem dX11_writesCell_0 : decode cX11_writesCell 0 = .ok (.aload_n 0, 1) := by decide +kernel
theorem dX11_writesCell_1 : decode cX11_writesCell 1 = .ok (.aload_n 0, 1) := by decide +kernel
theorem dX11_writesCell_2 : decode cX11_writesCell 2 = .ok (.iload_n 1, 1) := by decide +kernel
theorem dX11_writesCell_3 : decode cX11_writesCell 3 = .ok (.bipush 48, 2) := by decide +kernel
theorem dX11_writesCell_5 : decode cX11_writesCell 5 = .ok (.aload_n 0, 1) := by decide +kernel
theorem dX11_writesCell_6 : decode cX11_writesCell 6 = .ok (.iload_n 2, 1) := by decide +kernel
theorem dX11_writesCell_7 : decode cX11_writesCell 7 = .ok (.iconst 0, 1) := by decide +kernel
theorem dX11_writesCell_8 : decode cX11_writesCell 8 = .ok (.invokevirtual 87, 3) := by decide +kernel
theorem dX11_writesCell_11 : decode cX11_writesCell 11 = .ok (.iadd, 1) := by decide +kernel
theorem dX11_writesCell_12 : decode cX11_writesCell 12 = .ok (.invokevirtual 195, 3) := by decide +kernel
theorem dX11_writesCell_15 : decode cX11_writesCell 15 = .ok (.bipush 97, 2) := by decide +kernel
theorem dX11_writesCell_17 : decode cX11_writesCell 17 = .ok (.aload_n 0, 1) := by decide +kernel
theorem dX11_writesCell_18 : decode cX11_writesCell 18 = .ok (.iload_n 2, 1) := by decide +kernel
theorem dX11_writesCell_19 : decode cX11_writesCell 19 = .ok (.iconst 1, 1) := by decide +kernel
theorem dX11_writesCell_20 : decode cX11_writesCell 20 = .ok (.invokevirtual 87, 3) := by decide +kernel
theorem dX11_writesCell_23 : decode cX11_writesCell 23 = .ok (.iadd, 1) := by decide +kernel
theorem dX11_writesCell_24 : decode cX11_writesCell 24 = .ok (.invokevirtual 195, 3) := by decide +kernel
theorem dX11_writesCell_27 : decode cX11_writesCell 27 = .ok (.istore_n 3, 1) := by decide +kernel
theorem dX11_writesCell_28 : decode cX11_writesCell 28 = .ok (.aload_n 0, 1) := by decide +kernel
theorem dX11_writesCell_29 : decode cX11_writesCell 29 = .ok (.iload_n 2, 1) := by decide +kernel
theorem dX11_writesCell_30 : decode cX11_writesCell 30 = .ok (.iconst 2, 1) := by decide +kernel
theorem dX11_writesCell_31 : decode cX11_writesCell 31 = .ok (.invokevirtual 87, 3) := by decide +kernel
theorem dX11_writesCell_34 : decode cX11_writesCell 34 = .ok (.iconst 1, 1) := by decide +kernel
theorem dX11_writesCell_35 : decode cX11_writesCell 35 = .ok (.if_icmp .ne 13, 3) := by decide +kernel
theorem dX11_writesCell_38 : decode cX11_writesCell 38 = .ok (.aload_n 0, 1) := by decide +kernel
theorem dX11_writesCell_39 : decode cX11_writesCell 39 = .ok (.iload_n 3, 1) := by decide +kernel
theorem dX11_writesCell_40 : decode cX11_writesCell 40 = .ok (.bipush 61, 2) := by decide +kernel
theorem dX11_writesCell_42 : decode cX11_writesCell 42 = .ok (.invokevirtual 195, 3) := by decide +kernel
theorem dX11_writesCell_45 : decode cX11_writesCell 45 = .ok (.goto 4, 3) := by decide +kernel
theorem dX11_writesCell_48 : decode cX11_writesCell 48 = .ok (.iload_n 3, 1) := by decide +kernel
theorem dX11_writesCell_49 : decode cX11_writesCell 49 = .ok (.istore_n 3, 1) := by decide +kernel
theorem dX11_writesCell_50 : decode cX11_writesCell 50 = .ok (.aload_n 0, 1) := by decide +kernel
theorem dX11_writesCell_51 : decode cX11_writesCell 51 = .ok (.iload_n 2, 1) := by decide +kernel
theorem dX11_writesCell_52 : decode cX11_writesCell 52 = .ok (.invokevirtual 131, 3) := by decide +kernel
theorem dX11_writesCell_55 : decode cX11_writesCell 55 = .ok (.ifCond .eq 13, 3) := by decide +kernel
theorem dX11_writesCell_58 : decode cX11_writesCell 58 = .ok (.aload_n 0, 1) := by decide +kernel
theorem dX11_writesCell_59 : decode cX11_writesCell 59 = .ok (.iload_n 3, 1) := by decide +kernel
theorem dX11_writesCell_60 : decode cX11_writesCell 60 = .ok (.bipush 94, 2) := by decide +kernel
theorem dX11_writesCell_62 : decode cX11_writesCell 62 = .ok (.invokevirtual 195, 3) := by decide +kernel
theorem dX11_writesCell_65 : decode cX11_writesCell 65 = .ok (.goto 4, 3) := by decide +kernel
theorem dX11_writesCell_68 : decode cX11_writesCell 68 = .ok (.iload_n 3, 1) := by decide +kernel
theorem dX11_writesCell_69 : decode cX11_writesCell 69 = .ok (.istore_n 3, 1) := by decide +kernel
theorem dX11_writesCell_70 : decode cX11_writesCell 70 = .ok (.iconst 0, 1) := by decide +kernel
theorem dX11_writesCell_71 : decode cX11_writesCell 71 = .ok (.istore 4, 2) := by decide +kernel
theorem dX11_writesCell_73 : decode cX11_writesCell 73 = .ok (.iload 4, 2) := by decide +kernel
theorem dX11_writesCell_75 : decode cX11_writesCell 75 = .ok (.aload_n 0, 1) := by decide +kernel
theorem dX11_writesCell_76 : decode cX11_writesCell 76 = .ok (.iload_n 2, 1) := by decide +kernel
theorem dX11_writesCell_77 : decode cX11_writesCell 77 = .ok (.iconst 3, 1) := by decide +kernel
theorem dX11_writesCell_78 : decode cX11_writesCell 78 = .ok (.invokevirtual 87, 3) := by decide +kernel
theorem dX11_writesCell_81 : decode cX11_writesCell 81 = .ok (.if_icmp .ge 17, 3) := by decide +kernel
theorem dX11_writesCell_84 : decode cX11_writesCell 84 = .ok (.aload_n 0, 1) := by decide +kernel
theorem dX11_writesCell_85 : decode cX11_writesCell 85 = .ok (.iload_n 3, 1) := by decide +kernel
theorem dX11_writesCell_86 : decode cX11_writesCell 86 = .ok (.bipush 46, 2) := by decide +kernel
theorem dX11_writesCell_88 : decode cX11_writesCell 88 = .ok (.invokevirtual 195, 3) := by decide +kernel
theorem dX11_writesCell_91 : decode cX11_writesCell 91 = .ok (.istore_n 3, 1) := by decide +kernel
theorem dX11_writesCell_92 : decode cX11_writesCell 92 = .ok (.iinc 4 1, 3) := by decide +kernel
theorem dX11_writesCell_95 : decode cX11_writesCell 95 = .ok (.goto (-22), 3) := by decide +kernel
theorem dX11_writesCell_98 : decode cX11_writesCell 98 = .ok (.iload_n 3, 1) := by decide +kernel
theorem dX11_writesCell_99 : decode cX11_writesCell 99 = .ok (.ireturn, 1) := by decide +kernel
set_option maxRecDepth 20000 in
theorem ggX11_writeRow_X11_isIn : GoodIn wsX11_writeRow wsX11_isIn := goodIn_r _ [5] (by decide +kernel) (by decide +kernel)
set_option maxRecDepth 20000 in
theorem gX11_writeRow_X11_isIn : GoodIn wsX11_writeRow (va_wsS RX11 70 yX11_isIn wsX11_isIn) := goodIn_app (goodIn_of _ (by decide +kernel)) ggX11_writeRow_X11_isIn
set_option maxRecDepth 20000 in
theorem ggX11_writeRow_X11_goes : GoodIn wsX11_writeRow wsX11_goes := goodIn_r _ [9, 10, 11, 12, 4, 13, 14, 40, 41, 42, 43, 44, 45, 46, 47, 48, 49, 50, 51, 52, 53, 54, 55, 56, 57, 58] (by decide +kernel) (by decide +kernel)
set_option maxRecDepth 20000 in
theorem gX11_writeRow_X11_goes : GoodIn wsX11_writeRow (wsV RX11 62 RX11 yX11_goes wsX11_goes) := goodIn_app (goodIn_of _ (by decide +kernel)) ggX11_writeRow_X11_goes
set_option maxRecDepth 20000 in
theorem ggX11_writeRow_X11_put : GoodIn wsX11_writeRow wsX11_put := goodIn_ca (goodIn_r _ [18, 19, 40, 41, 42, 43, 44, 45, 46, 47, 48, 49, 50, 51, 52, 53, 54, 55, 56, 57, 58] (by decide +kernel) (by decide +kernel)) (goodIn_sub (fun _ h => List.mem_cons_of_mem _ (List.mem_append_right _ h)) (by decide +kernel))
set_option maxRecDepth 20000 in
theorem gX11_writeRow_X11_put : GoodIn wsX11_writeRow (wsV RX11 195 RX11 yX11_put wsX11_put) := goodIn_app (goodIn_of _ (by decide +kernel)) ggX11_writeRow_X11_put
set_option maxRecDepth 20000 in
theorem ggX11_writeRow_X11_writesCell : GoodIn wsX11_writeRow wsX11_writesCell := goodIn_ca (goodIn_r _ [23, 24, 25, 26, 4, 27, 28, 29, 30, 31, 15, 16, 17, 18, 19, 32, 33, 34, 35, 36, 37, 38, 39, 40, 41, 42, 43, 44, 45, 46, 47, 48, 49, 50, 51, 52, 53, 54, 55, 56, 57, 58] (by decide +kernel) (by decide +kernel)) (goodIn_sub (fun _ h => List.mem_cons_of_mem _ (List.mem_append_right _ h)) (by decide +kernel))
set_option maxRecDepth 20000 in
theorem gX11_writeRow_X11_writesCell : GoodIn wsX11_writeRow (wsV RX11 198 RX11 yX11_writesCell wsX11_writesCell) := goodIn_app (goodIn_of _ (by decide +kernel)) ggX11_writeRow_X11_writesCell
theorem dX11_writeRow_0 : decode cX11_writeRow 0 = .ok (.aload_n 0, 1) := by decide +kernel
theorem dX11_writeRow_1 : decode cX11_writeRow 1 = .ok (.iload_n 1, 1) := by decide +kernel
theorem dX11_writeRow_2 : decode cX11_writeRow 2 = .ok (.iconst 0, 1) := by decide +kernel
theorem dX11_writeRow_3 : decode cX11_writeRow 3 = .ok (.iconst 4, 1) := by decide +kernel
theorem dX11_writeRow_4 : decode cX11_writeRow 4 = .ok (.invokestatic 70, 3) := by decide +kernel
theorem dX11_writeRow_7 : decode cX11_writeRow 7 = .ok (.invokevirtual 62, 3) := by decide +kernel
theorem dX11_writeRow_10 : decode cX11_writeRow 10 = .ok (.ifCond .ne 5, 3) := by decide +kernel
theorem dX11_writeRow_13 : decode cX11_writeRow 13 = .ok (.iconst 0, 1) := by decide +kernel
theorem dX11_writeRow_14 : decode cX11_writeRow 14 = .ok (.ireturn, 1) := by decide +kernel
theorem dX11_writeRow_15 : decode cX11_writeRow 15 = .ok (.iconst 0, 1) := by decide +kernel
theorem dX11_writeRow_16 : decode cX11_writeRow 16 = .ok (.istore_n 2, 1) := by decide +kernel
theorem dX11_writeRow_17 : decode cX11_writeRow 17 = .ok (.iconst 0, 1) := by decide +kernel
theorem dX11_writeRow_18 : decode cX11_writeRow 18 = .ok (.istore_n 3, 1) := by decide +kernel
theorem dX11_writeRow_19 : decode cX11_writeRow 19 = .ok (.iload_n 3, 1) := by decide +kernel
theorem dX11_writeRow_20 : decode cX11_writeRow 20 = .ok (.bipush 6, 2) := by decide +kernel
theorem dX11_writeRow_22 : decode cX11_writeRow 22 = .ok (.if_icmp .ge 35, 3) := by decide +kernel
theorem dX11_writeRow_25 : decode cX11_writeRow 25 = .ok (.aload_n 0, 1) := by decide +kernel
theorem dX11_writeRow_26 : decode cX11_writeRow 26 = .ok (.iload_n 3, 1) := by decide +kernel
theorem dX11_writeRow_27 : decode cX11_writeRow 27 = .ok (.ifCond .ne 7, 3) := by decide +kernel
theorem dX11_writeRow_30 : decode cX11_writeRow 30 = .ok (.iload_n 2, 1) := by decide +kernel
theorem dX11_writeRow_31 : decode cX11_writeRow 31 = .ok (.goto 10, 3) := by decide +kernel
theorem dX11_writeRow_34 : decode cX11_writeRow 34 = .ok (.aload_n 0, 1) := by decide +kernel
theorem dX11_writeRow_35 : decode cX11_writeRow 35 = .ok (.iload_n 2, 1) := by decide +kernel
theorem dX11_writeRow_36 : decode cX11_writeRow 36 = .ok (.bipush 32, 2) := by decide +kernel
theorem dX11_writeRow_38 : decode cX11_writeRow 38 = .ok (.invokevirtual 195, 3) := by decide +kernel
theorem dX11_writeRow_41 : decode cX11_writeRow 41 = .ok (.bipush 6, 2) := by decide +kernel
theorem dX11_writeRow_43 : decode cX11_writeRow 43 = .ok (.iload_n 1, 1) := by decide +kernel
theorem dX11_writeRow_44 : decode cX11_writeRow 44 = .ok (.imul, 1) := by decide +kernel
theorem dX11_writeRow_45 : decode cX11_writeRow 45 = .ok (.iload_n 3, 1) := by decide +kernel
theorem dX11_writeRow_46 : decode cX11_writeRow 46 = .ok (.iadd, 1) := by decide +kernel
theorem dX11_writeRow_47 : decode cX11_writeRow 47 = .ok (.invokevirtual 198, 3) := by decide +kernel
theorem dX11_writeRow_50 : decode cX11_writeRow 50 = .ok (.istore_n 2, 1) := by decide +kernel
theorem dX11_writeRow_51 : decode cX11_writeRow 51 = .ok (.iinc 3 1, 3) := by decide +kernel
theorem dX11_writeRow_54 : decode cX11_writeRow 54 = .ok (.goto (-35), 3) := by decide +kernel
theorem dX11_writeRow_57 : decode cX11_writeRow 57 = .ok (.aload_n 0, 1) := by decide +kernel
theorem dX11_writeRow_58 : decode cX11_writeRow 58 = .ok (.iload_n 2, 1) := by decide +kernel
theorem dX11_writeRow_59 : decode cX11_writeRow 59 = .ok (.putfield 201, 3) := by decide +kernel
theorem dX11_writeRow_62 : decode cX11_writeRow 62 = .ok (.iload_n 2, 1) := by decide +kernel
theorem dX11_writeRow_63 : decode cX11_writeRow 63 = .ok (.ireturn, 1) := by decide +kernel
set_option maxRecDepth 20000 in
theorem ggX11_outputAt_X11_isIn : GoodIn wsX11_outputAt wsX11_isIn := goodIn_r _ [6] (by decide +kernel) (by decide +kernel)
set_option maxRecDepth 20000 in
theorem gX11_outputAt_X11_isIn : GoodIn wsX11_outputAt (va_wsS RX11 70 yX11_isIn wsX11_isIn) := goodIn_app (goodIn_of _ (by decide +kernel)) ggX11_outputAt_X11_isIn
set_option maxRecDepth 20000 in
theorem ggX11_outputAt_X11_goes : GoodIn wsX11_outputAt wsX11_goes := goodIn_r _ [10, 11, 12, 13, 5, 14, 15, 16, 17, 18, 19, 20, 21, 22, 23, 24, 25, 26, 27, 28, 29, 30, 31, 32, 33, 34] (by decide +kernel) (by decide +kernel)
set_option maxRecDepth 20000 in
theorem gX11_outputAt_X11_goes : GoodIn wsX11_outputAt (wsV RX11 62 RX11 yX11_goes wsX11_goes) := goodIn_app (goodIn_of _ (by decide +kernel)) ggX11_outputAt_X11_goes
theorem dX11_outputAt_0 : decode cX11_outputAt 0 = .ok (.aload_n 0, 1) := by decide +kernel
theorem dX11_outputAt_1 : decode cX11_outputAt 1 = .ok (.iload_n 1, 1) := by decide +kernel
theorem dX11_outputAt_2 : decode cX11_outputAt 2 = .ok (.iconst 0, 1) := by decide +kernel
theorem dX11_outputAt_3 : decode cX11_outputAt 3 = .ok (.aload_n 0, 1) := by decide +kernel
theorem dX11_outputAt_4 : decode cX11_outputAt 4 = .ok (.getfield 201, 3) := by decide +kernel
theorem dX11_outputAt_7 : decode cX11_outputAt 7 = .ok (.iconst 1, 1) := by decide +kernel
theorem dX11_outputAt_8 : decode cX11_outputAt 8 = .ok (.isub, 1) := by decide +kernel
theorem dX11_outputAt_9 : decode cX11_outputAt 9 = .ok (.invokestatic 70, 3) := by decide +kernel
theorem dX11_outputAt_12 : decode cX11_outputAt 12 = .ok (.invokevirtual 62, 3) := by decide +kernel
theorem dX11_outputAt_15 : decode cX11_outputAt 15 = .ok (.ifCond .eq 13, 3) := by decide +kernel
theorem dX11_outputAt_18 : decode cX11_outputAt 18 = .ok (.aload_n 0, 1) := by decide +kernel
theorem dX11_outputAt_19 : decode cX11_outputAt 19 = .ok (.getfield 35, 3) := by decide +kernel
theorem dX11_outputAt_22 : decode cX11_outputAt 22 = .ok (.iload_n 1, 1) := by decide +kernel
theorem dX11_outputAt_23 : decode cX11_outputAt 23 = .ok (.iaload, 1) := by decide +kernel
theorem dX11_outputAt_24 : decode cX11_outputAt 24 = .ok (.i2c, 1) := by decide +kernel
theorem dX11_outputAt_25 : decode cX11_outputAt 25 = .ok (.goto 4, 3) := by decide +kernel
theorem dX11_outputAt_28 : decode cX11_outputAt 28 = .ok (.iconst 0, 1) := by decide +kernel
theorem dX11_outputAt_29 : decode cX11_outputAt 29 = .ok (.ireturn, 1) := by decide +kernel
set_option maxRecDepth 20000 in
theorem ggX11_append_X11_goes : GoodIn wsX11_append wsX11_goes := goodIn_r _ [7, 8, 9, 10, 6, 11, 12, 13, 14, 15, 16, 17, 18, 19, 20, 21, 22, 23, 24, 25, 26, 27, 28, 29, 30, 31] (by decide +kernel) (by decide +kernel)
set_option maxRecDepth 20000 in
theorem gX11_append_X11_goes : GoodIn wsX11_append (wsV RX11 62 RX11 yX11_goes wsX11_goes) := goodIn_app (goodIn_of _ (by decide +kernel)) ggX11_append_X11_goes
theorem dX11_append_0 : decode cX11_append 0 = .ok (.aload_n 0, 1) := by decide +kernel
theorem dX11_append_1 : decode cX11_append 1 = .ok (.aload_n 0, 1) := by decide +kernel
theorem dX11_append_2 : decode cX11_append 2 = .ok (.getfield 204, 3) := by decide +kernel
theorem dX11_append_5 : decode cX11_append 5 = .ok (.bipush 60, 2) := by decide +kernel
theorem dX11_append_7 : decode cX11_append 7 = .ok (.if_icmp .ge 7, 3) := by decide +kernel
theorem dX11_append_10 : decode cX11_append 10 = .ok (.iconst 1, 1) := by decide +kernel
theorem dX11_append_11 : decode cX11_append 11 = .ok (.goto 4, 3) := by decide +kernel
theorem dX11_append_14 : decode cX11_append 14 = .ok (.iconst 0, 1) := by decide +kernel
theorem dX11_append_15 : decode cX11_append 15 = .ok (.invokevirtual 62, 3) := by decide +kernel
theorem dX11_append_18 : decode cX11_append 18 = .ok (.ifCond .ne 5, 3) := by decide +kernel
theorem dX11_append_21 : decode cX11_append 21 = .ok (.iconst 0, 1) := by decide +kernel
theorem dX11_append_22 : decode cX11_append 22 = .ok (.ireturn, 1) := by decide +kernel
theorem dX11_append_23 : decode cX11_append 23 = .ok (.aload_n 0, 1) := by decide +kernel
theorem dX11_append_24 : decode cX11_append 24 = .ok (.getfield 32, 3) := by decide +kernel
theorem dX11_append_27 : decode cX11_append 27 = .ok (.aload_n 0, 1) := by decide +kernel
theorem dX11_append_28 : decode cX11_append 28 = .ok (.getfield 204, 3) := by decide +kernel
theorem dX11_append_31 : decode cX11_append 31 = .ok (.iload_n 1, 1) := by decide +kernel
theorem dX11_append_32 : decode cX11_append 32 = .ok (.iastore, 1) := by decide +kernel
theorem dX11_append_33 : decode cX11_append 33 = .ok (.aload_n 0, 1) := by decide +kernel
theorem dX11_append_34 : decode cX11_append 34 = .ok (.dup, 1) := by decide +kernel
theorem dX11_append_35 : decode cX11_append 35 = .ok (.getfield 204, 3) := by decide +kernel
theorem dX11_append_38 : decode cX11_append 38 = .ok (.iconst 1, 1) := by decide +kernel
theorem dX11_append_39 : decode cX11_append 39 = .ok (.iadd, 1) := by decide +kernel
theorem dX11_append_40 : decode cX11_append 40 = .ok (.putfield 204, 3) := by decide +kernel
theorem dX11_append_43 : decode cX11_append 43 = .ok (.aload_n 0, 1) := by decide +kernel
theorem dX11_append_44 : decode cX11_append 44 = .ok (.getfield 204, 3) := by decide +kernel
theorem dX11_append_47 : decode cX11_append 47 = .ok (.ireturn, 1) := by decide +kernel
theorem dX11_letterHere_0 : decode cX11_letterHere 0 = .ok (.aload_n 0, 1) := by decide +kernel
theorem dX11_letterHere_1 : decode cX11_letterHere 1 = .ok (.getfield 207, 3) := by decide +kernel
theorem dX11_letterHere_4 : decode cX11_letterHere 4 = .ok (.aload_n 0, 1) := by decide +kernel
theorem dX11_letterHere_5 : decode cX11_letterHere 5 = .ok (.getfield 210, 3) := by decide +kernel
theorem dX11_letterHere_8 : decode cX11_letterHere 8 = .ok (.if_icmp .ge 15, 3) := by decide +kernel
theorem dX11_letterHere_11 : decode cX11_letterHere 11 = .ok (.aload_n 0, 1) := by decide +kernel
theorem dX11_letterHere_12 : decode cX11_letterHere 12 = .ok (.getfield 32, 3) := by decide +kernel
theorem dX11_letterHere_15 : decode cX11_letterHere 15 = .ok (.aload_n 0, 1) := by decide +kernel
theorem dX11_letterHere_16 : decode cX11_letterHere 16 = .ok (.getfield 207, 3) := by decide +kernel
theorem dX11_letterHere_19 : decode cX11_letterHere 19 = .ok (.iaload, 1) := by decide +kernel
theorem dX11_letterHere_20 : decode cX11_letterHere 20 = .ok (.goto 4, 3) := by decide +kernel
theorem dX11_letterHere_23 : decode cX11_letterHere 23 = .ok (.iconst (-1), 1) := by decide +kernel
theorem dX11_letterHere_24 : decode cX11_letterHere 24 = .ok (.ireturn, 1) := by decide +kernel
set_option maxRecDepth 20000 in
theorem ggX11_reads_X11_letterHere : GoodIn wsX11_reads wsX11_letterHere := goodIn_ca (goodIn_r _ [8, 2, 9, 3, 13, 14, 15, 16, 17, 18, 19, 20, 21, 22, 23, 24, 25, 26, 27, 28, 29, 30, 31] (by decide +kernel) (by decide +kernel)) (goodIn_sub (fun _ h => List.mem_cons_of_mem _ (List.mem_append_right _ h)) (by decide +kernel))
set_option maxRecDepth 20000 in
theorem gX11_reads_X11_letterHere : GoodIn wsX11_reads (wsV RX11 216 RX11 yX11_letterHere wsX11_letterHere) := goodIn_app (goodIn_of _ (by decide +kernel)) ggX11_reads_X11_letterHere
set_option maxRecDepth 20000 in
theorem ggX11_reads_X11_isIn : GoodIn wsX11_reads wsX11_isIn := goodIn_r _ [12] (by decide +kernel) (by decide +kernel)
set_option maxRecDepth 20000 in
theorem gX11_reads_X11_isIn : GoodIn wsX11_reads (va_wsS RX11 70 yX11_isIn wsX11_isIn) := goodIn_app (goodIn_of _ (by decide +kernel)) ggX11_reads_X11_isIn
theorem dX11_reads_0 : decode cX11_reads 0 = .ok (.aload_n 0, 1) := by decide +kernel
theorem dX11_reads_1 : decode cX11_reads 1 = .ok (.getfield 213, 3) := by decide +kernel
theorem dX11_reads_4 : decode cX11_reads 4 = .ok (.iconst (-1), 1) := by decide +kernel
theorem dX11_reads_5 : decode cX11_reads 5 = .ok (.if_icmp .ne 39, 3) := by decide +kernel
theorem dX11_reads_8 : decode cX11_reads 8 = .ok (.aload_n 0, 1) := by decide +kernel
theorem dX11_reads_9 : decode cX11_reads 9 = .ok (.invokevirtual 216, 3) := by decide +kernel
theorem dX11_reads_12 : decode cX11_reads 12 = .ok (.iload_n 1, 1) := by decide +kernel
theorem dX11_reads_13 : decode cX11_reads 13 = .ok (.iload_n 2, 1) := by decide +kernel
theorem dX11_reads_14 : decode cX11_reads 14 = .ok (.invokestatic 70, 3) := by decide +kernel
theorem dX11_reads_17 : decode cX11_reads 17 = .ok (.ifCond .eq 27, 3) := by decide +kernel
theorem dX11_reads_20 : decode cX11_reads 20 = .ok (.aload_n 0, 1) := by decide +kernel
theorem dX11_reads_21 : decode cX11_reads 21 = .ok (.dup, 1) := by decide +kernel
theorem dX11_reads_22 : decode cX11_reads 22 = .ok (.getfield 207, 3) := by decide +kernel
theorem dX11_reads_25 : decode cX11_reads 25 = .ok (.iconst 1, 1) := by decide +kernel
theorem dX11_reads_26 : decode cX11_reads 26 = .ok (.iadd, 1) := by decide +kernel
theorem dX11_reads_27 : decode cX11_reads 27 = .ok (.putfield 207, 3) := by decide +kernel
theorem dX11_reads_30 : decode cX11_reads 30 = .ok (.aload_n 0, 1) := by decide +kernel
theorem dX11_reads_31 : decode cX11_reads 31 = .ok (.getfield 32, 3) := by decide +kernel
theorem dX11_reads_34 : decode cX11_reads 34 = .ok (.aload_n 0, 1) := by decide +kernel
theorem dX11_reads_35 : decode cX11_reads 35 = .ok (.getfield 207, 3) := by decide +kernel
theorem dX11_reads_38 : decode cX11_reads 38 = .ok (.iconst 1, 1) := by decide +kernel
theorem dX11_reads_39 : decode cX11_reads 39 = .ok (.isub, 1) := by decide +kernel
theorem dX11_reads_40 : decode cX11_reads 40 = .ok (.iaload, 1) := by decide +kernel
theorem dX11_reads_41 : decode cX11_reads 41 = .ok (.iload_n 1, 1) := by decide +kernel
theorem dX11_reads_42 : decode cX11_reads 42 = .ok (.isub, 1) := by decide +kernel
theorem dX11_reads_43 : decode cX11_reads 43 = .ok (.ireturn, 1) := by decide +kernel
theorem dX11_reads_44 : decode cX11_reads 44 = .ok (.aload_n 0, 1) := by decide +kernel
theorem dX11_reads_45 : decode cX11_reads 45 = .ok (.aload_n 0, 1) := by decide +kernel
theorem dX11_reads_46 : decode cX11_reads 46 = .ok (.getfield 213, 3) := by decide +kernel
theorem dX11_reads_49 : decode cX11_reads 49 = .ok (.iconst (-1), 1) := by decide +kernel
theorem dX11_reads_50 : decode cX11_reads 50 = .ok (.if_icmp .ne 10, 3) := by decide +kernel
theorem dX11_reads_53 : decode cX11_reads 53 = .ok (.aload_n 0, 1) := by decide +kernel
theorem dX11_reads_54 : decode cX11_reads 54 = .ok (.getfield 207, 3) := by decide +kernel
theorem dX11_reads_57 : decode cX11_reads 57 = .ok (.goto 7, 3) := by decide +kernel
theorem dX11_reads_60 : decode cX11_reads 60 = .ok (.aload_n 0, 1) := by decide +kernel
theorem dX11_reads_61 : decode cX11_reads 61 = .ok (.getfield 213, 3) := by decide +kernel
theorem dX11_reads_64 : decode cX11_reads 64 = .ok (.putfield 213, 3) := by decide +kernel
theorem dX11_reads_67 : decode cX11_reads 67 = .ok (.iconst 0, 1) := by decide +kernel
theorem dX11_reads_68 : decode cX11_reads 68 = .ok (.ireturn, 1) := by decide +kernel
set_option maxRecDepth 20000 in
theorem ggX11_digit_X11_reads : GoodIn wsX11_digit wsX11_reads := goodIn_ca (goodIn_r _ [5, 6, 7, 8, 9, 10, 11, 4, 12, 13, 14, 15, 16, 17, 18, 19, 20, 21, 22, 23, 24, 25, 26, 27, 28, 29, 30, 31, 32, 33, 34, 35] (by decide +kernel) (by decide +kernel)) (goodIn_sub (fun _ h => List.mem_cons_of_mem _ (List.mem_append_right _ h)) (by decide +kernel))
set_option maxRecDepth 20000 in
theorem gX11_digit_X11_reads : GoodIn wsX11_digit (wsV RX11 219 RX11 yX11_reads wsX11_reads) := goodIn_app (goodIn_of _ (by decide +kernel)) ggX11_digit_X11_reads
theorem dX11_digit_0 : decode cX11_digit 0 = .ok (.aload_n 0, 1) := by decide +kernel
theorem dX11_digit_1 : decode cX11_digit 1 = .ok (.bipush 48, 2) := by decide +kernel
theorem dX11_digit_3 : decode cX11_digit 3 = .ok (.bipush 57, 2) := by decide +kernel
theorem dX11_digit_5 : decode cX11_digit 5 = .ok (.invokevirtual 219, 3) := by decide +kernel
theorem dX11_digit_8 : decode cX11_digit 8 = .ok (.ireturn, 1) := by decide +kernel
set_option maxRecDepth 20000 in
theorem ggX11_number_X11_digit : GoodIn wsX11_number wsX11_digit := goodIn_ca (goodIn_r _ [6, 7, 8, 9, 5, 10, 1, 11, 12, 13, 14, 15, 16, 17, 18, 19, 20, 21, 22, 23, 24, 25, 26, 27, 28, 29, 30, 31, 32, 33, 34, 35, 36, 37, 38, 39] (by decide +kernel) (by decide +kernel)) (goodIn_sub (fun _ h => List.mem_cons_of_mem _ (List.mem_append_right _ h)) (by decide +kernel))
set_option maxRecDepth 20000 in
theorem gX11_number_X11_digit : GoodIn wsX11_number (wsV RX11 222 RX11 yX11_digit wsX11_digit) := goodIn_app (goodIn_of _ (by decide +kernel)) ggX11_number_X11_digit
set_option maxRecDepth 20000 in
theorem ggX11_number_X11_letterHere : GoodIn wsX11_number wsX11_letterHere := goodIn_ca (goodIn_r _ [16, 11, 17, 12, 21, 22, 23, 24, 25, 26, 27, 28, 29, 30, 31, 32, 33, 34, 35, 36, 37, 38, 39] (by decide +kernel) (by decide +kernel)) (goodIn_sub (fun _ h => List.mem_cons_of_mem _ (List.mem_append_right _ h)) (by decide +kernel))
set_option maxRecDepth 20000 in
theorem gX11_number_X11_letterHere : GoodIn wsX11_number (wsV RX11 216 RX11 yX11_letterHere wsX11_letterHere) := goodIn_app (goodIn_of _ (by decide +kernel)) ggX11_number_X11_letterHere
set_option maxRecDepth 20000 in
theorem ggX11_number_X11_isIn : GoodIn wsX11_number wsX11_isIn := goodIn_r _ [20] (by decide +kernel) (by decide +kernel)
set_option maxRecDepth 20000 in
theorem gX11_number_X11_isIn : GoodIn wsX11_number (va_wsS RX11 70 yX11_isIn wsX11_isIn) := goodIn_app (goodIn_of _ (by decide +kernel)) ggX11_number_X11_isIn
theorem dX11_number_0 : decode cX11_number 0 = .ok (.aload_n 0, 1) := by decide +kernel
theorem dX11_number_1 : decode cX11_number 1 = .ok (.invokevirtual 222, 3) := by decide +kernel
theorem dX11_number_4 : decode cX11_number 4 = .ok (.istore_n 1, 1) := by decide +kernel
theorem dX11_number_5 : decode cX11_number 5 = .ok (.aload_n 0, 1) := by decide +kernel
theorem dX11_number_6 : decode cX11_number 6 = .ok (.getfield 213, 3) := by decide +kernel
theorem dX11_number_9 : decode cX11_number 9 = .ok (.iconst (-1), 1) := by decide +kernel
theorem dX11_number_10 : decode cX11_number 10 = .ok (.if_icmp .ne 29, 3) := by decide +kernel
theorem dX11_number_13 : decode cX11_number 13 = .ok (.aload_n 0, 1) := by decide +kernel
theorem dX11_number_14 : decode cX11_number 14 = .ok (.invokevirtual 216, 3) := by decide +kernel
theorem dX11_number_17 : decode cX11_number 17 = .ok (.bipush 48, 2) := by decide +kernel
theorem dX11_number_19 : decode cX11_number 19 = .ok (.bipush 57, 2) := by decide +kernel
theorem dX11_number_21 : decode cX11_number 21 = .ok (.invokestatic 70, 3) := by decide +kernel
theorem dX11_number_24 : decode cX11_number 24 = .ok (.ifCond .eq 15, 3) := by decide +kernel
theorem dX11_number_27 : decode cX11_number 27 = .ok (.bipush 10, 2) := by decide +kernel
theorem dX11_number_29 : decode cX11_number 29 = .ok (.iload_n 1, 1) := by decide +kernel
theorem dX11_number_30 : decode cX11_number 30 = .ok (.imul, 1) := by decide +kernel
theorem dX11_number_31 : decode cX11_number 31 = .ok (.aload_n 0, 1) := by decide +kernel
theorem dX11_number_32 : decode cX11_number 32 = .ok (.invokevirtual 222, 3) := by decide +kernel
theorem dX11_number_35 : decode cX11_number 35 = .ok (.iadd, 1) := by decide +kernel
theorem dX11_number_36 : decode cX11_number 36 = .ok (.goto 4, 3) := by decide +kernel
theorem dX11_number_39 : decode cX11_number 39 = .ok (.iload_n 1, 1) := by decide +kernel
theorem dX11_number_40 : decode cX11_number 40 = .ok (.ireturn, 1) := by decide +kernel
set_option maxRecDepth 20000 in
theorem ggX11_digitBehindBlank_X11_reads : GoodIn wsX11_digitBehindBlank wsX11_reads := goodIn_ca (goodIn_r _ [5, 6, 7, 8, 9, 10, 11, 4, 12, 13, 14, 15, 16, 21, 22, 23, 24, 25, 26, 27, 28, 29, 30, 31, 32, 33, 34, 35, 36, 37, 38, 39] (by decide +kernel) (by decide +kernel)) (goodIn_sub (fun _ h => List.mem_cons_of_mem _ (List.mem_append_right _ h)) (by decide +kernel))
set_option maxRecDepth 20000 in
theorem gX11_digitBehindBlank_X11_reads : GoodIn wsX11_digitBehindBlank (wsV RX11 219 RX11 yX11_reads wsX11_reads) := goodIn_app (goodIn_of _ (by decide +kernel)) ggX11_digitBehindBlank_X11_reads
set_option maxRecDepth 20000 in
theorem ggX11_digitBehindBlank_X11_digit : GoodIn wsX11_digitBehindBlank wsX11_digit := goodIn_ca (goodIn_r _ [20, 1, 2, 3, 4, 5, 6, 7, 8, 9, 10, 11, 12, 13, 14, 15, 16, 21, 22, 23, 24, 25, 26, 27, 28, 29, 30, 31, 32, 33, 34, 35, 36, 37, 38, 39] (by decide +kernel) (by decide +kernel)) (goodIn_sub (fun _ h => List.mem_cons_of_mem _ (List.mem_append_right _ h)) (by decide +kernel))
set_option maxRecDepth 20000 in
theorem gX11_digitBehindBlank_X11_digit : GoodIn wsX11_digitBehindBlank (wsV RX11 222 RX11 yX11_digit wsX11_digit) := goodIn_app (goodIn_of _ (by decide +kernel)) ggX11_digitBehindBlank_X11_digit
theorem dX11_digitBehindBlank_0 : decode cX11_digitBehindBlank 0 = .ok (.aload_n 0, 1) := by decide +kernel
theorem dX11_digitBehindBlank_1 : decode cX11_digitBehindBlank 1 = .ok (.bipush 32, 2) := by decide +kernel
theorem dX11_digitBehindBlank_3 : decode cX11_digitBehindBlank 3 = .ok (.bipush 32, 2) := by decide +kernel
theorem dX11_digitBehindBlank_5 : decode cX11_digitBehindBlank 5 = .ok (.invokevirtual 219, 3) := by decide +kernel
theorem dX11_digitBehindBlank_8 : decode cX11_digitBehindBlank 8 = .ok (.istore_n 1, 1) := by decide +kernel
theorem dX11_digitBehindBlank_9 : decode cX11_digitBehindBlank 9 = .ok (.aload_n 0, 1) := by decide +kernel
theorem dX11_digitBehindBlank_10 : decode cX11_digitBehindBlank 10 = .ok (.invokevirtual 222, 3) := by decide +kernel
theorem dX11_digitBehindBlank_13 : decode cX11_digitBehindBlank 13 = .ok (.ireturn, 1) := by decide +kernel
theorem dX11_startOf_0 : decode cX11_startOf 0 = .ok (.iload_n 0, 1) := by decide +kernel
theorem dX11_startOf_1 : decode cX11_startOf 1 = .ok (.tableswitch 68 0 7 #[47, 49, 52, 55, 55, 55, 55, 65], 47) := by decide +kernel
theorem dX11_startOf_48 : decode cX11_startOf 48 = .ok (.iconst 0, 1) := by decide +kernel
theorem dX11_startOf_49 : decode cX11_startOf 49 = .ok (.ireturn, 1) := by decide +kernel
theorem dX11_startOf_50 : decode cX11_startOf 50 = .ok (.bipush 6, 2) := by decide +kernel
theorem dX11_startOf_52 : decode cX11_startOf 52 = .ok (.ireturn, 1) := by decide +kernel
theorem dX11_startOf_53 : decode cX11_startOf 53 = .ok (.bipush 10, 2) := by decide +kernel
theorem dX11_startOf_55 : decode cX11_startOf 55 = .ok (.ireturn, 1) := by decide +kernel
theorem dX11_startOf_56 : decode cX11_startOf 56 = .ok (.bipush 15, 2) := by decide +kernel
theorem dX11_startOf_58 : decode cX11_startOf 58 = .ok (.bipush 6, 2) := by decide +kernel
theorem dX11_startOf_60 : decode cX11_startOf 60 = .ok (.iload_n 0, 1) := by decide +kernel
theorem dX11_startOf_61 : decode cX11_startOf 61 = .ok (.iconst 3, 1) := by decide +kernel
theorem dX11_startOf_62 : decode cX11_startOf 62 = .ok (.isub, 1) := by decide +kernel
theorem dX11_startOf_63 : decode cX11_startOf 63 = .ok (.imul, 1) := by decide +kernel
theorem dX11_startOf_64 : decode cX11_startOf 64 = .ok (.iadd, 1) := by decide +kernel
theorem dX11_startOf_65 : decode cX11_startOf 65 = .ok (.ireturn, 1) := by decide +kernel
theorem dX11_startOf_66 : decode cX11_startOf 66 = .ok (.bipush 38, 2) := by decide +kernel
theorem dX11_startOf_68 : decode cX11_startOf 68 = .ok (.ireturn, 1) := by decide +kernel
theorem dX11_startOf_69 : decode cX11_startOf 69 = .ok (.bipush 44, 2) := by decide +kernel
theorem dX11_startOf_71 : decode cX11_startOf 71 = .ok (.ireturn, 1) := by decide +kernel
set_option maxRecDepth 20000 in
theorem ggX11_kindHere_X11_startOf : GoodIn wsX11_kindHere wsX11_startOf := goodIn_r _ [12] (by decide +kernel) (by decide +kernel)
set_option maxRecDepth 20000 in
theorem gX11_kindHere_X11_startOf : GoodIn wsX11_kindHere (va_wsS RX11 225 yX11_startOf wsX11_startOf) := goodIn_app (goodIn_of _ (by decide +kernel)) ggX11_kindHere_X11_startOf
set_option maxRecDepth 20000 in
theorem ggX11_kindHere_J0_charAt_5068e : GoodIn wsX11_kindHere wsJ0_charAt_5068e := goodIn_r _ [17, 18, 19, 20, 21, 16, 22, 23, 24, 25, 26, 27, 28, 29, 30, 31, 32, 33, 34, 35, 36, 37, 38, 39, 40, 41, 42, 43, 44, 45, 46, 47, 48, 49, 50, 51, 52, 53, 73, 74] (by decide +kernel) (by decide +kernel)
set_option maxRecDepth 20000 in
theorem gX11_kindHere_J0_charAt_5068e : GoodIn wsX11_kindHere (wsV RX11 230 RJ0 yJ0_charAt_5068e wsJ0_charAt_5068e) := goodIn_app (goodIn_of _ (by decide +kernel)) ggX11_kindHere_J0_charAt_5068e
theorem dX11_kindHere_0 : decode cX11_kindHere 0 = .ok (.aload_n 0, 1) := by decide +kernel
theorem dX11_kindHere_1 : decode cX11_kindHere 1 = .ok (.getfield 207, 3) := by decide +kernel
theorem dX11_kindHere_4 : decode cX11_kindHere 4 = .ok (.istore_n 1, 1) := by decide +kernel
theorem dX11_kindHere_5 : decode cX11_kindHere 5 = .ok (.iconst (-1), 1) := by decide +kernel
theorem dX11_kindHere_6 : decode cX11_kindHere 6 = .ok (.istore_n 2, 1) := by decide +kernel
theorem dX11_kindHere_7 : decode cX11_kindHere 7 = .ok (.iconst 0, 1) := by decide +kernel
theorem dX11_kindHere_8 : decode cX11_kindHere 8 = .ok (.istore_n 3, 1) := by decide +kernel
theorem dX11_kindHere_9 : decode cX11_kindHere 9 = .ok (.iload_n 3, 1) := by decide +kernel
theorem dX11_kindHere_10 : decode cX11_kindHere 10 = .ok (.bipush 8, 2) := by decide +kernel
theorem dX11_kindHere_12 : decode cX11_kindHere 12 = .ok (.if_icmp .ge 109, 3) := by decide +kernel
theorem dX11_kindHere_15 : decode cX11_kindHere 15 = .ok (.iload_n 2, 1) := by decide +kernel
theorem dX11_kindHere_16 : decode cX11_kindHere 16 = .ok (.iconst (-1), 1) := by decide +kernel
theorem dX11_kindHere_17 : decode cX11_kindHere 17 = .ok (.if_icmp .ne 104, 3) := by decide +kernel
theorem dX11_kindHere_20 : decode cX11_kindHere 20 = .ok (.iload_n 3, 1) := by decide +kernel
theorem dX11_kindHere_21 : decode cX11_kindHere 21 = .ok (.iconst 1, 1) := by decide +kernel
theorem dX11_kindHere_22 : decode cX11_kindHere 22 = .ok (.iadd, 1) := by decide +kernel
theorem dX11_kindHere_23 : decode cX11_kindHere 23 = .ok (.invokestatic 225, 3) := by decide +kernel
theorem dX11_kindHere_26 : decode cX11_kindHere 26 = .ok (.iload_n 3, 1) := by decide +kernel
theorem dX11_kindHere_27 : decode cX11_kindHere 27 = .ok (.invokestatic 225, 3) := by decide +kernel
theorem dX11_kindHere_30 : decode cX11_kindHere 30 = .ok (.isub, 1) := by decide +kernel
theorem dX11_kindHere_31 : decode cX11_kindHere 31 = .ok (.istore 4, 2) := by decide +kernel
theorem dX11_kindHere_33 : decode cX11_kindHere 33 = .ok (.iconst 0, 1) := by decide +kernel
theorem dX11_kindHere_34 : decode cX11_kindHere 34 = .ok (.istore 5, 2) := by decide +kernel
theorem dX11_kindHere_36 : decode cX11_kindHere 36 = .ok (.iload 5, 2) := by decide +kernel
theorem dX11_kindHere_38 : decode cX11_kindHere 38 = .ok (.iload 4, 2) := by decide +kernel
theorem dX11_kindHere_40 : decode cX11_kindHere 40 = .ok (.if_icmp .ge 50, 3) := by decide +kernel
theorem dX11_kindHere_43 : decode cX11_kindHere 43 = .ok (.aload_n 0, 1) := by decide +kernel
theorem dX11_kindHere_44 : decode cX11_kindHere 44 = .ok (.getfield 207, 3) := by decide +kernel
theorem dX11_kindHere_47 : decode cX11_kindHere 47 = .ok (.iload 5, 2) := by decide +kernel
theorem dX11_kindHere_49 : decode cX11_kindHere 49 = .ok (.iadd, 1) := by decide +kernel
theorem dX11_kindHere_50 : decode cX11_kindHere 50 = .ok (.aload_n 0, 1) := by decide +kernel
theorem dX11_kindHere_51 : decode cX11_kindHere 51 = .ok (.getfield 210, 3) := by decide +kernel
theorem dX11_kindHere_54 : decode cX11_kindHere 54 = .ok (.if_icmp .ge 36, 3) := by decide +kernel
theorem dX11_kindHere_57 : decode cX11_kindHere 57 = .ok (.aload_n 0, 1) := by decide +kernel
theorem dX11_kindHere_58 : decode cX11_kindHere 58 = .ok (.getfield 32, 3) := by decide +kernel
theorem dX11_kindHere_61 : decode cX11_kindHere 61 = .ok (.aload_n 0, 1) := by decide +kernel
theorem dX11_kindHere_62 : decode cX11_kindHere 62 = .ok (.getfield 207, 3) := by decide +kernel
theorem dX11_kindHere_65 : decode cX11_kindHere 65 = .ok (.iload 5, 2) := by decide +kernel
theorem dX11_kindHere_67 : decode cX11_kindHere 67 = .ok (.iadd, 1) := by decide +kernel
theorem dX11_kindHere_68 : decode cX11_kindHere 68 = .ok (.iaload, 1) := by decide +kernel
theorem dX11_kindHere_69 : decode cX11_kindHere 69 = .ok (.ldc 228, 2) := by decide +kernel
theorem dX11_kindHere_71 : decode cX11_kindHere 71 = .ok (.iload_n 3, 1) := by decide +kernel
theorem dX11_kindHere_72 : decode cX11_kindHere 72 = .ok (.invokestatic 225, 3) := by decide +kernel
theorem dX11_kindHere_75 : decode cX11_kindHere 75 = .ok (.iload 5, 2) := by decide +kernel
theorem dX11_kindHere_77 : decode cX11_kindHere 77 = .ok (.iadd, 1) := by decide +kernel
theorem dX11_kindHere_78 : decode cX11_kindHere 78 = .ok (.invokevirtual 230, 3) := by decide +kernel
theorem dX11_kindHere_81 : decode cX11_kindHere 81 = .ok (.if_icmp .ne 9, 3) := by decide +kernel
theorem dX11_kindHere_84 : decode cX11_kindHere 84 = .ok (.iinc 5 1, 3) := by decide +kernel
theorem dX11_kindHere_87 : decode cX11_kindHere 87 = .ok (.goto (-51), 3) := by decide +kernel
theorem dX11_kindHere_90 : decode cX11_kindHere 90 = .ok (.iload_n 1, 1) := by decide +kernel
theorem dX11_kindHere_91 : decode cX11_kindHere 91 = .ok (.aload_n 0, 1) := by decide +kernel
theorem dX11_kindHere_92 : decode cX11_kindHere 92 = .ok (.getfield 207, 3) := by decide +kernel
theorem dX11_kindHere_95 : decode cX11_kindHere 95 = .ok (.iload 5, 2) := by decide +kernel
theorem dX11_kindHere_97 : decode cX11_kindHere 97 = .ok (.iadd, 1) := by decide +kernel
theorem dX11_kindHere_98 : decode cX11_kindHere 98 = .ok (.invokestatic 90, 3) := by decide +kernel
theorem dX11_kindHere_101 : decode cX11_kindHere 101 = .ok (.istore_n 1, 1) := by decide +kernel
theorem dX11_kindHere_102 : decode cX11_kindHere 102 = .ok (.iload 5, 2) := by decide +kernel
theorem dX11_kindHere_104 : decode cX11_kindHere 104 = .ok (.iload 4, 2) := by decide +kernel
theorem dX11_kindHere_106 : decode cX11_kindHere 106 = .ok (.if_icmp .ne 7, 3) := by decide +kernel
theorem dX11_kindHere_109 : decode cX11_kindHere 109 = .ok (.iload_n 3, 1) := by decide +kernel
theorem dX11_kindHere_110 : decode cX11_kindHere 110 = .ok (.goto 4, 3) := by decide +kernel
theorem dX11_kindHere_113 : decode cX11_kindHere 113 = .ok (.iload_n 2, 1) := by decide +kernel
theorem dX11_kindHere_114 : decode cX11_kindHere 114 = .ok (.istore_n 2, 1) := by decide +kernel
theorem dX11_kindHere_115 : decode cX11_kindHere 115 = .ok (.iinc 3 1, 3) := by decide +kernel
theorem dX11_kindHere_118 : decode cX11_kindHere 118 = .ok (.goto (-109), 3) := by decide +kernel
theorem dX11_kindHere_121 : decode cX11_kindHere 121 = .ok (.aload_n 0, 1) := by decide +kernel
theorem dX11_kindHere_122 : decode cX11_kindHere 122 = .ok (.iload_n 2, 1) := by decide +kernel
theorem dX11_kindHere_123 : decode cX11_kindHere 123 = .ok (.iconst (-1), 1) := by decide +kernel
theorem dX11_kindHere_124 : decode cX11_kindHere 124 = .ok (.if_icmp .ne 7, 3) := by decide +kernel
theorem dX11_kindHere_127 : decode cX11_kindHere 127 = .ok (.iload_n 1, 1) := by decide +kernel
theorem dX11_kindHere_128 : decode cX11_kindHere 128 = .ok (.goto 7, 3) := by decide +kernel
theorem dX11_kindHere_131 : decode cX11_kindHere 131 = .ok (.aload_n 0, 1) := by decide +kernel
theorem dX11_kindHere_132 : decode cX11_kindHere 132 = .ok (.getfield 213, 3) := by decide +kernel
theorem dX11_kindHere_135 : decode cX11_kindHere 135 = .ok (.putfield 213, 3) := by decide +kernel
theorem dX11_kindHere_138 : decode cX11_kindHere 138 = .ok (.aload_n 0, 1) := by decide +kernel
theorem dX11_kindHere_139 : decode cX11_kindHere 139 = .ok (.dup, 1) := by decide +kernel
theorem dX11_kindHere_140 : decode cX11_kindHere 140 = .ok (.getfield 207, 3) := by decide +kernel
theorem dX11_kindHere_143 : decode cX11_kindHere 143 = .ok (.iload_n 2, 1) := by decide +kernel
theorem dX11_kindHere_144 : decode cX11_kindHere 144 = .ok (.iconst (-1), 1) := by decide +kernel
theorem dX11_kindHere_145 : decode cX11_kindHere 145 = .ok (.if_icmp .ne 7, 3) := by decide +kernel
theorem dX11_kindHere_148 : decode cX11_kindHere 148 = .ok (.iconst 0, 1) := by decide +kernel
theorem dX11_kindHere_149 : decode cX11_kindHere 149 = .ok (.goto 14, 3) := by decide +kernel
theorem dX11_kindHere_152 : decode cX11_kindHere 152 = .ok (.iload_n 2, 1) := by decide +kernel
theorem dX11_kindHere_153 : decode cX11_kindHere 153 = .ok (.iconst 1, 1) := by decide +kernel
theorem dX11_kindHere_154 : decode cX11_kindHere 154 = .ok (.iadd, 1) := by decide +kernel
theorem dX11_kindHere_155 : decode cX11_kindHere 155 = .ok (.invokestatic 225, 3) := by decide +kernel
theorem dX11_kindHere_158 : decode cX11_kindHere 158 = .ok (.iload_n 2, 1) := by decide +kernel
theorem dX11_kindHere_159 : decode cX11_kindHere 159 = .ok (.invokestatic 225, 3) := by decide +kernel
theorem dX11_kindHere_162 : decode cX11_kindHere 162 = .ok (.isub, 1) := by decide +kernel
theorem dX11_kindHere_163 : decode cX11_kindHere 163 = .ok (.iadd, 1) := by decide +kernel
theorem dX11_kindHere_164 : decode cX11_kindHere 164 = .ok (.putfield 207, 3) := by decide +kernel
theorem dX11_kindHere_167 : decode cX11_kindHere 167 = .ok (.iload_n 2, 1) := by decide +kernel
theorem dX11_kindHere_168 : decode cX11_kindHere 168 = .ok (.ireturn, 1) := by decide +kernel
set_option maxRecDepth 20000 in
theorem ggX11_cell_X11_digit : GoodIn wsX11_cell wsX11_digit := goodIn_ca (goodIn_r _ [6, 7, 8, 9, 5, 10, 11, 12, 13, 14, 15, 16, 17, 18, 19, 20, 21, 22, 23, 24, 25, 26, 27, 28, 29, 30, 31, 32, 33, 34, 35, 36, 37, 38, 39, 40] (by decide +kernel) (by decide +kernel)) (goodIn_sub (fun _ h => List.mem_cons_of_mem _ (List.mem_append_right _ h)) (by decide +kernel))
set_option maxRecDepth 20000 in
theorem gX11_cell_X11_digit : GoodIn wsX11_cell (wsV RX11 222 RX11 yX11_digit wsX11_digit) := goodIn_app (goodIn_of _ (by decide +kernel)) ggX11_cell_X11_digit
theorem dX11_cell_0 : decode cX11_cell 0 = .ok (.aload_n 0, 1) := by decide +kernel
theorem dX11_cell_1 : decode cX11_cell 1 = .ok (.getfield 38, 3) := by decide +kernel
theorem dX11_cell_4 : decode cX11_cell 4 = .ok (.iload_n 1, 1) := by decide +kernel
theorem dX11_cell_5 : decode cX11_cell 5 = .ok (.iconst 1, 1) := by decide +kernel
theorem dX11_cell_6 : decode cX11_cell 6 = .ok (.iadd, 1) := by decide +kernel
theorem dX11_cell_7 : decode cX11_cell 7 = .ok (.aload_n 0, 1) := by decide +kernel
theorem dX11_cell_8 : decode cX11_cell 8 = .ok (.invokevirtual 222, 3) := by decide +kernel
theorem dX11_cell_11 : decode cX11_cell 11 = .ok (.iastore, 1) := by decide +kernel
theorem dX11_cell_12 : decode cX11_cell 12 = .ok (.aload_n 0, 1) := by decide +kernel
theorem dX11_cell_13 : decode cX11_cell 13 = .ok (.getfield 38, 3) := by decide +kernel
theorem dX11_cell_16 : decode cX11_cell 16 = .ok (.iload_n 1, 1) := by decide +kernel
theorem dX11_cell_17 : decode cX11_cell 17 = .ok (.iconst 2, 1) := by decide +kernel
theorem dX11_cell_18 : decode cX11_cell 18 = .ok (.iadd, 1) := by decide +kernel
theorem dX11_cell_19 : decode cX11_cell 19 = .ok (.aload_n 0, 1) := by decide +kernel
theorem dX11_cell_20 : decode cX11_cell 20 = .ok (.invokevirtual 222, 3) := by decide +kernel
theorem dX11_cell_23 : decode cX11_cell 23 = .ok (.iastore, 1) := by decide +kernel
theorem dX11_cell_24 : decode cX11_cell 24 = .ok (.return_, 1) := by decide +kernel
set_option maxRecDepth 20000 in
theorem ggX11_readsCommand_X11_kindHere : GoodIn wsX11_readsCommand wsX11_kindHere := goodIn_ca (goodIn_r _ [8, 9, 10, 11, 12, 13, 14, 15, 3, 16, 17, 7, 18, 19, 20, 21, 22, 23, 24, 25, 26, 27, 28, 29, 30, 31, 32, 33, 34, 35, 36, 37, 38, 39, 40, 41, 42, 43, 44, 45, 46, 47, 48, 49, 50, 51, 52, 53, 54, 55, 56, 57, 58, 59, 87, 88, 89, 90, 91, 92, 93, 94, 95, 96, 97, 98, 99, 100, 101, 102, 103, 104, 105, 106, 107] (by decide +kernel) (by decide +kernel)) (goodIn_sub (fun _ h => List.mem_cons_of_mem _ (List.mem_append_right _ h)) (by decide +kernel))
set_option maxRecDepth 20000 in
theorem gX11_readsCommand_X11_kindHere : GoodIn wsX11_readsCommand (wsV RX11 239 RX11 yX11_kindHere wsX11_kindHere) := goodIn_app (goodIn_of _ (by decide +kernel)) ggX11_readsCommand_X11_kindHere
set_option maxRecDepth 20000 in
theorem ggX11_readsCommand_X11_digit : GoodIn wsX11_readsCommand wsX11_digit := goodIn_ca (goodIn_r _ [63, 64, 65, 66, 7, 67, 3, 9, 11, 68, 69, 70, 71, 10, 72, 73, 74, 87, 88, 89, 90, 91, 92, 93, 94, 95, 96, 97, 98, 99, 100, 101, 102, 103, 104, 105] (by decide +kernel) (by decide +kernel)) (goodIn_sub (fun _ h => List.mem_cons_of_mem _ (List.mem_append_right _ h)) (by decide +kernel))
set_option maxRecDepth 20000 in
theorem gX11_readsCommand_X11_digit : GoodIn wsX11_readsCommand (wsV RX11 222 RX11 yX11_digit wsX11_digit) := goodIn_app (goodIn_of _ (by decide +kernel)) ggX11_readsCommand_X11_digit
set_option maxRecDepth 20000 in
theorem ggX11_readsCommand_X11_reads : GoodIn wsX11_readsCommand wsX11_reads := goodIn_ca (goodIn_r _ [67, 3, 9, 11, 68, 69, 70, 7, 71, 10, 72, 73, 74, 87, 88, 89, 90, 91, 92, 93, 94, 95, 96, 97, 98, 99, 100, 101, 102, 103, 104, 105] (by decide +kernel) (by decide +kernel)) (goodIn_sub (fun _ h => List.mem_cons_of_mem _ (List.mem_append_right _ h)) (by decide +kernel))
set_option maxRecDepth 20000 in
theorem gX11_readsCommand_X11_reads : GoodIn wsX11_readsCommand (wsV RX11 219 RX11 yX11_reads wsX11_reads) := goodIn_app (goodIn_of _ (by decide +kernel)) ggX11_readsCommand_X11_reads
set_option maxRecDepth 20000 in
theorem ggX11_readsCommand_X11_number : GoodIn wsX11_readsCommand wsX11_number := goodIn_ca (goodIn_r _ [78, 3, 60, 61, 62, 7, 63, 64, 65, 66, 67, 9, 11, 68, 69, 70, 71, 10, 72, 73, 74, 87, 88, 89, 90, 91, 92, 93, 94, 95, 96, 97, 98, 99, 100, 101, 102, 103, 104, 105] (by decide +kernel) (by decide +kernel)) (goodIn_sub (fun _ h => List.mem_cons_of_mem _ (List.mem_append_right _ h)) (by decide +kernel))
set_option maxRecDepth 20000 in
theorem gX11_readsCommand_X11_number : GoodIn wsX11_readsCommand (wsV RX11 242 RX11 yX11_number wsX11_number) := goodIn_app (goodIn_of _ (by decide +kernel)) ggX11_readsCommand_X11_number
set_option maxRecDepth 20000 in
theorem ggX11_readsCommand_X11_cell : GoodIn wsX11_readsCommand wsX11_cell := goodIn_ca (goodIn_r _ [82, 2, 60, 61, 62, 7, 63, 64, 65, 66, 67, 3, 9, 11, 68, 69, 70, 71, 10, 72, 73, 74, 87, 88, 89, 90, 91, 92, 93, 94, 95, 96, 97, 98, 99, 100, 101, 102, 103, 104, 105] (by decide +kernel) (by decide +kernel)) (goodIn_sub (fun _ h => List.mem_cons_of_mem _ (List.mem_append_right _ h)) (by decide +kernel))
set_option maxRecDepth 20000 in
theorem gX11_readsCommand_X11_cell : GoodIn wsX11_readsCommand (wsV RX11 245 RX11 yX11_cell wsX11_cell) := goodIn_app (goodIn_of _ (by decide +kernel)) ggX11_readsCommand_X11_cell
set_option maxRecDepth 20000 in
theorem ggX11_readsCommand_X11_digitBehindBlank : GoodIn wsX11_readsCommand wsX11_digitBehindBlank := goodIn_ca (goodIn_r _ [86, 64, 65, 66, 7, 67, 3, 9, 11, 68, 69, 70, 71, 10, 72, 73, 74, 60, 61, 62, 63, 87, 88, 89, 90, 91, 92, 93, 94, 95, 96, 97, 98, 99, 100, 101, 102, 103, 104, 105] (by decide +kernel) (by decide +kernel)) (goodIn_sub (fun _ h => List.mem_cons_of_mem _ (List.mem_append_right _ h)) (by decide +kernel))
set_option maxRecDepth 20000 in
theorem gX11_readsCommand_X11_digitBehindBlank : GoodIn wsX11_readsCommand (wsV RX11 248 RX11 yX11_digitBehindBlank wsX11_digitBehindBlank) := goodIn_app (goodIn_of _ (by decide +kernel)) ggX11_readsCommand_X11_digitBehindBlank
theorem dX11_readsCommand_0 : decode cX11_readsCommand 0 = .ok (.iconst 5, 1) := by decide +kernel
theorem dX11_readsCommand_1 : decode cX11_readsCommand 1 = .ok (.aload_n 0, 1) := by decide +kernel
theorem dX11_readsCommand_2 : decode cX11_readsCommand 2 = .ok (.getfield 236, 3) := by decide +kernel
theorem dX11_readsCommand_5 : decode cX11_readsCommand 5 = .ok (.imul, 1) := by decide +kernel
theorem dX11_readsCommand_6 : decode cX11_readsCommand 6 = .ok (.istore_n 1, 1) := by decide +kernel
theorem dX11_readsCommand_7 : decode cX11_readsCommand 7 = .ok (.aload_n 0, 1) := by decide +kernel
theorem dX11_readsCommand_8 : decode cX11_readsCommand 8 = .ok (.invokevirtual 239, 3) := by decide +kernel
theorem dX11_readsCommand_11 : decode cX11_readsCommand 11 = .ok (.istore_n 2, 1) := by decide +kernel
theorem dX11_readsCommand_12 : decode cX11_readsCommand 12 = .ok (.aload_n 0, 1) := by decide +kernel
theorem dX11_readsCommand_13 : decode cX11_readsCommand 13 = .ok (.getfield 38, 3) := by decide +kernel
theorem dX11_readsCommand_16 : decode cX11_readsCommand 16 = .ok (.iload_n 1, 1) := by decide +kernel
theorem dX11_readsCommand_17 : decode cX11_readsCommand 17 = .ok (.iload_n 2, 1) := by decide +kernel
theorem dX11_readsCommand_18 : decode cX11_readsCommand 18 = .ok (.iastore, 1) := by decide +kernel
theorem dX11_readsCommand_19 : decode cX11_readsCommand 19 = .ok (.aload_n 0, 1) := by decide +kernel
theorem dX11_readsCommand_20 : decode cX11_readsCommand 20 = .ok (.dup, 1) := by decide +kernel
theorem dX11_readsCommand_21 : decode cX11_readsCommand 21 = .ok (.getfield 236, 3) := by decide +kernel
theorem dX11_readsCommand_24 : decode cX11_readsCommand 24 = .ok (.iconst 1, 1) := by decide +kernel
theorem dX11_readsCommand_25 : decode cX11_readsCommand 25 = .ok (.iadd, 1) := by decide +kernel
theorem dX11_readsCommand_26 : decode cX11_readsCommand 26 = .ok (.putfield 236, 3) := by decide +kernel
theorem dX11_readsCommand_29 : decode cX11_readsCommand 29 = .ok (.aload_n 0, 1) := by decide +kernel
theorem dX11_readsCommand_30 : decode cX11_readsCommand 30 = .ok (.getfield 213, 3) := by decide +kernel
theorem dX11_readsCommand_33 : decode cX11_readsCommand 33 = .ok (.iconst (-1), 1) := by decide +kernel
theorem dX11_readsCommand_34 : decode cX11_readsCommand 34 = .ok (.if_icmp .eq 4, 3) := by decide +kernel
theorem dX11_readsCommand_37 : decode cX11_readsCommand 37 = .ok (.return_, 1) := by decide +kernel
theorem dX11_readsCommand_38 : decode cX11_readsCommand 38 = .ok (.iload_n 2, 1) := by decide +kernel
theorem dX11_readsCommand_39 : decode cX11_readsCommand 39 = .ok (.iconst 4, 1) := by decide +kernel
theorem dX11_readsCommand_40 : decode cX11_readsCommand 40 = .ok (.if_icmp .eq 15, 3) := by decide +kernel
theorem dX11_readsCommand_43 : decode cX11_readsCommand 43 = .ok (.iload_n 2, 1) := by decide +kernel
theorem dX11_readsCommand_44 : decode cX11_readsCommand 44 = .ok (.bipush 7, 2) := by decide +kernel
theorem dX11_readsCommand_46 : decode cX11_readsCommand 46 = .ok (.if_icmp .eq 9, 3) := by decide +kernel
theorem dX11_readsCommand_49 : decode cX11_readsCommand 49 = .ok (.iload_n 2, 1) := by decide +kernel
theorem dX11_readsCommand_50 : decode cX11_readsCommand 50 = .ok (.bipush 6, 2) := by decide +kernel
theorem dX11_readsCommand_52 : decode cX11_readsCommand 52 = .ok (.if_icmp .ne 15, 3) := by decide +kernel
theorem dX11_readsCommand_55 : decode cX11_readsCommand 55 = .ok (.aload_n 0, 1) := by decide +kernel
theorem dX11_readsCommand_56 : decode cX11_readsCommand 56 = .ok (.getfield 38, 3) := by decide +kernel
theorem dX11_readsCommand_59 : decode cX11_readsCommand 59 = .ok (.iload_n 1, 1) := by decide +kernel
theorem dX11_readsCommand_60 : decode cX11_readsCommand 60 = .ok (.iconst 3, 1) := by decide +kernel
theorem dX11_readsCommand_61 : decode cX11_readsCommand 61 = .ok (.iadd, 1) := by decide +kernel
theorem dX11_readsCommand_62 : decode cX11_readsCommand 62 = .ok (.aload_n 0, 1) := by decide +kernel
theorem dX11_readsCommand_63 : decode cX11_readsCommand 63 = .ok (.invokevirtual 222, 3) := by decide +kernel
theorem dX11_readsCommand_66 : decode cX11_readsCommand 66 = .ok (.iastore, 1) := by decide +kernel
theorem dX11_readsCommand_67 : decode cX11_readsCommand 67 = .ok (.iload_n 2, 1) := by decide +kernel
theorem dX11_readsCommand_68 : decode cX11_readsCommand 68 = .ok (.bipush 6, 2) := by decide +kernel
theorem dX11_readsCommand_70 : decode cX11_readsCommand 70 = .ok (.if_icmp .eq 9, 3) := by decide +kernel
theorem dX11_readsCommand_73 : decode cX11_readsCommand 73 = .ok (.iload_n 2, 1) := by decide +kernel
theorem dX11_readsCommand_74 : decode cX11_readsCommand 74 = .ok (.bipush 7, 2) := by decide +kernel
theorem dX11_readsCommand_76 : decode cX11_readsCommand 76 = .ok (.if_icmp .ne 12, 3) := by decide +kernel
theorem dX11_readsCommand_79 : decode cX11_readsCommand 79 = .ok (.aload_n 0, 1) := by decide +kernel
theorem dX11_readsCommand_80 : decode cX11_readsCommand 80 = .ok (.bipush 32, 2) := by decide +kernel
theorem dX11_readsCommand_82 : decode cX11_readsCommand 82 = .ok (.bipush 32, 2) := by decide +kernel
theorem dX11_readsCommand_84 : decode cX11_readsCommand 84 = .ok (.invokevirtual 219, 3) := by decide +kernel
theorem dX11_readsCommand_87 : decode cX11_readsCommand 87 = .ok (.istore_n 3, 1) := by decide +kernel
theorem dX11_readsCommand_88 : decode cX11_readsCommand 88 = .ok (.iload_n 2, 1) := by decide +kernel
theorem dX11_readsCommand_89 : decode cX11_readsCommand 89 = .ok (.bipush 7, 2) := by decide +kernel
theorem dX11_readsCommand_91 : decode cX11_readsCommand 91 = .ok (.if_icmp .ne 18, 3) := by decide +kernel
theorem dX11_readsCommand_94 : decode cX11_readsCommand 94 = .ok (.aload_n 0, 1) := by decide +kernel
theorem dX11_readsCommand_95 : decode cX11_readsCommand 95 = .ok (.getfield 38, 3) := by decide +kernel
theorem dX11_readsCommand_98 : decode cX11_readsCommand 98 = .ok (.iload_n 1, 1) := by decide +kernel
theorem dX11_readsCommand_99 : decode cX11_readsCommand 99 = .ok (.iconst 4, 1) := by decide +kernel
theorem dX11_readsCommand_100 : decode cX11_readsCommand 100 = .ok (.iadd, 1) := by decide +kernel
theorem dX11_readsCommand_101 : decode cX11_readsCommand 101 = .ok (.aload_n 0, 1) := by decide +kernel
theorem dX11_readsCommand_102 : decode cX11_readsCommand 102 = .ok (.invokevirtual 242, 3) := by decide +kernel
theorem dX11_readsCommand_105 : decode cX11_readsCommand 105 = .ok (.iastore, 1) := by decide +kernel
theorem dX11_readsCommand_106 : decode cX11_readsCommand 106 = .ok (.goto 13, 3) := by decide +kernel
theorem dX11_readsCommand_109 : decode cX11_readsCommand 109 = .ok (.iload_n 2, 1) := by decide +kernel
theorem dX11_readsCommand_110 : decode cX11_readsCommand 110 = .ok (.iconst 4, 1) := by decide +kernel
theorem dX11_readsCommand_111 : decode cX11_readsCommand 111 = .ok (.if_icmp .eq 8, 3) := by decide +kernel
theorem dX11_readsCommand_114 : decode cX11_readsCommand 114 = .ok (.aload_n 0, 1) := by decide +kernel
theorem dX11_readsCommand_115 : decode cX11_readsCommand 115 = .ok (.iload_n 1, 1) := by decide +kernel
theorem dX11_readsCommand_116 : decode cX11_readsCommand 116 = .ok (.invokevirtual 245, 3) := by decide +kernel
theorem dX11_readsCommand_119 : decode cX11_readsCommand 119 = .ok (.iload_n 2, 1) := by decide +kernel
theorem dX11_readsCommand_120 : decode cX11_readsCommand 120 = .ok (.ifCond .ne 15, 3) := by decide +kernel
theorem dX11_readsCommand_123 : decode cX11_readsCommand 123 = .ok (.aload_n 0, 1) := by decide +kernel
theorem dX11_readsCommand_124 : decode cX11_readsCommand 124 = .ok (.getfield 38, 3) := by decide +kernel
theorem dX11_readsCommand_127 : decode cX11_readsCommand 127 = .ok (.iload_n 1, 1) := by decide +kernel
theorem dX11_readsCommand_128 : decode cX11_readsCommand 128 = .ok (.iconst 3, 1) := by decide +kernel
theorem dX11_readsCommand_129 : decode cX11_readsCommand 129 = .ok (.iadd, 1) := by decide +kernel
theorem dX11_readsCommand_130 : decode cX11_readsCommand 130 = .ok (.aload_n 0, 1) := by decide +kernel
theorem dX11_readsCommand_131 : decode cX11_readsCommand 131 = .ok (.invokevirtual 222, 3) := by decide +kernel
theorem dX11_readsCommand_134 : decode cX11_readsCommand 134 = .ok (.iastore, 1) := by decide +kernel
theorem dX11_readsCommand_135 : decode cX11_readsCommand 135 = .ok (.iload_n 2, 1) := by decide +kernel
theorem dX11_readsCommand_136 : decode cX11_readsCommand 136 = .ok (.iconst 5, 1) := by decide +kernel
theorem dX11_readsCommand_137 : decode cX11_readsCommand 137 = .ok (.if_icmp .ne 27, 3) := by decide +kernel
theorem dX11_readsCommand_140 : decode cX11_readsCommand 140 = .ok (.aload_n 0, 1) := by decide +kernel
theorem dX11_readsCommand_141 : decode cX11_readsCommand 141 = .ok (.getfield 38, 3) := by decide +kernel
theorem dX11_readsCommand_144 : decode cX11_readsCommand 144 = .ok (.iload_n 1, 1) := by decide +kernel
theorem dX11_readsCommand_145 : decode cX11_readsCommand 145 = .ok (.iconst 3, 1) := by decide +kernel
theorem dX11_readsCommand_146 : decode cX11_readsCommand 146 = .ok (.iadd, 1) := by decide +kernel
theorem dX11_readsCommand_147 : decode cX11_readsCommand 147 = .ok (.aload_n 0, 1) := by decide +kernel
theorem dX11_readsCommand_148 : decode cX11_readsCommand 148 = .ok (.invokevirtual 248, 3) := by decide +kernel
theorem dX11_readsCommand_151 : decode cX11_readsCommand 151 = .ok (.iastore, 1) := by decide +kernel
theorem dX11_readsCommand_152 : decode cX11_readsCommand 152 = .ok (.aload_n 0, 1) := by decide +kernel
theorem dX11_readsCommand_153 : decode cX11_readsCommand 153 = .ok (.getfield 38, 3) := by decide +kernel
theorem dX11_readsCommand_156 : decode cX11_readsCommand 156 = .ok (.iload_n 1, 1) := by decide +kernel
theorem dX11_readsCommand_157 : decode cX11_readsCommand 157 = .ok (.iconst 4, 1) := by decide +kernel
theorem dX11_readsCommand_158 : decode cX11_readsCommand 158 = .ok (.iadd, 1) := by decide +kernel
theorem dX11_readsCommand_159 : decode cX11_readsCommand 159 = .ok (.aload_n 0, 1) := by decide +kernel
theorem dX11_readsCommand_160 : decode cX11_readsCommand 160 = .ok (.invokevirtual 248, 3) := by decide +kernel
theorem dX11_readsCommand_163 : decode cX11_readsCommand 163 = .ok (.iastore, 1) := by decide +kernel
theorem dX11_readsCommand_164 : decode cX11_readsCommand 164 = .ok (.return_, 1) := by decide +kernel
set_option maxRecDepth 20000 in
theorem ggX11_readsAll_X11_readsCommand : GoodIn wsX11_readsAll wsX11_readsCommand := goodIn_ca (goodIn_r _ [10, 5, 11, 4, 12, 13, 14, 9, 15, 3, 2, 16, 17, 18, 19, 20, 21, 22, 23, 24, 25, 26, 27, 28, 29, 30, 31, 32, 33, 34, 35, 36, 37, 38, 39, 40, 41, 42, 43, 44, 45, 46, 47, 48, 49, 50, 51, 52, 53, 54, 55, 56, 57, 58, 59, 60, 61, 62, 63, 64, 65, 66, 67, 68, 69, 70, 71, 72, 73, 74, 75, 76, 77, 78, 79, 80, 81, 82, 83, 84, 85, 86, 87, 88, 89, 90, 91, 92, 93, 94, 95, 96, 97, 98, 99, 100, 101, 102, 103, 104, 105, 106, 107, 108, 109, 110, 111, 112] (by decide +kernel) (by decide +kernel)) (goodIn_sub (fun _ h => List.mem_cons_of_mem _ (List.mem_append_right _ h)) (by decide +kernel))
set_option maxRecDepth 20000 in
theorem gX11_readsAll_X11_readsCommand : GoodIn wsX11_readsAll (wsV RX11 251 RX11 yX11_readsCommand wsX11_readsCommand) := goodIn_app (goodIn_of _ (by decide +kernel)) ggX11_readsAll_X11_readsCommand
set_option maxRecDepth 20000 in
theorem ggX11_readsAll_X11_reads : GoodIn wsX11_readsAll wsX11_reads := goodIn_ca (goodIn_r _ [72, 4, 3, 16, 73, 74, 75, 9, 76, 2, 77, 78, 79, 92, 93, 94, 95, 96, 97, 98, 99, 100, 101, 102, 103, 104, 105, 106, 107, 108, 109, 110] (by decide +kernel) (by decide +kernel)) (goodIn_sub (fun _ h => List.mem_cons_of_mem _ (List.mem_append_right _ h)) (by decide +kernel))
set_option maxRecDepth 20000 in
theorem gX11_readsAll_X11_reads : GoodIn wsX11_readsAll (wsV RX11 219 RX11 yX11_reads wsX11_reads) := goodIn_app (goodIn_of _ (by decide +kernel)) ggX11_readsAll_X11_reads
theorem dX11_readsAll_0 : decode cX11_readsAll 0 = .ok (.aload_n 0, 1) := by decide +kernel
theorem dX11_readsAll_1 : decode cX11_readsAll 1 = .ok (.aload_n 0, 1) := by decide +kernel
theorem dX11_readsAll_2 : decode cX11_readsAll 2 = .ok (.getfield 204, 3) := by decide +kernel
theorem dX11_readsAll_5 : decode cX11_readsAll 5 = .ok (.putfield 210, 3) := by decide +kernel
theorem dX11_readsAll_8 : decode cX11_readsAll 8 = .ok (.aload_n 0, 1) := by decide +kernel
theorem dX11_readsAll_9 : decode cX11_readsAll 9 = .ok (.iconst 0, 1) := by decide +kernel
theorem dX11_readsAll_10 : decode cX11_readsAll 10 = .ok (.putfield 204, 3) := by decide +kernel
theorem dX11_readsAll_13 : decode cX11_readsAll 13 = .ok (.aload_n 0, 1) := by decide +kernel
theorem dX11_readsAll_14 : decode cX11_readsAll 14 = .ok (.iconst 0, 1) := by decide +kernel
theorem dX11_readsAll_15 : decode cX11_readsAll 15 = .ok (.putfield 207, 3) := by decide +kernel
theorem dX11_readsAll_18 : decode cX11_readsAll 18 = .ok (.aload_n 0, 1) := by decide +kernel
theorem dX11_readsAll_19 : decode cX11_readsAll 19 = .ok (.iconst (-1), 1) := by decide +kernel
theorem dX11_readsAll_20 : decode cX11_readsAll 20 = .ok (.putfield 213, 3) := by decide +kernel
theorem dX11_readsAll_23 : decode cX11_readsAll 23 = .ok (.aload_n 0, 1) := by decide +kernel
theorem dX11_readsAll_24 : decode cX11_readsAll 24 = .ok (.iconst 0, 1) := by decide +kernel
theorem dX11_readsAll_25 : decode cX11_readsAll 25 = .ok (.putfield 236, 3) := by decide +kernel
theorem dX11_readsAll_28 : decode cX11_readsAll 28 = .ok (.aload_n 0, 1) := by decide +kernel
theorem dX11_readsAll_29 : decode cX11_readsAll 29 = .ok (.invokevirtual 251, 3) := by decide +kernel
theorem dX11_readsAll_32 : decode cX11_readsAll 32 = .ok (.aload_n 0, 1) := by decide +kernel
theorem dX11_readsAll_33 : decode cX11_readsAll 33 = .ok (.getfield 213, 3) := by decide +kernel
theorem dX11_readsAll_36 : decode cX11_readsAll 36 = .ok (.iconst (-1), 1) := by decide +kernel
theorem dX11_readsAll_37 : decode cX11_readsAll 37 = .ok (.if_icmp .ne 38, 3) := by decide +kernel
theorem dX11_readsAll_40 : decode cX11_readsAll 40 = .ok (.aload_n 0, 1) := by decide +kernel
theorem dX11_readsAll_41 : decode cX11_readsAll 41 = .ok (.getfield 207, 3) := by decide +kernel
theorem dX11_readsAll_44 : decode cX11_readsAll 44 = .ok (.aload_n 0, 1) := by decide +kernel
theorem dX11_readsAll_45 : decode cX11_readsAll 45 = .ok (.getfield 210, 3) := by decide +kernel
theorem dX11_readsAll_48 : decode cX11_readsAll 48 = .ok (.if_icmp .ge 27, 3) := by decide +kernel
theorem dX11_readsAll_51 : decode cX11_readsAll 51 = .ok (.aload_n 0, 1) := by decide +kernel
theorem dX11_readsAll_52 : decode cX11_readsAll 52 = .ok (.bipush 59, 2) := by decide +kernel
theorem dX11_readsAll_54 : decode cX11_readsAll 54 = .ok (.bipush 59, 2) := by decide +kernel
theorem dX11_readsAll_56 : decode cX11_readsAll 56 = .ok (.invokevirtual 219, 3) := by decide +kernel
theorem dX11_readsAll_59 : decode cX11_readsAll 59 = .ok (.istore_n 1, 1) := by decide +kernel
theorem dX11_readsAll_60 : decode cX11_readsAll 60 = .ok (.aload_n 0, 1) := by decide +kernel
theorem dX11_readsAll_61 : decode cX11_readsAll 61 = .ok (.getfield 213, 3) := by decide +kernel
theorem dX11_readsAll_64 : decode cX11_readsAll 64 = .ok (.iconst (-1), 1) := by decide +kernel
theorem dX11_readsAll_65 : decode cX11_readsAll 65 = .ok (.if_icmp .ne 7, 3) := by decide +kernel
theorem dX11_readsAll_68 : decode cX11_readsAll 68 = .ok (.aload_n 0, 1) := by decide +kernel
theorem dX11_readsAll_69 : decode cX11_readsAll 69 = .ok (.invokevirtual 251, 3) := by decide +kernel
theorem dX11_readsAll_72 : decode cX11_readsAll 72 = .ok (.goto (-40), 3) := by decide +kernel
theorem dX11_readsAll_75 : decode cX11_readsAll 75 = .ok (.return_, 1) := by decide +kernel
set_option maxRecDepth 20000 in
theorem ggX11_does_X11_sets : GoodIn wsX11_does wsX11_sets := goodIn_ca (goodIn_r _ [6, 7, 8, 9, 5, 10, 11, 12, 13, 14, 15, 16, 17, 18, 19, 20, 21, 22, 23, 24, 25, 26, 27, 28, 29, 30, 31, 108, 109, 110, 111, 112, 113, 114, 115, 116, 117, 118, 119, 120, 121, 122, 123, 124, 125, 126] (by decide +kernel) (by decide +kernel)) (goodIn_sub (fun _ h => List.mem_cons_of_mem _ (List.mem_append_right _ h)) (by decide +kernel))
set_option maxRecDepth 20000 in
theorem gX11_does_X11_sets : GoodIn wsX11_does (wsV RX11 103 RX11 yX11_sets wsX11_sets) := goodIn_app (goodIn_of _ (by decide +kernel)) ggX11_does_X11_sets
set_option maxRecDepth 20000 in
theorem ggX11_does_X11_cuts : GoodIn wsX11_does wsX11_cuts := goodIn_ca (goodIn_r _ [35, 7, 36, 37, 38, 5, 39, 8, 9, 10, 11, 12, 13, 14, 15, 16, 17, 18, 19, 20, 21, 22, 23, 40, 41, 42, 43, 44, 45, 46, 47, 48, 49, 50, 51, 52, 53, 27, 28, 29, 30, 31, 108, 109, 110, 111, 112, 113, 114, 115, 116, 117, 118, 119, 120, 121, 122, 123, 124, 125, 126] (by decide +kernel) (by decide +kernel)) (goodIn_sub (fun _ h => List.mem_cons_of_mem _ (List.mem_append_right _ h)) (by decide +kernel))
set_option maxRecDepth 20000 in
theorem gX11_does_X11_cuts : GoodIn wsX11_does (wsV RX11 116 RX11 yX11_cuts wsX11_cuts) := goodIn_app (goodIn_of _ (by decide +kernel)) ggX11_does_X11_cuts
set_option maxRecDepth 20000 in
theorem ggX11_does_X11_fills : GoodIn wsX11_does wsX11_fills := goodIn_ca (goodIn_r _ [57, 7, 8, 9, 5, 10, 11, 12, 13, 14, 15, 16, 17, 18, 19, 20, 21, 22, 23, 40, 41, 42, 43, 44, 45, 46, 47, 48, 49, 50, 51, 52, 53, 27, 28, 29, 30, 31, 108, 109, 110, 111, 112, 113, 114, 115, 116, 117, 118, 119, 120, 121, 122, 123, 124, 125, 126] (by decide +kernel) (by decide +kernel)) (goodIn_sub (fun _ h => List.mem_cons_of_mem _ (List.mem_append_right _ h)) (by decide +kernel))
set_option maxRecDepth 20000 in
theorem gX11_does_X11_fills : GoodIn wsX11_does (wsV RX11 119 RX11 yX11_fills wsX11_fills) := goodIn_app (goodIn_of _ (by decide +kernel)) ggX11_does_X11_fills
set_option maxRecDepth 20000 in
theorem ggX11_does_X11_toggles : GoodIn wsX11_does wsX11_toggles := goodIn_ca (goodIn_r _ [61, 7, 11, 12, 5, 13, 14, 15, 16, 62, 63, 64, 65, 27, 28, 29, 30, 31, 8, 9, 10, 21, 22, 23, 108, 109, 110, 111, 112, 113, 114, 115, 116, 117, 118, 119, 120, 121, 122, 123, 124, 125, 126] (by decide +kernel) (by decide +kernel)) (goodIn_sub (fun _ h => List.mem_cons_of_mem _ (List.mem_append_right _ h)) (by decide +kernel))
set_option maxRecDepth 20000 in
theorem gX11_does_X11_toggles : GoodIn wsX11_does (wsV RX11 122 RX11 yX11_toggles wsX11_toggles) := goodIn_app (goodIn_of _ (by decide +kernel)) ggX11_does_X11_toggles
set_option maxRecDepth 20000 in
theorem ggX11_does_X11_limits : GoodIn wsX11_does wsX11_limits := goodIn_ca (goodIn_r _ [69, 48, 49, 46, 50, 7, 17, 18, 19, 5, 20, 21, 22, 23, 40, 41, 42, 43, 44, 45, 47, 51, 52, 53, 11, 12, 13, 14, 15, 16, 27, 28, 29, 30, 31, 108, 109, 110, 111, 112, 113, 114, 115, 116, 117, 118, 119, 120, 121, 122, 123, 124, 125, 126] (by decide +kernel) (by decide +kernel)) (goodIn_sub (fun _ h => List.mem_cons_of_mem _ (List.mem_append_right _ h)) (by decide +kernel))
set_option maxRecDepth 20000 in
theorem gX11_does_X11_limits : GoodIn wsX11_does (wsV RX11 125 RX11 yX11_limits wsX11_limits) := goodIn_app (goodIn_of _ (by decide +kernel)) ggX11_does_X11_limits
set_option maxRecDepth 20000 in
theorem ggX11_does_X11_adds : GoodIn wsX11_does wsX11_adds := goodIn_ca (goodIn_r _ [73, 7, 8, 9, 5, 10, 11, 12, 13, 14, 15, 16, 74, 75, 76, 77, 78, 79, 80, 81, 27, 28, 29, 30, 31, 108, 109, 110, 111, 112, 113, 114, 115, 116, 117, 118, 119, 120, 121, 122, 123, 124, 125, 126] (by decide +kernel) (by decide +kernel)) (goodIn_sub (fun _ h => List.mem_cons_of_mem _ (List.mem_append_right _ h)) (by decide +kernel))
set_option maxRecDepth 20000 in
theorem gX11_does_X11_adds : GoodIn wsX11_does (wsV RX11 134 RX11 yX11_adds wsX11_adds) := goodIn_app (goodIn_of _ (by decide +kernel)) ggX11_does_X11_adds
set_option maxRecDepth 20000 in
theorem ggX11_does_X11_raises : GoodIn wsX11_does wsX11_raises := goodIn_ca (goodIn_r _ [85, 7, 8, 9, 5, 10, 11, 12, 13, 14, 15, 16, 86, 87, 88, 89, 90, 91, 92, 93, 17, 18, 19, 20, 21, 22, 23, 94, 95, 96, 97, 78, 79, 80, 81, 98, 99, 100, 44, 45, 46, 47, 101, 102, 103, 27, 28, 29, 30, 31, 108, 109, 110, 111, 112, 113, 114, 115, 116, 117, 118, 119, 120, 121, 122, 123, 124, 125, 126] (by decide +kernel) (by decide +kernel)) (goodIn_sub (fun _ h => List.mem_cons_of_mem _ (List.mem_append_right _ h)) (by decide +kernel))
set_option maxRecDepth 20000 in
theorem gX11_does_X11_raises : GoodIn wsX11_does (wsV RX11 153 RX11 yX11_raises wsX11_raises) := goodIn_app (goodIn_of _ (by decide +kernel)) ggX11_does_X11_raises
set_option maxRecDepth 20000 in
theorem ggX11_does_X11_crushes : GoodIn wsX11_does wsX11_crushes := goodIn_ca (goodIn_r _ [107, 7, 24, 25, 5, 26, 14, 15, 16, 27, 28, 29, 30, 31, 108, 109, 110, 111, 112, 113, 114, 115, 116, 117, 118, 119, 120, 121, 122, 123, 124, 125, 126] (by decide +kernel) (by decide +kernel)) (goodIn_sub (fun _ h => List.mem_cons_of_mem _ (List.mem_append_right _ h)) (by decide +kernel))
set_option maxRecDepth 20000 in
theorem gX11_does_X11_crushes : GoodIn wsX11_does (wsV RX11 156 RX11 yX11_crushes wsX11_crushes) := goodIn_app (goodIn_of _ (by decide +kernel)) ggX11_does_X11_crushes
theorem dX11_does_0 : decode cX11_does 0 = .ok (.aload_n 0, 1) := by decide +kernel
theorem dX11_does_1 : decode cX11_does 1 = .ok (.getfield 38, 3) := by decide +kernel
theorem dX11_does_4 : decode cX11_does 4 = .ok (.iload_n 1, 1) := by decide +kernel
theorem dX11_does_5 : decode cX11_does 5 = .ok (.iconst 1, 1) := by decide +kernel
theorem dX11_does_6 : decode cX11_does 6 = .ok (.iadd, 1) := by decide +kernel
theorem dX11_does_7 : decode cX11_does 7 = .ok (.iaload, 1) := by decide +kernel
theorem dX11_does_8 : decode cX11_does 8 = .ok (.istore_n 2, 1) := by decide +kernel
theorem dX11_does_9 : decode cX11_does 9 = .ok (.aload_n 0, 1) := by decide +kernel
theorem dX11_does_10 : decode cX11_does 10 = .ok (.getfield 38, 3) := by decide +kernel
theorem dX11_does_13 : decode cX11_does 13 = .ok (.iload_n 1, 1) := by decide +kernel
theorem dX11_does_14 : decode cX11_does 14 = .ok (.iconst 2, 1) := by decide +kernel
theorem dX11_does_15 : decode cX11_does 15 = .ok (.iadd, 1) := by decide +kernel
theorem dX11_does_16 : decode cX11_does 16 = .ok (.iaload, 1) := by decide +kernel
theorem dX11_does_17 : decode cX11_does 17 = .ok (.istore_n 3, 1) := by decide +kernel
theorem dX11_does_18 : decode cX11_does 18 = .ok (.aload_n 0, 1) := by decide +kernel
theorem dX11_does_19 : decode cX11_does 19 = .ok (.getfield 38, 3) := by decide +kernel
theorem dX11_does_22 : decode cX11_does 22 = .ok (.iload_n 1, 1) := by decide +kernel
theorem dX11_does_23 : decode cX11_does 23 = .ok (.iconst 3, 1) := by decide +kernel
theorem dX11_does_24 : decode cX11_does 24 = .ok (.iadd, 1) := by decide +kernel
theorem dX11_does_25 : decode cX11_does 25 = .ok (.iaload, 1) := by decide +kernel
theorem dX11_does_26 : decode cX11_does 26 = .ok (.istore 4, 2) := by decide +kernel
theorem dX11_does_28 : decode cX11_does 28 = .ok (.aload_n 0, 1) := by decide +kernel
theorem dX11_does_29 : decode cX11_does 29 = .ok (.getfield 38, 3) := by decide +kernel
theorem dX11_does_32 : decode cX11_does 32 = .ok (.iload_n 1, 1) := by decide +kernel
theorem dX11_does_33 : decode cX11_does 33 = .ok (.iconst 4, 1) := by decide +kernel
theorem dX11_does_34 : decode cX11_does 34 = .ok (.iadd, 1) := by decide +kernel
theorem dX11_does_35 : decode cX11_does 35 = .ok (.iaload, 1) := by decide +kernel
theorem dX11_does_36 : decode cX11_does 36 = .ok (.istore 5, 2) := by decide +kernel
theorem dX11_does_38 : decode cX11_does 38 = .ok (.aload_n 0, 1) := by decide +kernel
theorem dX11_does_39 : decode cX11_does 39 = .ok (.getfield 38, 3) := by decide +kernel
theorem dX11_does_42 : decode cX11_does 42 = .ok (.iload_n 1, 1) := by decide +kernel
theorem dX11_does_43 : decode cX11_does 43 = .ok (.iaload, 1) := by decide +kernel
theorem dX11_does_44 : decode cX11_does 44 = .ok (.tableswitch 101 0 6 #[44, 53, 60, 67, 74, 81, 92], 44) := by decide +kernel
theorem dX11_does_88 : decode cX11_does 88 = .ok (.aload_n 0, 1) := by decide +kernel
theorem dX11_does_89 : decode cX11_does 89 = .ok (.iload_n 2, 1) := by decide +kernel
theorem dX11_does_90 : decode cX11_does 90 = .ok (.iload_n 3, 1) := by decide +kernel
theorem dX11_does_91 : decode cX11_does 91 = .ok (.iload 4, 2) := by decide +kernel
theorem dX11_does_93 : decode cX11_does 93 = .ok (.invokevirtual 103, 3) := by decide +kernel
theorem dX11_does_96 : decode cX11_does 96 = .ok (.ireturn, 1) := by decide +kernel
theorem dX11_does_97 : decode cX11_does 97 = .ok (.aload_n 0, 1) := by decide +kernel
theorem dX11_does_98 : decode cX11_does 98 = .ok (.iload_n 2, 1) := by decide +kernel
theorem dX11_does_99 : decode cX11_does 99 = .ok (.iload_n 3, 1) := by decide +kernel
theorem dX11_does_100 : decode cX11_does 100 = .ok (.invokevirtual 116, 3) := by decide +kernel
theorem dX11_does_103 : decode cX11_does 103 = .ok (.ireturn, 1) := by decide +kernel
theorem dX11_does_104 : decode cX11_does 104 = .ok (.aload_n 0, 1) := by decide +kernel
theorem dX11_does_105 : decode cX11_does 105 = .ok (.iload_n 2, 1) := by decide +kernel
theorem dX11_does_106 : decode cX11_does 106 = .ok (.iload_n 3, 1) := by decide +kernel
theorem dX11_does_107 : decode cX11_does 107 = .ok (.invokevirtual 119, 3) := by decide +kernel
theorem dX11_does_110 : decode cX11_does 110 = .ok (.ireturn, 1) := by decide +kernel
theorem dX11_does_111 : decode cX11_does 111 = .ok (.aload_n 0, 1) := by decide +kernel
theorem dX11_does_112 : decode cX11_does 112 = .ok (.iload_n 2, 1) := by decide +kernel
theorem dX11_does_113 : decode cX11_does 113 = .ok (.iload_n 3, 1) := by decide +kernel
theorem dX11_does_114 : decode cX11_does 114 = .ok (.invokevirtual 122, 3) := by decide +kernel
theorem dX11_does_117 : decode cX11_does 117 = .ok (.ireturn, 1) := by decide +kernel
theorem dX11_does_118 : decode cX11_does 118 = .ok (.aload_n 0, 1) := by decide +kernel
theorem dX11_does_119 : decode cX11_does 119 = .ok (.iload 4, 2) := by decide +kernel
theorem dX11_does_121 : decode cX11_does 121 = .ok (.invokevirtual 125, 3) := by decide +kernel
theorem dX11_does_124 : decode cX11_does 124 = .ok (.ireturn, 1) := by decide +kernel
theorem dX11_does_125 : decode cX11_does 125 = .ok (.aload_n 0, 1) := by decide +kernel
theorem dX11_does_126 : decode cX11_does 126 = .ok (.iload_n 2, 1) := by decide +kernel
theorem dX11_does_127 : decode cX11_does 127 = .ok (.iload_n 3, 1) := by decide +kernel
theorem dX11_does_128 : decode cX11_does 128 = .ok (.iload 4, 2) := by decide +kernel
theorem dX11_does_130 : decode cX11_does 130 = .ok (.iload 5, 2) := by decide +kernel
theorem dX11_does_132 : decode cX11_does 132 = .ok (.invokevirtual 134, 3) := by decide +kernel
theorem dX11_does_135 : decode cX11_does 135 = .ok (.ireturn, 1) := by decide +kernel
theorem dX11_does_136 : decode cX11_does 136 = .ok (.aload_n 0, 1) := by decide +kernel
theorem dX11_does_137 : decode cX11_does 137 = .ok (.iload 4, 2) := by decide +kernel
theorem dX11_does_139 : decode cX11_does 139 = .ok (.iload_n 2, 1) := by decide +kernel
theorem dX11_does_140 : decode cX11_does 140 = .ok (.iload_n 3, 1) := by decide +kernel
theorem dX11_does_141 : decode cX11_does 141 = .ok (.invokevirtual 153, 3) := by decide +kernel
theorem dX11_does_144 : decode cX11_does 144 = .ok (.ireturn, 1) := by decide +kernel
theorem dX11_does_145 : decode cX11_does 145 = .ok (.aload_n 0, 1) := by decide +kernel
theorem dX11_does_146 : decode cX11_does 146 = .ok (.iload 4, 2) := by decide +kernel
theorem dX11_does_148 : decode cX11_does 148 = .ok (.iload 5, 2) := by decide +kernel
theorem dX11_does_150 : decode cX11_does 150 = .ok (.invokevirtual 156, 3) := by decide +kernel
theorem dX11_does_153 : decode cX11_does 153 = .ok (.ireturn, 1) := by decide +kernel
set_option maxRecDepth 20000 in
theorem ggX11_run_X11_readsAll : GoodIn wsX11_run wsX11_readsAll := goodIn_ca (goodIn_r _ [12, 13, 14, 15, 1, 4, 16, 17, 18, 11, 19, 20, 21, 22, 23, 24, 25, 26, 27, 28, 29, 30, 31, 32, 33, 34, 35, 36, 37, 38, 39, 40, 41, 42, 43, 44, 45, 46, 47, 48, 49, 50, 51, 52, 53, 54, 55, 56, 57, 58, 59, 60, 61, 62, 63, 64, 65, 66, 67, 68, 69, 70, 71, 72, 73, 74, 75, 76, 77, 78, 79, 80, 81, 82, 83, 84, 85, 86, 87, 88, 89, 90, 91, 92, 93, 94, 95, 96, 97, 98, 99, 100, 218, 219, 220, 221, 222, 223, 224, 225, 226, 227, 228, 229, 230, 231, 232, 233, 234, 235, 236, 237, 238] (by decide +kernel) (by decide +kernel)) (goodIn_sub (fun _ h => List.mem_cons_of_mem _ (List.mem_append_right _ h)) (by decide +kernel))
set_option maxRecDepth 20000 in
theorem gX11_run_X11_readsAll : GoodIn wsX11_run (wsV RX11 254 RX11 yX11_readsAll wsX11_readsAll) := goodIn_app (goodIn_of _ (by decide +kernel)) ggX11_run_X11_readsAll
set_option maxRecDepth 20000 in
theorem ggX11_run_X11_begins : GoodIn wsX11_run wsX11_begins := goodIn_ca (goodIn_r _ [104, 7, 6, 105, 106, 11, 107, 218, 219, 220, 221, 222, 223, 224, 225, 226, 227, 228, 229, 230, 231, 232, 233, 234, 235, 236] (by decide +kernel) (by decide +kernel)) (goodIn_sub (fun _ h => List.mem_cons_of_mem _ (List.mem_append_right _ h)) (by decide +kernel))
set_option maxRecDepth 20000 in
theorem gX11_run_X11_begins : GoodIn wsX11_run (wsV RX11 100 RX11 yX11_begins wsX11_begins) := goodIn_app (goodIn_of _ (by decide +kernel)) ggX11_run_X11_begins
set_option maxRecDepth 20000 in
theorem ggX11_run_X11_does : GoodIn wsX11_run wsX11_does := goodIn_ca (goodIn_r _ [111, 20, 112, 113, 114, 11, 115, 7, 116, 117, 118, 119, 120, 121, 86, 87, 88, 122, 123, 124, 125, 126, 127, 128, 129, 130, 131, 132, 133, 134, 135, 3, 136, 137, 138, 139, 140, 141, 142, 143, 144, 145, 146, 147, 148, 149, 28, 150, 26, 27, 29, 151, 152, 153, 154, 155, 156, 157, 158, 159, 160, 161, 162, 163, 164, 165, 166, 167, 168, 169, 170, 171, 172, 173, 174, 175, 176, 177, 178, 179, 180, 181, 182, 183, 184, 185, 186, 187, 188, 189, 190, 191, 192, 193, 194, 195, 196, 197, 198, 199, 200, 201, 202, 203, 204, 205, 206, 207, 218, 219, 220, 221, 222, 223, 224, 225, 226, 227, 228, 229, 230, 231, 232, 233, 234, 235, 236] (by decide +kernel) (by decide +kernel)) (goodIn_sub (fun _ h => List.mem_cons_of_mem _ (List.mem_append_right _ h)) (by decide +kernel))
set_option maxRecDepth 20000 in
theorem gX11_run_X11_does : GoodIn wsX11_run (wsV RX11 257 RX11 yX11_does wsX11_does) := goodIn_app (goodIn_of _ (by decide +kernel)) ggX11_run_X11_does
set_option maxRecDepth 20000 in
theorem ggX11_run_X11_copies : GoodIn wsX11_run wsX11_copies := goodIn_ca (goodIn_r _ [107] (by decide +kernel) (by decide +kernel)) (goodIn_sub (fun _ h => List.mem_cons_of_mem _ (List.mem_append_right _ h)) (by decide +kernel))
set_option maxRecDepth 20000 in
theorem gX11_run_X11_copies : GoodIn wsX11_run (va_wsS RX11 52 yX11_copies wsX11_copies) := goodIn_app (goodIn_of _ (by decide +kernel)) ggX11_run_X11_copies
set_option maxRecDepth 20000 in
theorem ggX11_run_X11_ends : GoodIn wsX11_run wsX11_ends := goodIn_ca (goodIn_r _ [211, 3, 6, 7, 105, 106, 11, 107, 212, 213, 214, 215, 216, 217, 218, 219, 220, 221, 222, 223, 224, 225, 226, 227, 228, 229, 230, 231, 232, 233, 234, 235, 236] (by decide +kernel) (by decide +kernel)) (goodIn_sub (fun _ h => List.mem_cons_of_mem _ (List.mem_append_right _ h)) (by decide +kernel))
set_option maxRecDepth 20000 in
theorem gX11_run_X11_ends : GoodIn wsX11_run (wsV RX11 107 RX11 yX11_ends wsX11_ends) := goodIn_app (goodIn_of _ (by decide +kernel)) ggX11_run_X11_ends
theorem dX11_run_0 : decode cX11_run 0 = .ok (.aload_n 0, 1) := by decide +kernel
theorem dX11_run_1 : decode cX11_run 1 = .ok (.invokevirtual 254, 3) := by decide +kernel
theorem dX11_run_4 : decode cX11_run 4 = .ok (.aload_n 0, 1) := by decide +kernel
theorem dX11_run_5 : decode cX11_run 5 = .ok (.getfield 213, 3) := by decide +kernel
theorem dX11_run_8 : decode cX11_run 8 = .ok (.iconst (-1), 1) := by decide +kernel
theorem dX11_run_9 : decode cX11_run 9 = .ok (.if_icmp .eq 18, 3) := by decide +kernel
theorem dX11_run_12 : decode cX11_run 12 = .ok (.aload_n 0, 1) := by decide +kernel
theorem dX11_run_13 : decode cX11_run 13 = .ok (.aload_n 0, 1) := by decide +kernel
theorem dX11_run_14 : decode cX11_run 14 = .ok (.getfield 213, 3) := by decide +kernel
theorem dX11_run_17 : decode cX11_run 17 = .ok (.putfield 22, 3) := by decide +kernel
theorem dX11_run_20 : decode cX11_run 20 = .ok (.aload_n 0, 1) := by decide +kernel
theorem dX11_run_21 : decode cX11_run 21 = .ok (.iconst 1, 1) := by decide +kernel
theorem dX11_run_22 : decode cX11_run 22 = .ok (.putfield 45, 3) := by decide +kernel
theorem dX11_run_25 : decode cX11_run 25 = .ok (.iconst 0, 1) := by decide +kernel
theorem dX11_run_26 : decode cX11_run 26 = .ok (.ireturn, 1) := by decide +kernel
theorem dX11_run_27 : decode cX11_run 27 = .ok (.aload_n 0, 1) := by decide +kernel
theorem dX11_run_28 : decode cX11_run 28 = .ok (.invokevirtual 100, 3) := by decide +kernel
theorem dX11_run_31 : decode cX11_run 31 = .ok (.aload_n 0, 1) := by decide +kernel
theorem dX11_run_32 : decode cX11_run 32 = .ok (.iconst 0, 1) := by decide +kernel
theorem dX11_run_33 : decode cX11_run 33 = .ok (.putfield 45, 3) := by decide +kernel
theorem dX11_run_36 : decode cX11_run 36 = .ok (.iconst 0, 1) := by decide +kernel
theorem dX11_run_37 : decode cX11_run 37 = .ok (.istore_n 1, 1) := by decide +kernel
theorem dX11_run_38 : decode cX11_run 38 = .ok (.iload_n 1, 1) := by decide +kernel
theorem dX11_run_39 : decode cX11_run 39 = .ok (.aload_n 0, 1) := by decide +kernel
theorem dX11_run_40 : decode cX11_run 40 = .ok (.getfield 236, 3) := by decide +kernel
theorem dX11_run_43 : decode cX11_run 43 = .ok (.if_icmp .ge 49, 3) := by decide +kernel
theorem dX11_run_46 : decode cX11_run 46 = .ok (.aload_n 0, 1) := by decide +kernel
theorem dX11_run_47 : decode cX11_run 47 = .ok (.iconst 5, 1) := by decide +kernel
theorem dX11_run_48 : decode cX11_run 48 = .ok (.iload_n 1, 1) := by decide +kernel
theorem dX11_run_49 : decode cX11_run 49 = .ok (.imul, 1) := by decide +kernel
theorem dX11_run_50 : decode cX11_run 50 = .ok (.invokevirtual 257, 3) := by decide +kernel
theorem dX11_run_53 : decode cX11_run 53 = .ok (.istore_n 2, 1) := by decide +kernel
theorem dX11_run_54 : decode cX11_run 54 = .ok (.aload_n 0, 1) := by decide +kernel
theorem dX11_run_55 : decode cX11_run 55 = .ok (.getfield 45, 3) := by decide +kernel
theorem dX11_run_58 : decode cX11_run 58 = .ok (.ifCond .eq 28, 3) := by decide +kernel
theorem dX11_run_61 : decode cX11_run 61 = .ok (.aload_n 0, 1) := by decide +kernel
theorem dX11_run_62 : decode cX11_run 62 = .ok (.iload_n 1, 1) := by decide +kernel
theorem dX11_run_63 : decode cX11_run 63 = .ok (.putfield 26, 3) := by decide +kernel
theorem dX11_run_66 : decode cX11_run 66 = .ok (.aload_n 0, 1) := by decide +kernel
theorem dX11_run_67 : decode cX11_run 67 = .ok (.iconst 2, 1) := by decide +kernel
theorem dX11_run_68 : decode cX11_run 68 = .ok (.putfield 45, 3) := by decide +kernel
theorem dX11_run_71 : decode cX11_run 71 = .ok (.aload_n 0, 1) := by decide +kernel
theorem dX11_run_72 : decode cX11_run 72 = .ok (.getfield 13, 3) := by decide +kernel
theorem dX11_run_75 : decode cX11_run 75 = .ok (.iconst 0, 1) := by decide +kernel
theorem dX11_run_76 : decode cX11_run 76 = .ok (.aload_n 0, 1) := by decide +kernel
theorem dX11_run_77 : decode cX11_run 77 = .ok (.getfield 9, 3) := by decide +kernel
theorem dX11_run_80 : decode cX11_run 80 = .ok (.iconst 0, 1) := by decide +kernel
theorem dX11_run_81 : decode cX11_run 81 = .ok (.invokestatic 52, 3) := by decide +kernel
theorem dX11_run_84 : decode cX11_run 84 = .ok (.iconst 0, 1) := by decide +kernel
theorem dX11_run_85 : decode cX11_run 85 = .ok (.ireturn, 1) := by decide +kernel
theorem dX11_run_86 : decode cX11_run 86 = .ok (.iinc 1 1, 3) := by decide +kernel
theorem dX11_run_89 : decode cX11_run 89 = .ok (.goto (-51), 3) := by decide +kernel
theorem dX11_run_92 : decode cX11_run 92 = .ok (.aload_n 0, 1) := by decide +kernel
theorem dX11_run_93 : decode cX11_run 93 = .ok (.aload_n 0, 1) := by decide +kernel
theorem dX11_run_94 : decode cX11_run 94 = .ok (.getfield 236, 3) := by decide +kernel
theorem dX11_run_97 : decode cX11_run 97 = .ok (.invokevirtual 107, 3) := by decide +kernel
theorem dX11_run_100 : decode cX11_run 100 = .ok (.ireturn, 1) := by decide +kernel
set_option maxRecDepth 20000 in
theorem ggX11_errorPosition_X11_goes : GoodIn wsX11_errorPosition wsX11_goes := goodIn_r _ [6, 7, 8, 9, 5, 10, 11, 12, 13, 14, 15, 16, 17, 18, 19, 20, 21, 22, 23, 24, 25, 26, 27, 28, 29, 30] (by decide +kernel) (by decide +kernel)
set_option maxRecDepth 20000 in
theorem gX11_errorPosition_X11_goes : GoodIn wsX11_errorPosition (wsV RX11 62 RX11 yX11_goes wsX11_goes) := goodIn_app (goodIn_of _ (by decide +kernel)) ggX11_errorPosition_X11_goes
theorem dX11_errorPosition_0 : decode cX11_errorPosition 0 = .ok (.aload_n 0, 1) := by decide +kernel
theorem dX11_errorPosition_1 : decode cX11_errorPosition 1 = .ok (.aload_n 0, 1) := by decide +kernel
theorem dX11_errorPosition_2 : decode cX11_errorPosition 2 = .ok (.getfield 22, 3) := by decide +kernel
theorem dX11_errorPosition_5 : decode cX11_errorPosition 5 = .ok (.iconst (-1), 1) := by decide +kernel
theorem dX11_errorPosition_6 : decode cX11_errorPosition 6 = .ok (.if_icmp .eq 7, 3) := by decide +kernel
theorem dX11_errorPosition_9 : decode cX11_errorPosition 9 = .ok (.iconst 1, 1) := by decide +kernel
theorem dX11_errorPosition_10 : decode cX11_errorPosition 10 = .ok (.goto 4, 3) := by decide +kernel
theorem dX11_errorPosition_13 : decode cX11_errorPosition 13 = .ok (.iconst 0, 1) := by decide +kernel
theorem dX11_errorPosition_14 : decode cX11_errorPosition 14 = .ok (.invokevirtual 62, 3) := by decide +kernel
theorem dX11_errorPosition_17 : decode cX11_errorPosition 17 = .ok (.ifCond .eq 10, 3) := by decide +kernel
theorem dX11_errorPosition_20 : decode cX11_errorPosition 20 = .ok (.aload_n 0, 1) := by decide +kernel
theorem dX11_errorPosition_21 : decode cX11_errorPosition 21 = .ok (.getfield 22, 3) := by decide +kernel
theorem dX11_errorPosition_24 : decode cX11_errorPosition 24 = .ok (.goto 4, 3) := by decide +kernel
theorem dX11_errorPosition_27 : decode cX11_errorPosition 27 = .ok (.iconst 0, 1) := by decide +kernel
theorem dX11_errorPosition_28 : decode cX11_errorPosition 28 = .ok (.ireturn, 1) := by decide +kernel
set_option maxRecDepth 20000 in
theorem ggX11_failedCommand_X11_goes : GoodIn wsX11_failedCommand wsX11_goes := goodIn_r _ [6, 7, 8, 9, 5, 10, 11, 12, 13, 14, 15, 16, 17, 18, 19, 20, 21, 22, 23, 24, 25, 26, 27, 28, 29, 30] (by decide +kernel) (by decide +kernel)
set_option maxRecDepth 20000 in
theorem gX11_failedCommand_X11_goes : GoodIn wsX11_failedCommand (wsV RX11 62 RX11 yX11_goes wsX11_goes) := goodIn_app (goodIn_of _ (by decide +kernel)) ggX11_failedCommand_X11_goes
theorem dX11_failedCommand_0 : decode cX11_failedCommand 0 = .ok (.aload_n 0, 1) := by decide +kernel
theorem dX11_failedCommand_1 : decode cX11_failedCommand 1 = .ok (.aload_n 0, 1) := by decide +kernel
theorem dX11_failedCommand_2 : decode cX11_failedCommand 2 = .ok (.getfield 26, 3) := by decide +kernel
theorem dX11_failedCommand_5 : decode cX11_failedCommand 5 = .ok (.iconst (-1), 1) := by decide +kernel
theorem dX11_failedCommand_6 : decode cX11_failedCommand 6 = .ok (.if_icmp .eq 7, 3) := by decide +kernel
theorem dX11_failedCommand_9 : decode cX11_failedCommand 9 = .ok (.iconst 1, 1) := by decide +kernel
theorem dX11_failedCommand_10 : decode cX11_failedCommand 10 = .ok (.goto 4, 3) := by decide +kernel
theorem dX11_failedCommand_13 : decode cX11_failedCommand 13 = .ok (.iconst 0, 1) := by decide +kernel
theorem dX11_failedCommand_14 : decode cX11_failedCommand 14 = .ok (.invokevirtual 62, 3) := by decide +kernel
theorem dX11_failedCommand_17 : decode cX11_failedCommand 17 = .ok (.ifCond .eq 10, 3) := by decide +kernel
theorem dX11_failedCommand_20 : decode cX11_failedCommand 20 = .ok (.aload_n 0, 1) := by decide +kernel
theorem dX11_failedCommand_21 : decode cX11_failedCommand 21 = .ok (.getfield 26, 3) := by decide +kernel
theorem dX11_failedCommand_24 : decode cX11_failedCommand 24 = .ok (.goto 4, 3) := by decide +kernel
theorem dX11_failedCommand_27 : decode cX11_failedCommand 27 = .ok (.iconst 0, 1) := by decide +kernel
theorem dX11_failedCommand_28 : decode cX11_failedCommand 28 = .ok (.ireturn, 1) := by decide +kernel
theorem dJx00060_init_a7421_0 : decode cJx00060_init_a7421 0 = .ok (.aload_n 0, 1) := by decide +kernel
theorem dJx00060_init_a7421_1 : decode cJx00060_init_a7421 1 = .ok (.aload_n 1, 1) := by decide +kernel
theorem dJx00060_init_a7421_2 : decode cJx00060_init_a7421 2 = .ok (.invokespecial 7, 3) := by decide +kernel
theorem dJx00060_init_a7421_5 : decode cJx00060_init_a7421 5 = .ok (.return_, 1) := by decide +kernel
theorem dJx29ce0_ordinal_8abf5_0 : decode cJx29ce0_ordinal_8abf5 0 = .ok (.aload_n 0, 1) := by decide +kernel
theorem dJx29ce0_ordinal_8abf5_1 : decode cJx29ce0_ordinal_8abf5 1 = .ok (.getfield 7, 3) := by decide +kernel
theorem dJx29ce0_ordinal_8abf5_4 : decode cJx29ce0_ordinal_8abf5 4 = .ok (.ireturn, 1) := by decide +kernel
theorem dJ9_abs_0f7a4_0 : decode cJ9_abs_0f7a4 0 = .ok (.iload_n 0, 1) := by decide +kernel
theorem dJ9_abs_0f7a4_1 : decode cJ9_abs_0f7a4 1 = .ok (.ifCond .ge 8, 3) := by decide +kernel
theorem dJ9_abs_0f7a4_4 : decode cJ9_abs_0f7a4 4 = .ok (.iload_n 0, 1) := by decide +kernel
theorem dJ9_abs_0f7a4_5 : decode cJ9_abs_0f7a4 5 = .ok (.ineg, 1) := by decide +kernel
theorem dJ9_abs_0f7a4_6 : decode cJ9_abs_0f7a4 6 = .ok (.goto 4, 3) := by decide +kernel
theorem dJ9_abs_0f7a4_9 : decode cJ9_abs_0f7a4 9 = .ok (.iload_n 0, 1) := by decide +kernel
theorem dJ9_abs_0f7a4_10 : decode cJ9_abs_0f7a4 10 = .ok (.ireturn, 1) := by decide +kernel
theorem dJ9_max_7cf53_0 : decode cJ9_max_7cf53 0 = .ok (.iload_n 0, 1) := by decide +kernel
theorem dJ9_max_7cf53_1 : decode cJ9_max_7cf53 1 = .ok (.iload_n 1, 1) := by decide +kernel
theorem dJ9_max_7cf53_2 : decode cJ9_max_7cf53 2 = .ok (.if_icmp .lt 7, 3) := by decide +kernel
theorem dJ9_max_7cf53_5 : decode cJ9_max_7cf53 5 = .ok (.iload_n 0, 1) := by decide +kernel
theorem dJ9_max_7cf53_6 : decode cJ9_max_7cf53 6 = .ok (.goto 4, 3) := by decide +kernel
theorem dJ9_max_7cf53_9 : decode cJ9_max_7cf53 9 = .ok (.iload_n 1, 1) := by decide +kernel
theorem dJ9_max_7cf53_10 : decode cJ9_max_7cf53 10 = .ok (.ireturn, 1) := by decide +kernel
theorem dJ9_min_7cf53_0 : decode cJ9_min_7cf53 0 = .ok (.iload_n 0, 1) := by decide +kernel
theorem dJ9_min_7cf53_1 : decode cJ9_min_7cf53 1 = .ok (.iload_n 1, 1) := by decide +kernel
theorem dJ9_min_7cf53_2 : decode cJ9_min_7cf53 2 = .ok (.if_icmp .gt 7, 3) := by decide +kernel
theorem dJ9_min_7cf53_5 : decode cJ9_min_7cf53 5 = .ok (.iload_n 0, 1) := by decide +kernel
theorem dJ9_min_7cf53_6 : decode cJ9_min_7cf53 6 = .ok (.goto 4, 3) := by decide +kernel
theorem dJ9_min_7cf53_9 : decode cJ9_min_7cf53 9 = .ok (.iload_n 1, 1) := by decide +kernel
theorem dJ9_min_7cf53_10 : decode cJ9_min_7cf53 10 = .ok (.ireturn, 1) := by decide +kernel
set_option maxRecDepth 20000 in
theorem ggJ0_length_8abf5_J0_coder_7d493 : GoodIn wsJ0_length_8abf5 wsJ0_coder_7d493 := goodIn_r _ [6, 7, 8, 9, 10] (by decide +kernel) (by decide +kernel)
set_option maxRecDepth 20000 in
theorem gJ0_length_8abf5_J0_coder_7d493 : GoodIn wsJ0_length_8abf5 (wsV RJ0 335 RJ0 yJ0_coder_7d493 wsJ0_coder_7d493) := goodIn_app (goodIn_of _ (by decide +kernel)) ggJ0_length_8abf5_J0_coder_7d493
theorem dJ0_length_8abf5_0 : decode cJ0_length_8abf5 0 = .ok (.aload_n 0, 1) := by decide +kernel
theorem dJ0_length_8abf5_1 : decode cJ0_length_8abf5 1 = .ok (.getfield 9, 3) := by decide +kernel
theorem dJ0_length_8abf5_4 : decode cJ0_length_8abf5 4 = .ok (.arraylength, 1) := by decide +kernel
theorem dJ0_length_8abf5_5 : decode cJ0_length_8abf5 5 = .ok (.aload_n 0, 1) := by decide +kernel
theorem dJ0_length_8abf5_6 : decode cJ0_length_8abf5 6 = .ok (.invokevirtual 335, 3) := by decide +kernel
theorem dJ0_length_8abf5_9 : decode cJ0_length_8abf5 9 = .ok (.ishr, 1) := by decide +kernel
theorem dJ0_length_8abf5_10 : decode cJ0_length_8abf5 10 = .ok (.ireturn, 1) := by decide +kernel
set_option maxRecDepth 20000 in
theorem ggJ0_charAt_5068e_J0_isLatin1_aae02 : GoodIn wsJ0_charAt_5068e wsJ0_isLatin1_aae02 := goodIn_r _ [6, 7, 8, 38, 39] (by decide +kernel) (by decide +kernel)
set_option maxRecDepth 20000 in
theorem gJ0_charAt_5068e_J0_isLatin1_aae02 : GoodIn wsJ0_charAt_5068e (wsV RJ0 492 RJ0 yJ0_isLatin1_aae02 wsJ0_isLatin1_aae02) := goodIn_app (goodIn_of _ (by decide +kernel)) ggJ0_charAt_5068e_J0_isLatin1_aae02
set_option maxRecDepth 20000 in
theorem ggJ0_charAt_5068e_J1_charAt_3b067 : GoodIn wsJ0_charAt_5068e wsJ1_charAt_3b067 := goodIn_r _ [12, 13, 14, 5, 15, 16, 17, 18, 19, 20] (by decide +kernel) (by decide +kernel)
set_option maxRecDepth 20000 in
theorem gJ0_charAt_5068e_J1_charAt_3b067 : GoodIn wsJ0_charAt_5068e (va_wsS RJ0 495 yJ1_charAt_3b067 wsJ1_charAt_3b067) := goodIn_app (goodIn_of _ (by decide +kernel)) ggJ0_charAt_5068e_J1_charAt_3b067
set_option maxRecDepth 20000 in
theorem ggJ0_charAt_5068e_J2_charAt_3b067 : GoodIn wsJ0_charAt_5068e wsJ2_charAt_3b067 := goodIn_r _ [24, 25, 26, 23, 27, 28, 29, 30, 31, 14, 5, 15, 16, 17, 18, 19, 20, 32, 33, 34, 35, 36, 37] (by decide +kernel) (by decide +kernel)
set_option maxRecDepth 20000 in
theorem gJ0_charAt_5068e_J2_charAt_3b067 : GoodIn wsJ0_charAt_5068e (va_wsS RJ0 498 yJ2_charAt_3b067 wsJ2_charAt_3b067) := goodIn_app (goodIn_of _ (by decide +kernel)) ggJ0_charAt_5068e_J2_charAt_3b067
theorem dJ0_charAt_5068e_0 : decode cJ0_charAt_5068e 0 = .ok (.aload_n 0, 1) := by decide +kernel
theorem dJ0_charAt_5068e_1 : decode cJ0_charAt_5068e 1 = .ok (.invokevirtual 492, 3) := by decide +kernel
theorem dJ0_charAt_5068e_4 : decode cJ0_charAt_5068e 4 = .ok (.ifCond .eq 12, 3) := by decide +kernel
theorem dJ0_charAt_5068e_7 : decode cJ0_charAt_5068e 7 = .ok (.aload_n 0, 1) := by decide +kernel
theorem dJ0_charAt_5068e_8 : decode cJ0_charAt_5068e 8 = .ok (.getfield 9, 3) := by decide +kernel
theorem dJ0_charAt_5068e_11 : decode cJ0_charAt_5068e 11 = .ok (.iload_n 1, 1) := by decide +kernel
theorem dJ0_charAt_5068e_12 : decode cJ0_charAt_5068e 12 = .ok (.invokestatic 495, 3) := by decide +kernel
theorem dJ0_charAt_5068e_15 : decode cJ0_charAt_5068e 15 = .ok (.ireturn, 1) := by decide +kernel
theorem dJ0_charAt_5068e_16 : decode cJ0_charAt_5068e 16 = .ok (.aload_n 0, 1) := by decide +kernel
theorem dJ0_charAt_5068e_17 : decode cJ0_charAt_5068e 17 = .ok (.getfield 9, 3) := by decide +kernel
theorem dJ0_charAt_5068e_20 : decode cJ0_charAt_5068e 20 = .ok (.iload_n 1, 1) := by decide +kernel
theorem dJ0_charAt_5068e_21 : decode cJ0_charAt_5068e 21 = .ok (.invokestatic 498, 3) := by decide +kernel
theorem dJ0_charAt_5068e_24 : decode cJ0_charAt_5068e 24 = .ok (.ireturn, 1) := by decide +kernel
theorem dJ0_coder_7d493_0 : decode cJ0_coder_7d493 0 = .ok (.getstatic 38, 3) := by decide +kernel
theorem dJ0_coder_7d493_3 : decode cJ0_coder_7d493 3 = .ok (.ifCond .eq 10, 3) := by decide +kernel
theorem dJ0_coder_7d493_6 : decode cJ0_coder_7d493 6 = .ok (.aload_n 0, 1) := by decide +kernel
theorem dJ0_coder_7d493_7 : decode cJ0_coder_7d493 7 = .ok (.getfield 15, 3) := by decide +kernel
theorem dJ0_coder_7d493_10 : decode cJ0_coder_7d493 10 = .ok (.goto 4, 3) := by decide +kernel
theorem dJ0_coder_7d493_13 : decode cJ0_coder_7d493 13 = .ok (.iconst 1, 1) := by decide +kernel
theorem dJ0_coder_7d493_14 : decode cJ0_coder_7d493 14 = .ok (.ireturn, 1) := by decide +kernel
theorem dJ0_isLatin1_aae02_0 : decode cJ0_isLatin1_aae02 0 = .ok (.getstatic 38, 3) := by decide +kernel
theorem dJ0_isLatin1_aae02_3 : decode cJ0_isLatin1_aae02 3 = .ok (.ifCond .eq 14, 3) := by decide +kernel
theorem dJ0_isLatin1_aae02_6 : decode cJ0_isLatin1_aae02 6 = .ok (.aload_n 0, 1) := by decide +kernel
theorem dJ0_isLatin1_aae02_7 : decode cJ0_isLatin1_aae02 7 = .ok (.getfield 15, 3) := by decide +kernel
theorem dJ0_isLatin1_aae02_10 : decode cJ0_isLatin1_aae02 10 = .ok (.ifCond .ne 7, 3) := by decide +kernel
theorem dJ0_isLatin1_aae02_13 : decode cJ0_isLatin1_aae02 13 = .ok (.iconst 1, 1) := by decide +kernel
theorem dJ0_isLatin1_aae02_14 : decode cJ0_isLatin1_aae02 14 = .ok (.goto 4, 3) := by decide +kernel
theorem dJ0_isLatin1_aae02_17 : decode cJ0_isLatin1_aae02 17 = .ok (.iconst 0, 1) := by decide +kernel
theorem dJ0_isLatin1_aae02_18 : decode cJ0_isLatin1_aae02 18 = .ok (.ireturn, 1) := by decide +kernel
set_option maxRecDepth 20000 in
theorem ggJ0_checkIndex_df160_J3_checkIndex_8e157 : GoodIn wsJ0_checkIndex_df160 wsJ3_checkIndex_8e157 := goodIn_r _ [5] (by decide +kernel) (by decide +kernel)
set_option maxRecDepth 20000 in
theorem gJ0_checkIndex_df160_J3_checkIndex_8e157 : GoodIn wsJ0_checkIndex_df160 (va_wsS RJ0 1059 yJ3_checkIndex_8e157 wsJ3_checkIndex_8e157) := goodIn_app (goodIn_of _ (by decide +kernel)) ggJ0_checkIndex_df160_J3_checkIndex_8e157
theorem dJ0_checkIndex_df160_0 : decode cJ0_checkIndex_df160 0 = .ok (.iload_n 0, 1) := by decide +kernel
theorem dJ0_checkIndex_df160_1 : decode cJ0_checkIndex_df160 1 = .ok (.iload_n 1, 1) := by decide +kernel
theorem dJ0_checkIndex_df160_2 : decode cJ0_checkIndex_df160 2 = .ok (.getstatic 1053, 3) := by decide +kernel
theorem dJ0_checkIndex_df160_5 : decode cJ0_checkIndex_df160 5 = .ok (.invokestatic 1059, 3) := by decide +kernel
theorem dJ0_checkIndex_df160_8 : decode cJ0_checkIndex_df160 8 = .ok (.pop, 1) := by decide +kernel
theorem dJ0_checkIndex_df160_9 : decode cJ0_checkIndex_df160 9 = .ok (.return_, 1) := by decide +kernel
set_option maxRecDepth 20000 in
theorem ggJ1_charAt_3b067_J0_checkIndex_df160 : GoodIn wsJ1_charAt_3b067 wsJ0_checkIndex_df160 := goodIn_r _ [4, 5, 6, 7, 8, 9] (by decide +kernel) (by decide +kernel)
set_option maxRecDepth 20000 in
theorem gJ1_charAt_3b067_J0_checkIndex_df160 : GoodIn wsJ1_charAt_3b067 (va_wsS RJ1 9 yJ0_checkIndex_df160 wsJ0_checkIndex_df160) := goodIn_app (goodIn_of _ (by decide +kernel)) ggJ1_charAt_3b067_J0_checkIndex_df160
theorem dJ1_charAt_3b067_0 : decode cJ1_charAt_3b067 0 = .ok (.iload_n 1, 1) := by decide +kernel
theorem dJ1_charAt_3b067_1 : decode cJ1_charAt_3b067 1 = .ok (.aload_n 0, 1) := by decide +kernel
theorem dJ1_charAt_3b067_2 : decode cJ1_charAt_3b067 2 = .ok (.arraylength, 1) := by decide +kernel
theorem dJ1_charAt_3b067_3 : decode cJ1_charAt_3b067 3 = .ok (.invokestatic 9, 3) := by decide +kernel
theorem dJ1_charAt_3b067_6 : decode cJ1_charAt_3b067 6 = .ok (.aload_n 0, 1) := by decide +kernel
theorem dJ1_charAt_3b067_7 : decode cJ1_charAt_3b067 7 = .ok (.iload_n 1, 1) := by decide +kernel
theorem dJ1_charAt_3b067_8 : decode cJ1_charAt_3b067 8 = .ok (.baload, 1) := by decide +kernel
theorem dJ1_charAt_3b067_9 : decode cJ1_charAt_3b067 9 = .ok (.sipush 255, 3) := by decide +kernel
theorem dJ1_charAt_3b067_12 : decode cJ1_charAt_3b067 12 = .ok (.iand, 1) := by decide +kernel
theorem dJ1_charAt_3b067_13 : decode cJ1_charAt_3b067 13 = .ok (.i2c, 1) := by decide +kernel
theorem dJ1_charAt_3b067_14 : decode cJ1_charAt_3b067 14 = .ok (.ireturn, 1) := by decide +kernel
set_option maxRecDepth 20000 in
theorem ggJ2_getChar_3b067_J2_length_9d52b : GoodIn wsJ2_getChar_3b067 wsJ2_length_9d52b := goodIn_r _ [7] (by decide +kernel) (by decide +kernel)
set_option maxRecDepth 20000 in
theorem gJ2_getChar_3b067_J2_length_9d52b : GoodIn wsJ2_getChar_3b067 (va_wsS RJ2 48 yJ2_length_9d52b wsJ2_length_9d52b) := goodIn_app (goodIn_of _ (by decide +kernel)) ggJ2_getChar_3b067_J2_length_9d52b
theorem dJ2_getChar_3b067_0 : decode cJ2_getChar_3b067 0 = .ok (.getstatic 44, 3) := by decide +kernel
theorem dJ2_getChar_3b067_3 : decode cJ2_getChar_3b067 3 = .ok (.ifCond .ne 25, 3) := by decide +kernel
theorem dJ2_getChar_3b067_6 : decode cJ2_getChar_3b067 6 = .ok (.iload_n 1, 1) := by decide +kernel
theorem dJ2_getChar_3b067_7 : decode cJ2_getChar_3b067 7 = .ok (.ifCond .lt 11, 3) := by decide +kernel
theorem dJ2_getChar_3b067_10 : decode cJ2_getChar_3b067 10 = .ok (.iload_n 1, 1) := by decide +kernel
theorem dJ2_getChar_3b067_11 : decode cJ2_getChar_3b067 11 = .ok (.aload_n 0, 1) := by decide +kernel
theorem dJ2_getChar_3b067_12 : decode cJ2_getChar_3b067 12 = .ok (.invokestatic 48, 3) := by decide +kernel
theorem dJ2_getChar_3b067_15 : decode cJ2_getChar_3b067 15 = .ok (.if_icmp .lt 13, 3) := by decide +kernel
theorem dJ2_getChar_3b067_18 : decode cJ2_getChar_3b067 18 = .ok (.new 52, 3) := by decide +kernel
theorem dJ2_getChar_3b067_21 : decode cJ2_getChar_3b067 21 = .ok (.dup, 1) := by decide +kernel
theorem dJ2_getChar_3b067_22 : decode cJ2_getChar_3b067 22 = .ok (.ldc 54, 2) := by decide +kernel
theorem dJ2_getChar_3b067_24 : decode cJ2_getChar_3b067 24 = .ok (.invokespecial 56, 3) := by decide +kernel
theorem dJ2_getChar_3b067_27 : decode cJ2_getChar_3b067 27 = .ok (.athrow, 1) := by decide +kernel
theorem dJ2_getChar_3b067_28 : decode cJ2_getChar_3b067 28 = .ok (.iload_n 1, 1) := by decide +kernel
theorem dJ2_getChar_3b067_29 : decode cJ2_getChar_3b067 29 = .ok (.iconst 1, 1) := by decide +kernel
theorem dJ2_getChar_3b067_30 : decode cJ2_getChar_3b067 30 = .ok (.ishl, 1) := by decide +kernel
theorem dJ2_getChar_3b067_31 : decode cJ2_getChar_3b067 31 = .ok (.istore_n 1, 1) := by decide +kernel
theorem dJ2_getChar_3b067_32 : decode cJ2_getChar_3b067 32 = .ok (.aload_n 0, 1) := by decide +kernel
theorem dJ2_getChar_3b067_33 : decode cJ2_getChar_3b067 33 = .ok (.iload_n 1, 1) := by decide +kernel
theorem dJ2_getChar_3b067_34 : decode cJ2_getChar_3b067 34 = .ok (.iinc 1 1, 3) := by decide +kernel
theorem dJ2_getChar_3b067_37 : decode cJ2_getChar_3b067 37 = .ok (.baload, 1) := by decide +kernel
theorem dJ2_getChar_3b067_38 : decode cJ2_getChar_3b067 38 = .ok (.sipush 255, 3) := by decide +kernel
theorem dJ2_getChar_3b067_41 : decode cJ2_getChar_3b067 41 = .ok (.iand, 1) := by decide +kernel
theorem dJ2_getChar_3b067_42 : decode cJ2_getChar_3b067 42 = .ok (.getstatic 59, 3) := by decide +kernel
theorem dJ2_getChar_3b067_45 : decode cJ2_getChar_3b067 45 = .ok (.ishl, 1) := by decide +kernel
theorem dJ2_getChar_3b067_46 : decode cJ2_getChar_3b067 46 = .ok (.aload_n 0, 1) := by decide +kernel
theorem dJ2_getChar_3b067_47 : decode cJ2_getChar_3b067 47 = .ok (.iload_n 1, 1) := by decide +kernel
theorem dJ2_getChar_3b067_48 : decode cJ2_getChar_3b067 48 = .ok (.baload, 1) := by decide +kernel
theorem dJ2_getChar_3b067_49 : decode cJ2_getChar_3b067 49 = .ok (.sipush 255, 3) := by decide +kernel
theorem dJ2_getChar_3b067_52 : decode cJ2_getChar_3b067 52 = .ok (.iand, 1) := by decide +kernel
theorem dJ2_getChar_3b067_53 : decode cJ2_getChar_3b067 53 = .ok (.getstatic 63, 3) := by decide +kernel
theorem dJ2_getChar_3b067_56 : decode cJ2_getChar_3b067 56 = .ok (.ishl, 1) := by decide +kernel
theorem dJ2_getChar_3b067_57 : decode cJ2_getChar_3b067 57 = .ok (.ior, 1) := by decide +kernel
theorem dJ2_getChar_3b067_58 : decode cJ2_getChar_3b067 58 = .ok (.i2c, 1) := by decide +kernel
theorem dJ2_getChar_3b067_59 : decode cJ2_getChar_3b067 59 = .ok (.ireturn, 1) := by decide +kernel
theorem dJ2_length_9d52b_0 : decode cJ2_length_9d52b 0 = .ok (.aload_n 0, 1) := by decide +kernel
theorem dJ2_length_9d52b_1 : decode cJ2_length_9d52b 1 = .ok (.arraylength, 1) := by decide +kernel
theorem dJ2_length_9d52b_2 : decode cJ2_length_9d52b 2 = .ok (.iconst 1, 1) := by decide +kernel
theorem dJ2_length_9d52b_3 : decode cJ2_length_9d52b 3 = .ok (.ishr, 1) := by decide +kernel
theorem dJ2_length_9d52b_4 : decode cJ2_length_9d52b 4 = .ok (.ireturn, 1) := by decide +kernel
set_option maxRecDepth 20000 in
theorem ggJ2_charAt_3b067_J2_checkIndex_2214a : GoodIn wsJ2_charAt_3b067 wsJ2_checkIndex_2214a := goodIn_r _ [4, 5, 6, 3, 7, 8, 9, 10, 11, 12, 13, 14, 15, 16] (by decide +kernel) (by decide +kernel)
set_option maxRecDepth 20000 in
theorem gJ2_charAt_3b067_J2_checkIndex_2214a : GoodIn wsJ2_charAt_3b067 (va_wsS RJ2 67 yJ2_checkIndex_2214a wsJ2_checkIndex_2214a) := goodIn_app (goodIn_of _ (by decide +kernel)) ggJ2_charAt_3b067_J2_checkIndex_2214a
set_option maxRecDepth 20000 in
theorem ggJ2_charAt_3b067_J2_getChar_3b067 : GoodIn wsJ2_charAt_3b067 wsJ2_getChar_3b067 := goodIn_r _ [19, 20, 21, 22, 5, 6, 3, 7] (by decide +kernel) (by decide +kernel)
set_option maxRecDepth 20000 in
theorem gJ2_charAt_3b067_J2_getChar_3b067 : GoodIn wsJ2_charAt_3b067 (va_wsS RJ2 71 yJ2_getChar_3b067 wsJ2_getChar_3b067) := goodIn_app (goodIn_of _ (by decide +kernel)) ggJ2_charAt_3b067_J2_getChar_3b067
theorem dJ2_charAt_3b067_0 : decode cJ2_charAt_3b067 0 = .ok (.iload_n 1, 1) := by decide +kernel
theorem dJ2_charAt_3b067_1 : decode cJ2_charAt_3b067 1 = .ok (.aload_n 0, 1) := by decide +kernel
theorem dJ2_charAt_3b067_2 : decode cJ2_charAt_3b067 2 = .ok (.invokestatic 67, 3) := by decide +kernel
theorem dJ2_charAt_3b067_5 : decode cJ2_charAt_3b067 5 = .ok (.aload_n 0, 1) := by decide +kernel
theorem dJ2_charAt_3b067_6 : decode cJ2_charAt_3b067 6 = .ok (.iload_n 1, 1) := by decide +kernel
theorem dJ2_charAt_3b067_7 : decode cJ2_charAt_3b067 7 = .ok (.invokestatic 71, 3) := by decide +kernel
theorem dJ2_charAt_3b067_10 : decode cJ2_charAt_3b067 10 = .ok (.ireturn, 1) := by decide +kernel
set_option maxRecDepth 20000 in
theorem ggJ2_checkIndex_2214a_J2_length_9d52b : GoodIn wsJ2_checkIndex_2214a wsJ2_length_9d52b := goodIn_r _ [4] (by decide +kernel) (by decide +kernel)
set_option maxRecDepth 20000 in
theorem gJ2_checkIndex_2214a_J2_length_9d52b : GoodIn wsJ2_checkIndex_2214a (va_wsS RJ2 48 yJ2_length_9d52b wsJ2_length_9d52b) := goodIn_app (goodIn_of _ (by decide +kernel)) ggJ2_checkIndex_2214a_J2_length_9d52b
set_option maxRecDepth 20000 in
theorem ggJ2_checkIndex_2214a_J0_checkIndex_df160 : GoodIn wsJ2_checkIndex_2214a wsJ0_checkIndex_df160 := goodIn_r _ [8, 9, 10, 11, 12, 13] (by decide +kernel) (by decide +kernel)
set_option maxRecDepth 20000 in
theorem gJ2_checkIndex_2214a_J0_checkIndex_df160 : GoodIn wsJ2_checkIndex_2214a (va_wsS RJ2 414 yJ0_checkIndex_df160 wsJ0_checkIndex_df160) := goodIn_app (goodIn_of _ (by decide +kernel)) ggJ2_checkIndex_2214a_J0_checkIndex_df160
theorem dJ2_checkIndex_2214a_0 : decode cJ2_checkIndex_2214a 0 = .ok (.iload_n 0, 1) := by decide +kernel
theorem dJ2_checkIndex_2214a_1 : decode cJ2_checkIndex_2214a 1 = .ok (.aload_n 1, 1) := by decide +kernel
theorem dJ2_checkIndex_2214a_2 : decode cJ2_checkIndex_2214a 2 = .ok (.invokestatic 48, 3) := by decide +kernel
