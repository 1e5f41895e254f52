theorem dX1_init_0 : decode cX1_init 0 = .ok (.aload_n 0, 1) := by decide +kernel
theorem dX1_init_1 : decode cX1_init 1 = .ok (.invokespecial 1, 3) := by decide +kernel
theorem dX1_init_4 : decode cX1_init 4 = .ok (.aload_n 0, 1) := by decide +kernel
theorem dX1_init_5 : decode cX1_init 5 = .ok (.aload_n 1, 1) := by decide +kernel
theorem dX1_init_6 : decode cX1_init 6 = .ok (.putfield 7, 3) := by decide +kernel
theorem dX1_init_9 : decode cX1_init 9 = .ok (.aload_n 0, 1) := by decide +kernel
theorem dX1_init_10 : decode cX1_init 10 = .ok (.iconst 4, 1) := by decide +kernel
theorem dX1_init_11 : decode cX1_init 11 = .ok (.newarray .int, 2) := by decide +kernel
theorem dX1_init_13 : decode cX1_init 13 = .ok (.putfield 13, 3) := by decide +kernel
theorem dX1_init_16 : decode cX1_init 16 = .ok (.aload_n 0, 1) := by decide +kernel
theorem dX1_init_17 : decode cX1_init 17 = .ok (.iconst 0, 1) := by decide +kernel
theorem dX1_init_18 : decode cX1_init 18 = .ok (.putfield 17, 3) := by decide +kernel
theorem dX1_init_21 : decode cX1_init 21 = .ok (.return_, 1) := by decide +kernel
theorem dX1_addNumber_0 : decode cX1_addNumber 0 = .ok (.aload_n 0, 1) := by decide +kernel
theorem dX1_addNumber_1 : decode cX1_addNumber 1 = .ok (.getfield 17, 3) := by decide +kernel
theorem dX1_addNumber_4 : decode cX1_addNumber 4 = .ok (.iconst 4, 1) := by decide +kernel
theorem dX1_addNumber_5 : decode cX1_addNumber 5 = .ok (.if_icmp .ge 23, 3) := by decide +kernel
theorem dX1_addNumber_8 : decode cX1_addNumber 8 = .ok (.aload_n 0, 1) := by decide +kernel
theorem dX1_addNumber_9 : decode cX1_addNumber 9 = .ok (.getfield 13, 3) := by decide +kernel
theorem dX1_addNumber_12 : decode cX1_addNumber 12 = .ok (.aload_n 0, 1) := by decide +kernel
theorem dX1_addNumber_13 : decode cX1_addNumber 13 = .ok (.getfield 17, 3) := by decide +kernel
theorem dX1_addNumber_16 : decode cX1_addNumber 16 = .ok (.iload_n 1, 1) := by decide +kernel
theorem dX1_addNumber_17 : decode cX1_addNumber 17 = .ok (.iastore, 1) := by decide +kernel
theorem dX1_addNumber_18 : decode cX1_addNumber 18 = .ok (.aload_n 0, 1) := by decide +kernel
theorem dX1_addNumber_19 : decode cX1_addNumber 19 = .ok (.dup, 1) := by decide +kernel
theorem dX1_addNumber_20 : decode cX1_addNumber 20 = .ok (.getfield 17, 3) := by decide +kernel
theorem dX1_addNumber_23 : decode cX1_addNumber 23 = .ok (.iconst 1, 1) := by decide +kernel
theorem dX1_addNumber_24 : decode cX1_addNumber 24 = .ok (.iadd, 1) := by decide +kernel
theorem dX1_addNumber_25 : decode cX1_addNumber 25 = .ok (.putfield 17, 3) := by decide +kernel
theorem dX1_addNumber_28 : decode cX1_addNumber 28 = .ok (.return_, 1) := by decide +kernel
theorem dX1_addDigitToLast_0 : decode cX1_addDigitToLast 0 = .ok (.aload_n 0, 1) := by decide +kernel
theorem dX1_addDigitToLast_1 : decode cX1_addDigitToLast 1 = .ok (.getfield 17, 3) := by decide +kernel
theorem dX1_addDigitToLast_4 : decode cX1_addDigitToLast 4 = .ok (.ifCond .le 30, 3) := by decide +kernel
theorem dX1_addDigitToLast_7 : decode cX1_addDigitToLast 7 = .ok (.aload_n 0, 1) := by decide +kernel
theorem dX1_addDigitToLast_8 : decode cX1_addDigitToLast 8 = .ok (.getfield 13, 3) := by decide +kernel
theorem dX1_addDigitToLast_11 : decode cX1_addDigitToLast 11 = .ok (.aload_n 0, 1) := by decide +kernel
theorem dX1_addDigitToLast_12 : decode cX1_addDigitToLast 12 = .ok (.getfield 17, 3) := by decide +kernel
theorem dX1_addDigitToLast_15 : decode cX1_addDigitToLast 15 = .ok (.iconst 1, 1) := by decide +kernel
theorem dX1_addDigitToLast_16 : decode cX1_addDigitToLast 16 = .ok (.isub, 1) := by decide +kernel
theorem dX1_addDigitToLast_17 : decode cX1_addDigitToLast 17 = .ok (.aload_n 0, 1) := by decide +kernel
theorem dX1_addDigitToLast_18 : decode cX1_addDigitToLast 18 = .ok (.getfield 13, 3) := by decide +kernel
theorem dX1_addDigitToLast_21 : decode cX1_addDigitToLast 21 = .ok (.aload_n 0, 1) := by decide +kernel
theorem dX1_addDigitToLast_22 : decode cX1_addDigitToLast 22 = .ok (.getfield 17, 3) := by decide +kernel
theorem dX1_addDigitToLast_25 : decode cX1_addDigitToLast 25 = .ok (.iconst 1, 1) := by decide +kernel
theorem dX1_addDigitToLast_26 : decode cX1_addDigitToLast 26 = .ok (.isub, 1) := by decide +kernel
theorem dX1_addDigitToLast_27 : decode cX1_addDigitToLast 27 = .ok (.iaload, 1) := by decide +kernel
theorem dX1_addDigitToLast_28 : decode cX1_addDigitToLast 28 = .ok (.bipush 10, 2) := by decide +kernel
theorem dX1_addDigitToLast_30 : decode cX1_addDigitToLast 30 = .ok (.imul, 1) := by decide +kernel
theorem dX1_addDigitToLast_31 : decode cX1_addDigitToLast 31 = .ok (.iload_n 1, 1) := by decide +kernel
theorem dX1_addDigitToLast_32 : decode cX1_addDigitToLast 32 = .ok (.iadd, 1) := by decide +kernel
theorem dX1_addDigitToLast_33 : decode cX1_addDigitToLast 33 = .ok (.iastore, 1) := by decide +kernel
theorem dX1_addDigitToLast_34 : decode cX1_addDigitToLast 34 = .ok (.return_, 1) := by decide +kernel
set_option maxRecDepth 20000 in
theorem ggX1_faultIn_Jx29ce0_ordinal_8abf5 : GoodIn wsX1_faultIn wsJx29ce0_ordinal_8abf5 := goodIn_r _ [9, 10] (by decide +kernel) (by decide +kernel)
set_option maxRecDepth 20000 in
theorem gX1_faultIn_Jx29ce0_ordinal_8abf5_u26X9 : GoodIn wsX1_faultIn (va_wsU RX1 26 RX9 "java/lang/Enum" ⟨"TerraceQuarry$Verb", "ordinal", "()I"⟩ yJx29ce0_ordinal_8abf5 wsJx29ce0_ordinal_8abf5) := goodIn_app (goodIn_of _ (by decide +kernel)) ggX1_faultIn_Jx29ce0_ordinal_8abf5
set_option maxRecDepth 20000 in
theorem ggX1_faultIn_X7_stoneFault : GoodIn wsX1_faultIn wsX7_stoneFault := goodIn_r _ [15, 16, 17, 18, 19, 20, 21, 22, 23, 24, 25, 26, 27, 28, 29, 14, 30] (by decide +kernel) (by decide +kernel)
set_option maxRecDepth 20000 in
theorem gX1_faultIn_X7_stoneFault : GoodIn wsX1_faultIn (wsV RX1 32 RX7 yX7_stoneFault wsX7_stoneFault) := goodIn_app (goodIn_of _ (by decide +kernel)) ggX1_faultIn_X7_stoneFault
set_option maxRecDepth 20000 in
theorem ggX1_faultIn_X7_cutFault : GoodIn wsX1_faultIn wsX7_cutFault := goodIn_ca (goodIn_r _ [34, 16, 17, 35, 36, 37, 38, 39, 40, 19, 20, 21, 22, 23, 24, 25, 26, 27, 41, 42, 43, 44, 45, 46, 14, 47, 48, 49, 50, 51, 52, 53, 54, 55, 56, 57, 123, 124, 125, 126, 127, 128, 129, 130, 131, 132, 133, 134, 135, 136, 137] (by decide +kernel) (by decide +kernel)) (goodIn_sub (fun _ h => List.mem_cons_of_mem _ (List.mem_append_right _ h)) (by decide +kernel))
set_option maxRecDepth 20000 in
theorem gX1_faultIn_X7_cutFault : GoodIn wsX1_faultIn (wsV RX1 38 RX7 yX7_cutFault wsX7_cutFault) := goodIn_app (goodIn_of _ (by decide +kernel)) ggX1_faultIn_X7_cutFault
set_option maxRecDepth 20000 in
theorem ggX1_faultIn_X7_fillFault : GoodIn wsX1_faultIn wsX7_fillFault := goodIn_ca (goodIn_r _ [61, 16, 17, 35, 36, 37, 62, 38, 39, 40, 19, 20, 21, 22, 23, 24, 25, 26, 27, 41, 42, 43, 44, 45, 46, 14, 47, 48, 49, 50, 51, 52, 53, 54, 55, 56, 57, 123, 124, 125, 126, 127, 128, 129, 130, 131, 132, 133, 134, 135, 136, 137] (by decide +kernel) (by decide +kernel)) (goodIn_sub (fun _ h => List.mem_cons_of_mem _ (List.mem_append_right _ h)) (by decide +kernel))
set_option maxRecDepth 20000 in
theorem gX1_faultIn_X7_fillFault : GoodIn wsX1_faultIn (wsV RX1 42 RX7 yX7_fillFault wsX7_fillFault) := goodIn_app (goodIn_of _ (by decide +kernel)) ggX1_faultIn_X7_fillFault
set_option maxRecDepth 20000 in
theorem ggX1_faultIn_X3_cellFault : GoodIn wsX1_faultIn wsX3_cellFault := goodIn_r _ [22, 23, 24, 25, 26, 21, 27] (by decide +kernel) (by decide +kernel)
set_option maxRecDepth 20000 in
theorem gX1_faultIn_X3_cellFault : GoodIn wsX1_faultIn (va_wsS RX1 45 yX3_cellFault wsX3_cellFault) := goodIn_app (goodIn_of _ (by decide +kernel)) ggX1_faultIn_X3_cellFault
set_option maxRecDepth 20000 in
theorem ggX1_faultIn_X7_limitFault : GoodIn wsX1_faultIn wsX7_limitFault := goodIn_ca (goodIn_r _ [67, 18, 16, 40, 68, 69, 70, 14, 71, 36, 44, 45, 46, 47, 48, 49, 50, 51, 52, 53, 54, 55, 56, 21, 57, 123, 124, 125, 126, 127, 128, 129, 130, 131, 132, 133, 134, 135, 136, 137] (by decide +kernel) (by decide +kernel)) (goodIn_sub (fun _ h => List.mem_cons_of_mem _ (List.mem_append_right _ h)) (by decide +kernel))
set_option maxRecDepth 20000 in
theorem gX1_faultIn_X7_limitFault : GoodIn wsX1_faultIn (wsV RX1 50 RX7 yX7_limitFault wsX7_limitFault) := goodIn_app (goodIn_of _ (by decide +kernel)) ggX1_faultIn_X7_limitFault
set_option maxRecDepth 20000 in
theorem ggX1_faultIn_X7_winchFault : GoodIn wsX1_faultIn wsX7_winchFault := goodIn_ca (goodIn_r _ [75, 16, 17, 18, 76, 38, 19, 20, 21, 22, 23, 24, 25, 26, 27, 41, 42, 43, 77, 78, 79, 14, 80, 81, 123, 124, 125, 126, 127, 128, 129, 130, 131, 132, 133, 134, 135, 136, 137] (by decide +kernel) (by decide +kernel)) (goodIn_sub (fun _ h => List.mem_cons_of_mem _ (List.mem_append_right _ h)) (by decide +kernel))
set_option maxRecDepth 20000 in
theorem gX1_faultIn_X7_winchFault : GoodIn wsX1_faultIn (wsV RX1 54 RX7 yX7_winchFault wsX7_winchFault) := goodIn_app (goodIn_of _ (by decide +kernel)) ggX1_faultIn_X7_winchFault
set_option maxRecDepth 20000 in
theorem ggX1_faultIn_X7_liftFault : GoodIn wsX1_faultIn wsX7_liftFault := goodIn_ca (goodIn_r _ [85, 17, 16, 35, 38, 81, 86, 87, 40, 88, 89, 90, 14, 91, 76, 92, 93, 94, 95, 37, 96, 19, 20, 21, 22, 23, 24, 25, 26, 27, 41, 42, 43, 97, 98, 99, 100, 49, 50, 51, 101, 102, 103, 104, 105, 106, 107, 108, 109, 110, 111, 112, 113, 114, 123, 124, 125, 126, 127, 128, 129, 130, 131, 132, 133, 134, 135, 136, 137] (by decide +kernel) (by decide +kernel)) (goodIn_sub (fun _ h => List.mem_cons_of_mem _ (List.mem_append_right _ h)) (by decide +kernel))
set_option maxRecDepth 20000 in
theorem gX1_faultIn_X7_liftFault : GoodIn wsX1_faultIn (wsV RX1 58 RX7 yX7_liftFault wsX7_liftFault) := goodIn_app (goodIn_of _ (by decide +kernel)) ggX1_faultIn_X7_liftFault
set_option maxRecDepth 20000 in
theorem ggX1_faultIn_X7_crushFault : GoodIn wsX1_faultIn wsX7_crushFault := goodIn_ca (goodIn_r _ [118, 18, 119, 16, 38, 28, 29, 14, 30, 123, 124, 125, 126, 127, 128, 129, 130, 131, 132, 133, 134, 135, 136, 137] (by decide +kernel) (by decide +kernel)) (goodIn_sub (fun _ h => List.mem_cons_of_mem _ (List.mem_append_right _ h)) (by decide +kernel))
set_option maxRecDepth 20000 in
theorem gX1_faultIn_X7_crushFault : GoodIn wsX1_faultIn (wsV RX1 61 RX7 yX7_crushFault wsX7_crushFault) := goodIn_app (goodIn_of _ (by decide +kernel)) ggX1_faultIn_X7_crushFault
theorem dX1_faultIn_0 : decode cX1_faultIn 0 = .ok (.getstatic 21, 3) := by decide +kernel
theorem dX1_faultIn_3 : decode cX1_faultIn 3 = .ok (.aload_n 0, 1) := by decide +kernel
theorem dX1_faultIn_4 : decode cX1_faultIn 4 = .ok (.getfield 7, 3) := by decide +kernel
theorem dX1_faultIn_7 : decode cX1_faultIn 7 = .ok (.invokevirtual 26, 3) := by decide +kernel
theorem dX1_faultIn_10 : decode cX1_faultIn 10 = .ok (.iaload, 1) := by decide +kernel
theorem dX1_faultIn_11 : decode cX1_faultIn 11 = .ok (.tableswitch 177 1 7 #[41, 64, 81, 98, 114, 125, 154], 41) := by decide +kernel
theorem dX1_faultIn_52 : decode cX1_faultIn 52 = .ok (.aload_n 1, 1) := by decide +kernel
theorem dX1_faultIn_53 : decode cX1_faultIn 53 = .ok (.aload_n 0, 1) := by decide +kernel
theorem dX1_faultIn_54 : decode cX1_faultIn 54 = .ok (.getfield 13, 3) := by decide +kernel
theorem dX1_faultIn_57 : decode cX1_faultIn 57 = .ok (.iconst 0, 1) := by decide +kernel
theorem dX1_faultIn_58 : decode cX1_faultIn 58 = .ok (.iaload, 1) := by decide +kernel
theorem dX1_faultIn_59 : decode cX1_faultIn 59 = .ok (.aload_n 0, 1) := by decide +kernel
theorem dX1_faultIn_60 : decode cX1_faultIn 60 = .ok (.getfield 13, 3) := by decide +kernel
theorem dX1_faultIn_63 : decode cX1_faultIn 63 = .ok (.iconst 1, 1) := by decide +kernel
theorem dX1_faultIn_64 : decode cX1_faultIn 64 = .ok (.iaload, 1) := by decide +kernel
theorem dX1_faultIn_65 : decode cX1_faultIn 65 = .ok (.aload_n 0, 1) := by decide +kernel
theorem dX1_faultIn_66 : decode cX1_faultIn 66 = .ok (.getfield 13, 3) := by decide +kernel
theorem dX1_faultIn_69 : decode cX1_faultIn 69 = .ok (.iconst 2, 1) := by decide +kernel
theorem dX1_faultIn_70 : decode cX1_faultIn 70 = .ok (.iaload, 1) := by decide +kernel
theorem dX1_faultIn_71 : decode cX1_faultIn 71 = .ok (.invokevirtual 32, 3) := by decide +kernel
theorem dX1_faultIn_74 : decode cX1_faultIn 74 = .ok (.areturn, 1) := by decide +kernel
theorem dX1_faultIn_75 : decode cX1_faultIn 75 = .ok (.aload_n 1, 1) := by decide +kernel
theorem dX1_faultIn_76 : decode cX1_faultIn 76 = .ok (.aload_n 0, 1) := by decide +kernel
theorem dX1_faultIn_77 : decode cX1_faultIn 77 = .ok (.getfield 13, 3) := by decide +kernel
theorem dX1_faultIn_80 : decode cX1_faultIn 80 = .ok (.iconst 0, 1) := by decide +kernel
theorem dX1_faultIn_81 : decode cX1_faultIn 81 = .ok (.iaload, 1) := by decide +kernel
theorem dX1_faultIn_82 : decode cX1_faultIn 82 = .ok (.aload_n 0, 1) := by decide +kernel
theorem dX1_faultIn_83 : decode cX1_faultIn 83 = .ok (.getfield 13, 3) := by decide +kernel
theorem dX1_faultIn_86 : decode cX1_faultIn 86 = .ok (.iconst 1, 1) := by decide +kernel
theorem dX1_faultIn_87 : decode cX1_faultIn 87 = .ok (.iaload, 1) := by decide +kernel
theorem dX1_faultIn_88 : decode cX1_faultIn 88 = .ok (.invokevirtual 38, 3) := by decide +kernel
theorem dX1_faultIn_91 : decode cX1_faultIn 91 = .ok (.areturn, 1) := by decide +kernel
theorem dX1_faultIn_92 : decode cX1_faultIn 92 = .ok (.aload_n 1, 1) := by decide +kernel
theorem dX1_faultIn_93 : decode cX1_faultIn 93 = .ok (.aload_n 0, 1) := by decide +kernel
theorem dX1_faultIn_94 : decode cX1_faultIn 94 = .ok (.getfield 13, 3) := by decide +kernel
theorem dX1_faultIn_97 : decode cX1_faultIn 97 = .ok (.iconst 0, 1) := by decide +kernel
theorem dX1_faultIn_98 : decode cX1_faultIn 98 = .ok (.iaload, 1) := by decide +kernel
theorem dX1_faultIn_99 : decode cX1_faultIn 99 = .ok (.aload_n 0, 1) := by decide +kernel
theorem dX1_faultIn_100 : decode cX1_faultIn 100 = .ok (.getfield 13, 3) := by decide +kernel
theorem dX1_faultIn_103 : decode cX1_faultIn 103 = .ok (.iconst 1, 1) := by decide +kernel
theorem dX1_faultIn_104 : decode cX1_faultIn 104 = .ok (.iaload, 1) := by decide +kernel
theorem dX1_faultIn_105 : decode cX1_faultIn 105 = .ok (.invokevirtual 42, 3) := by decide +kernel
theorem dX1_faultIn_108 : decode cX1_faultIn 108 = .ok (.areturn, 1) := by decide +kernel
theorem dX1_faultIn_109 : decode cX1_faultIn 109 = .ok (.aload_n 0, 1) := by decide +kernel
theorem dX1_faultIn_110 : decode cX1_faultIn 110 = .ok (.getfield 13, 3) := by decide +kernel
theorem dX1_faultIn_113 : decode cX1_faultIn 113 = .ok (.iconst 0, 1) := by decide +kernel
theorem dX1_faultIn_114 : decode cX1_faultIn 114 = .ok (.iaload, 1) := by decide +kernel
theorem dX1_faultIn_115 : decode cX1_faultIn 115 = .ok (.aload_n 0, 1) := by decide +kernel
theorem dX1_faultIn_116 : decode cX1_faultIn 116 = .ok (.getfield 13, 3) := by decide +kernel
theorem dX1_faultIn_119 : decode cX1_faultIn 119 = .ok (.iconst 1, 1) := by decide +kernel
theorem dX1_faultIn_120 : decode cX1_faultIn 120 = .ok (.iaload, 1) := by decide +kernel
theorem dX1_faultIn_121 : decode cX1_faultIn 121 = .ok (.invokestatic 45, 3) := by decide +kernel
theorem dX1_faultIn_124 : decode cX1_faultIn 124 = .ok (.areturn, 1) := by decide +kernel
theorem dX1_faultIn_125 : decode cX1_faultIn 125 = .ok (.aload_n 1, 1) := by decide +kernel
theorem dX1_faultIn_126 : decode cX1_faultIn 126 = .ok (.aload_n 0, 1) := by decide +kernel
theorem dX1_faultIn_127 : decode cX1_faultIn 127 = .ok (.getfield 13, 3) := by decide +kernel
theorem dX1_faultIn_130 : decode cX1_faultIn 130 = .ok (.iconst 0, 1) := by decide +kernel
theorem dX1_faultIn_131 : decode cX1_faultIn 131 = .ok (.iaload, 1) := by decide +kernel
theorem dX1_faultIn_132 : decode cX1_faultIn 132 = .ok (.invokevirtual 50, 3) := by decide +kernel
theorem dX1_faultIn_135 : decode cX1_faultIn 135 = .ok (.areturn, 1) := by decide +kernel
theorem dX1_faultIn_136 : decode cX1_faultIn 136 = .ok (.aload_n 1, 1) := by decide +kernel
theorem dX1_faultIn_137 : decode cX1_faultIn 137 = .ok (.aload_n 0, 1) := by decide +kernel
theorem dX1_faultIn_138 : decode cX1_faultIn 138 = .ok (.getfield 13, 3) := by decide +kernel
theorem dX1_faultIn_141 : decode cX1_faultIn 141 = .ok (.iconst 0, 1) := by decide +kernel
theorem dX1_faultIn_142 : decode cX1_faultIn 142 = .ok (.iaload, 1) := by decide +kernel
theorem dX1_faultIn_143 : decode cX1_faultIn 143 = .ok (.aload_n 0, 1) := by decide +kernel
theorem dX1_faultIn_144 : decode cX1_faultIn 144 = .ok (.getfield 13, 3) := by decide +kernel
theorem dX1_faultIn_147 : decode cX1_faultIn 147 = .ok (.iconst 1, 1) := by decide +kernel
theorem dX1_faultIn_148 : decode cX1_faultIn 148 = .ok (.iaload, 1) := by decide +kernel
theorem dX1_faultIn_149 : decode cX1_faultIn 149 = .ok (.aload_n 0, 1) := by decide +kernel
theorem dX1_faultIn_150 : decode cX1_faultIn 150 = .ok (.getfield 13, 3) := by decide +kernel
theorem dX1_faultIn_153 : decode cX1_faultIn 153 = .ok (.iconst 2, 1) := by decide +kernel
theorem dX1_faultIn_154 : decode cX1_faultIn 154 = .ok (.iaload, 1) := by decide +kernel
theorem dX1_faultIn_155 : decode cX1_faultIn 155 = .ok (.aload_n 0, 1) := by decide +kernel
theorem dX1_faultIn_156 : decode cX1_faultIn 156 = .ok (.getfield 13, 3) := by decide +kernel
theorem dX1_faultIn_159 : decode cX1_faultIn 159 = .ok (.iconst 3, 1) := by decide +kernel
theorem dX1_faultIn_160 : decode cX1_faultIn 160 = .ok (.iaload, 1) := by decide +kernel
theorem dX1_faultIn_161 : decode cX1_faultIn 161 = .ok (.invokevirtual 54, 3) := by decide +kernel
theorem dX1_faultIn_164 : decode cX1_faultIn 164 = .ok (.areturn, 1) := by decide +kernel
theorem dX1_faultIn_165 : decode cX1_faultIn 165 = .ok (.aload_n 1, 1) := by decide +kernel
theorem dX1_faultIn_166 : decode cX1_faultIn 166 = .ok (.aload_n 0, 1) := by decide +kernel
theorem dX1_faultIn_167 : decode cX1_faultIn 167 = .ok (.getfield 13, 3) := by decide +kernel
theorem dX1_faultIn_170 : decode cX1_faultIn 170 = .ok (.iconst 0, 1) := by decide +kernel
theorem dX1_faultIn_171 : decode cX1_faultIn 171 = .ok (.iaload, 1) := by decide +kernel
theorem dX1_faultIn_172 : decode cX1_faultIn 172 = .ok (.aload_n 0, 1) := by decide +kernel
theorem dX1_faultIn_173 : decode cX1_faultIn 173 = .ok (.getfield 13, 3) := by decide +kernel
theorem dX1_faultIn_176 : decode cX1_faultIn 176 = .ok (.iconst 1, 1) := by decide +kernel
theorem dX1_faultIn_177 : decode cX1_faultIn 177 = .ok (.iaload, 1) := by decide +kernel
theorem dX1_faultIn_178 : decode cX1_faultIn 178 = .ok (.aload_n 0, 1) := by decide +kernel
theorem dX1_faultIn_179 : decode cX1_faultIn 179 = .ok (.getfield 13, 3) := by decide +kernel
theorem dX1_faultIn_182 : decode cX1_faultIn 182 = .ok (.iconst 2, 1) := by decide +kernel
theorem dX1_faultIn_183 : decode cX1_faultIn 183 = .ok (.iaload, 1) := by decide +kernel
theorem dX1_faultIn_184 : decode cX1_faultIn 184 = .ok (.invokevirtual 58, 3) := by decide +kernel
theorem dX1_faultIn_187 : decode cX1_faultIn 187 = .ok (.areturn, 1) := by decide +kernel
theorem dX1_faultIn_188 : decode cX1_faultIn 188 = .ok (.aload_n 1, 1) := by decide +kernel
theorem dX1_faultIn_189 : decode cX1_faultIn 189 = .ok (.aload_n 0, 1) := by decide +kernel
theorem dX1_faultIn_190 : decode cX1_faultIn 190 = .ok (.getfield 13, 3) := by decide +kernel
theorem dX1_faultIn_193 : decode cX1_faultIn 193 = .ok (.iconst 0, 1) := by decide +kernel
theorem dX1_faultIn_194 : decode cX1_faultIn 194 = .ok (.iaload, 1) := by decide +kernel
theorem dX1_faultIn_195 : decode cX1_faultIn 195 = .ok (.aload_n 0, 1) := by decide +kernel
theorem dX1_faultIn_196 : decode cX1_faultIn 196 = .ok (.getfield 13, 3) := by decide +kernel
theorem dX1_faultIn_199 : decode cX1_faultIn 199 = .ok (.iconst 1, 1) := by decide +kernel
theorem dX1_faultIn_200 : decode cX1_faultIn 200 = .ok (.iaload, 1) := by decide +kernel
theorem dX1_faultIn_201 : decode cX1_faultIn 201 = .ok (.invokevirtual 61, 3) := by decide +kernel
theorem dX1_faultIn_204 : decode cX1_faultIn 204 = .ok (.areturn, 1) := by decide +kernel
set_option maxRecDepth 20000 in
theorem ggX1_change_Jx29ce0_ordinal_8abf5 : GoodIn wsX1_change wsJx29ce0_ordinal_8abf5 := goodIn_r _ [9, 10] (by decide +kernel) (by decide +kernel)
set_option maxRecDepth 20000 in
theorem gX1_change_Jx29ce0_ordinal_8abf5_u26X9 : GoodIn wsX1_change (va_wsU RX1 26 RX9 "java/lang/Enum" ⟨"TerraceQuarry$Verb", "ordinal", "()I"⟩ yJx29ce0_ordinal_8abf5 wsJx29ce0_ordinal_8abf5) := goodIn_app (goodIn_of _ (by decide +kernel)) ggX1_change_Jx29ce0_ordinal_8abf5
set_option maxRecDepth 20000 in
theorem ggX1_change_X7_changeStone : GoodIn wsX1_change wsX7_changeStone := goodIn_ca (goodIn_r _ [15, 16, 17, 18, 19, 20, 73, 74, 75, 76, 77, 78, 79, 80, 81, 82, 83, 84, 85, 86, 87] (by decide +kernel) (by decide +kernel)) (goodIn_sub (fun _ h => List.mem_cons_of_mem _ (List.mem_append_right _ h)) (by decide +kernel))
set_option maxRecDepth 20000 in
theorem gX1_change_X7_changeStone : GoodIn wsX1_change (wsV RX1 64 RX7 yX7_changeStone wsX7_changeStone) := goodIn_app (goodIn_of _ (by decide +kernel)) ggX1_change_X7_changeStone
set_option maxRecDepth 20000 in
theorem ggX1_change_X7_cutCell : GoodIn wsX1_change wsX7_cutCell := goodIn_ca (goodIn_r _ [24, 25, 26, 16, 27, 28, 17, 18, 19, 20, 73, 74, 75, 76, 77, 78, 79, 80, 81, 82, 83, 84, 85, 86, 87] (by decide +kernel) (by decide +kernel)) (goodIn_sub (fun _ h => List.mem_cons_of_mem _ (List.mem_append_right _ h)) (by decide +kernel))
set_option maxRecDepth 20000 in
theorem gX1_change_X7_cutCell : GoodIn wsX1_change (wsV RX1 68 RX7 yX7_cutCell wsX7_cutCell) := goodIn_app (goodIn_of _ (by decide +kernel)) ggX1_change_X7_cutCell
set_option maxRecDepth 20000 in
theorem ggX1_change_X7_fillCell : GoodIn wsX1_change wsX7_fillCell := goodIn_ca (goodIn_r _ [32, 33, 28, 17, 18, 19, 20, 73, 74, 75, 76, 77, 78, 79, 80, 81, 82, 83, 84, 85, 86, 87] (by decide +kernel) (by decide +kernel)) (goodIn_sub (fun _ h => List.mem_cons_of_mem _ (List.mem_append_right _ h)) (by decide +kernel))
set_option maxRecDepth 20000 in
theorem gX1_change_X7_fillCell : GoodIn wsX1_change (wsV RX1 72 RX7 yX7_fillCell wsX7_fillCell) := goodIn_app (goodIn_of _ (by decide +kernel)) ggX1_change_X7_fillCell
set_option maxRecDepth 20000 in
theorem ggX1_change_X7_switchLedge : GoodIn wsX1_change wsX7_switchLedge := goodIn_ca (goodIn_r _ [37, 38, 17, 18, 19, 20, 73, 74, 75, 76, 77, 78, 79, 80, 81, 82, 83, 84, 85, 86, 87] (by decide +kernel) (by decide +kernel)) (goodIn_sub (fun _ h => List.mem_cons_of_mem _ (List.mem_append_right _ h)) (by decide +kernel))
set_option maxRecDepth 20000 in
theorem gX1_change_X7_switchLedge : GoodIn wsX1_change (wsV RX1 75 RX7 yX7_switchLedge wsX7_switchLedge) := goodIn_app (goodIn_of _ (by decide +kernel)) ggX1_change_X7_switchLedge
set_option maxRecDepth 20000 in
theorem ggX1_change_X7_changeLimit : GoodIn wsX1_change wsX7_changeLimit := goodIn_r _ [42, 43, 73, 74, 75, 76, 77, 78, 79, 80, 81, 82, 83, 84, 85, 86, 87] (by decide +kernel) (by decide +kernel)
set_option maxRecDepth 20000 in
theorem gX1_change_X7_changeLimit : GoodIn wsX1_change (wsV RX1 79 RX7 yX7_changeLimit wsX7_changeLimit) := goodIn_app (goodIn_of _ (by decide +kernel)) ggX1_change_X7_changeLimit
set_option maxRecDepth 20000 in
theorem ggX1_change_X7_placeWinch : GoodIn wsX1_change wsX7_placeWinch := goodIn_ca (goodIn_r _ [47, 48, 49, 50, 51, 17, 18, 19, 20, 73, 74, 75, 76, 77, 78, 79, 80, 81, 82, 83, 84, 85, 86, 87] (by decide +kernel) (by decide +kernel)) (goodIn_sub (fun _ h => List.mem_cons_of_mem _ (List.mem_append_right _ h)) (by decide +kernel))
set_option maxRecDepth 20000 in
theorem gX1_change_X7_placeWinch : GoodIn wsX1_change (wsV RX1 83 RX7 yX7_placeWinch wsX7_placeWinch) := goodIn_app (goodIn_of _ (by decide +kernel)) ggX1_change_X7_placeWinch
set_option maxRecDepth 20000 in
theorem ggX1_change_X7_liftBlock : GoodIn wsX1_change wsX7_liftBlock := goodIn_ca (goodIn_r _ [55, 28, 26, 56, 57, 58, 17, 18, 19, 20, 59, 60, 61, 14, 62, 25, 63, 64, 65, 73, 74, 75, 76, 77, 78, 79, 80, 81, 82, 83, 84, 85, 86, 87] (by decide +kernel) (by decide +kernel)) (goodIn_sub (fun _ h => List.mem_cons_of_mem _ (List.mem_append_right _ h)) (by decide +kernel))
set_option maxRecDepth 20000 in
theorem gX1_change_X7_liftBlock : GoodIn wsX1_change (wsV RX1 87 RX7 yX7_liftBlock wsX7_liftBlock) := goodIn_app (goodIn_of _ (by decide +kernel)) ggX1_change_X7_liftBlock
set_option maxRecDepth 20000 in
theorem ggX1_change_X7_crushBlocks : GoodIn wsX1_change wsX7_crushBlocks := goodIn_ca (goodIn_r _ [69, 56, 33, 73, 74, 75, 76, 77, 78, 79, 80, 81, 82, 83, 84, 85, 86, 87] (by decide +kernel) (by decide +kernel)) (goodIn_sub (fun _ h => List.mem_cons_of_mem _ (List.mem_append_right _ h)) (by decide +kernel))
set_option maxRecDepth 20000 in
theorem gX1_change_X7_crushBlocks : GoodIn wsX1_change (wsV RX1 90 RX7 yX7_crushBlocks wsX7_crushBlocks) := goodIn_app (goodIn_of _ (by decide +kernel)) ggX1_change_X7_crushBlocks
theorem dX1_change_0 : decode cX1_change 0 = .ok (.getstatic 21, 3) := by decide +kernel
theorem dX1_change_3 : decode cX1_change 3 = .ok (.aload_n 0, 1) := by decide +kernel
theorem dX1_change_4 : decode cX1_change 4 = .ok (.getfield 7, 3) := by decide +kernel
theorem dX1_change_7 : decode cX1_change 7 = .ok (.invokevirtual 26, 3) := by decide +kernel
theorem dX1_change_10 : decode cX1_change 10 = .ok (.iaload, 1) := by decide +kernel
theorem dX1_change_11 : decode cX1_change 11 = .ok (.tableswitch 193 1 7 #[41, 67, 87, 107, 127, 141, 173], 41) := by decide +kernel
theorem dX1_change_52 : decode cX1_change 52 = .ok (.aload_n 1, 1) := by decide +kernel
theorem dX1_change_53 : decode cX1_change 53 = .ok (.aload_n 0, 1) := by decide +kernel
theorem dX1_change_54 : decode cX1_change 54 = .ok (.getfield 13, 3) := by decide +kernel
theorem dX1_change_57 : decode cX1_change 57 = .ok (.iconst 0, 1) := by decide +kernel
theorem dX1_change_58 : decode cX1_change 58 = .ok (.iaload, 1) := by decide +kernel
theorem dX1_change_59 : decode cX1_change 59 = .ok (.aload_n 0, 1) := by decide +kernel
theorem dX1_change_60 : decode cX1_change 60 = .ok (.getfield 13, 3) := by decide +kernel
theorem dX1_change_63 : decode cX1_change 63 = .ok (.iconst 1, 1) := by decide +kernel
theorem dX1_change_64 : decode cX1_change 64 = .ok (.iaload, 1) := by decide +kernel
theorem dX1_change_65 : decode cX1_change 65 = .ok (.aload_n 0, 1) := by decide +kernel
theorem dX1_change_66 : decode cX1_change 66 = .ok (.getfield 13, 3) := by decide +kernel
theorem dX1_change_69 : decode cX1_change 69 = .ok (.iconst 2, 1) := by decide +kernel
theorem dX1_change_70 : decode cX1_change 70 = .ok (.iaload, 1) := by decide +kernel
theorem dX1_change_71 : decode cX1_change 71 = .ok (.invokevirtual 64, 3) := by decide +kernel
theorem dX1_change_74 : decode cX1_change 74 = .ok (.pop, 1) := by decide +kernel
theorem dX1_change_75 : decode cX1_change 75 = .ok (.goto 146, 3) := by decide +kernel
theorem dX1_change_78 : decode cX1_change 78 = .ok (.aload_n 1, 1) := by decide +kernel
theorem dX1_change_79 : decode cX1_change 79 = .ok (.aload_n 0, 1) := by decide +kernel
theorem dX1_change_80 : decode cX1_change 80 = .ok (.getfield 13, 3) := by decide +kernel
theorem dX1_change_83 : decode cX1_change 83 = .ok (.iconst 0, 1) := by decide +kernel
theorem dX1_change_84 : decode cX1_change 84 = .ok (.iaload, 1) := by decide +kernel
theorem dX1_change_85 : decode cX1_change 85 = .ok (.aload_n 0, 1) := by decide +kernel
theorem dX1_change_86 : decode cX1_change 86 = .ok (.getfield 13, 3) := by decide +kernel
theorem dX1_change_89 : decode cX1_change 89 = .ok (.iconst 1, 1) := by decide +kernel
theorem dX1_change_90 : decode cX1_change 90 = .ok (.iaload, 1) := by decide +kernel
theorem dX1_change_91 : decode cX1_change 91 = .ok (.invokevirtual 68, 3) := by decide +kernel
theorem dX1_change_94 : decode cX1_change 94 = .ok (.pop, 1) := by decide +kernel
theorem dX1_change_95 : decode cX1_change 95 = .ok (.goto 126, 3) := by decide +kernel
theorem dX1_change_98 : decode cX1_change 98 = .ok (.aload_n 1, 1) := by decide +kernel
theorem dX1_change_99 : decode cX1_change 99 = .ok (.aload_n 0, 1) := by decide +kernel
theorem dX1_change_100 : decode cX1_change 100 = .ok (.getfield 13, 3) := by decide +kernel
theorem dX1_change_103 : decode cX1_change 103 = .ok (.iconst 0, 1) := by decide +kernel
theorem dX1_change_104 : decode cX1_change 104 = .ok (.iaload, 1) := by decide +kernel
theorem dX1_change_105 : decode cX1_change 105 = .ok (.aload_n 0, 1) := by decide +kernel
theorem dX1_change_106 : decode cX1_change 106 = .ok (.getfield 13, 3) := by decide +kernel
theorem dX1_change_109 : decode cX1_change 109 = .ok (.iconst 1, 1) := by decide +kernel
theorem dX1_change_110 : decode cX1_change 110 = .ok (.iaload, 1) := by decide +kernel
theorem dX1_change_111 : decode cX1_change 111 = .ok (.invokevirtual 72, 3) := by decide +kernel
theorem dX1_change_114 : decode cX1_change 114 = .ok (.pop, 1) := by decide +kernel
theorem dX1_change_115 : decode cX1_change 115 = .ok (.goto 106, 3) := by decide +kernel
theorem dX1_change_118 : decode cX1_change 118 = .ok (.aload_n 1, 1) := by decide +kernel
theorem dX1_change_119 : decode cX1_change 119 = .ok (.aload_n 0, 1) := by decide +kernel
theorem dX1_change_120 : decode cX1_change 120 = .ok (.getfield 13, 3) := by decide +kernel
theorem dX1_change_123 : decode cX1_change 123 = .ok (.iconst 0, 1) := by decide +kernel
theorem dX1_change_124 : decode cX1_change 124 = .ok (.iaload, 1) := by decide +kernel
theorem dX1_change_125 : decode cX1_change 125 = .ok (.aload_n 0, 1) := by decide +kernel
theorem dX1_change_126 : decode cX1_change 126 = .ok (.getfield 13, 3) := by decide +kernel
theorem dX1_change_129 : decode cX1_change 129 = .ok (.iconst 1, 1) := by decide +kernel
theorem dX1_change_130 : decode cX1_change 130 = .ok (.iaload, 1) := by decide +kernel
theorem dX1_change_131 : decode cX1_change 131 = .ok (.invokevirtual 75, 3) := by decide +kernel
theorem dX1_change_134 : decode cX1_change 134 = .ok (.pop, 1) := by decide +kernel
theorem dX1_change_135 : decode cX1_change 135 = .ok (.goto 86, 3) := by decide +kernel
theorem dX1_change_138 : decode cX1_change 138 = .ok (.aload_n 1, 1) := by decide +kernel
theorem dX1_change_139 : decode cX1_change 139 = .ok (.aload_n 0, 1) := by decide +kernel
theorem dX1_change_140 : decode cX1_change 140 = .ok (.getfield 13, 3) := by decide +kernel
theorem dX1_change_143 : decode cX1_change 143 = .ok (.iconst 0, 1) := by decide +kernel
theorem dX1_change_144 : decode cX1_change 144 = .ok (.iaload, 1) := by decide +kernel
theorem dX1_change_145 : decode cX1_change 145 = .ok (.invokevirtual 79, 3) := by decide +kernel
theorem dX1_change_148 : decode cX1_change 148 = .ok (.pop, 1) := by decide +kernel
theorem dX1_change_149 : decode cX1_change 149 = .ok (.goto 72, 3) := by decide +kernel
theorem dX1_change_152 : decode cX1_change 152 = .ok (.aload_n 1, 1) := by decide +kernel
theorem dX1_change_153 : decode cX1_change 153 = .ok (.aload_n 0, 1) := by decide +kernel
theorem dX1_change_154 : decode cX1_change 154 = .ok (.getfield 13, 3) := by decide +kernel
theorem dX1_change_157 : decode cX1_change 157 = .ok (.iconst 0, 1) := by decide +kernel
theorem dX1_change_158 : decode cX1_change 158 = .ok (.iaload, 1) := by decide +kernel
theorem dX1_change_159 : decode cX1_change 159 = .ok (.aload_n 0, 1) := by decide +kernel
theorem dX1_change_160 : decode cX1_change 160 = .ok (.getfield 13, 3) := by decide +kernel
theorem dX1_change_163 : decode cX1_change 163 = .ok (.iconst 1, 1) := by decide +kernel
theorem dX1_change_164 : decode cX1_change 164 = .ok (.iaload, 1) := by decide +kernel
theorem dX1_change_165 : decode cX1_change 165 = .ok (.aload_n 0, 1) := by decide +kernel
theorem dX1_change_166 : decode cX1_change 166 = .ok (.getfield 13, 3) := by decide +kernel
theorem dX1_change_169 : decode cX1_change 169 = .ok (.iconst 2, 1) := by decide +kernel
theorem dX1_change_170 : decode cX1_change 170 = .ok (.iaload, 1) := by decide +kernel
theorem dX1_change_171 : decode cX1_change 171 = .ok (.aload_n 0, 1) := by decide +kernel
theorem dX1_change_172 : decode cX1_change 172 = .ok (.getfield 13, 3) := by decide +kernel
theorem dX1_change_175 : decode cX1_change 175 = .ok (.iconst 3, 1) := by decide +kernel
theorem dX1_change_176 : decode cX1_change 176 = .ok (.iaload, 1) := by decide +kernel
theorem dX1_change_177 : decode cX1_change 177 = .ok (.invokevirtual 83, 3) := by decide +kernel
theorem dX1_change_180 : decode cX1_change 180 = .ok (.pop, 1) := by decide +kernel
theorem dX1_change_181 : decode cX1_change 181 = .ok (.goto 40, 3) := by decide +kernel
theorem dX1_change_184 : decode cX1_change 184 = .ok (.aload_n 1, 1) := by decide +kernel
theorem dX1_change_185 : decode cX1_change 185 = .ok (.aload_n 0, 1) := by decide +kernel
theorem dX1_change_186 : decode cX1_change 186 = .ok (.getfield 13, 3) := by decide +kernel
theorem dX1_change_189 : decode cX1_change 189 = .ok (.iconst 1, 1) := by decide +kernel
theorem dX1_change_190 : decode cX1_change 190 = .ok (.iaload, 1) := by decide +kernel
theorem dX1_change_191 : decode cX1_change 191 = .ok (.aload_n 0, 1) := by decide +kernel
theorem dX1_change_192 : decode cX1_change 192 = .ok (.getfield 13, 3) := by decide +kernel
theorem dX1_change_195 : decode cX1_change 195 = .ok (.iconst 2, 1) := by decide +kernel
theorem dX1_change_196 : decode cX1_change 196 = .ok (.iaload, 1) := by decide +kernel
theorem dX1_change_197 : decode cX1_change 197 = .ok (.invokevirtual 87, 3) := by decide +kernel
theorem dX1_change_200 : decode cX1_change 200 = .ok (.pop, 1) := by decide +kernel
theorem dX1_change_201 : decode cX1_change 201 = .ok (.goto 20, 3) := by decide +kernel
theorem dX1_change_204 : decode cX1_change 204 = .ok (.aload_n 1, 1) := by decide +kernel
theorem dX1_change_205 : decode cX1_change 205 = .ok (.aload_n 0, 1) := by decide +kernel
theorem dX1_change_206 : decode cX1_change 206 = .ok (.getfield 13, 3) := by decide +kernel
theorem dX1_change_209 : decode cX1_change 209 = .ok (.iconst 0, 1) := by decide +kernel
theorem dX1_change_210 : decode cX1_change 210 = .ok (.iaload, 1) := by decide +kernel
theorem dX1_change_211 : decode cX1_change 211 = .ok (.aload_n 0, 1) := by decide +kernel
theorem dX1_change_212 : decode cX1_change 212 = .ok (.getfield 13, 3) := by decide +kernel
theorem dX1_change_215 : decode cX1_change 215 = .ok (.iconst 1, 1) := by decide +kernel
theorem dX1_change_216 : decode cX1_change 216 = .ok (.iaload, 1) := by decide +kernel
theorem dX1_change_217 : decode cX1_change 217 = .ok (.invokevirtual 90, 3) := by decide +kernel
theorem dX1_change_220 : decode cX1_change 220 = .ok (.pop, 1) := by decide +kernel
theorem dX1_change_221 : decode cX1_change 221 = .ok (.return_, 1) := by decide +kernel
theorem dX3_hasRow_0 : decode cX3_hasRow 0 = .ok (.iload_n 0, 1) := by decide +kernel
theorem dX3_hasRow_1 : decode cX3_hasRow 1 = .ok (.ifCond .lt 12, 3) := by decide +kernel
theorem dX3_hasRow_4 : decode cX3_hasRow 4 = .ok (.iload_n 0, 1) := by decide +kernel
theorem dX3_hasRow_5 : decode cX3_hasRow 5 = .ok (.iconst 5, 1) := by decide +kernel
theorem dX3_hasRow_6 : decode cX3_hasRow 6 = .ok (.if_icmp .ge 7, 3) := by decide +kernel
theorem dX3_hasRow_9 : decode cX3_hasRow 9 = .ok (.iconst 1, 1) := by decide +kernel
theorem dX3_hasRow_10 : decode cX3_hasRow 10 = .ok (.goto 4, 3) := by decide +kernel
theorem dX3_hasRow_13 : decode cX3_hasRow 13 = .ok (.iconst 0, 1) := by decide +kernel
theorem dX3_hasRow_14 : decode cX3_hasRow 14 = .ok (.ireturn, 1) := by decide +kernel
set_option maxRecDepth 20000 in
theorem ggX3_cellFault_X3_hasRow : GoodIn wsX3_cellFault wsX3_hasRow := goodIn_r _ [6] (by decide +kernel) (by decide +kernel)
set_option maxRecDepth 20000 in
theorem gX3_cellFault_X3_hasRow : GoodIn wsX3_cellFault (va_wsS RX3 9 yX3_hasRow wsX3_hasRow) := goodIn_app (goodIn_of _ (by decide +kernel)) ggX3_cellFault_X3_hasRow
theorem dX3_cellFault_0 : decode cX3_cellFault 0 = .ok (.iload_n 0, 1) := by decide +kernel
theorem dX3_cellFault_1 : decode cX3_cellFault 1 = .ok (.invokestatic 9, 3) := by decide +kernel
theorem dX3_cellFault_4 : decode cX3_cellFault 4 = .ok (.ifCond .eq 17, 3) := by decide +kernel
theorem dX3_cellFault_7 : decode cX3_cellFault 7 = .ok (.iload_n 1, 1) := by decide +kernel
theorem dX3_cellFault_8 : decode cX3_cellFault 8 = .ok (.ifCond .lt 13, 3) := by decide +kernel
theorem dX3_cellFault_11 : decode cX3_cellFault 11 = .ok (.iload_n 1, 1) := by decide +kernel
theorem dX3_cellFault_12 : decode cX3_cellFault 12 = .ok (.bipush 6, 2) := by decide +kernel
theorem dX3_cellFault_14 : decode cX3_cellFault 14 = .ok (.if_icmp .ge 7, 3) := by decide +kernel
theorem dX3_cellFault_17 : decode cX3_cellFault 17 = .ok (.iconst 1, 1) := by decide +kernel
theorem dX3_cellFault_18 : decode cX3_cellFault 18 = .ok (.goto 4, 3) := by decide +kernel
theorem dX3_cellFault_21 : decode cX3_cellFault 21 = .ok (.iconst 0, 1) := by decide +kernel
theorem dX3_cellFault_22 : decode cX3_cellFault 22 = .ok (.istore_n 2, 1) := by decide +kernel
theorem dX3_cellFault_23 : decode cX3_cellFault 23 = .ok (.iload_n 2, 1) := by decide +kernel
theorem dX3_cellFault_24 : decode cX3_cellFault 24 = .ok (.ifCond .eq 9, 3) := by decide +kernel
theorem dX3_cellFault_27 : decode cX3_cellFault 27 = .ok (.getstatic 13, 3) := by decide +kernel
theorem dX3_cellFault_30 : decode cX3_cellFault 30 = .ok (.goto 6, 3) := by decide +kernel
theorem dX3_cellFault_33 : decode cX3_cellFault 33 = .ok (.getstatic 19, 3) := by decide +kernel
theorem dX3_cellFault_36 : decode cX3_cellFault 36 = .ok (.areturn, 1) := by decide +kernel
theorem dX3_cellAt_0 : decode cX3_cellAt 0 = .ok (.iload_n 0, 1) := by decide +kernel
theorem dX3_cellAt_1 : decode cX3_cellAt 1 = .ok (.bipush 6, 2) := by decide +kernel
theorem dX3_cellAt_3 : decode cX3_cellAt 3 = .ok (.imul, 1) := by decide +kernel
theorem dX3_cellAt_4 : decode cX3_cellAt 4 = .ok (.iload_n 1, 1) := by decide +kernel
theorem dX3_cellAt_5 : decode cX3_cellAt 5 = .ok (.iadd, 1) := by decide +kernel
theorem dX3_cellAt_6 : decode cX3_cellAt 6 = .ok (.ireturn, 1) := by decide +kernel
theorem dX3_rowOf_0 : decode cX3_rowOf 0 = .ok (.iload_n 0, 1) := by decide +kernel
theorem dX3_rowOf_1 : decode cX3_rowOf 1 = .ok (.bipush 6, 2) := by decide +kernel
theorem dX3_rowOf_3 : decode cX3_rowOf 3 = .ok (.idiv, 1) := by decide +kernel
theorem dX3_rowOf_4 : decode cX3_rowOf 4 = .ok (.ireturn, 1) := by decide +kernel
theorem dX3_columnOf_0 : decode cX3_columnOf 0 = .ok (.iload_n 0, 1) := by decide +kernel
theorem dX3_columnOf_1 : decode cX3_columnOf 1 = .ok (.bipush 6, 2) := by decide +kernel
theorem dX3_columnOf_3 : decode cX3_columnOf 3 = .ok (.irem, 1) := by decide +kernel
theorem dX3_columnOf_4 : decode cX3_columnOf 4 = .ok (.ireturn, 1) := by decide +kernel
set_option maxRecDepth 20000 in
theorem ggX3_distance_X3_rowOf : GoodIn wsX3_distance wsX3_rowOf := goodIn_r _ [8] (by decide +kernel) (by decide +kernel)
set_option maxRecDepth 20000 in
theorem gX3_distance_X3_rowOf : GoodIn wsX3_distance (va_wsS RX3 22 yX3_rowOf wsX3_rowOf) := goodIn_app (goodIn_of _ (by decide +kernel)) ggX3_distance_X3_rowOf
set_option maxRecDepth 20000 in
theorem ggX3_distance_X3_columnOf : GoodIn wsX3_distance wsX3_columnOf := goodIn_r _ [11] (by decide +kernel) (by decide +kernel)
set_option maxRecDepth 20000 in
theorem gX3_distance_X3_columnOf : GoodIn wsX3_distance (va_wsS RX3 31 yX3_columnOf wsX3_columnOf) := goodIn_app (goodIn_of _ (by decide +kernel)) ggX3_distance_X3_columnOf
theorem dX3_distance_0 : decode cX3_distance 0 = .ok (.iload_n 0, 1) := by decide +kernel
theorem dX3_distance_1 : decode cX3_distance 1 = .ok (.invokestatic 22, 3) := by decide +kernel
theorem dX3_distance_4 : decode cX3_distance 4 = .ok (.iload_n 1, 1) := by decide +kernel
theorem dX3_distance_5 : decode cX3_distance 5 = .ok (.invokestatic 22, 3) := by decide +kernel
theorem dX3_distance_8 : decode cX3_distance 8 = .ok (.isub, 1) := by decide +kernel
theorem dX3_distance_9 : decode cX3_distance 9 = .ok (.invokestatic 26, 3) := by decide +kernel
theorem dX3_distance_12 : decode cX3_distance 12 = .ok (.iload_n 0, 1) := by decide +kernel
theorem dX3_distance_13 : decode cX3_distance 13 = .ok (.invokestatic 31, 3) := by decide +kernel
theorem dX3_distance_16 : decode cX3_distance 16 = .ok (.iload_n 1, 1) := by decide +kernel
theorem dX3_distance_17 : decode cX3_distance 17 = .ok (.invokestatic 31, 3) := by decide +kernel
theorem dX3_distance_20 : decode cX3_distance 20 = .ok (.isub, 1) := by decide +kernel
theorem dX3_distance_21 : decode cX3_distance 21 = .ok (.invokestatic 26, 3) := by decide +kernel
theorem dX3_distance_24 : decode cX3_distance 24 = .ok (.iadd, 1) := by decide +kernel
theorem dX3_distance_25 : decode cX3_distance 25 = .ok (.ireturn, 1) := by decide +kernel
theorem dX3_neighbour_0 : decode cX3_neighbour 0 = .ok (.iload_n 0, 1) := by decide +kernel
theorem dX3_neighbour_1 : decode cX3_neighbour 1 = .ok (.bipush 6, 2) := by decide +kernel
theorem dX3_neighbour_3 : decode cX3_neighbour 3 = .ok (.irem, 1) := by decide +kernel
theorem dX3_neighbour_4 : decode cX3_neighbour 4 = .ok (.istore_n 2, 1) := by decide +kernel
theorem dX3_neighbour_5 : decode cX3_neighbour 5 = .ok (.iload_n 1, 1) := by decide +kernel
theorem dX3_neighbour_6 : decode cX3_neighbour 6 = .ok (.tableswitch 85 0 3 #[30, 45, 57, 70], 30) := by decide +kernel
theorem dX3_neighbour_36 : decode cX3_neighbour 36 = .ok (.iload_n 0, 1) := by decide +kernel
theorem dX3_neighbour_37 : decode cX3_neighbour 37 = .ok (.bipush 6, 2) := by decide +kernel
theorem dX3_neighbour_39 : decode cX3_neighbour 39 = .ok (.if_icmp .lt 10, 3) := by decide +kernel
theorem dX3_neighbour_42 : decode cX3_neighbour 42 = .ok (.iload_n 0, 1) := by decide +kernel
theorem dX3_neighbour_43 : decode cX3_neighbour 43 = .ok (.bipush 6, 2) := by decide +kernel
theorem dX3_neighbour_45 : decode cX3_neighbour 45 = .ok (.isub, 1) := by decide +kernel
theorem dX3_neighbour_46 : decode cX3_neighbour 46 = .ok (.goto 4, 3) := by decide +kernel
theorem dX3_neighbour_49 : decode cX3_neighbour 49 = .ok (.iconst (-1), 1) := by decide +kernel
theorem dX3_neighbour_50 : decode cX3_neighbour 50 = .ok (.ireturn, 1) := by decide +kernel
theorem dX3_neighbour_51 : decode cX3_neighbour 51 = .ok (.iload_n 2, 1) := by decide +kernel
theorem dX3_neighbour_52 : decode cX3_neighbour 52 = .ok (.ifCond .le 9, 3) := by decide +kernel
theorem dX3_neighbour_55 : decode cX3_neighbour 55 = .ok (.iload_n 0, 1) := by decide +kernel
theorem dX3_neighbour_56 : decode cX3_neighbour 56 = .ok (.iconst 1, 1) := by decide +kernel
theorem dX3_neighbour_57 : decode cX3_neighbour 57 = .ok (.isub, 1) := by decide +kernel
theorem dX3_neighbour_58 : decode cX3_neighbour 58 = .ok (.goto 4, 3) := by decide +kernel
theorem dX3_neighbour_61 : decode cX3_neighbour 61 = .ok (.iconst (-1), 1) := by decide +kernel
theorem dX3_neighbour_62 : decode cX3_neighbour 62 = .ok (.ireturn, 1) := by decide +kernel
theorem dX3_neighbour_63 : decode cX3_neighbour 63 = .ok (.iload_n 2, 1) := by decide +kernel
theorem dX3_neighbour_64 : decode cX3_neighbour 64 = .ok (.iconst 5, 1) := by decide +kernel
theorem dX3_neighbour_65 : decode cX3_neighbour 65 = .ok (.if_icmp .ge 9, 3) := by decide +kernel
theorem dX3_neighbour_68 : decode cX3_neighbour 68 = .ok (.iload_n 0, 1) := by decide +kernel
theorem dX3_neighbour_69 : decode cX3_neighbour 69 = .ok (.iconst 1, 1) := by decide +kernel
theorem dX3_neighbour_70 : decode cX3_neighbour 70 = .ok (.iadd, 1) := by decide +kernel
theorem dX3_neighbour_71 : decode cX3_neighbour 71 = .ok (.goto 4, 3) := by decide +kernel
theorem dX3_neighbour_74 : decode cX3_neighbour 74 = .ok (.iconst (-1), 1) := by decide +kernel
theorem dX3_neighbour_75 : decode cX3_neighbour 75 = .ok (.ireturn, 1) := by decide +kernel
theorem dX3_neighbour_76 : decode cX3_neighbour 76 = .ok (.iload_n 0, 1) := by decide +kernel
theorem dX3_neighbour_77 : decode cX3_neighbour 77 = .ok (.bipush 24, 2) := by decide +kernel
theorem dX3_neighbour_79 : decode cX3_neighbour 79 = .ok (.if_icmp .ge 10, 3) := by decide +kernel
theorem dX3_neighbour_82 : decode cX3_neighbour 82 = .ok (.iload_n 0, 1) := by decide +kernel
theorem dX3_neighbour_83 : decode cX3_neighbour 83 = .ok (.bipush 6, 2) := by decide +kernel
theorem dX3_neighbour_85 : decode cX3_neighbour 85 = .ok (.iadd, 1) := by decide +kernel
theorem dX3_neighbour_86 : decode cX3_neighbour 86 = .ok (.goto 4, 3) := by decide +kernel
theorem dX3_neighbour_89 : decode cX3_neighbour 89 = .ok (.iconst (-1), 1) := by decide +kernel
theorem dX3_neighbour_90 : decode cX3_neighbour 90 = .ok (.ireturn, 1) := by decide +kernel
theorem dX3_neighbour_91 : decode cX3_neighbour 91 = .ok (.iconst (-1), 1) := by decide +kernel
theorem dX3_neighbour_92 : decode cX3_neighbour 92 = .ok (.ireturn, 1) := by decide +kernel
theorem dX4_init_0 : decode cX4_init 0 = .ok (.aload_n 0, 1) := by decide +kernel
theorem dX4_init_1 : decode cX4_init 1 = .ok (.invokespecial 1, 3) := by decide +kernel
theorem dX4_init_4 : decode cX4_init 4 = .ok (.aload_n 0, 1) := by decide +kernel
theorem dX4_init_5 : decode cX4_init 5 = .ok (.bipush 8, 2) := by decide +kernel
theorem dX4_init_7 : decode cX4_init 7 = .ok (.anewarray 9, 3) := by decide +kernel
theorem dX4_init_10 : decode cX4_init 10 = .ok (.putfield 11, 3) := by decide +kernel
theorem dX4_init_13 : decode cX4_init 13 = .ok (.aload_n 0, 1) := by decide +kernel
theorem dX4_init_14 : decode cX4_init 14 = .ok (.iconst 0, 1) := by decide +kernel
theorem dX4_init_15 : decode cX4_init 15 = .ok (.putfield 15, 3) := by decide +kernel
theorem dX4_init_18 : decode cX4_init 18 = .ok (.aload_n 0, 1) := by decide +kernel
theorem dX4_init_19 : decode cX4_init 19 = .ok (.iconst 0, 1) := by decide +kernel
theorem dX4_init_20 : decode cX4_init 20 = .ok (.putfield 19, 3) := by decide +kernel
theorem dX4_init_23 : decode cX4_init 23 = .ok (.return_, 1) := by decide +kernel
set_option maxRecDepth 20000 in
theorem ggX4_record_X7_init : GoodIn wsX4_record wsX7_init := goodIn_ca (goodIn_r _ [13, 14, 15, 16, 17, 18, 19, 20, 21, 22, 23, 24, 25, 26, 27, 28, 29, 45, 46, 47, 48, 49, 50, 51, 52, 53, 54, 55, 56, 57, 58, 59] (by decide +kernel) (by decide +kernel)) (goodIn_sub (fun _ h => List.mem_cons_of_mem _ (List.mem_append_right _ h)) (by decide +kernel))
set_option maxRecDepth 20000 in
theorem gX4_record_X7_init : GoodIn wsX4_record (wsX7_init) := ggX4_record_X7_init
set_option maxRecDepth 20000 in
theorem ggX4_record_X7_copyFrom : GoodIn wsX4_record wsX7_copyFrom := goodIn_ca (goodIn_r _ [33, 18, 34, 35, 36, 37, 19, 22, 23, 24, 25, 26, 27, 21, 38, 28, 29, 39, 40, 41, 45, 46, 47, 48, 49, 50, 51, 52, 53, 54, 55, 56, 57, 58, 59] (by decide +kernel) (by decide +kernel)) (goodIn_sub (fun _ h => List.mem_cons_of_mem _ (List.mem_append_right _ h)) (by decide +kernel))
set_option maxRecDepth 20000 in
theorem gX4_record_X7_copyFrom : GoodIn wsX4_record (wsV RX4 23 RX7 yX7_copyFrom wsX7_copyFrom) := goodIn_app (goodIn_of _ (by decide +kernel)) ggX4_record_X7_copyFrom
theorem dX4_record_0 : decode cX4_record 0 = .ok (.aload_n 0, 1) := by decide +kernel
theorem dX4_record_1 : decode cX4_record 1 = .ok (.getfield 11, 3) := by decide +kernel
theorem dX4_record_4 : decode cX4_record 4 = .ok (.aload_n 0, 1) := by decide +kernel
theorem dX4_record_5 : decode cX4_record 5 = .ok (.getfield 15, 3) := by decide +kernel
theorem dX4_record_8 : decode cX4_record 8 = .ok (.aaload, 1) := by decide +kernel
theorem dX4_record_9 : decode cX4_record 9 = .ok (.astore_n 2, 1) := by decide +kernel
theorem dX4_record_10 : decode cX4_record 10 = .ok (.aload_n 2, 1) := by decide +kernel
theorem dX4_record_11 : decode cX4_record 11 = .ok (.ifnonnull 21, 3) := by decide +kernel
theorem dX4_record_14 : decode cX4_record 14 = .ok (.new 9, 3) := by decide +kernel
theorem dX4_record_17 : decode cX4_record 17 = .ok (.dup, 1) := by decide +kernel
theorem dX4_record_18 : decode cX4_record 18 = .ok (.invokespecial 22, 3) := by decide +kernel
theorem dX4_record_21 : decode cX4_record 21 = .ok (.astore_n 2, 1) := by decide +kernel
theorem dX4_record_22 : decode cX4_record 22 = .ok (.aload_n 0, 1) := by decide +kernel
theorem dX4_record_23 : decode cX4_record 23 = .ok (.getfield 11, 3) := by decide +kernel
theorem dX4_record_26 : decode cX4_record 26 = .ok (.aload_n 0, 1) := by decide +kernel
theorem dX4_record_27 : decode cX4_record 27 = .ok (.getfield 15, 3) := by decide +kernel
theorem dX4_record_30 : decode cX4_record 30 = .ok (.aload_n 2, 1) := by decide +kernel
theorem dX4_record_31 : decode cX4_record 31 = .ok (.aastore, 1) := by decide +kernel
theorem dX4_record_32 : decode cX4_record 32 = .ok (.aload_n 2, 1) := by decide +kernel
theorem dX4_record_33 : decode cX4_record 33 = .ok (.aload_n 1, 1) := by decide +kernel
theorem dX4_record_34 : decode cX4_record 34 = .ok (.invokevirtual 23, 3) := by decide +kernel
theorem dX4_record_37 : decode cX4_record 37 = .ok (.aload_n 0, 1) := by decide +kernel
theorem dX4_record_38 : decode cX4_record 38 = .ok (.aload_n 0, 1) := by decide +kernel
theorem dX4_record_39 : decode cX4_record 39 = .ok (.getfield 15, 3) := by decide +kernel
theorem dX4_record_42 : decode cX4_record 42 = .ok (.iconst 1, 1) := by decide +kernel
theorem dX4_record_43 : decode cX4_record 43 = .ok (.iadd, 1) := by decide +kernel
theorem dX4_record_44 : decode cX4_record 44 = .ok (.bipush 8, 2) := by decide +kernel
theorem dX4_record_46 : decode cX4_record 46 = .ok (.irem, 1) := by decide +kernel
theorem dX4_record_47 : decode cX4_record 47 = .ok (.putfield 15, 3) := by decide +kernel
theorem dX4_record_50 : decode cX4_record 50 = .ok (.aload_n 0, 1) := by decide +kernel
theorem dX4_record_51 : decode cX4_record 51 = .ok (.aload_n 0, 1) := by decide +kernel
theorem dX4_record_52 : decode cX4_record 52 = .ok (.getfield 19, 3) := by decide +kernel
theorem dX4_record_55 : decode cX4_record 55 = .ok (.iconst 1, 1) := by decide +kernel
theorem dX4_record_56 : decode cX4_record 56 = .ok (.iadd, 1) := by decide +kernel
theorem dX4_record_57 : decode cX4_record 57 = .ok (.bipush 8, 2) := by decide +kernel
theorem dX4_record_59 : decode cX4_record 59 = .ok (.invokestatic 27, 3) := by decide +kernel
theorem dX4_record_62 : decode cX4_record 62 = .ok (.putfield 19, 3) := by decide +kernel
theorem dX4_record_65 : decode cX4_record 65 = .ok (.return_, 1) := by decide +kernel
theorem dX4_forget_0 : decode cX4_forget 0 = .ok (.aload_n 0, 1) := by decide +kernel
theorem dX4_forget_1 : decode cX4_forget 1 = .ok (.iconst 0, 1) := by decide +kernel
theorem dX4_forget_2 : decode cX4_forget 2 = .ok (.putfield 19, 3) := by decide +kernel
theorem dX4_forget_5 : decode cX4_forget 5 = .ok (.return_, 1) := by decide +kernel
theorem dX5_init_0 : decode cX5_init 0 = .ok (.aload_n 0, 1) := by decide +kernel
theorem dX5_init_1 : decode cX5_init 1 = .ok (.invokespecial 3, 3) := by decide +kernel
theorem dX5_init_4 : decode cX5_init 4 = .ok (.aload_n 0, 1) := by decide +kernel
theorem dX5_init_5 : decode cX5_init 5 = .ok (.bipush 48, 2) := by decide +kernel
theorem dX5_init_7 : decode cX5_init 7 = .ok (.newarray .char, 2) := by decide +kernel
theorem dX5_init_9 : decode cX5_init 9 = .ok (.putfield 13, 3) := by decide +kernel
theorem dX5_init_12 : decode cX5_init 12 = .ok (.aload_n 0, 1) := by decide +kernel
theorem dX5_init_13 : decode cX5_init 13 = .ok (.iconst 0, 1) := by decide +kernel
theorem dX5_init_14 : decode cX5_init 14 = .ok (.putfield 17, 3) := by decide +kernel
theorem dX5_init_17 : decode cX5_init 17 = .ok (.return_, 1) := by decide +kernel
theorem dX5_hasSign_0 : decode cX5_hasSign 0 = .ok (.iload_n 1, 1) := by decide +kernel
theorem dX5_hasSign_1 : decode cX5_hasSign 1 = .ok (.ifCond .lt 15, 3) := by decide +kernel
theorem dX5_hasSign_4 : decode cX5_hasSign 4 = .ok (.iload_n 1, 1) := by decide +kernel
theorem dX5_hasSign_5 : decode cX5_hasSign 5 = .ok (.aload_n 0, 1) := by decide +kernel
theorem dX5_hasSign_6 : decode cX5_hasSign 6 = .ok (.getfield 17, 3) := by decide +kernel
theorem dX5_hasSign_9 : decode cX5_hasSign 9 = .ok (.if_icmp .ge 7, 3) := by decide +kernel
theorem dX5_hasSign_12 : decode cX5_hasSign 12 = .ok (.iconst 1, 1) := by decide +kernel
theorem dX5_hasSign_13 : decode cX5_hasSign 13 = .ok (.goto 4, 3) := by decide +kernel
theorem dX5_hasSign_16 : decode cX5_hasSign 16 = .ok (.iconst 0, 1) := by decide +kernel
theorem dX5_hasSign_17 : decode cX5_hasSign 17 = .ok (.ireturn, 1) := by decide +kernel
theorem dX5_signAt_0 : decode cX5_signAt 0 = .ok (.aload_n 0, 1) := by decide +kernel
theorem dX5_signAt_1 : decode cX5_signAt 1 = .ok (.getfield 13, 3) := by decide +kernel
theorem dX5_signAt_4 : decode cX5_signAt 4 = .ok (.iload_n 1, 1) := by decide +kernel
theorem dX5_signAt_5 : decode cX5_signAt 5 = .ok (.caload, 1) := by decide +kernel
theorem dX5_signAt_6 : decode cX5_signAt 6 = .ok (.ireturn, 1) := by decide +kernel
set_option maxRecDepth 20000 in
theorem ggX5_write_X5_put : GoodIn wsX5_write wsX5_put := goodIn_ca (goodIn_r _ [6, 1, 7, 43, 44] (by decide +kernel) (by decide +kernel)) (goodIn_sub (fun _ h => List.mem_cons_of_mem _ (List.mem_append_right _ h)) (by decide +kernel))
set_option maxRecDepth 20000 in
theorem gX5_write_X5_put : GoodIn wsX5_write (wsV RX5 21 RX5 yX5_put wsX5_put) := goodIn_app (goodIn_of _ (by decide +kernel)) ggX5_write_X5_put
set_option maxRecDepth 20000 in
theorem ggX5_write_X3_cellAt : GoodIn wsX5_write wsX3_cellAt := goodIn_r _ [11] (by decide +kernel) (by decide +kernel)
set_option maxRecDepth 20000 in
theorem gX5_write_X3_cellAt : GoodIn wsX5_write (va_wsS RX5 25 yX3_cellAt wsX3_cellAt) := goodIn_app (goodIn_of _ (by decide +kernel)) ggX5_write_X3_cellAt
set_option maxRecDepth 20000 in
theorem ggX5_write_X5_putCell : GoodIn wsX5_write wsX5_putCell := goodIn_ca (goodIn_r _ [15, 16, 17, 18, 19, 20, 21, 2, 3, 4, 5, 6, 1, 7, 22, 23, 24, 25, 26, 27, 28, 29, 30, 31, 32, 33, 34, 35, 36, 37, 38, 39, 40, 41, 42, 45, 46, 47, 48, 49, 50, 51, 52, 53, 54, 55, 56, 57, 58, 59, 43, 44] (by decide +kernel) (by decide +kernel)) (goodIn_sub (fun _ h => List.mem_cons_of_mem _ (List.mem_append_right _ h)) (by decide +kernel))
set_option maxRecDepth 20000 in
theorem gX5_write_X5_putCell : GoodIn wsX5_write (wsV RX5 29 RX5 yX5_putCell wsX5_putCell) := goodIn_app (goodIn_of _ (by decide +kernel)) ggX5_write_X5_putCell
theorem dX5_write_0 : decode cX5_write 0 = .ok (.aload_n 0, 1) := by decide +kernel
theorem dX5_write_1 : decode cX5_write 1 = .ok (.iconst 0, 1) := by decide +kernel
theorem dX5_write_2 : decode cX5_write 2 = .ok (.putfield 17, 3) := by decide +kernel
theorem dX5_write_5 : decode cX5_write 5 = .ok (.iconst 0, 1) := by decide +kernel
theorem dX5_write_6 : decode cX5_write 6 = .ok (.istore_n 3, 1) := by decide +kernel
theorem dX5_write_7 : decode cX5_write 7 = .ok (.iload_n 3, 1) := by decide +kernel
theorem dX5_write_8 : decode cX5_write 8 = .ok (.bipush 6, 2) := by decide +kernel
theorem dX5_write_10 : decode cX5_write 10 = .ok (.if_icmp .ge 29, 3) := by decide +kernel
theorem dX5_write_13 : decode cX5_write 13 = .ok (.iload_n 3, 1) := by decide +kernel
theorem dX5_write_14 : decode cX5_write 14 = .ok (.ifCond .le 9, 3) := by decide +kernel
theorem dX5_write_17 : decode cX5_write 17 = .ok (.aload_n 0, 1) := by decide +kernel
theorem dX5_write_18 : decode cX5_write 18 = .ok (.bipush 32, 2) := by decide +kernel
theorem dX5_write_20 : decode cX5_write 20 = .ok (.invokevirtual 21, 3) := by decide +kernel
theorem dX5_write_23 : decode cX5_write 23 = .ok (.aload_n 0, 1) := by decide +kernel
theorem dX5_write_24 : decode cX5_write 24 = .ok (.aload_n 1, 1) := by decide +kernel
theorem dX5_write_25 : decode cX5_write 25 = .ok (.iload_n 2, 1) := by decide +kernel
theorem dX5_write_26 : decode cX5_write 26 = .ok (.iload_n 3, 1) := by decide +kernel
theorem dX5_write_27 : decode cX5_write 27 = .ok (.invokestatic 25, 3) := by decide +kernel
theorem dX5_write_30 : decode cX5_write 30 = .ok (.invokevirtual 29, 3) := by decide +kernel
theorem dX5_write_33 : decode cX5_write 33 = .ok (.iinc 3 1, 3) := by decide +kernel
theorem dX5_write_36 : decode cX5_write 36 = .ok (.goto (-29), 3) := by decide +kernel
theorem dX5_write_39 : decode cX5_write 39 = .ok (.aload_n 0, 1) := by decide +kernel
theorem dX5_write_40 : decode cX5_write 40 = .ok (.getfield 17, 3) := by decide +kernel
theorem dX5_write_43 : decode cX5_write 43 = .ok (.ireturn, 1) := by decide +kernel
set_option maxRecDepth 20000 in
theorem ggX5_putCell_X7_heightAt : GoodIn wsX5_putCell wsX7_heightAt := goodIn_ca (goodIn_r _ [5, 6, 35, 36, 37, 38, 39, 40, 41, 42, 43, 44, 45, 46, 47, 48, 49] (by decide +kernel) (by decide +kernel)) (goodIn_sub (fun _ h => List.mem_cons_of_mem _ (List.mem_append_right _ h)) (by decide +kernel))
set_option maxRecDepth 20000 in
theorem gX5_putCell_X7_heightAt : GoodIn wsX5_putCell (wsV RX5 33 RX7 yX7_heightAt wsX7_heightAt) := goodIn_app (goodIn_of _ (by decide +kernel)) ggX5_putCell_X7_heightAt
set_option maxRecDepth 20000 in
theorem ggX5_putCell_X5_put : GoodIn wsX5_putCell wsX5_put := goodIn_ca (goodIn_r _ [11, 12, 13, 50, 51] (by decide +kernel) (by decide +kernel)) (goodIn_sub (fun _ h => List.mem_cons_of_mem _ (List.mem_append_right _ h)) (by decide +kernel))
set_option maxRecDepth 20000 in
theorem gX5_putCell_X5_put : GoodIn wsX5_putCell (wsV RX5 21 RX5 yX5_put wsX5_put) := goodIn_app (goodIn_of _ (by decide +kernel)) ggX5_putCell_X5_put
set_option maxRecDepth 20000 in
theorem ggX5_putCell_X7_stoneAt : GoodIn wsX5_putCell wsX7_stoneAt := goodIn_ca (goodIn_r _ [17, 18, 35, 36, 37, 38, 39, 40, 41, 42, 43, 44, 45, 46, 47, 48, 49] (by decide +kernel) (by decide +kernel)) (goodIn_sub (fun _ h => List.mem_cons_of_mem _ (List.mem_append_right _ h)) (by decide +kernel))
set_option maxRecDepth 20000 in
theorem gX5_putCell_X7_stoneAt : GoodIn wsX5_putCell (wsV RX5 37 RX7 yX7_stoneAt wsX7_stoneAt) := goodIn_app (goodIn_of _ (by decide +kernel)) ggX5_putCell_X7_stoneAt
set_option maxRecDepth 20000 in
theorem ggX5_putCell_X7_hasLedgeAt : GoodIn wsX5_putCell wsX7_hasLedgeAt := goodIn_ca (goodIn_r _ [22, 23, 35, 36, 37, 38, 39, 40, 41, 42, 43, 44, 45, 46, 47, 48, 49] (by decide +kernel) (by decide +kernel)) (goodIn_sub (fun _ h => List.mem_cons_of_mem _ (List.mem_append_right _ h)) (by decide +kernel))
set_option maxRecDepth 20000 in
theorem gX5_putCell_X7_hasLedgeAt : GoodIn wsX5_putCell (wsV RX5 40 RX7 yX7_hasLedgeAt wsX7_hasLedgeAt) := goodIn_app (goodIn_of _ (by decide +kernel)) ggX5_putCell_X7_hasLedgeAt
set_option maxRecDepth 20000 in
theorem ggX5_putCell_X7_hasWinchAt : GoodIn wsX5_putCell wsX7_hasWinchAt := goodIn_ca (goodIn_r _ [27, 28, 29, 35, 36, 37, 38, 39, 40, 41, 42, 43, 44, 45, 46, 47, 48, 49] (by decide +kernel) (by decide +kernel)) (goodIn_sub (fun _ h => List.mem_cons_of_mem _ (List.mem_append_right _ h)) (by decide +kernel))
set_option maxRecDepth 20000 in
theorem gX5_putCell_X7_hasWinchAt : GoodIn wsX5_putCell (wsV RX5 44 RX7 yX7_hasWinchAt wsX7_hasWinchAt) := goodIn_app (goodIn_of _ (by decide +kernel)) ggX5_putCell_X7_hasWinchAt
set_option maxRecDepth 20000 in
theorem ggX5_putCell_X7_blocksAt : GoodIn wsX5_putCell wsX7_blocksAt := goodIn_ca (goodIn_r _ [33, 34, 35, 36, 37, 38, 39, 40, 41, 42, 43, 44, 45, 46, 47, 48, 49] (by decide +kernel) (by decide +kernel)) (goodIn_sub (fun _ h => List.mem_cons_of_mem _ (List.mem_append_right _ h)) (by decide +kernel))
set_option maxRecDepth 20000 in
theorem gX5_putCell_X7_blocksAt : GoodIn wsX5_putCell (wsV RX5 47 RX7 yX7_blocksAt wsX7_blocksAt) := goodIn_app (goodIn_of _ (by decide +kernel)) ggX5_putCell_X7_blocksAt
theorem dX5_putCell_0 : decode cX5_putCell 0 = .ok (.aload_n 0, 1) := by decide +kernel
theorem dX5_putCell_1 : decode cX5_putCell 1 = .ok (.bipush 48, 2) := by decide +kernel
theorem dX5_putCell_3 : decode cX5_putCell 3 = .ok (.aload_n 1, 1) := by decide +kernel
theorem dX5_putCell_4 : decode cX5_putCell 4 = .ok (.iload_n 2, 1) := by decide +kernel
theorem dX5_putCell_5 : decode cX5_putCell 5 = .ok (.invokevirtual 33, 3) := by decide +kernel
theorem dX5_putCell_8 : decode cX5_putCell 8 = .ok (.iadd, 1) := by decide +kernel
theorem dX5_putCell_9 : decode cX5_putCell 9 = .ok (.i2c, 1) := by decide +kernel
theorem dX5_putCell_10 : decode cX5_putCell 10 = .ok (.invokevirtual 21, 3) := by decide +kernel
theorem dX5_putCell_13 : decode cX5_putCell 13 = .ok (.aload_n 0, 1) := by decide +kernel
theorem dX5_putCell_14 : decode cX5_putCell 14 = .ok (.bipush 97, 2) := by decide +kernel
theorem dX5_putCell_16 : decode cX5_putCell 16 = .ok (.aload_n 1, 1) := by decide +kernel
theorem dX5_putCell_17 : decode cX5_putCell 17 = .ok (.iload_n 2, 1) := by decide +kernel
theorem dX5_putCell_18 : decode cX5_putCell 18 = .ok (.invokevirtual 37, 3) := by decide +kernel
theorem dX5_putCell_21 : decode cX5_putCell 21 = .ok (.iadd, 1) := by decide +kernel
theorem dX5_putCell_22 : decode cX5_putCell 22 = .ok (.i2c, 1) := by decide +kernel
theorem dX5_putCell_23 : decode cX5_putCell 23 = .ok (.invokevirtual 21, 3) := by decide +kernel
theorem dX5_putCell_26 : decode cX5_putCell 26 = .ok (.aload_n 1, 1) := by decide +kernel
theorem dX5_putCell_27 : decode cX5_putCell 27 = .ok (.iload_n 2, 1) := by decide +kernel
theorem dX5_putCell_28 : decode cX5_putCell 28 = .ok (.invokevirtual 40, 3) := by decide +kernel
theorem dX5_putCell_31 : decode cX5_putCell 31 = .ok (.ifCond .eq 9, 3) := by decide +kernel
theorem dX5_putCell_34 : decode cX5_putCell 34 = .ok (.aload_n 0, 1) := by decide +kernel
theorem dX5_putCell_35 : decode cX5_putCell 35 = .ok (.bipush 61, 2) := by decide +kernel
theorem dX5_putCell_37 : decode cX5_putCell 37 = .ok (.invokevirtual 21, 3) := by decide +kernel
theorem dX5_putCell_40 : decode cX5_putCell 40 = .ok (.aload_n 1, 1) := by decide +kernel
theorem dX5_putCell_41 : decode cX5_putCell 41 = .ok (.iload_n 2, 1) := by decide +kernel
theorem dX5_putCell_42 : decode cX5_putCell 42 = .ok (.invokevirtual 44, 3) := by decide +kernel
theorem dX5_putCell_45 : decode cX5_putCell 45 = .ok (.ifCond .eq 9, 3) := by decide +kernel
theorem dX5_putCell_48 : decode cX5_putCell 48 = .ok (.aload_n 0, 1) := by decide +kernel
theorem dX5_putCell_49 : decode cX5_putCell 49 = .ok (.bipush 94, 2) := by decide +kernel
theorem dX5_putCell_51 : decode cX5_putCell 51 = .ok (.invokevirtual 21, 3) := by decide +kernel
theorem dX5_putCell_54 : decode cX5_putCell 54 = .ok (.iconst 0, 1) := by decide +kernel
theorem dX5_putCell_55 : decode cX5_putCell 55 = .ok (.istore_n 3, 1) := by decide +kernel
theorem dX5_putCell_56 : decode cX5_putCell 56 = .ok (.iload_n 3, 1) := by decide +kernel
theorem dX5_putCell_57 : decode cX5_putCell 57 = .ok (.aload_n 1, 1) := by decide +kernel
theorem dX5_putCell_58 : decode cX5_putCell 58 = .ok (.iload_n 2, 1) := by decide +kernel
theorem dX5_putCell_59 : decode cX5_putCell 59 = .ok (.invokevirtual 47, 3) := by decide +kernel
theorem dX5_putCell_62 : decode cX5_putCell 62 = .ok (.if_icmp .ge 15, 3) := by decide +kernel
theorem dX5_putCell_65 : decode cX5_putCell 65 = .ok (.aload_n 0, 1) := by decide +kernel
theorem dX5_putCell_66 : decode cX5_putCell 66 = .ok (.bipush 46, 2) := by decide +kernel
theorem dX5_putCell_68 : decode cX5_putCell 68 = .ok (.invokevirtual 21, 3) := by decide +kernel
theorem dX5_putCell_71 : decode cX5_putCell 71 = .ok (.iinc 3 1, 3) := by decide +kernel
theorem dX5_putCell_74 : decode cX5_putCell 74 = .ok (.goto (-18), 3) := by decide +kernel
theorem dX5_putCell_77 : decode cX5_putCell 77 = .ok (.return_, 1) := by decide +kernel
theorem dX5_put_0 : decode cX5_put 0 = .ok (.aload_n 0, 1) := by decide +kernel
theorem dX5_put_1 : decode cX5_put 1 = .ok (.getfield 17, 3) := by decide +kernel
theorem dX5_put_4 : decode cX5_put 4 = .ok (.aload_n 0, 1) := by decide +kernel
theorem dX5_put_5 : decode cX5_put 5 = .ok (.getfield 13, 3) := by decide +kernel
theorem dX5_put_8 : decode cX5_put 8 = .ok (.arraylength, 1) := by decide +kernel
theorem dX5_put_9 : decode cX5_put 9 = .ok (.if_icmp .ge 23, 3) := by decide +kernel
theorem dX5_put_12 : decode cX5_put 12 = .ok (.aload_n 0, 1) := by decide +kernel
theorem dX5_put_13 : decode cX5_put 13 = .ok (.getfield 13, 3) := by decide +kernel
theorem dX5_put_16 : decode cX5_put 16 = .ok (.aload_n 0, 1) := by decide +kernel
theorem dX5_put_17 : decode cX5_put 17 = .ok (.getfield 17, 3) := by decide +kernel
theorem dX5_put_20 : decode cX5_put 20 = .ok (.iload_n 1, 1) := by decide +kernel
theorem dX5_put_21 : decode cX5_put 21 = .ok (.castore, 1) := by decide +kernel
theorem dX5_put_22 : decode cX5_put 22 = .ok (.aload_n 0, 1) := by decide +kernel
theorem dX5_put_23 : decode cX5_put 23 = .ok (.dup, 1) := by decide +kernel
theorem dX5_put_24 : decode cX5_put 24 = .ok (.getfield 17, 3) := by decide +kernel
theorem dX5_put_27 : decode cX5_put 27 = .ok (.iconst 1, 1) := by decide +kernel
theorem dX5_put_28 : decode cX5_put 28 = .ok (.iadd, 1) := by decide +kernel
theorem dX5_put_29 : decode cX5_put 29 = .ok (.putfield 17, 3) := by decide +kernel
theorem dX5_put_32 : decode cX5_put 32 = .ok (.return_, 1) := by decide +kernel
set_option maxRecDepth 20000 in
theorem ggX6_init_Jx4a65c_init_da8c8 : GoodIn wsX6_init wsJx4a65c_init_da8c8 := goodIn_r _ [13, 14, 15, 16, 17, 18, 19, 20, 21, 22, 23, 24, 25, 2, 3, 29, 30, 31] (by decide +kernel) (by decide +kernel)
set_option maxRecDepth 20000 in
theorem gX6_init_Jx4a65c_init_da8c8 : GoodIn wsX6_init (wsJx4a65c_init_da8c8) := ggX6_init_Jx4a65c_init_da8c8
theorem dX6_init_0 : decode cX6_init 0 = .ok (.aload_n 0, 1) := by decide +kernel
theorem dX6_init_1 : decode cX6_init 1 = .ok (.invokespecial 1, 3) := by decide +kernel
theorem dX6_init_4 : decode cX6_init 4 = .ok (.aload_n 0, 1) := by decide +kernel
theorem dX6_init_5 : decode cX6_init 5 = .ok (.bipush 60, 2) := by decide +kernel
theorem dX6_init_7 : decode cX6_init 7 = .ok (.newarray .char, 2) := by decide +kernel
theorem dX6_init_9 : decode cX6_init 9 = .ok (.putfield 9, 3) := by decide +kernel
theorem dX6_init_12 : decode cX6_init 12 = .ok (.aload_n 0, 1) := by decide +kernel
theorem dX6_init_13 : decode cX6_init 13 = .ok (.new 13, 3) := by decide +kernel
theorem dX6_init_16 : decode cX6_init 16 = .ok (.dup, 1) := by decide +kernel
theorem dX6_init_17 : decode cX6_init 17 = .ok (.invokespecial 15, 3) := by decide +kernel
theorem dX6_init_20 : decode cX6_init 20 = .ok (.putfield 16, 3) := by decide +kernel
theorem dX6_init_23 : decode cX6_init 23 = .ok (.aload_n 0, 1) := by decide +kernel
theorem dX6_init_24 : decode cX6_init 24 = .ok (.iconst 0, 1) := by decide +kernel
theorem dX6_init_25 : decode cX6_init 25 = .ok (.putfield 20, 3) := by decide +kernel
theorem dX6_init_28 : decode cX6_init 28 = .ok (.return_, 1) := by decide +kernel
theorem dX6_empty_0 : decode cX6_empty 0 = .ok (.aload_n 0, 1) := by decide +kernel
theorem dX6_empty_1 : decode cX6_empty 1 = .ok (.iconst 0, 1) := by decide +kernel
theorem dX6_empty_2 : decode cX6_empty 2 = .ok (.putfield 20, 3) := by decide +kernel
theorem dX6_empty_5 : decode cX6_empty 5 = .ok (.return_, 1) := by decide +kernel
set_option maxRecDepth 20000 in
theorem ggX6_commandCount_Jx4a65c_size_8abf5 : GoodIn wsX6_commandCount wsJx4a65c_size_8abf5 := goodIn_r _ [6, 7, 11, 12, 13] (by decide +kernel) (by decide +kernel)
set_option maxRecDepth 20000 in
theorem gX6_commandCount_Jx4a65c_size_8abf5 : GoodIn wsX6_commandCount (wsV RX6 24 RJx4a65c yJx4a65c_size_8abf5 wsJx4a65c_size_8abf5) := goodIn_app (goodIn_of _ (by decide +kernel)) ggX6_commandCount_Jx4a65c_size_8abf5
theorem dX6_commandCount_0 : decode cX6_commandCount 0 = .ok (.aload_n 0, 1) := by decide +kernel
theorem dX6_commandCount_1 : decode cX6_commandCount 1 = .ok (.getfield 16, 3) := by decide +kernel
theorem dX6_commandCount_4 : decode cX6_commandCount 4 = .ok (.invokevirtual 24, 3) := by decide +kernel
theorem dX6_commandCount_7 : decode cX6_commandCount 7 = .ok (.ireturn, 1) := by decide +kernel
set_option maxRecDepth 20000 in
theorem ggX6_read_Jx4a65c_clear_da8c8 : GoodIn wsX6_read wsJx4a65c_clear_da8c8 := goodIn_r _ [8, 9, 10, 11, 12, 182, 183, 184] (by decide +kernel) (by decide +kernel)
set_option maxRecDepth 20000 in
theorem gX6_read_Jx4a65c_clear_da8c8 : GoodIn wsX6_read (wsV RX6 28 RJx4a65c yJx4a65c_clear_da8c8 wsJx4a65c_clear_da8c8) := goodIn_app (goodIn_of _ (by decide +kernel)) ggX6_read_Jx4a65c_clear_da8c8
set_option maxRecDepth 20000 in
theorem ggX6_read_X6_verbAt : GoodIn wsX6_read wsX6_verbAt := goodIn_ca (goodIn_r _ [17, 18, 19, 20, 21, 22, 23, 24, 25, 26, 27, 28, 16, 29, 2, 3, 30, 31, 32, 33, 34, 35, 36, 37, 38, 39, 40, 41, 42, 43, 44, 45, 46, 47, 48, 49, 50, 51, 52, 53, 54, 55, 56, 57, 58, 59, 60, 61, 62, 63, 64, 65, 66, 67, 68, 69, 70, 71, 72, 73, 74, 75, 76, 77, 78, 79, 80, 81, 82, 83, 84, 85, 86, 87, 88, 89, 90, 91, 92, 93, 94, 179, 180, 181, 185, 186] (by decide +kernel) (by decide +kernel)) (goodIn_sub (fun _ h => List.mem_cons_of_mem _ (List.mem_append_right _ h)) (by decide +kernel))
set_option maxRecDepth 20000 in
theorem gX6_read_X6_verbAt : GoodIn wsX6_read (wsV RX6 31 RX6 yX6_verbAt wsX6_verbAt) := goodIn_app (goodIn_of _ (by decide +kernel)) ggX6_read_X6_verbAt
set_option maxRecDepth 20000 in
theorem ggX6_read_X6_longestMatch : GoodIn wsX6_read wsX6_longestMatch := goodIn_ca (goodIn_r _ [98, 99, 100, 101, 102, 18, 19, 20, 21, 22, 23, 24, 25, 26, 27, 28, 16, 29, 2, 3, 30, 31, 32, 33, 34, 35, 36, 37, 38, 39, 40, 41, 42, 43, 44, 45, 46, 47, 48, 49, 50, 51, 52, 53, 54, 55, 56, 57, 58, 59, 60, 61, 62, 63, 64, 65, 66, 67, 68, 69, 70, 71, 72, 73, 74, 75, 76, 77, 78, 79, 80, 81, 82, 83, 84, 85, 86, 87, 88, 89, 90, 91, 92, 93, 94, 179, 180, 181, 185, 186] (by decide +kernel) (by decide +kernel)) (goodIn_sub (fun _ h => List.mem_cons_of_mem _ (List.mem_append_right _ h)) (by decide +kernel))
set_option maxRecDepth 20000 in
theorem gX6_read_X6_longestMatch : GoodIn wsX6_read (wsV RX6 35 RX6 yX6_longestMatch wsX6_longestMatch) := goodIn_app (goodIn_of _ (by decide +kernel)) ggX6_read_X6_longestMatch
set_option maxRecDepth 20000 in
theorem ggX6_read_X6_readCommand : GoodIn wsX6_read wsX6_readCommand := goodIn_ca (goodIn_r _ [106, 107, 108, 109, 1, 3, 110, 2, 111, 112, 113, 114, 115, 116, 117, 118, 119, 120, 121, 122, 123, 7, 124, 9, 10, 11, 12, 125, 126, 127, 128, 129, 130, 131, 132, 133, 134, 135, 136, 137, 138, 100, 101, 102, 139, 140, 141, 142, 143, 144, 145, 146, 147, 148, 149, 150, 151, 152, 153, 154, 155, 156, 157, 158, 159, 160, 161, 162, 163, 164, 165, 166, 167, 168, 30, 31, 32, 20, 33, 34, 35, 36, 37, 38, 39, 40, 41, 42, 43, 44, 45, 46, 169, 52, 53, 54, 55, 56, 57, 58, 59, 60, 61, 62, 63, 64, 65, 66, 67, 68, 69, 70, 71, 72, 73, 74, 75, 76, 77, 78, 79, 80, 81, 82, 83, 84, 85, 86, 87, 88, 89, 90, 91, 170, 171, 172, 173, 174, 93, 94, 175, 176, 177, 178, 187, 188, 189, 179, 180, 181, 182, 183, 184, 185, 186] (by decide +kernel) (by decide +kernel)) (goodIn_sub (fun _ h => List.mem_cons_of_mem _ (List.mem_append_right _ h)) (by decide +kernel))
set_option maxRecDepth 20000 in
theorem gX6_read_X6_readCommand : GoodIn wsX6_read (wsV RX6 39 RX6 yX6_readCommand wsX6_readCommand) := goodIn_app (goodIn_of _ (by decide +kernel)) ggX6_read_X6_readCommand
theorem dX6_read_0 : decode cX6_read 0 = .ok (.aload_n 0, 1) := by decide +kernel
theorem dX6_read_1 : decode cX6_read 1 = .ok (.getfield 16, 3) := by decide +kernel
theorem dX6_read_4 : decode cX6_read 4 = .ok (.invokevirtual 28, 3) := by decide +kernel
theorem dX6_read_7 : decode cX6_read 7 = .ok (.iconst 0, 1) := by decide +kernel
theorem dX6_read_8 : decode cX6_read 8 = .ok (.istore_n 1, 1) := by decide +kernel
theorem dX6_read_9 : decode cX6_read 9 = .ok (.iconst 0, 1) := by decide +kernel
theorem dX6_read_10 : decode cX6_read 10 = .ok (.istore_n 2, 1) := by decide +kernel
theorem dX6_read_11 : decode cX6_read 11 = .ok (.iload_n 2, 1) := by decide +kernel
theorem dX6_read_12 : decode cX6_read 12 = .ok (.bipush 60, 2) := by decide +kernel
theorem dX6_read_14 : decode cX6_read 14 = .ok (.if_icmp .gt 66, 3) := by decide +kernel
theorem dX6_read_17 : decode cX6_read 17 = .ok (.aload_n 0, 1) := by decide +kernel
theorem dX6_read_18 : decode cX6_read 18 = .ok (.iload_n 1, 1) := by decide +kernel
theorem dX6_read_19 : decode cX6_read 19 = .ok (.invokevirtual 31, 3) := by decide +kernel
theorem dX6_read_22 : decode cX6_read 22 = .ok (.astore_n 3, 1) := by decide +kernel
theorem dX6_read_23 : decode cX6_read 23 = .ok (.aload_n 3, 1) := by decide +kernel
theorem dX6_read_24 : decode cX6_read 24 = .ok (.ifnonnull 11, 3) := by decide +kernel
theorem dX6_read_27 : decode cX6_read 27 = .ok (.iload_n 1, 1) := by decide +kernel
theorem dX6_read_28 : decode cX6_read 28 = .ok (.aload_n 0, 1) := by decide +kernel
theorem dX6_read_29 : decode cX6_read 29 = .ok (.iload_n 1, 1) := by decide +kernel
theorem dX6_read_30 : decode cX6_read 30 = .ok (.invokevirtual 35, 3) := by decide +kernel
theorem dX6_read_33 : decode cX6_read 33 = .ok (.iadd, 1) := by decide +kernel
theorem dX6_read_34 : decode cX6_read 34 = .ok (.ireturn, 1) := by decide +kernel
theorem dX6_read_35 : decode cX6_read 35 = .ok (.aload_n 0, 1) := by decide +kernel
theorem dX6_read_36 : decode cX6_read 36 = .ok (.aload_n 3, 1) := by decide +kernel
theorem dX6_read_37 : decode cX6_read 37 = .ok (.iload_n 1, 1) := by decide +kernel
theorem dX6_read_38 : decode cX6_read 38 = .ok (.invokevirtual 39, 3) := by decide +kernel
theorem dX6_read_41 : decode cX6_read 41 = .ok (.istore 4, 2) := by decide +kernel
theorem dX6_read_43 : decode cX6_read 43 = .ok (.iload 4, 2) := by decide +kernel
theorem dX6_read_45 : decode cX6_read 45 = .ok (.aload_n 0, 1) := by decide +kernel
theorem dX6_read_46 : decode cX6_read 46 = .ok (.getfield 20, 3) := by decide +kernel
theorem dX6_read_49 : decode cX6_read 49 = .ok (.if_icmp .lt 5, 3) := by decide +kernel
theorem dX6_read_52 : decode cX6_read 52 = .ok (.iconst (-1), 1) := by decide +kernel
theorem dX6_read_53 : decode cX6_read 53 = .ok (.ireturn, 1) := by decide +kernel
theorem dX6_read_54 : decode cX6_read 54 = .ok (.aload_n 0, 1) := by decide +kernel
theorem dX6_read_55 : decode cX6_read 55 = .ok (.getfield 9, 3) := by decide +kernel
theorem dX6_read_58 : decode cX6_read 58 = .ok (.iload 4, 2) := by decide +kernel
theorem dX6_read_60 : decode cX6_read 60 = .ok (.caload, 1) := by decide +kernel
theorem dX6_read_61 : decode cX6_read 61 = .ok (.bipush 59, 2) := by decide +kernel
theorem dX6_read_63 : decode cX6_read 63 = .ok (.if_icmp .eq 6, 3) := by decide +kernel
theorem dX6_read_66 : decode cX6_read 66 = .ok (.iload 4, 2) := by decide +kernel
theorem dX6_read_68 : decode cX6_read 68 = .ok (.ireturn, 1) := by decide +kernel
theorem dX6_read_69 : decode cX6_read 69 = .ok (.iload 4, 2) := by decide +kernel
theorem dX6_read_71 : decode cX6_read 71 = .ok (.iconst 1, 1) := by decide +kernel
theorem dX6_read_72 : decode cX6_read 72 = .ok (.iadd, 1) := by decide +kernel
theorem dX6_read_73 : decode cX6_read 73 = .ok (.istore_n 1, 1) := by decide +kernel
theorem dX6_read_74 : decode cX6_read 74 = .ok (.iinc 2 1, 3) := by decide +kernel
theorem dX6_read_77 : decode cX6_read 77 = .ok (.goto (-66), 3) := by decide +kernel
theorem dX6_read_80 : decode cX6_read 80 = .ok (.aload_n 0, 1) := by decide +kernel
theorem dX6_read_81 : decode cX6_read 81 = .ok (.getfield 20, 3) := by decide +kernel
theorem dX6_read_84 : decode cX6_read 84 = .ok (.ireturn, 1) := by decide +kernel
set_option maxRecDepth 20000 in
theorem ggX6_verbAt_X9_total : GoodIn wsX6_verbAt wsX9_total := goodIn_r _ [4, 5] (by decide +kernel) (by decide +kernel)
set_option maxRecDepth 20000 in
theorem gX6_verbAt_X9_total : GoodIn wsX6_verbAt (va_wsS RX6 43 yX9_total wsX9_total) := goodIn_app (goodIn_of _ (by decide +kernel)) ggX6_verbAt_X9_total
set_option maxRecDepth 20000 in
theorem ggX6_verbAt_X9_at : GoodIn wsX6_verbAt wsX9_at := goodIn_r _ [8, 5] (by decide +kernel) (by decide +kernel)
set_option maxRecDepth 20000 in
theorem gX6_verbAt_X9_at : GoodIn wsX6_verbAt (va_wsS RX6 48 yX9_at wsX9_at) := goodIn_app (goodIn_of _ (by decide +kernel)) ggX6_verbAt_X9_at
set_option maxRecDepth 20000 in
theorem ggX6_verbAt_X6_matchLength : GoodIn wsX6_verbAt wsX6_matchLength := goodIn_ca (goodIn_r _ [13, 14, 15, 16, 17, 18, 3, 19, 20, 21, 22, 23, 24, 25, 26, 27, 28, 29, 30, 31, 32, 33, 34, 35, 36, 37, 38, 39, 40, 41, 42, 43, 44, 45, 46, 47, 48, 49, 50, 51, 52, 53, 54, 55, 56, 57, 58, 59, 60, 61, 62, 63, 64, 65, 66, 67, 68, 69, 70, 71, 72, 73, 74, 75, 76, 77, 78, 79, 80, 81, 82, 83, 84, 85] (by decide +kernel) (by decide +kernel)) (goodIn_sub (fun _ h => List.mem_cons_of_mem _ (List.mem_append_right _ h)) (by decide +kernel))
set_option maxRecDepth 20000 in
theorem gX6_verbAt_X6_matchLength : GoodIn wsX6_verbAt (wsV RX6 51 RX6 yX6_matchLength wsX6_matchLength) := goodIn_app (goodIn_of _ (by decide +kernel)) ggX6_verbAt_X6_matchLength
set_option maxRecDepth 20000 in
theorem ggX6_verbAt_X9_length : GoodIn wsX6_verbAt wsX9_length := goodIn_r _ [19, 20, 21, 22, 23, 24, 25, 26, 27, 28, 29, 30, 31, 32, 84, 85] (by decide +kernel) (by decide +kernel)
set_option maxRecDepth 20000 in
theorem gX6_verbAt_X9_length : GoodIn wsX6_verbAt (wsV RX6 54 RX9 yX9_length wsX9_length) := goodIn_app (goodIn_of _ (by decide +kernel)) ggX6_verbAt_X9_length
theorem dX6_verbAt_0 : decode cX6_verbAt 0 = .ok (.iconst 0, 1) := by decide +kernel
theorem dX6_verbAt_1 : decode cX6_verbAt 1 = .ok (.istore_n 2, 1) := by decide +kernel
theorem dX6_verbAt_2 : decode cX6_verbAt 2 = .ok (.iload_n 2, 1) := by decide +kernel
theorem dX6_verbAt_3 : decode cX6_verbAt 3 = .ok (.invokestatic 43, 3) := by decide +kernel
theorem dX6_verbAt_6 : decode cX6_verbAt 6 = .ok (.if_icmp .ge 29, 3) := by decide +kernel
theorem dX6_verbAt_9 : decode cX6_verbAt 9 = .ok (.iload_n 2, 1) := by decide +kernel
theorem dX6_verbAt_10 : decode cX6_verbAt 10 = .ok (.invokestatic 48, 3) := by decide +kernel
theorem dX6_verbAt_13 : decode cX6_verbAt 13 = .ok (.astore_n 3, 1) := by decide +kernel
theorem dX6_verbAt_14 : decode cX6_verbAt 14 = .ok (.aload_n 0, 1) := by decide +kernel
theorem dX6_verbAt_15 : decode cX6_verbAt 15 = .ok (.aload_n 3, 1) := by decide +kernel
theorem dX6_verbAt_16 : decode cX6_verbAt 16 = .ok (.iload_n 1, 1) := by decide +kernel
theorem dX6_verbAt_17 : decode cX6_verbAt 17 = .ok (.invokevirtual 51, 3) := by decide +kernel
theorem dX6_verbAt_20 : decode cX6_verbAt 20 = .ok (.aload_n 3, 1) := by decide +kernel
theorem dX6_verbAt_21 : decode cX6_verbAt 21 = .ok (.invokevirtual 54, 3) := by decide +kernel
theorem dX6_verbAt_24 : decode cX6_verbAt 24 = .ok (.if_icmp .ne 5, 3) := by decide +kernel
theorem dX6_verbAt_27 : decode cX6_verbAt 27 = .ok (.aload_n 3, 1) := by decide +kernel
theorem dX6_verbAt_28 : decode cX6_verbAt 28 = .ok (.areturn, 1) := by decide +kernel
theorem dX6_verbAt_29 : decode cX6_verbAt 29 = .ok (.iinc 2 1, 3) := by decide +kernel
theorem dX6_verbAt_32 : decode cX6_verbAt 32 = .ok (.goto (-30), 3) := by decide +kernel
theorem dX6_verbAt_35 : decode cX6_verbAt 35 = .ok (.aconst_null, 1) := by decide +kernel
theorem dX6_verbAt_36 : decode cX6_verbAt 36 = .ok (.areturn, 1) := by decide +kernel
set_option maxRecDepth 20000 in
theorem ggX6_longestMatch_X9_total : GoodIn wsX6_longestMatch wsX9_total := goodIn_r _ [8, 9] (by decide +kernel) (by decide +kernel)
set_option maxRecDepth 20000 in
theorem gX6_longestMatch_X9_total : GoodIn wsX6_longestMatch (va_wsS RX6 43 yX9_total wsX9_total) := goodIn_app (goodIn_of _ (by decide +kernel)) ggX6_longestMatch_X9_total
set_option maxRecDepth 20000 in
theorem ggX6_longestMatch_X9_at : GoodIn wsX6_longestMatch wsX9_at := goodIn_r _ [12, 9] (by decide +kernel) (by decide +kernel)
set_option maxRecDepth 20000 in
theorem gX6_longestMatch_X9_at : GoodIn wsX6_longestMatch (va_wsS RX6 48 yX9_at wsX9_at) := goodIn_app (goodIn_of _ (by decide +kernel)) ggX6_longestMatch_X9_at
set_option maxRecDepth 20000 in
theorem ggX6_longestMatch_X6_matchLength : GoodIn wsX6_longestMatch wsX6_matchLength := goodIn_ca (goodIn_r _ [17, 18, 19, 20, 21, 22, 7, 23, 24, 25, 26, 27, 28, 29, 30, 31, 32, 33, 34, 35, 36, 37, 38, 39, 40, 41, 42, 43, 44, 45, 46, 47, 48, 49, 50, 51, 52, 53, 54, 55, 56, 57, 58, 59, 60, 61, 62, 63, 64, 65, 66, 67, 68, 69, 70, 71, 72, 73, 74, 75, 76, 77, 78, 79, 80, 81, 82, 83, 84, 85, 86, 87, 88, 89] (by decide +kernel) (by decide +kernel)) (goodIn_sub (fun _ h => List.mem_cons_of_mem _ (List.mem_append_right _ h)) (by decide +kernel))
set_option maxRecDepth 20000 in
theorem gX6_longestMatch_X6_matchLength : GoodIn wsX6_longestMatch (wsV RX6 51 RX6 yX6_matchLength wsX6_matchLength) := goodIn_app (goodIn_of _ (by decide +kernel)) ggX6_longestMatch_X6_matchLength
theorem dX6_longestMatch_0 : decode cX6_longestMatch 0 = .ok (.iconst 0, 1) := by decide +kernel
theorem dX6_longestMatch_1 : decode cX6_longestMatch 1 = .ok (.istore_n 2, 1) := by decide +kernel
theorem dX6_longestMatch_2 : decode cX6_longestMatch 2 = .ok (.iconst 0, 1) := by decide +kernel
theorem dX6_longestMatch_3 : decode cX6_longestMatch 3 = .ok (.istore_n 3, 1) := by decide +kernel
theorem dX6_longestMatch_4 : decode cX6_longestMatch 4 = .ok (.iload_n 3, 1) := by decide +kernel
theorem dX6_longestMatch_5 : decode cX6_longestMatch 5 = .ok (.invokestatic 43, 3) := by decide +kernel
theorem dX6_longestMatch_8 : decode cX6_longestMatch 8 = .ok (.if_icmp .ge 23, 3) := by decide +kernel
theorem dX6_longestMatch_11 : decode cX6_longestMatch 11 = .ok (.iload_n 2, 1) := by decide +kernel
theorem dX6_longestMatch_12 : decode cX6_longestMatch 12 = .ok (.aload_n 0, 1) := by decide +kernel
theorem dX6_longestMatch_13 : decode cX6_longestMatch 13 = .ok (.iload_n 3, 1) := by decide +kernel
theorem dX6_longestMatch_14 : decode cX6_longestMatch 14 = .ok (.invokestatic 48, 3) := by decide +kernel
theorem dX6_longestMatch_17 : decode cX6_longestMatch 17 = .ok (.iload_n 1, 1) := by decide +kernel
theorem dX6_longestMatch_18 : decode cX6_longestMatch 18 = .ok (.invokevirtual 51, 3) := by decide +kernel
theorem dX6_longestMatch_21 : decode cX6_longestMatch 21 = .ok (.invokestatic 56, 3) := by decide +kernel
theorem dX6_longestMatch_24 : decode cX6_longestMatch 24 = .ok (.istore_n 2, 1) := by decide +kernel
theorem dX6_longestMatch_25 : decode cX6_longestMatch 25 = .ok (.iinc 3 1, 3) := by decide +kernel
theorem dX6_longestMatch_28 : decode cX6_longestMatch 28 = .ok (.goto (-24), 3) := by decide +kernel
theorem dX6_longestMatch_31 : decode cX6_longestMatch 31 = .ok (.iload_n 2, 1) := by decide +kernel
theorem dX6_longestMatch_32 : decode cX6_longestMatch 32 = .ok (.ireturn, 1) := by decide +kernel
set_option maxRecDepth 20000 in
theorem ggX6_matchLength_X9_length : GoodIn wsX6_matchLength wsX9_length := goodIn_r _ [7, 8, 9, 10, 11, 12, 13, 14, 15, 16, 17, 18, 19, 20, 72, 73] (by decide +kernel) (by decide +kernel)
set_option maxRecDepth 20000 in
theorem gX6_matchLength_X9_length : GoodIn wsX6_matchLength (wsV RX6 54 RX9 yX9_length wsX9_length) := goodIn_app (goodIn_of _ (by decide +kernel)) ggX6_matchLength_X9_length
set_option maxRecDepth 20000 in
theorem ggX6_matchLength_X9_allows : GoodIn wsX6_matchLength wsX9_allows := goodIn_r _ [24, 8, 25, 26, 27, 6, 28, 29, 30, 31, 12, 32, 14, 33, 34, 35, 36, 19, 20, 37, 38, 39, 40, 41, 42, 43, 44, 45, 46, 47, 48, 49, 50, 51, 52, 53, 54, 55, 56, 57, 58, 59, 60, 61, 62, 63, 64, 65, 66, 67, 68, 72, 73] (by decide +kernel) (by decide +kernel)
set_option maxRecDepth 20000 in
theorem gX6_matchLength_X9_allows : GoodIn wsX6_matchLength (wsV RX6 62 RX9 yX9_allows wsX9_allows) := goodIn_app (goodIn_of _ (by decide +kernel)) ggX6_matchLength_X9_allows
theorem dX6_matchLength_0 : decode cX6_matchLength 0 = .ok (.iconst 0, 1) := by decide +kernel
theorem dX6_matchLength_1 : decode cX6_matchLength 1 = .ok (.istore_n 3, 1) := by decide +kernel
theorem dX6_matchLength_2 : decode cX6_matchLength 2 = .ok (.iload_n 3, 1) := by decide +kernel
theorem dX6_matchLength_3 : decode cX6_matchLength 3 = .ok (.aload_n 1, 1) := by decide +kernel
theorem dX6_matchLength_4 : decode cX6_matchLength 4 = .ok (.invokevirtual 54, 3) := by decide +kernel
theorem dX6_matchLength_7 : decode cX6_matchLength 7 = .ok (.if_icmp .ge 35, 3) := by decide +kernel
theorem dX6_matchLength_10 : decode cX6_matchLength 10 = .ok (.iload_n 2, 1) := by decide +kernel
theorem dX6_matchLength_11 : decode cX6_matchLength 11 = .ok (.iload_n 3, 1) := by decide +kernel
theorem dX6_matchLength_12 : decode cX6_matchLength 12 = .ok (.iadd, 1) := by decide +kernel
theorem dX6_matchLength_13 : decode cX6_matchLength 13 = .ok (.aload_n 0, 1) := by decide +kernel
theorem dX6_matchLength_14 : decode cX6_matchLength 14 = .ok (.getfield 20, 3) := by decide +kernel
theorem dX6_matchLength_17 : decode cX6_matchLength 17 = .ok (.if_icmp .ge 25, 3) := by decide +kernel
theorem dX6_matchLength_20 : decode cX6_matchLength 20 = .ok (.aload_n 1, 1) := by decide +kernel
theorem dX6_matchLength_21 : decode cX6_matchLength 21 = .ok (.iload_n 3, 1) := by decide +kernel
theorem dX6_matchLength_22 : decode cX6_matchLength 22 = .ok (.aload_n 0, 1) := by decide +kernel
theorem dX6_matchLength_23 : decode cX6_matchLength 23 = .ok (.getfield 9, 3) := by decide +kernel
theorem dX6_matchLength_26 : decode cX6_matchLength 26 = .ok (.iload_n 2, 1) := by decide +kernel
theorem dX6_matchLength_27 : decode cX6_matchLength 27 = .ok (.iload_n 3, 1) := by decide +kernel
theorem dX6_matchLength_28 : decode cX6_matchLength 28 = .ok (.iadd, 1) := by decide +kernel
theorem dX6_matchLength_29 : decode cX6_matchLength 29 = .ok (.caload, 1) := by decide +kernel
theorem dX6_matchLength_30 : decode cX6_matchLength 30 = .ok (.invokevirtual 62, 3) := by decide +kernel
theorem dX6_matchLength_33 : decode cX6_matchLength 33 = .ok (.ifCond .eq 9, 3) := by decide +kernel
theorem dX6_matchLength_36 : decode cX6_matchLength 36 = .ok (.iinc 3 1, 3) := by decide +kernel
theorem dX6_matchLength_39 : decode cX6_matchLength 39 = .ok (.goto (-37), 3) := by decide +kernel
theorem dX6_matchLength_42 : decode cX6_matchLength 42 = .ok (.iload_n 3, 1) := by decide +kernel
theorem dX6_matchLength_43 : decode cX6_matchLength 43 = .ok (.ireturn, 1) := by decide +kernel
set_option maxRecDepth 20000 in
theorem ggX6_readCommand_X1_init : GoodIn wsX6_readCommand wsX1_init := goodIn_r _ [10, 11, 12, 13, 14, 15, 16, 17, 144, 145, 146] (by decide +kernel) (by decide +kernel)
set_option maxRecDepth 20000 in
theorem gX6_readCommand_X1_init : GoodIn wsX6_readCommand (wsX1_init) := ggX6_readCommand_X1_init
set_option maxRecDepth 20000 in
theorem ggX6_readCommand_Jx4a65c_add_9ea2d : GoodIn wsX6_readCommand wsJx4a65c_add_9ea2d := goodIn_r _ [22, 23, 24, 25, 26, 27, 28, 29, 21, 30, 31, 32, 33, 34, 35, 36, 37, 38, 39, 40, 41, 42, 43, 44, 45, 46, 47, 48, 49, 50, 51, 52, 53, 54, 55, 56, 57, 58, 59, 60, 61, 62, 63, 64, 65, 66, 67, 68, 69, 70, 71, 72, 73, 150, 151, 152] (by decide +kernel) (by decide +kernel)
set_option maxRecDepth 20000 in
theorem gX6_readCommand_Jx4a65c_add_9ea2d : GoodIn wsX6_readCommand (wsV RX6 71 RJx4a65c yJx4a65c_add_9ea2d wsJx4a65c_add_9ea2d) := goodIn_app (goodIn_of _ (by decide +kernel)) ggX6_readCommand_Jx4a65c_add_9ea2d
set_option maxRecDepth 20000 in
theorem ggX6_readCommand_X9_length : GoodIn wsX6_readCommand wsX9_length := goodIn_r _ [78, 79, 80, 81, 82, 83, 84, 85, 86, 87, 88, 89, 90, 91, 153, 154] (by decide +kernel) (by decide +kernel)
set_option maxRecDepth 20000 in
theorem gX6_readCommand_X9_length : GoodIn wsX6_readCommand (wsV RX6 54 RX9 yX9_length wsX9_length) := goodIn_app (goodIn_of _ (by decide +kernel)) ggX6_readCommand_X9_length
set_option maxRecDepth 20000 in
theorem ggX6_readCommand_X9_takesDigitAt : GoodIn wsX6_readCommand wsX9_takesDigitAt := goodIn_r _ [95, 79, 96, 97, 98, 83, 99, 85, 100, 101, 102, 103, 90, 91, 104, 105, 106, 107, 108, 109, 110, 111, 112, 113, 114, 115, 116, 117, 118, 119, 120, 121, 122, 123, 124, 125, 126, 127, 128, 129, 130, 131, 132, 153, 154] (by decide +kernel) (by decide +kernel)
set_option maxRecDepth 20000 in
theorem gX6_readCommand_X9_takesDigitAt : GoodIn wsX6_readCommand (wsV RX6 75 RX9 yX9_takesDigitAt wsX9_takesDigitAt) := goodIn_app (goodIn_of _ (by decide +kernel)) ggX6_readCommand_X9_takesDigitAt
set_option maxRecDepth 20000 in
theorem ggX6_readCommand_X1_addNumber : GoodIn wsX6_readCommand wsX1_addNumber := goodIn_ca (goodIn_r _ [136, 17, 16, 144, 145, 146] (by decide +kernel) (by decide +kernel)) (goodIn_sub (fun _ h => List.mem_cons_of_mem _ (List.mem_append_right _ h)) (by decide +kernel))
set_option maxRecDepth 20000 in
theorem gX6_readCommand_X1_addNumber : GoodIn wsX6_readCommand (wsV RX6 79 RX1 yX1_addNumber wsX1_addNumber) := goodIn_app (goodIn_of _ (by decide +kernel)) ggX6_readCommand_X1_addNumber
set_option maxRecDepth 20000 in
theorem ggX6_readCommand_X9_isDigit : GoodIn wsX6_readCommand wsX9_isDigit := goodIn_r _ [139] (by decide +kernel) (by decide +kernel)
set_option maxRecDepth 20000 in
theorem gX6_readCommand_X9_isDigit : GoodIn wsX6_readCommand (va_wsS RX6 87 yX9_isDigit wsX9_isDigit) := goodIn_app (goodIn_of _ (by decide +kernel)) ggX6_readCommand_X9_isDigit
set_option maxRecDepth 20000 in
theorem ggX6_readCommand_X1_addDigitToLast : GoodIn wsX6_readCommand wsX1_addDigitToLast := goodIn_ca (goodIn_r _ [143, 17, 16, 144, 145, 146] (by decide +kernel) (by decide +kernel)) (goodIn_sub (fun _ h => List.mem_cons_of_mem _ (List.mem_append_right _ h)) (by decide +kernel))
set_option maxRecDepth 20000 in
theorem gX6_readCommand_X1_addDigitToLast : GoodIn wsX6_readCommand (wsV RX6 91 RX1 yX1_addDigitToLast wsX1_addDigitToLast) := goodIn_app (goodIn_of _ (by decide +kernel)) ggX6_readCommand_X1_addDigitToLast
theorem dX6_readCommand_0 : decode cX6_readCommand 0 = .ok (.new 66, 3) := by decide +kernel
theorem dX6_readCommand_3 : decode cX6_readCommand 3 = .ok (.dup, 1) := by decide +kernel
theorem dX6_readCommand_4 : decode cX6_readCommand 4 = .ok (.aload_n 1, 1) := by decide +kernel
theorem dX6_readCommand_5 : decode cX6_readCommand 5 = .ok (.invokespecial 68, 3) := by decide +kernel
theorem dX6_readCommand_8 : decode cX6_readCommand 8 = .ok (.astore_n 3, 1) := by decide +kernel
theorem dX6_readCommand_9 : decode cX6_readCommand 9 = .ok (.aload_n 0, 1) := by decide +kernel
theorem dX6_readCommand_10 : decode cX6_readCommand 10 = .ok (.getfield 16, 3) := by decide +kernel
theorem dX6_readCommand_13 : decode cX6_readCommand 13 = .ok (.aload_n 3, 1) := by decide +kernel
theorem dX6_readCommand_14 : decode cX6_readCommand 14 = .ok (.invokevirtual 71, 3) := by decide +kernel
theorem dX6_readCommand_17 : decode cX6_readCommand 17 = .ok (.pop, 1) := by decide +kernel
theorem dX6_readCommand_18 : decode cX6_readCommand 18 = .ok (.iload_n 2, 1) := by decide +kernel
theorem dX6_readCommand_19 : decode cX6_readCommand 19 = .ok (.aload_n 1, 1) := by decide +kernel
theorem dX6_readCommand_20 : decode cX6_readCommand 20 = .ok (.invokevirtual 54, 3) := by decide +kernel
theorem dX6_readCommand_23 : decode cX6_readCommand 23 = .ok (.iadd, 1) := by decide +kernel
theorem dX6_readCommand_24 : decode cX6_readCommand 24 = .ok (.istore 4, 2) := by decide +kernel
theorem dX6_readCommand_26 : decode cX6_readCommand 26 = .ok (.iconst 0, 1) := by decide +kernel
theorem dX6_readCommand_27 : decode cX6_readCommand 27 = .ok (.istore 5, 2) := by decide +kernel
theorem dX6_readCommand_29 : decode cX6_readCommand 29 = .ok (.iload 5, 2) := by decide +kernel
theorem dX6_readCommand_31 : decode cX6_readCommand 31 = .ok (.aload_n 1, 1) := by decide +kernel
theorem dX6_readCommand_32 : decode cX6_readCommand 32 = .ok (.invokevirtual 54, 3) := by decide +kernel
theorem dX6_readCommand_35 : decode cX6_readCommand 35 = .ok (.if_icmp .ge 34, 3) := by decide +kernel
theorem dX6_readCommand_38 : decode cX6_readCommand 38 = .ok (.aload_n 1, 1) := by decide +kernel
theorem dX6_readCommand_39 : decode cX6_readCommand 39 = .ok (.iload 5, 2) := by decide +kernel
theorem dX6_readCommand_41 : decode cX6_readCommand 41 = .ok (.invokevirtual 75, 3) := by decide +kernel
theorem dX6_readCommand_44 : decode cX6_readCommand 44 = .ok (.ifCond .eq 19, 3) := by decide +kernel
theorem dX6_readCommand_47 : decode cX6_readCommand 47 = .ok (.aload_n 3, 1) := by decide +kernel
theorem dX6_readCommand_48 : decode cX6_readCommand 48 = .ok (.aload_n 0, 1) := by decide +kernel
theorem dX6_readCommand_49 : decode cX6_readCommand 49 = .ok (.getfield 9, 3) := by decide +kernel
theorem dX6_readCommand_52 : decode cX6_readCommand 52 = .ok (.iload_n 2, 1) := by decide +kernel
theorem dX6_readCommand_53 : decode cX6_readCommand 53 = .ok (.iload 5, 2) := by decide +kernel
theorem dX6_readCommand_55 : decode cX6_readCommand 55 = .ok (.iadd, 1) := by decide +kernel
theorem dX6_readCommand_56 : decode cX6_readCommand 56 = .ok (.caload, 1) := by decide +kernel
theorem dX6_readCommand_57 : decode cX6_readCommand 57 = .ok (.bipush 48, 2) := by decide +kernel
theorem dX6_readCommand_59 : decode cX6_readCommand 59 = .ok (.isub, 1) := by decide +kernel
theorem dX6_readCommand_60 : decode cX6_readCommand 60 = .ok (.invokevirtual 79, 3) := by decide +kernel
theorem dX6_readCommand_63 : decode cX6_readCommand 63 = .ok (.iinc 5 1, 3) := by decide +kernel
theorem dX6_readCommand_66 : decode cX6_readCommand 66 = .ok (.goto (-37), 3) := by decide +kernel
theorem dX6_readCommand_69 : decode cX6_readCommand 69 = .ok (.aload_n 1, 1) := by decide +kernel
theorem dX6_readCommand_70 : decode cX6_readCommand 70 = .ok (.getstatic 83, 3) := by decide +kernel
theorem dX6_readCommand_73 : decode cX6_readCommand 73 = .ok (.if_acmp .ne 42, 3) := by decide +kernel
theorem dX6_readCommand_76 : decode cX6_readCommand 76 = .ok (.iload 4, 2) := by decide +kernel
theorem dX6_readCommand_78 : decode cX6_readCommand 78 = .ok (.aload_n 0, 1) := by decide +kernel
theorem dX6_readCommand_79 : decode cX6_readCommand 79 = .ok (.getfield 20, 3) := by decide +kernel
theorem dX6_readCommand_82 : decode cX6_readCommand 82 = .ok (.if_icmp .ge 33, 3) := by decide +kernel
theorem dX6_readCommand_85 : decode cX6_readCommand 85 = .ok (.aload_n 0, 1) := by decide +kernel
theorem dX6_readCommand_86 : decode cX6_readCommand 86 = .ok (.getfield 9, 3) := by decide +kernel
theorem dX6_readCommand_89 : decode cX6_readCommand 89 = .ok (.iload 4, 2) := by decide +kernel
theorem dX6_readCommand_91 : decode cX6_readCommand 91 = .ok (.caload, 1) := by decide +kernel
theorem dX6_readCommand_92 : decode cX6_readCommand 92 = .ok (.invokestatic 87, 3) := by decide +kernel
theorem dX6_readCommand_95 : decode cX6_readCommand 95 = .ok (.ifCond .eq 20, 3) := by decide +kernel
theorem dX6_readCommand_98 : decode cX6_readCommand 98 = .ok (.aload_n 3, 1) := by decide +kernel
theorem dX6_readCommand_99 : decode cX6_readCommand 99 = .ok (.aload_n 0, 1) := by decide +kernel
theorem dX6_readCommand_100 : decode cX6_readCommand 100 = .ok (.getfield 9, 3) := by decide +kernel
theorem dX6_readCommand_103 : decode cX6_readCommand 103 = .ok (.iload 4, 2) := by decide +kernel
theorem dX6_readCommand_105 : decode cX6_readCommand 105 = .ok (.caload, 1) := by decide +kernel
theorem dX6_readCommand_106 : decode cX6_readCommand 106 = .ok (.bipush 48, 2) := by decide +kernel
theorem dX6_readCommand_108 : decode cX6_readCommand 108 = .ok (.isub, 1) := by decide +kernel
theorem dX6_readCommand_109 : decode cX6_readCommand 109 = .ok (.invokevirtual 91, 3) := by decide +kernel
theorem dX6_readCommand_112 : decode cX6_readCommand 112 = .ok (.iinc 4 1, 3) := by decide +kernel
theorem dX6_readCommand_115 : decode cX6_readCommand 115 = .ok (.iload 4, 2) := by decide +kernel
theorem dX6_readCommand_117 : decode cX6_readCommand 117 = .ok (.ireturn, 1) := by decide +kernel
set_option maxRecDepth 20000 in
theorem ggX6_carryOut_Jx4a65c_size_8abf5 : GoodIn wsX6_carryOut wsJx4a65c_size_8abf5 := goodIn_r _ [8, 9, 194, 195, 196] (by decide +kernel) (by decide +kernel)
set_option maxRecDepth 20000 in
theorem gX6_carryOut_Jx4a65c_size_8abf5 : GoodIn wsX6_carryOut (wsV RX6 24 RJx4a65c yJx4a65c_size_8abf5 wsJx4a65c_size_8abf5) := goodIn_app (goodIn_of _ (by decide +kernel)) ggX6_carryOut_Jx4a65c_size_8abf5
set_option maxRecDepth 20000 in
theorem ggX6_carryOut_Jx4a65c_get_915e3 : GoodIn wsX6_carryOut wsJx4a65c_get_915e3 := goodIn_r _ [13, 9, 14, 15, 16, 17, 18, 19, 20, 21, 22, 23, 24, 7, 25, 26, 194, 195, 196] (by decide +kernel) (by decide +kernel)
set_option maxRecDepth 20000 in
theorem gX6_carryOut_Jx4a65c_get_915e3 : GoodIn wsX6_carryOut (wsV RX6 94 RJx4a65c yJx4a65c_get_915e3 wsJx4a65c_get_915e3) := goodIn_app (goodIn_of _ (by decide +kernel)) ggX6_carryOut_Jx4a65c_get_915e3
set_option maxRecDepth 20000 in
theorem ggX6_carryOut_X1_faultIn : GoodIn wsX6_carryOut wsX1_faultIn := goodIn_ca (goodIn_r _ [31, 32, 33, 34, 35, 36, 37, 38, 39, 40, 41, 42, 43, 44, 45, 46, 47, 48, 49, 50, 51, 52, 53, 54, 55, 56, 57, 58, 59, 60, 61, 62, 63, 64, 65, 66, 67, 68, 69, 70, 71, 72, 73, 74, 75, 76, 77, 78, 79, 80, 81, 82, 83, 84, 85, 86, 87, 88, 89, 90, 91, 92, 93, 94, 95, 96, 97, 98, 99, 100, 101, 102, 103, 104, 105, 106, 107, 108, 109, 110, 111, 112, 113, 114, 115, 116, 117, 118, 119, 120, 121, 122, 123, 124, 125, 126, 127, 128, 129, 130, 131, 132, 133, 134, 135, 136, 137, 138, 139, 140, 141, 142, 143, 144, 145, 146, 147, 148, 149, 150, 197, 198, 199, 200, 201, 202, 203, 204, 205, 206, 207, 208, 209, 210, 211, 212, 213, 214] (by decide +kernel) (by decide +kernel)) (goodIn_sub (fun _ h => List.mem_cons_of_mem _ (List.mem_append_right _ h)) (by decide +kernel))
set_option maxRecDepth 20000 in
theorem gX6_carryOut_X1_faultIn : GoodIn wsX6_carryOut (wsV RX6 98 RX1 yX1_faultIn wsX1_faultIn) := goodIn_app (goodIn_of _ (by decide +kernel)) ggX6_carryOut_X1_faultIn
set_option maxRecDepth 20000 in
theorem ggX6_carryOut_X1_change : GoodIn wsX6_carryOut wsX1_change := goodIn_ca (goodIn_r _ [154, 32, 33, 34, 35, 36, 37, 38, 39, 40, 41, 155, 156, 157, 45, 158, 159, 72, 73, 52, 74, 160, 161, 162, 163, 142, 68, 164, 67, 165, 166, 167, 168, 93, 169, 170, 171, 172, 66, 173, 174, 175, 176, 70, 177, 178, 179, 180, 107, 112, 118, 117, 181, 182, 183, 184, 150, 185, 186, 138, 139, 140, 141, 143, 144, 145, 187, 188, 189, 190, 197, 198, 199, 200, 201, 202, 203, 204, 205, 206, 207, 208, 209, 210, 211, 212, 213, 214] (by decide +kernel) (by decide +kernel)) (goodIn_sub (fun _ h => List.mem_cons_of_mem _ (List.mem_append_right _ h)) (by decide +kernel))
set_option maxRecDepth 20000 in
theorem gX6_carryOut_X1_change : GoodIn wsX6_carryOut (wsV RX6 108 RX1 yX1_change wsX1_change) := goodIn_app (goodIn_of _ (by decide +kernel)) ggX6_carryOut_X1_change
theorem dX6_carryOut_0 : decode cX6_carryOut 0 = .ok (.iconst 0, 1) := by decide +kernel
theorem dX6_carryOut_1 : decode cX6_carryOut 1 = .ok (.istore_n 2, 1) := by decide +kernel
theorem dX6_carryOut_2 : decode cX6_carryOut 2 = .ok (.iload_n 2, 1) := by decide +kernel
theorem dX6_carryOut_3 : decode cX6_carryOut 3 = .ok (.aload_n 0, 1) := by decide +kernel
theorem dX6_carryOut_4 : decode cX6_carryOut 4 = .ok (.getfield 16, 3) := by decide +kernel
theorem dX6_carryOut_7 : decode cX6_carryOut 7 = .ok (.invokevirtual 24, 3) := by decide +kernel
theorem dX6_carryOut_10 : decode cX6_carryOut 10 = .ok (.if_icmp .ge 39, 3) := by decide +kernel
theorem dX6_carryOut_13 : decode cX6_carryOut 13 = .ok (.aload_n 0, 1) := by decide +kernel
theorem dX6_carryOut_14 : decode cX6_carryOut 14 = .ok (.getfield 16, 3) := by decide +kernel
theorem dX6_carryOut_17 : decode cX6_carryOut 17 = .ok (.iload_n 2, 1) := by decide +kernel
theorem dX6_carryOut_18 : decode cX6_carryOut 18 = .ok (.invokevirtual 94, 3) := by decide +kernel
theorem dX6_carryOut_21 : decode cX6_carryOut 21 = .ok (.checkcast 66, 3) := by decide +kernel
theorem dX6_carryOut_24 : decode cX6_carryOut 24 = .ok (.astore_n 3, 1) := by decide +kernel
theorem dX6_carryOut_25 : decode cX6_carryOut 25 = .ok (.aload_n 3, 1) := by decide +kernel
theorem dX6_carryOut_26 : decode cX6_carryOut 26 = .ok (.aload_n 1, 1) := by decide +kernel
theorem dX6_carryOut_27 : decode cX6_carryOut 27 = .ok (.invokevirtual 98, 3) := by decide +kernel
theorem dX6_carryOut_30 : decode cX6_carryOut 30 = .ok (.getstatic 102, 3) := by decide +kernel
theorem dX6_carryOut_33 : decode cX6_carryOut 33 = .ok (.if_acmp .eq 5, 3) := by decide +kernel
theorem dX6_carryOut_36 : decode cX6_carryOut 36 = .ok (.iload_n 2, 1) := by decide +kernel
theorem dX6_carryOut_37 : decode cX6_carryOut 37 = .ok (.ireturn, 1) := by decide +kernel
theorem dX6_carryOut_38 : decode cX6_carryOut 38 = .ok (.aload_n 3, 1) := by decide +kernel
theorem dX6_carryOut_39 : decode cX6_carryOut 39 = .ok (.aload_n 1, 1) := by decide +kernel
theorem dX6_carryOut_40 : decode cX6_carryOut 40 = .ok (.invokevirtual 108, 3) := by decide +kernel
theorem dX6_carryOut_43 : decode cX6_carryOut 43 = .ok (.iinc 2 1, 3) := by decide +kernel
theorem dX6_carryOut_46 : decode cX6_carryOut 46 = .ok (.goto (-44), 3) := by decide +kernel
theorem dX6_carryOut_49 : decode cX6_carryOut 49 = .ok (.iconst (-1), 1) := by decide +kernel
theorem dX6_carryOut_50 : decode cX6_carryOut 50 = .ok (.ireturn, 1) := by decide +kernel
theorem dX7_init_0 : decode cX7_init 0 = .ok (.aload_n 0, 1) := by decide +kernel
theorem dX7_init_1 : decode cX7_init 1 = .ok (.invokespecial 1, 3) := by decide +kernel
theorem dX7_init_4 : decode cX7_init 4 = .ok (.aload_n 0, 1) := by decide +kernel
theorem dX7_init_5 : decode cX7_init 5 = .ok (.bipush 30, 2) := by decide +kernel
theorem dX7_init_7 : decode cX7_init 7 = .ok (.newarray .int, 2) := by decide +kernel
theorem dX7_init_9 : decode cX7_init 9 = .ok (.putfield 9, 3) := by decide +kernel
theorem dX7_init_12 : decode cX7_init 12 = .ok (.aload_n 0, 1) := by decide +kernel
theorem dX7_init_13 : decode cX7_init 13 = .ok (.bipush 30, 2) := by decide +kernel
theorem dX7_init_15 : decode cX7_init 15 = .ok (.newarray .int, 2) := by decide +kernel
theorem dX7_init_17 : decode cX7_init 17 = .ok (.putfield 15, 3) := by decide +kernel
theorem dX7_init_20 : decode cX7_init 20 = .ok (.aload_n 0, 1) := by decide +kernel
theorem dX7_init_21 : decode cX7_init 21 = .ok (.bipush 30, 2) := by decide +kernel
theorem dX7_init_23 : decode cX7_init 23 = .ok (.newarray .boolean, 2) := by decide +kernel
theorem dX7_init_25 : decode cX7_init 25 = .ok (.putfield 18, 3) := by decide +kernel
theorem dX7_init_28 : decode cX7_init 28 = .ok (.aload_n 0, 1) := by decide +kernel
theorem dX7_init_29 : decode cX7_init 29 = .ok (.bipush 30, 2) := by decide +kernel
theorem dX7_init_31 : decode cX7_init 31 = .ok (.newarray .int, 2) := by decide +kernel
theorem dX7_init_33 : decode cX7_init 33 = .ok (.putfield 22, 3) := by decide +kernel
theorem dX7_init_36 : decode cX7_init 36 = .ok (.aload_n 0, 1) := by decide +kernel
theorem dX7_init_37 : decode cX7_init 37 = .ok (.bipush 90, 2) := by decide +kernel
theorem dX7_init_39 : decode cX7_init 39 = .ok (.newarray .int, 2) := by decide +kernel
theorem dX7_init_41 : decode cX7_init 41 = .ok (.putfield 25, 3) := by decide +kernel
theorem dX7_init_44 : decode cX7_init 44 = .ok (.aload_n 0, 1) := by decide +kernel
theorem dX7_init_45 : decode cX7_init 45 = .ok (.iconst 3, 1) := by decide +kernel
theorem dX7_init_46 : decode cX7_init 46 = .ok (.newarray .int, 2) := by decide +kernel
theorem dX7_init_48 : decode cX7_init 48 = .ok (.putfield 28, 3) := by decide +kernel
theorem dX7_init_51 : decode cX7_init 51 = .ok (.aload_n 0, 1) := by decide +kernel
theorem dX7_init_52 : decode cX7_init 52 = .ok (.iconst 3, 1) := by decide +kernel
theorem dX7_init_53 : decode cX7_init 53 = .ok (.newarray .int, 2) := by decide +kernel
theorem dX7_init_55 : decode cX7_init 55 = .ok (.putfield 31, 3) := by decide +kernel
theorem dX7_init_58 : decode cX7_init 58 = .ok (.aload_n 0, 1) := by decide +kernel
theorem dX7_init_59 : decode cX7_init 59 = .ok (.iconst 3, 1) := by decide +kernel
theorem dX7_init_60 : decode cX7_init 60 = .ok (.newarray .int, 2) := by decide +kernel
theorem dX7_init_62 : decode cX7_init 62 = .ok (.putfield 34, 3) := by decide +kernel
theorem dX7_init_65 : decode cX7_init 65 = .ok (.aload_n 0, 1) := by decide +kernel
theorem dX7_init_66 : decode cX7_init 66 = .ok (.iconst 4, 1) := by decide +kernel
theorem dX7_init_67 : decode cX7_init 67 = .ok (.newarray .int, 2) := by decide +kernel
theorem dX7_init_69 : decode cX7_init 69 = .ok (.putfield 37, 3) := by decide +kernel
theorem dX7_init_72 : decode cX7_init 72 = .ok (.aload_n 0, 1) := by decide +kernel
theorem dX7_init_73 : decode cX7_init 73 = .ok (.iconst 1, 1) := by decide +kernel
theorem dX7_init_74 : decode cX7_init 74 = .ok (.putfield 40, 3) := by decide +kernel
theorem dX7_init_77 : decode cX7_init 77 = .ok (.aload_n 0, 1) := by decide +kernel
theorem dX7_init_78 : decode cX7_init 78 = .ok (.iconst 5, 1) := by decide +kernel
theorem dX7_init_79 : decode cX7_init 79 = .ok (.putfield 44, 3) := by decide +kernel
theorem dX7_init_82 : decode cX7_init 82 = .ok (.iconst 0, 1) := by decide +kernel
theorem dX7_init_83 : decode cX7_init 83 = .ok (.istore_n 1, 1) := by decide +kernel
theorem dX7_init_84 : decode cX7_init 84 = .ok (.iload_n 1, 1) := by decide +kernel
theorem dX7_init_85 : decode cX7_init 85 = .ok (.bipush 30, 2) := by decide +kernel
theorem dX7_init_87 : decode cX7_init 87 = .ok (.if_icmp .ge 17, 3) := by decide +kernel
theorem dX7_init_90 : decode cX7_init 90 = .ok (.aload_n 0, 1) := by decide +kernel
theorem dX7_init_91 : decode cX7_init 91 = .ok (.getfield 9, 3) := by decide +kernel
theorem dX7_init_94 : decode cX7_init 94 = .ok (.iload_n 1, 1) := by decide +kernel
theorem dX7_init_95 : decode cX7_init 95 = .ok (.bipush 6, 2) := by decide +kernel
theorem dX7_init_97 : decode cX7_init 97 = .ok (.iastore, 1) := by decide +kernel
theorem dX7_init_98 : decode cX7_init 98 = .ok (.iinc 1 1, 3) := by decide +kernel
theorem dX7_init_101 : decode cX7_init 101 = .ok (.goto (-17), 3) := by decide +kernel
theorem dX7_init_104 : decode cX7_init 104 = .ok (.return_, 1) := by decide +kernel
theorem dX7_copyFrom_0 : decode cX7_copyFrom 0 = .ok (.aload_n 1, 1) := by decide +kernel
theorem dX7_copyFrom_1 : decode cX7_copyFrom 1 = .ok (.getfield 9, 3) := by decide +kernel
theorem dX7_copyFrom_4 : decode cX7_copyFrom 4 = .ok (.iconst 0, 1) := by decide +kernel
theorem dX7_copyFrom_5 : decode cX7_copyFrom 5 = .ok (.aload_n 0, 1) := by decide +kernel
theorem dX7_copyFrom_6 : decode cX7_copyFrom 6 = .ok (.getfield 9, 3) := by decide +kernel
theorem dX7_copyFrom_9 : decode cX7_copyFrom 9 = .ok (.iconst 0, 1) := by decide +kernel
theorem dX7_copyFrom_10 : decode cX7_copyFrom 10 = .ok (.bipush 30, 2) := by decide +kernel
theorem dX7_copyFrom_12 : decode cX7_copyFrom 12 = .ok (.invokestatic 47, 3) := by decide +kernel
theorem dX7_copyFrom_15 : decode cX7_copyFrom 15 = .ok (.aload_n 1, 1) := by decide +kernel
theorem dX7_copyFrom_16 : decode cX7_copyFrom 16 = .ok (.getfield 15, 3) := by decide +kernel
theorem dX7_copyFrom_19 : decode cX7_copyFrom 19 = .ok (.iconst 0, 1) := by decide +kernel
theorem dX7_copyFrom_20 : decode cX7_copyFrom 20 = .ok (.aload_n 0, 1) := by decide +kernel
theorem dX7_copyFrom_21 : decode cX7_copyFrom 21 = .ok (.getfield 15, 3) := by decide +kernel
theorem dX7_copyFrom_24 : decode cX7_copyFrom 24 = .ok (.iconst 0, 1) := by decide +kernel
theorem dX7_copyFrom_25 : decode cX7_copyFrom 25 = .ok (.bipush 30, 2) := by decide +kernel
theorem dX7_copyFrom_27 : decode cX7_copyFrom 27 = .ok (.invokestatic 47, 3) := by decide +kernel
theorem dX7_copyFrom_30 : decode cX7_copyFrom 30 = .ok (.aload_n 1, 1) := by decide +kernel
theorem dX7_copyFrom_31 : decode cX7_copyFrom 31 = .ok (.getfield 22, 3) := by decide +kernel
theorem dX7_copyFrom_34 : decode cX7_copyFrom 34 = .ok (.iconst 0, 1) := by decide +kernel
theorem dX7_copyFrom_35 : decode cX7_copyFrom 35 = .ok (.aload_n 0, 1) := by decide +kernel
theorem dX7_copyFrom_36 : decode cX7_copyFrom 36 = .ok (.getfield 22, 3) := by decide +kernel
theorem dX7_copyFrom_39 : decode cX7_copyFrom 39 = .ok (.iconst 0, 1) := by decide +kernel
theorem dX7_copyFrom_40 : decode cX7_copyFrom 40 = .ok (.bipush 30, 2) := by decide +kernel
theorem dX7_copyFrom_42 : decode cX7_copyFrom 42 = .ok (.invokestatic 47, 3) := by decide +kernel
theorem dX7_copyFrom_45 : decode cX7_copyFrom 45 = .ok (.aload_n 1, 1) := by decide +kernel
theorem dX7_copyFrom_46 : decode cX7_copyFrom 46 = .ok (.getfield 25, 3) := by decide +kernel
theorem dX7_copyFrom_49 : decode cX7_copyFrom 49 = .ok (.iconst 0, 1) := by decide +kernel
theorem dX7_copyFrom_50 : decode cX7_copyFrom 50 = .ok (.aload_n 0, 1) := by decide +kernel
theorem dX7_copyFrom_51 : decode cX7_copyFrom 51 = .ok (.getfield 25, 3) := by decide +kernel
theorem dX7_copyFrom_54 : decode cX7_copyFrom 54 = .ok (.iconst 0, 1) := by decide +kernel
theorem dX7_copyFrom_55 : decode cX7_copyFrom 55 = .ok (.bipush 90, 2) := by decide +kernel
theorem dX7_copyFrom_57 : decode cX7_copyFrom 57 = .ok (.invokestatic 47, 3) := by decide +kernel
theorem dX7_copyFrom_60 : decode cX7_copyFrom 60 = .ok (.aload_n 1, 1) := by decide +kernel
theorem dX7_copyFrom_61 : decode cX7_copyFrom 61 = .ok (.getfield 28, 3) := by decide +kernel
theorem dX7_copyFrom_64 : decode cX7_copyFrom 64 = .ok (.iconst 0, 1) := by decide +kernel
theorem dX7_copyFrom_65 : decode cX7_copyFrom 65 = .ok (.aload_n 0, 1) := by decide +kernel
theorem dX7_copyFrom_66 : decode cX7_copyFrom 66 = .ok (.getfield 28, 3) := by decide +kernel
theorem dX7_copyFrom_69 : decode cX7_copyFrom 69 = .ok (.iconst 0, 1) := by decide +kernel
theorem dX7_copyFrom_70 : decode cX7_copyFrom 70 = .ok (.iconst 3, 1) := by decide +kernel
theorem dX7_copyFrom_71 : decode cX7_copyFrom 71 = .ok (.invokestatic 47, 3) := by decide +kernel
theorem dX7_copyFrom_74 : decode cX7_copyFrom 74 = .ok (.aload_n 1, 1) := by decide +kernel
theorem dX7_copyFrom_75 : decode cX7_copyFrom 75 = .ok (.getfield 31, 3) := by decide +kernel
theorem dX7_copyFrom_78 : decode cX7_copyFrom 78 = .ok (.iconst 0, 1) := by decide +kernel
theorem dX7_copyFrom_79 : decode cX7_copyFrom 79 = .ok (.aload_n 0, 1) := by decide +kernel
theorem dX7_copyFrom_80 : decode cX7_copyFrom 80 = .ok (.getfield 31, 3) := by decide +kernel
theorem dX7_copyFrom_83 : decode cX7_copyFrom 83 = .ok (.iconst 0, 1) := by decide +kernel
theorem dX7_copyFrom_84 : decode cX7_copyFrom 84 = .ok (.iconst 3, 1) := by decide +kernel
theorem dX7_copyFrom_85 : decode cX7_copyFrom 85 = .ok (.invokestatic 47, 3) := by decide +kernel
theorem dX7_copyFrom_88 : decode cX7_copyFrom 88 = .ok (.aload_n 1, 1) := by decide +kernel
theorem dX7_copyFrom_89 : decode cX7_copyFrom 89 = .ok (.getfield 34, 3) := by decide +kernel
theorem dX7_copyFrom_92 : decode cX7_copyFrom 92 = .ok (.iconst 0, 1) := by decide +kernel
theorem dX7_copyFrom_93 : decode cX7_copyFrom 93 = .ok (.aload_n 0, 1) := by decide +kernel
theorem dX7_copyFrom_94 : decode cX7_copyFrom 94 = .ok (.getfield 34, 3) := by decide +kernel
theorem dX7_copyFrom_97 : decode cX7_copyFrom 97 = .ok (.iconst 0, 1) := by decide +kernel
theorem dX7_copyFrom_98 : decode cX7_copyFrom 98 = .ok (.iconst 3, 1) := by decide +kernel
theorem dX7_copyFrom_99 : decode cX7_copyFrom 99 = .ok (.invokestatic 47, 3) := by decide +kernel
theorem dX7_copyFrom_102 : decode cX7_copyFrom 102 = .ok (.aload_n 1, 1) := by decide +kernel
theorem dX7_copyFrom_103 : decode cX7_copyFrom 103 = .ok (.getfield 37, 3) := by decide +kernel
theorem dX7_copyFrom_106 : decode cX7_copyFrom 106 = .ok (.iconst 0, 1) := by decide +kernel
theorem dX7_copyFrom_107 : decode cX7_copyFrom 107 = .ok (.aload_n 0, 1) := by decide +kernel
theorem dX7_copyFrom_108 : decode cX7_copyFrom 108 = .ok (.getfield 37, 3) := by decide +kernel
theorem dX7_copyFrom_111 : decode cX7_copyFrom 111 = .ok (.iconst 0, 1) := by decide +kernel
theorem dX7_copyFrom_112 : decode cX7_copyFrom 112 = .ok (.iconst 4, 1) := by decide +kernel
theorem dX7_copyFrom_113 : decode cX7_copyFrom 113 = .ok (.invokestatic 47, 3) := by decide +kernel
theorem dX7_copyFrom_116 : decode cX7_copyFrom 116 = .ok (.iconst 0, 1) := by decide +kernel
theorem dX7_copyFrom_117 : decode cX7_copyFrom 117 = .ok (.istore_n 2, 1) := by decide +kernel
theorem dX7_copyFrom_118 : decode cX7_copyFrom 118 = .ok (.iload_n 2, 1) := by decide +kernel
theorem dX7_copyFrom_119 : decode cX7_copyFrom 119 = .ok (.bipush 30, 2) := by decide +kernel
theorem dX7_copyFrom_121 : decode cX7_copyFrom 121 = .ok (.if_icmp .ge 21, 3) := by decide +kernel
theorem dX7_copyFrom_124 : decode cX7_copyFrom 124 = .ok (.aload_n 0, 1) := by decide +kernel
theorem dX7_copyFrom_125 : decode cX7_copyFrom 125 = .ok (.getfield 18, 3) := by decide +kernel
theorem dX7_copyFrom_128 : decode cX7_copyFrom 128 = .ok (.iload_n 2, 1) := by decide +kernel
theorem dX7_copyFrom_129 : decode cX7_copyFrom 129 = .ok (.aload_n 1, 1) := by decide +kernel
theorem dX7_copyFrom_130 : decode cX7_copyFrom 130 = .ok (.getfield 18, 3) := by decide +kernel
theorem dX7_copyFrom_133 : decode cX7_copyFrom 133 = .ok (.iload_n 2, 1) := by decide +kernel
theorem dX7_copyFrom_134 : decode cX7_copyFrom 134 = .ok (.baload, 1) := by decide +kernel
theorem dX7_copyFrom_135 : decode cX7_copyFrom 135 = .ok (.bastore, 1) := by decide +kernel
theorem dX7_copyFrom_136 : decode cX7_copyFrom 136 = .ok (.iinc 2 1, 3) := by decide +kernel
theorem dX7_copyFrom_139 : decode cX7_copyFrom 139 = .ok (.goto (-21), 3) := by decide +kernel
theorem dX7_copyFrom_142 : decode cX7_copyFrom 142 = .ok (.aload_n 0, 1) := by decide +kernel
theorem dX7_copyFrom_143 : decode cX7_copyFrom 143 = .ok (.aload_n 1, 1) := by decide +kernel
theorem dX7_copyFrom_144 : decode cX7_copyFrom 144 = .ok (.getfield 53, 3) := by decide +kernel
theorem dX7_copyFrom_147 : decode cX7_copyFrom 147 = .ok (.putfield 53, 3) := by decide +kernel
theorem dX7_copyFrom_150 : decode cX7_copyFrom 150 = .ok (.aload_n 0, 1) := by decide +kernel
theorem dX7_copyFrom_151 : decode cX7_copyFrom 151 = .ok (.aload_n 1, 1) := by decide +kernel
theorem dX7_copyFrom_152 : decode cX7_copyFrom 152 = .ok (.getfield 40, 3) := by decide +kernel
theorem dX7_copyFrom_155 : decode cX7_copyFrom 155 = .ok (.putfield 40, 3) := by decide +kernel
theorem dX7_copyFrom_158 : decode cX7_copyFrom 158 = .ok (.aload_n 0, 1) := by decide +kernel
theorem dX7_copyFrom_159 : decode cX7_copyFrom 159 = .ok (.aload_n 1, 1) := by decide +kernel
theorem dX7_copyFrom_160 : decode cX7_copyFrom 160 = .ok (.getfield 44, 3) := by decide +kernel
theorem dX7_copyFrom_163 : decode cX7_copyFrom 163 = .ok (.putfield 44, 3) := by decide +kernel
theorem dX7_copyFrom_166 : decode cX7_copyFrom 166 = .ok (.aload_n 0, 1) := by decide +kernel
theorem dX7_copyFrom_167 : decode cX7_copyFrom 167 = .ok (.aload_n 1, 1) := by decide +kernel
theorem dX7_copyFrom_168 : decode cX7_copyFrom 168 = .ok (.getfield 56, 3) := by decide +kernel
theorem dX7_copyFrom_171 : decode cX7_copyFrom 171 = .ok (.putfield 56, 3) := by decide +kernel
theorem dX7_copyFrom_174 : decode cX7_copyFrom 174 = .ok (.aload_n 0, 1) := by decide +kernel
theorem dX7_copyFrom_175 : decode cX7_copyFrom 175 = .ok (.aload_n 1, 1) := by decide +kernel
theorem dX7_copyFrom_176 : decode cX7_copyFrom 176 = .ok (.getfield 59, 3) := by decide +kernel
theorem dX7_copyFrom_179 : decode cX7_copyFrom 179 = .ok (.putfield 59, 3) := by decide +kernel
theorem dX7_copyFrom_182 : decode cX7_copyFrom 182 = .ok (.aload_n 0, 1) := by decide +kernel
theorem dX7_copyFrom_183 : decode cX7_copyFrom 183 = .ok (.aload_n 1, 1) := by decide +kernel
theorem dX7_copyFrom_184 : decode cX7_copyFrom 184 = .ok (.getfield 62, 3) := by decide +kernel
theorem dX7_copyFrom_187 : decode cX7_copyFrom 187 = .ok (.putfield 62, 3) := by decide +kernel
theorem dX7_copyFrom_190 : decode cX7_copyFrom 190 = .ok (.return_, 1) := by decide +kernel
theorem dX7_isStone_0 : decode cX7_isStone 0 = .ok (.iload_n 0, 1) := by decide +kernel
theorem dX7_isStone_1 : decode cX7_isStone 1 = .ok (.ifCond .lt 12, 3) := by decide +kernel
theorem dX7_isStone_4 : decode cX7_isStone 4 = .ok (.iload_n 0, 1) := by decide +kernel
theorem dX7_isStone_5 : decode cX7_isStone 5 = .ok (.iconst 4, 1) := by decide +kernel
theorem dX7_isStone_6 : decode cX7_isStone 6 = .ok (.if_icmp .ge 7, 3) := by decide +kernel
theorem dX7_isStone_9 : decode cX7_isStone 9 = .ok (.iconst 1, 1) := by decide +kernel
theorem dX7_isStone_10 : decode cX7_isStone 10 = .ok (.goto 4, 3) := by decide +kernel
theorem dX7_isStone_13 : decode cX7_isStone 13 = .ok (.iconst 0, 1) := by decide +kernel
theorem dX7_isStone_14 : decode cX7_isStone 14 = .ok (.ireturn, 1) := by decide +kernel
theorem dX7_heightFault_0 : decode cX7_heightFault 0 = .ok (.iload_n 0, 1) := by decide +kernel
theorem dX7_heightFault_1 : decode cX7_heightFault 1 = .ok (.ifCond .lt 15, 3) := by decide +kernel
theorem dX7_heightFault_4 : decode cX7_heightFault 4 = .ok (.iload_n 0, 1) := by decide +kernel
theorem dX7_heightFault_5 : decode cX7_heightFault 5 = .ok (.bipush 9, 2) := by decide +kernel
theorem dX7_heightFault_7 : decode cX7_heightFault 7 = .ok (.if_icmp .gt 9, 3) := by decide +kernel
theorem dX7_heightFault_10 : decode cX7_heightFault 10 = .ok (.getstatic 66, 3) := by decide +kernel
theorem dX7_heightFault_13 : decode cX7_heightFault 13 = .ok (.goto 6, 3) := by decide +kernel
theorem dX7_heightFault_16 : decode cX7_heightFault 16 = .ok (.getstatic 72, 3) := by decide +kernel
theorem dX7_heightFault_19 : decode cX7_heightFault 19 = .ok (.areturn, 1) := by decide +kernel
set_option maxRecDepth 20000 in
theorem ggX7_stoneFault_X3_cellFault : GoodIn wsX7_stoneFault wsX3_cellFault := goodIn_r _ [7, 8, 9, 10, 11, 6, 12] (by decide +kernel) (by decide +kernel)
set_option maxRecDepth 20000 in
theorem gX7_stoneFault_X3_cellFault : GoodIn wsX7_stoneFault (va_wsS RX7 75 yX3_cellFault wsX3_cellFault) := goodIn_app (goodIn_of _ (by decide +kernel)) ggX7_stoneFault_X3_cellFault
set_option maxRecDepth 20000 in
theorem ggX7_stoneFault_X7_isStone : GoodIn wsX7_stoneFault wsX7_isStone := goodIn_r _ [16] (by decide +kernel) (by decide +kernel)
set_option maxRecDepth 20000 in
theorem gX7_stoneFault_X7_isStone : GoodIn wsX7_stoneFault (va_wsS RX7 82 yX7_isStone wsX7_isStone) := goodIn_app (goodIn_of _ (by decide +kernel)) ggX7_stoneFault_X7_isStone
theorem dX7_stoneFault_0 : decode cX7_stoneFault 0 = .ok (.iload_n 1, 1) := by decide +kernel
theorem dX7_stoneFault_1 : decode cX7_stoneFault 1 = .ok (.iload_n 2, 1) := by decide +kernel
theorem dX7_stoneFault_2 : decode cX7_stoneFault 2 = .ok (.invokestatic 75, 3) := by decide +kernel
theorem dX7_stoneFault_5 : decode cX7_stoneFault 5 = .ok (.getstatic 66, 3) := by decide +kernel
theorem dX7_stoneFault_8 : decode cX7_stoneFault 8 = .ok (.if_acmp .eq 7, 3) := by decide +kernel
theorem dX7_stoneFault_11 : decode cX7_stoneFault 11 = .ok (.getstatic 79, 3) := by decide +kernel
theorem dX7_stoneFault_14 : decode cX7_stoneFault 14 = .ok (.areturn, 1) := by decide +kernel
theorem dX7_stoneFault_15 : decode cX7_stoneFault 15 = .ok (.iload_n 3, 1) := by decide +kernel
theorem dX7_stoneFault_16 : decode cX7_stoneFault 16 = .ok (.invokestatic 82, 3) := by decide +kernel
theorem dX7_stoneFault_19 : decode cX7_stoneFault 19 = .ok (.ifCond .eq 9, 3) := by decide +kernel
theorem dX7_stoneFault_22 : decode cX7_stoneFault 22 = .ok (.getstatic 66, 3) := by decide +kernel
theorem dX7_stoneFault_25 : decode cX7_stoneFault 25 = .ok (.goto 6, 3) := by decide +kernel
theorem dX7_stoneFault_28 : decode cX7_stoneFault 28 = .ok (.getstatic 72, 3) := by decide +kernel
theorem dX7_stoneFault_31 : decode cX7_stoneFault 31 = .ok (.areturn, 1) := by decide +kernel
set_option maxRecDepth 20000 in
theorem ggX7_cutFault_X3_cellFault : GoodIn wsX7_cutFault wsX3_cellFault := goodIn_r _ [12, 13, 14, 15, 16, 11, 17] (by decide +kernel) (by decide +kernel)
set_option maxRecDepth 20000 in
theorem gX7_cutFault_X3_cellFault : GoodIn wsX7_cutFault (va_wsS RX7 75 yX3_cellFault wsX3_cellFault) := goodIn_app (goodIn_of _ (by decide +kernel)) ggX7_cutFault_X3_cellFault
set_option maxRecDepth 20000 in
theorem ggX7_cutFault_X3_cellAt : GoodIn wsX7_cutFault wsX3_cellAt := goodIn_r _ [20] (by decide +kernel) (by decide +kernel)
set_option maxRecDepth 20000 in
theorem gX7_cutFault_X3_cellAt : GoodIn wsX7_cutFault (va_wsS RX7 86 yX3_cellAt wsX3_cellAt) := goodIn_app (goodIn_of _ (by decide +kernel)) ggX7_cutFault_X3_cellAt
set_option maxRecDepth 20000 in
theorem ggX7_cutFault_X7_steepestFrom : GoodIn wsX7_cutFault wsX7_steepestFrom := goodIn_ca (goodIn_r _ [25, 4, 26, 27, 28, 29, 30, 31, 32, 33, 34, 11, 35, 36, 37, 38, 39, 40, 41, 42, 43, 44, 45, 46, 47, 48, 49, 50] (by decide +kernel) (by decide +kernel)) (goodIn_sub (fun _ h => List.mem_cons_of_mem _ (List.mem_append_right _ h)) (by decide +kernel))
set_option maxRecDepth 20000 in
theorem gX7_cutFault_X7_steepestFrom : GoodIn wsX7_cutFault (wsV RX7 93 RX7 yX7_steepestFrom wsX7_steepestFrom) := goodIn_app (goodIn_of _ (by decide +kernel)) ggX7_cutFault_X7_steepestFrom
theorem dX7_cutFault_0 : decode cX7_cutFault 0 = .ok (.iload_n 1, 1) := by decide +kernel
theorem dX7_cutFault_1 : decode cX7_cutFault 1 = .ok (.iload_n 2, 1) := by decide +kernel
theorem dX7_cutFault_2 : decode cX7_cutFault 2 = .ok (.invokestatic 75, 3) := by decide +kernel
theorem dX7_cutFault_5 : decode cX7_cutFault 5 = .ok (.getstatic 66, 3) := by decide +kernel
theorem dX7_cutFault_8 : decode cX7_cutFault 8 = .ok (.if_acmp .eq 7, 3) := by decide +kernel
theorem dX7_cutFault_11 : decode cX7_cutFault 11 = .ok (.getstatic 79, 3) := by decide +kernel
theorem dX7_cutFault_14 : decode cX7_cutFault 14 = .ok (.areturn, 1) := by decide +kernel
theorem dX7_cutFault_15 : decode cX7_cutFault 15 = .ok (.iload_n 1, 1) := by decide +kernel
theorem dX7_cutFault_16 : decode cX7_cutFault 16 = .ok (.iload_n 2, 1) := by decide +kernel
theorem dX7_cutFault_17 : decode cX7_cutFault 17 = .ok (.invokestatic 86, 3) := by decide +kernel
theorem dX7_cutFault_20 : decode cX7_cutFault 20 = .ok (.istore_n 3, 1) := by decide +kernel
theorem dX7_cutFault_21 : decode cX7_cutFault 21 = .ok (.aload_n 0, 1) := by decide +kernel
theorem dX7_cutFault_22 : decode cX7_cutFault 22 = .ok (.getfield 18, 3) := by decide +kernel
theorem dX7_cutFault_25 : decode cX7_cutFault 25 = .ok (.iload_n 3, 1) := by decide +kernel
theorem dX7_cutFault_26 : decode cX7_cutFault 26 = .ok (.baload, 1) := by decide +kernel
theorem dX7_cutFault_27 : decode cX7_cutFault 27 = .ok (.ifCond .ne 22, 3) := by decide +kernel
theorem dX7_cutFault_30 : decode cX7_cutFault 30 = .ok (.aload_n 0, 1) := by decide +kernel
theorem dX7_cutFault_31 : decode cX7_cutFault 31 = .ok (.getfield 9, 3) := by decide +kernel
theorem dX7_cutFault_34 : decode cX7_cutFault 34 = .ok (.iload_n 3, 1) := by decide +kernel
theorem dX7_cutFault_35 : decode cX7_cutFault 35 = .ok (.iaload, 1) := by decide +kernel
theorem dX7_cutFault_36 : decode cX7_cutFault 36 = .ok (.ifCond .le 13, 3) := by decide +kernel
theorem dX7_cutFault_39 : decode cX7_cutFault 39 = .ok (.aload_n 0, 1) := by decide +kernel
theorem dX7_cutFault_40 : decode cX7_cutFault 40 = .ok (.getfield 22, 3) := by decide +kernel
theorem dX7_cutFault_43 : decode cX7_cutFault 43 = .ok (.iload_n 3, 1) := by decide +kernel
theorem dX7_cutFault_44 : decode cX7_cutFault 44 = .ok (.iaload, 1) := by decide +kernel
theorem dX7_cutFault_45 : decode cX7_cutFault 45 = .ok (.iconst 3, 1) := by decide +kernel
theorem dX7_cutFault_46 : decode cX7_cutFault 46 = .ok (.if_icmp .lt 7, 3) := by decide +kernel
theorem dX7_cutFault_49 : decode cX7_cutFault 49 = .ok (.getstatic 90, 3) := by decide +kernel
theorem dX7_cutFault_52 : decode cX7_cutFault 52 = .ok (.areturn, 1) := by decide +kernel
theorem dX7_cutFault_53 : decode cX7_cutFault 53 = .ok (.aload_n 0, 1) := by decide +kernel
theorem dX7_cutFault_54 : decode cX7_cutFault 54 = .ok (.iload_n 3, 1) := by decide +kernel
theorem dX7_cutFault_55 : decode cX7_cutFault 55 = .ok (.aload_n 0, 1) := by decide +kernel
theorem dX7_cutFault_56 : decode cX7_cutFault 56 = .ok (.getfield 9, 3) := by decide +kernel
theorem dX7_cutFault_59 : decode cX7_cutFault 59 = .ok (.iload_n 3, 1) := by decide +kernel
theorem dX7_cutFault_60 : decode cX7_cutFault 60 = .ok (.iaload, 1) := by decide +kernel
theorem dX7_cutFault_61 : decode cX7_cutFault 61 = .ok (.iconst 1, 1) := by decide +kernel
theorem dX7_cutFault_62 : decode cX7_cutFault 62 = .ok (.isub, 1) := by decide +kernel
theorem dX7_cutFault_63 : decode cX7_cutFault 63 = .ok (.invokevirtual 93, 3) := by decide +kernel
theorem dX7_cutFault_66 : decode cX7_cutFault 66 = .ok (.aload_n 0, 1) := by decide +kernel
theorem dX7_cutFault_67 : decode cX7_cutFault 67 = .ok (.getfield 40, 3) := by decide +kernel
theorem dX7_cutFault_70 : decode cX7_cutFault 70 = .ok (.if_icmp .gt 9, 3) := by decide +kernel
theorem dX7_cutFault_73 : decode cX7_cutFault 73 = .ok (.getstatic 66, 3) := by decide +kernel
theorem dX7_cutFault_76 : decode cX7_cutFault 76 = .ok (.goto 6, 3) := by decide +kernel
theorem dX7_cutFault_79 : decode cX7_cutFault 79 = .ok (.getstatic 96, 3) := by decide +kernel
theorem dX7_cutFault_82 : decode cX7_cutFault 82 = .ok (.areturn, 1) := by decide +kernel
set_option maxRecDepth 20000 in
theorem ggX7_fillFault_X3_cellFault : GoodIn wsX7_fillFault wsX3_cellFault := goodIn_r _ [13, 14, 15, 16, 17, 12, 18] (by decide +kernel) (by decide +kernel)
set_option maxRecDepth 20000 in
theorem gX7_fillFault_X3_cellFault : GoodIn wsX7_fillFault (va_wsS RX7 75 yX3_cellFault wsX3_cellFault) := goodIn_app (goodIn_of _ (by decide +kernel)) ggX7_fillFault_X3_cellFault
set_option maxRecDepth 20000 in
theorem ggX7_fillFault_X3_cellAt : GoodIn wsX7_fillFault wsX3_cellAt := goodIn_r _ [21] (by decide +kernel) (by decide +kernel)
set_option maxRecDepth 20000 in
theorem gX7_fillFault_X3_cellAt : GoodIn wsX7_fillFault (va_wsS RX7 86 yX3_cellAt wsX3_cellAt) := goodIn_app (goodIn_of _ (by decide +kernel)) ggX7_fillFault_X3_cellAt
set_option maxRecDepth 20000 in
theorem ggX7_fillFault_X7_steepestFrom : GoodIn wsX7_fillFault wsX7_steepestFrom := goodIn_ca (goodIn_r _ [26, 4, 27, 28, 29, 30, 31, 32, 33, 34, 35, 12, 36, 37, 38, 39, 40, 41, 42, 43, 44, 45, 46, 47, 48, 49, 50, 51] (by decide +kernel) (by decide +kernel)) (goodIn_sub (fun _ h => List.mem_cons_of_mem _ (List.mem_append_right _ h)) (by decide +kernel))
set_option maxRecDepth 20000 in
theorem gX7_fillFault_X7_steepestFrom : GoodIn wsX7_fillFault (wsV RX7 93 RX7 yX7_steepestFrom wsX7_steepestFrom) := goodIn_app (goodIn_of _ (by decide +kernel)) ggX7_fillFault_X7_steepestFrom
theorem dX7_fillFault_0 : decode cX7_fillFault 0 = .ok (.iload_n 1, 1) := by decide +kernel
theorem dX7_fillFault_1 : decode cX7_fillFault 1 = .ok (.iload_n 2, 1) := by decide +kernel
theorem dX7_fillFault_2 : decode cX7_fillFault 2 = .ok (.invokestatic 75, 3) := by decide +kernel
theorem dX7_fillFault_5 : decode cX7_fillFault 5 = .ok (.getstatic 66, 3) := by decide +kernel
theorem dX7_fillFault_8 : decode cX7_fillFault 8 = .ok (.if_acmp .eq 7, 3) := by decide +kernel
theorem dX7_fillFault_11 : decode cX7_fillFault 11 = .ok (.getstatic 79, 3) := by decide +kernel
theorem dX7_fillFault_14 : decode cX7_fillFault 14 = .ok (.areturn, 1) := by decide +kernel
theorem dX7_fillFault_15 : decode cX7_fillFault 15 = .ok (.iload_n 1, 1) := by decide +kernel
theorem dX7_fillFault_16 : decode cX7_fillFault 16 = .ok (.iload_n 2, 1) := by decide +kernel
theorem dX7_fillFault_17 : decode cX7_fillFault 17 = .ok (.invokestatic 86, 3) := by decide +kernel
theorem dX7_fillFault_20 : decode cX7_fillFault 20 = .ok (.istore_n 3, 1) := by decide +kernel
theorem dX7_fillFault_21 : decode cX7_fillFault 21 = .ok (.aload_n 0, 1) := by decide +kernel
theorem dX7_fillFault_22 : decode cX7_fillFault 22 = .ok (.getfield 18, 3) := by decide +kernel
theorem dX7_fillFault_25 : decode cX7_fillFault 25 = .ok (.iload_n 3, 1) := by decide +kernel
theorem dX7_fillFault_26 : decode cX7_fillFault 26 = .ok (.baload, 1) := by decide +kernel
theorem dX7_fillFault_27 : decode cX7_fillFault 27 = .ok (.ifCond .ne 30, 3) := by decide +kernel
theorem dX7_fillFault_30 : decode cX7_fillFault 30 = .ok (.aload_n 0, 1) := by decide +kernel
theorem dX7_fillFault_31 : decode cX7_fillFault 31 = .ok (.getfield 9, 3) := by decide +kernel
theorem dX7_fillFault_34 : decode cX7_fillFault 34 = .ok (.iload_n 3, 1) := by decide +kernel
theorem dX7_fillFault_35 : decode cX7_fillFault 35 = .ok (.iaload, 1) := by decide +kernel
theorem dX7_fillFault_36 : decode cX7_fillFault 36 = .ok (.bipush 9, 2) := by decide +kernel
theorem dX7_fillFault_38 : decode cX7_fillFault 38 = .ok (.if_icmp .ge 19, 3) := by decide +kernel
theorem dX7_fillFault_41 : decode cX7_fillFault 41 = .ok (.aload_n 0, 1) := by decide +kernel
theorem dX7_fillFault_42 : decode cX7_fillFault 42 = .ok (.getfield 22, 3) := by decide +kernel
theorem dX7_fillFault_45 : decode cX7_fillFault 45 = .ok (.iload_n 3, 1) := by decide +kernel
theorem dX7_fillFault_46 : decode cX7_fillFault 46 = .ok (.iaload, 1) := by decide +kernel
theorem dX7_fillFault_47 : decode cX7_fillFault 47 = .ok (.ifCond .gt 10, 3) := by decide +kernel
theorem dX7_fillFault_50 : decode cX7_fillFault 50 = .ok (.aload_n 0, 1) := by decide +kernel
theorem dX7_fillFault_51 : decode cX7_fillFault 51 = .ok (.getfield 44, 3) := by decide +kernel
theorem dX7_fillFault_54 : decode cX7_fillFault 54 = .ok (.ifCond .gt 7, 3) := by decide +kernel
theorem dX7_fillFault_57 : decode cX7_fillFault 57 = .ok (.getstatic 90, 3) := by decide +kernel
theorem dX7_fillFault_60 : decode cX7_fillFault 60 = .ok (.areturn, 1) := by decide +kernel
theorem dX7_fillFault_61 : decode cX7_fillFault 61 = .ok (.aload_n 0, 1) := by decide +kernel
theorem dX7_fillFault_62 : decode cX7_fillFault 62 = .ok (.iload_n 3, 1) := by decide +kernel
theorem dX7_fillFault_63 : decode cX7_fillFault 63 = .ok (.aload_n 0, 1) := by decide +kernel
theorem dX7_fillFault_64 : decode cX7_fillFault 64 = .ok (.getfield 9, 3) := by decide +kernel
theorem dX7_fillFault_67 : decode cX7_fillFault 67 = .ok (.iload_n 3, 1) := by decide +kernel
theorem dX7_fillFault_68 : decode cX7_fillFault 68 = .ok (.iaload, 1) := by decide +kernel
theorem dX7_fillFault_69 : decode cX7_fillFault 69 = .ok (.iconst 1, 1) := by decide +kernel
theorem dX7_fillFault_70 : decode cX7_fillFault 70 = .ok (.iadd, 1) := by decide +kernel
theorem dX7_fillFault_71 : decode cX7_fillFault 71 = .ok (.invokevirtual 93, 3) := by decide +kernel
theorem dX7_fillFault_74 : decode cX7_fillFault 74 = .ok (.aload_n 0, 1) := by decide +kernel
theorem dX7_fillFault_75 : decode cX7_fillFault 75 = .ok (.getfield 40, 3) := by decide +kernel
theorem dX7_fillFault_78 : decode cX7_fillFault 78 = .ok (.if_icmp .gt 9, 3) := by decide +kernel
theorem dX7_fillFault_81 : decode cX7_fillFault 81 = .ok (.getstatic 66, 3) := by decide +kernel
theorem dX7_fillFault_84 : decode cX7_fillFault 84 = .ok (.goto 6, 3) := by decide +kernel
theorem dX7_fillFault_87 : decode cX7_fillFault 87 = .ok (.getstatic 96, 3) := by decide +kernel
theorem dX7_fillFault_90 : decode cX7_fillFault 90 = .ok (.areturn, 1) := by decide +kernel
set_option maxRecDepth 20000 in
theorem ggX7_limitFault_X7_stepsWithin : GoodIn wsX7_limitFault wsX7_stepsWithin := goodIn_ca (goodIn_r _ [8, 9, 10, 11, 12, 7, 13, 14, 15, 16, 17, 18, 19, 20, 21, 22, 23, 24, 25, 26, 27, 28, 29, 30, 31, 32, 33, 34, 35, 36, 37, 38, 39] (by decide +kernel) (by decide +kernel)) (goodIn_sub (fun _ h => List.mem_cons_of_mem _ (List.mem_append_right _ h)) (by decide +kernel))
set_option maxRecDepth 20000 in
theorem gX7_limitFault_X7_stepsWithin : GoodIn wsX7_limitFault (wsV RX7 99 RX7 yX7_stepsWithin wsX7_stepsWithin) := goodIn_app (goodIn_of _ (by decide +kernel)) ggX7_limitFault_X7_stepsWithin
theorem dX7_limitFault_0 : decode cX7_limitFault 0 = .ok (.iload_n 1, 1) := by decide +kernel
theorem dX7_limitFault_1 : decode cX7_limitFault 1 = .ok (.iconst 1, 1) := by decide +kernel
theorem dX7_limitFault_2 : decode cX7_limitFault 2 = .ok (.if_icmp .lt 8, 3) := by decide +kernel
theorem dX7_limitFault_5 : decode cX7_limitFault 5 = .ok (.iload_n 1, 1) := by decide +kernel
theorem dX7_limitFault_6 : decode cX7_limitFault 6 = .ok (.iconst 4, 1) := by decide +kernel
theorem dX7_limitFault_7 : decode cX7_limitFault 7 = .ok (.if_icmp .le 7, 3) := by decide +kernel
theorem dX7_limitFault_10 : decode cX7_limitFault 10 = .ok (.getstatic 72, 3) := by decide +kernel
theorem dX7_limitFault_13 : decode cX7_limitFault 13 = .ok (.areturn, 1) := by decide +kernel
theorem dX7_limitFault_14 : decode cX7_limitFault 14 = .ok (.aload_n 0, 1) := by decide +kernel
theorem dX7_limitFault_15 : decode cX7_limitFault 15 = .ok (.iload_n 1, 1) := by decide +kernel
theorem dX7_limitFault_16 : decode cX7_limitFault 16 = .ok (.invokevirtual 99, 3) := by decide +kernel
theorem dX7_limitFault_19 : decode cX7_limitFault 19 = .ok (.ifCond .eq 9, 3) := by decide +kernel
theorem dX7_limitFault_22 : decode cX7_limitFault 22 = .ok (.getstatic 66, 3) := by decide +kernel
theorem dX7_limitFault_25 : decode cX7_limitFault 25 = .ok (.goto 6, 3) := by decide +kernel
theorem dX7_limitFault_28 : decode cX7_limitFault 28 = .ok (.getstatic 96, 3) := by decide +kernel
theorem dX7_limitFault_31 : decode cX7_limitFault 31 = .ok (.areturn, 1) := by decide +kernel
set_option maxRecDepth 20000 in
theorem ggX7_winchFault_X3_cellFault : GoodIn wsX7_winchFault wsX3_cellFault := goodIn_r _ [9, 10, 11, 12, 13, 8, 14] (by decide +kernel) (by decide +kernel)
set_option maxRecDepth 20000 in
theorem gX7_winchFault_X3_cellFault : GoodIn wsX7_winchFault (va_wsS RX7 75 yX3_cellFault wsX3_cellFault) := goodIn_app (goodIn_of _ (by decide +kernel)) ggX7_winchFault_X3_cellFault
set_option maxRecDepth 20000 in
theorem ggX7_winchFault_X3_cellAt : GoodIn wsX7_winchFault wsX3_cellAt := goodIn_r _ [17] (by decide +kernel) (by decide +kernel)
set_option maxRecDepth 20000 in
theorem gX7_winchFault_X3_cellAt : GoodIn wsX7_winchFault (va_wsS RX7 86 yX3_cellAt wsX3_cellAt) := goodIn_app (goodIn_of _ (by decide +kernel)) ggX7_winchFault_X3_cellAt
set_option maxRecDepth 20000 in
theorem ggX7_winchFault_X7_hasWinchAt : GoodIn wsX7_winchFault wsX7_hasWinchAt := goodIn_ca (goodIn_r _ [22, 4, 23, 24, 25, 26, 27, 28, 29, 30, 31, 32, 33, 34, 35, 36, 37, 38] (by decide +kernel) (by decide +kernel)) (goodIn_sub (fun _ h => List.mem_cons_of_mem _ (List.mem_append_right _ h)) (by decide +kernel))
set_option maxRecDepth 20000 in
theorem gX7_winchFault_X7_hasWinchAt : GoodIn wsX7_winchFault (wsV RX7 102 RX7 yX7_hasWinchAt wsX7_hasWinchAt) := goodIn_app (goodIn_of _ (by decide +kernel)) ggX7_winchFault_X7_hasWinchAt
theorem dX7_winchFault_0 : decode cX7_winchFault 0 = .ok (.iload_n 1, 1) := by decide +kernel
theorem dX7_winchFault_1 : decode cX7_winchFault 1 = .ok (.iload_n 2, 1) := by decide +kernel
theorem dX7_winchFault_2 : decode cX7_winchFault 2 = .ok (.invokestatic 75, 3) := by decide +kernel
theorem dX7_winchFault_5 : decode cX7_winchFault 5 = .ok (.getstatic 66, 3) := by decide +kernel
theorem dX7_winchFault_8 : decode cX7_winchFault 8 = .ok (.if_acmp .eq 7, 3) := by decide +kernel
theorem dX7_winchFault_11 : decode cX7_winchFault 11 = .ok (.getstatic 79, 3) := by decide +kernel
theorem dX7_winchFault_14 : decode cX7_winchFault 14 = .ok (.areturn, 1) := by decide +kernel
theorem dX7_winchFault_15 : decode cX7_winchFault 15 = .ok (.iload_n 3, 1) := by decide +kernel
theorem dX7_winchFault_16 : decode cX7_winchFault 16 = .ok (.iconst 2, 1) := by decide +kernel
theorem dX7_winchFault_17 : decode cX7_winchFault 17 = .ok (.if_icmp .lt 22, 3) := by decide +kernel
theorem dX7_winchFault_20 : decode cX7_winchFault 20 = .ok (.iload_n 3, 1) := by decide +kernel
theorem dX7_winchFault_21 : decode cX7_winchFault 21 = .ok (.bipush 9, 2) := by decide +kernel
theorem dX7_winchFault_23 : decode cX7_winchFault 23 = .ok (.if_icmp .gt 16, 3) := by decide +kernel
theorem dX7_winchFault_26 : decode cX7_winchFault 26 = .ok (.iload 4, 2) := by decide +kernel
theorem dX7_winchFault_28 : decode cX7_winchFault 28 = .ok (.iconst 1, 1) := by decide +kernel
theorem dX7_winchFault_29 : decode cX7_winchFault 29 = .ok (.if_icmp .lt 10, 3) := by decide +kernel
theorem dX7_winchFault_32 : decode cX7_winchFault 32 = .ok (.iload 4, 2) := by decide +kernel
theorem dX7_winchFault_34 : decode cX7_winchFault 34 = .ok (.bipush 6, 2) := by decide +kernel
theorem dX7_winchFault_36 : decode cX7_winchFault 36 = .ok (.if_icmp .le 7, 3) := by decide +kernel
theorem dX7_winchFault_39 : decode cX7_winchFault 39 = .ok (.getstatic 72, 3) := by decide +kernel
theorem dX7_winchFault_42 : decode cX7_winchFault 42 = .ok (.areturn, 1) := by decide +kernel
theorem dX7_winchFault_43 : decode cX7_winchFault 43 = .ok (.aload_n 0, 1) := by decide +kernel
theorem dX7_winchFault_44 : decode cX7_winchFault 44 = .ok (.getfield 53, 3) := by decide +kernel
theorem dX7_winchFault_47 : decode cX7_winchFault 47 = .ok (.iconst 3, 1) := by decide +kernel
theorem dX7_winchFault_48 : decode cX7_winchFault 48 = .ok (.if_icmp .ge 15, 3) := by decide +kernel
theorem dX7_winchFault_51 : decode cX7_winchFault 51 = .ok (.aload_n 0, 1) := by decide +kernel
theorem dX7_winchFault_52 : decode cX7_winchFault 52 = .ok (.iload_n 1, 1) := by decide +kernel
theorem dX7_winchFault_53 : decode cX7_winchFault 53 = .ok (.iload_n 2, 1) := by decide +kernel
theorem dX7_winchFault_54 : decode cX7_winchFault 54 = .ok (.invokestatic 86, 3) := by decide +kernel
theorem dX7_winchFault_57 : decode cX7_winchFault 57 = .ok (.invokevirtual 102, 3) := by decide +kernel
theorem dX7_winchFault_60 : decode cX7_winchFault 60 = .ok (.ifCond .eq 7, 3) := by decide +kernel
theorem dX7_winchFault_63 : decode cX7_winchFault 63 = .ok (.iconst 1, 1) := by decide +kernel
theorem dX7_winchFault_64 : decode cX7_winchFault 64 = .ok (.goto 4, 3) := by decide +kernel
theorem dX7_winchFault_67 : decode cX7_winchFault 67 = .ok (.iconst 0, 1) := by decide +kernel
theorem dX7_winchFault_68 : decode cX7_winchFault 68 = .ok (.istore 5, 2) := by decide +kernel
theorem dX7_winchFault_70 : decode cX7_winchFault 70 = .ok (.iload 5, 2) := by decide +kernel
theorem dX7_winchFault_72 : decode cX7_winchFault 72 = .ok (.ifCond .eq 9, 3) := by decide +kernel
theorem dX7_winchFault_75 : decode cX7_winchFault 75 = .ok (.getstatic 90, 3) := by decide +kernel
theorem dX7_winchFault_78 : decode cX7_winchFault 78 = .ok (.goto 6, 3) := by decide +kernel
theorem dX7_winchFault_81 : decode cX7_winchFault 81 = .ok (.getstatic 66, 3) := by decide +kernel
theorem dX7_winchFault_84 : decode cX7_winchFault 84 = .ok (.areturn, 1) := by decide +kernel
set_option maxRecDepth 20000 in
theorem ggX7_topFault_X3_cellFault : GoodIn wsX7_topFault wsX3_cellFault := goodIn_r _ [8, 9, 10, 11, 12, 7, 13] (by decide +kernel) (by decide +kernel)
set_option maxRecDepth 20000 in
theorem gX7_topFault_X3_cellFault : GoodIn wsX7_topFault (va_wsS RX7 75 yX3_cellFault wsX3_cellFault) := goodIn_app (goodIn_of _ (by decide +kernel)) ggX7_topFault_X3_cellFault
set_option maxRecDepth 20000 in
theorem ggX7_topFault_X3_cellAt : GoodIn wsX7_topFault wsX3_cellAt := goodIn_r _ [16] (by decide +kernel) (by decide +kernel)
set_option maxRecDepth 20000 in
theorem gX7_topFault_X3_cellAt : GoodIn wsX7_topFault (va_wsS RX7 86 yX3_cellAt wsX3_cellAt) := goodIn_app (goodIn_of _ (by decide +kernel)) ggX7_topFault_X3_cellAt
theorem dX7_topFault_0 : decode cX7_topFault 0 = .ok (.iload_n 1, 1) := by decide +kernel
theorem dX7_topFault_1 : decode cX7_topFault 1 = .ok (.iload_n 2, 1) := by decide +kernel
theorem dX7_topFault_2 : decode cX7_topFault 2 = .ok (.invokestatic 75, 3) := by decide +kernel
theorem dX7_topFault_5 : decode cX7_topFault 5 = .ok (.getstatic 66, 3) := by decide +kernel
theorem dX7_topFault_8 : decode cX7_topFault 8 = .ok (.if_acmp .eq 7, 3) := by decide +kernel
theorem dX7_topFault_11 : decode cX7_topFault 11 = .ok (.getstatic 79, 3) := by decide +kernel
theorem dX7_topFault_14 : decode cX7_topFault 14 = .ok (.areturn, 1) := by decide +kernel
theorem dX7_topFault_15 : decode cX7_topFault 15 = .ok (.aload_n 0, 1) := by decide +kernel
theorem dX7_topFault_16 : decode cX7_topFault 16 = .ok (.getfield 22, 3) := by decide +kernel
theorem dX7_topFault_19 : decode cX7_topFault 19 = .ok (.iload_n 1, 1) := by decide +kernel
theorem dX7_topFault_20 : decode cX7_topFault 20 = .ok (.iload_n 2, 1) := by decide +kernel
theorem dX7_topFault_21 : decode cX7_topFault 21 = .ok (.invokestatic 86, 3) := by decide +kernel
theorem dX7_topFault_24 : decode cX7_topFault 24 = .ok (.iaload, 1) := by decide +kernel
theorem dX7_topFault_25 : decode cX7_topFault 25 = .ok (.ifCond .le 9, 3) := by decide +kernel
theorem dX7_topFault_28 : decode cX7_topFault 28 = .ok (.getstatic 66, 3) := by decide +kernel
theorem dX7_topFault_31 : decode cX7_topFault 31 = .ok (.goto 6, 3) := by decide +kernel
theorem dX7_topFault_34 : decode cX7_topFault 34 = .ok (.getstatic 105, 3) := by decide +kernel
theorem dX7_topFault_37 : decode cX7_topFault 37 = .ok (.areturn, 1) := by decide +kernel
set_option maxRecDepth 20000 in
theorem ggX7_liftFault_X7_hasWinch : GoodIn wsX7_liftFault wsX7_hasWinch := goodIn_r _ [13, 14, 54, 55, 56, 57, 58, 59, 60, 61, 62, 63, 64, 65, 66, 67, 68] (by decide +kernel) (by decide +kernel)
set_option maxRecDepth 20000 in
theorem gX7_liftFault_X7_hasWinch : GoodIn wsX7_liftFault (wsV RX7 108 RX7 yX7_hasWinch wsX7_hasWinch) := goodIn_app (goodIn_of _ (by decide +kernel)) ggX7_liftFault_X7_hasWinch
set_option maxRecDepth 20000 in
theorem ggX7_liftFault_X7_topFault : GoodIn wsX7_liftFault wsX7_topFault := goodIn_ca (goodIn_r _ [18, 2, 1, 19, 20, 21, 22, 23, 24, 25, 26, 27, 28, 29, 30, 31, 32, 54, 55, 56, 57, 58, 59, 60, 61, 62, 63, 64, 65, 66, 67, 68] (by decide +kernel) (by decide +kernel)) (goodIn_sub (fun _ h => List.mem_cons_of_mem _ (List.mem_append_right _ h)) (by decide +kernel))
set_option maxRecDepth 20000 in
theorem gX7_liftFault_X7_topFault : GoodIn wsX7_liftFault (wsV RX7 111 RX7 yX7_topFault wsX7_topFault) := goodIn_app (goodIn_of _ (by decide +kernel)) ggX7_liftFault_X7_topFault
set_option maxRecDepth 20000 in
theorem ggX7_liftFault_X3_cellAt : GoodIn wsX7_liftFault wsX3_cellAt := goodIn_r _ [32] (by decide +kernel) (by decide +kernel)
set_option maxRecDepth 20000 in
theorem gX7_liftFault_X3_cellAt : GoodIn wsX7_liftFault (va_wsS RX7 86 yX3_cellAt wsX3_cellAt) := goodIn_app (goodIn_of _ (by decide +kernel)) ggX7_liftFault_X3_cellAt
set_option maxRecDepth 20000 in
theorem ggX7_liftFault_X3_distance : GoodIn wsX7_liftFault wsX3_distance := goodIn_r _ [35, 36, 37, 38, 39, 40, 41, 23, 42, 43, 44, 45] (by decide +kernel) (by decide +kernel)
set_option maxRecDepth 20000 in
theorem gX7_liftFault_X3_distance : GoodIn wsX7_liftFault (va_wsS RX7 114 yX3_distance wsX3_distance) := goodIn_app (goodIn_of _ (by decide +kernel)) ggX7_liftFault_X3_distance
set_option maxRecDepth 20000 in
theorem ggX7_liftFault_X7_topStoneAt : GoodIn wsX7_liftFault wsX7_topStoneAt := goodIn_ca (goodIn_r _ [49, 50, 19, 54, 55, 56, 57, 58, 59, 60, 61, 62, 63, 64, 65, 66, 67, 68] (by decide +kernel) (by decide +kernel)) (goodIn_sub (fun _ h => List.mem_cons_of_mem _ (List.mem_append_right _ h)) (by decide +kernel))
set_option maxRecDepth 20000 in
theorem gX7_liftFault_X7_topStoneAt : GoodIn wsX7_liftFault (wsV RX7 117 RX7 yX7_topStoneAt wsX7_topStoneAt) := goodIn_app (goodIn_of _ (by decide +kernel)) ggX7_liftFault_X7_topStoneAt
set_option maxRecDepth 20000 in
theorem ggX7_liftFault_X7_weightOf : GoodIn wsX7_liftFault wsX7_weightOf := goodIn_r _ [53] (by decide +kernel) (by decide +kernel)
set_option maxRecDepth 20000 in
theorem gX7_liftFault_X7_weightOf : GoodIn wsX7_liftFault (va_wsS RX7 121 yX7_weightOf wsX7_weightOf) := goodIn_app (goodIn_of _ (by decide +kernel)) ggX7_liftFault_X7_weightOf
theorem dX7_liftFault_0 : decode cX7_liftFault 0 = .ok (.aload_n 0, 1) := by decide +kernel
theorem dX7_liftFault_1 : decode cX7_liftFault 1 = .ok (.iload_n 1, 1) := by decide +kernel
theorem dX7_liftFault_2 : decode cX7_liftFault 2 = .ok (.invokevirtual 108, 3) := by decide +kernel
theorem dX7_liftFault_5 : decode cX7_liftFault 5 = .ok (.ifCond .ne 7, 3) := by decide +kernel
theorem dX7_liftFault_8 : decode cX7_liftFault 8 = .ok (.getstatic 79, 3) := by decide +kernel
theorem dX7_liftFault_11 : decode cX7_liftFault 11 = .ok (.areturn, 1) := by decide +kernel
theorem dX7_liftFault_12 : decode cX7_liftFault 12 = .ok (.aload_n 0, 1) := by decide +kernel
theorem dX7_liftFault_13 : decode cX7_liftFault 13 = .ok (.iload_n 2, 1) := by decide +kernel
theorem dX7_liftFault_14 : decode cX7_liftFault 14 = .ok (.iload_n 3, 1) := by decide +kernel
theorem dX7_liftFault_15 : decode cX7_liftFault 15 = .ok (.invokevirtual 111, 3) := by decide +kernel
theorem dX7_liftFault_18 : decode cX7_liftFault 18 = .ok (.astore 4, 2) := by decide +kernel
theorem dX7_liftFault_20 : decode cX7_liftFault 20 = .ok (.aload 4, 2) := by decide +kernel
theorem dX7_liftFault_22 : decode cX7_liftFault 22 = .ok (.getstatic 66, 3) := by decide +kernel
theorem dX7_liftFault_25 : decode cX7_liftFault 25 = .ok (.if_acmp .eq 6, 3) := by decide +kernel
theorem dX7_liftFault_28 : decode cX7_liftFault 28 = .ok (.aload 4, 2) := by decide +kernel
theorem dX7_liftFault_30 : decode cX7_liftFault 30 = .ok (.areturn, 1) := by decide +kernel
theorem dX7_liftFault_31 : decode cX7_liftFault 31 = .ok (.iload_n 2, 1) := by decide +kernel
theorem dX7_liftFault_32 : decode cX7_liftFault 32 = .ok (.iload_n 3, 1) := by decide +kernel
theorem dX7_liftFault_33 : decode cX7_liftFault 33 = .ok (.invokestatic 86, 3) := by decide +kernel
theorem dX7_liftFault_36 : decode cX7_liftFault 36 = .ok (.istore 5, 2) := by decide +kernel
theorem dX7_liftFault_38 : decode cX7_liftFault 38 = .ok (.aload_n 0, 1) := by decide +kernel
theorem dX7_liftFault_39 : decode cX7_liftFault 39 = .ok (.getfield 18, 3) := by decide +kernel
theorem dX7_liftFault_42 : decode cX7_liftFault 42 = .ok (.iload 5, 2) := by decide +kernel
theorem dX7_liftFault_44 : decode cX7_liftFault 44 = .ok (.baload, 1) := by decide +kernel
theorem dX7_liftFault_45 : decode cX7_liftFault 45 = .ok (.ifCond .eq 7, 3) := by decide +kernel
theorem dX7_liftFault_48 : decode cX7_liftFault 48 = .ok (.getstatic 90, 3) := by decide +kernel
theorem dX7_liftFault_51 : decode cX7_liftFault 51 = .ok (.areturn, 1) := by decide +kernel
theorem dX7_liftFault_52 : decode cX7_liftFault 52 = .ok (.aload_n 0, 1) := by decide +kernel
theorem dX7_liftFault_53 : decode cX7_liftFault 53 = .ok (.getfield 28, 3) := by decide +kernel
theorem dX7_liftFault_56 : decode cX7_liftFault 56 = .ok (.iload_n 1, 1) := by decide +kernel
theorem dX7_liftFault_57 : decode cX7_liftFault 57 = .ok (.iaload, 1) := by decide +kernel
theorem dX7_liftFault_58 : decode cX7_liftFault 58 = .ok (.iload 5, 2) := by decide +kernel
theorem dX7_liftFault_60 : decode cX7_liftFault 60 = .ok (.invokestatic 114, 3) := by decide +kernel
theorem dX7_liftFault_63 : decode cX7_liftFault 63 = .ok (.aload_n 0, 1) := by decide +kernel
theorem dX7_liftFault_64 : decode cX7_liftFault 64 = .ok (.getfield 34, 3) := by decide +kernel
theorem dX7_liftFault_67 : decode cX7_liftFault 67 = .ok (.iload_n 1, 1) := by decide +kernel
theorem dX7_liftFault_68 : decode cX7_liftFault 68 = .ok (.iaload, 1) := by decide +kernel
theorem dX7_liftFault_69 : decode cX7_liftFault 69 = .ok (.if_icmp .gt 7, 3) := by decide +kernel
theorem dX7_liftFault_72 : decode cX7_liftFault 72 = .ok (.iconst 1, 1) := by decide +kernel
theorem dX7_liftFault_73 : decode cX7_liftFault 73 = .ok (.goto 4, 3) := by decide +kernel
theorem dX7_liftFault_76 : decode cX7_liftFault 76 = .ok (.iconst 0, 1) := by decide +kernel
theorem dX7_liftFault_77 : decode cX7_liftFault 77 = .ok (.istore 6, 2) := by decide +kernel
theorem dX7_liftFault_79 : decode cX7_liftFault 79 = .ok (.aload_n 0, 1) := by decide +kernel
theorem dX7_liftFault_80 : decode cX7_liftFault 80 = .ok (.iload 5, 2) := by decide +kernel
theorem dX7_liftFault_82 : decode cX7_liftFault 82 = .ok (.invokevirtual 117, 3) := by decide +kernel
theorem dX7_liftFault_85 : decode cX7_liftFault 85 = .ok (.invokestatic 121, 3) := by decide +kernel
theorem dX7_liftFault_88 : decode cX7_liftFault 88 = .ok (.aload_n 0, 1) := by decide +kernel
theorem dX7_liftFault_89 : decode cX7_liftFault 89 = .ok (.getfield 31, 3) := by decide +kernel
theorem dX7_liftFault_92 : decode cX7_liftFault 92 = .ok (.iload_n 1, 1) := by decide +kernel
theorem dX7_liftFault_93 : decode cX7_liftFault 93 = .ok (.iaload, 1) := by decide +kernel
theorem dX7_liftFault_94 : decode cX7_liftFault 94 = .ok (.if_icmp .gt 7, 3) := by decide +kernel
theorem dX7_liftFault_97 : decode cX7_liftFault 97 = .ok (.iconst 1, 1) := by decide +kernel
theorem dX7_liftFault_98 : decode cX7_liftFault 98 = .ok (.goto 4, 3) := by decide +kernel
theorem dX7_liftFault_101 : decode cX7_liftFault 101 = .ok (.iconst 0, 1) := by decide +kernel
theorem dX7_liftFault_102 : decode cX7_liftFault 102 = .ok (.istore 7, 2) := by decide +kernel
theorem dX7_liftFault_104 : decode cX7_liftFault 104 = .ok (.iload 6, 2) := by decide +kernel
theorem dX7_liftFault_106 : decode cX7_liftFault 106 = .ok (.ifCond .eq 14, 3) := by decide +kernel
theorem dX7_liftFault_109 : decode cX7_liftFault 109 = .ok (.iload 7, 2) := by decide +kernel
theorem dX7_liftFault_111 : decode cX7_liftFault 111 = .ok (.ifCond .eq 9, 3) := by decide +kernel
theorem dX7_liftFault_114 : decode cX7_liftFault 114 = .ok (.getstatic 66, 3) := by decide +kernel
theorem dX7_liftFault_117 : decode cX7_liftFault 117 = .ok (.goto 6, 3) := by decide +kernel
theorem dX7_liftFault_120 : decode cX7_liftFault 120 = .ok (.getstatic 96, 3) := by decide +kernel
theorem dX7_liftFault_123 : decode cX7_liftFault 123 = .ok (.areturn, 1) := by decide +kernel
set_option maxRecDepth 20000 in
theorem ggX7_crushFault_X7_isStone : GoodIn wsX7_crushFault wsX7_isStone := goodIn_r _ [8] (by decide +kernel) (by decide +kernel)
set_option maxRecDepth 20000 in
theorem gX7_crushFault_X7_isStone : GoodIn wsX7_crushFault (va_wsS RX7 82 yX7_isStone wsX7_isStone) := goodIn_app (goodIn_of _ (by decide +kernel)) ggX7_crushFault_X7_isStone
theorem dX7_crushFault_0 : decode cX7_crushFault 0 = .ok (.iload_n 1, 1) := by decide +kernel
theorem dX7_crushFault_1 : decode cX7_crushFault 1 = .ok (.invokestatic 82, 3) := by decide +kernel
theorem dX7_crushFault_4 : decode cX7_crushFault 4 = .ok (.ifCond .eq 14, 3) := by decide +kernel
theorem dX7_crushFault_7 : decode cX7_crushFault 7 = .ok (.iload_n 2, 1) := by decide +kernel
theorem dX7_crushFault_8 : decode cX7_crushFault 8 = .ok (.iconst 1, 1) := by decide +kernel
theorem dX7_crushFault_9 : decode cX7_crushFault 9 = .ok (.if_icmp .lt 9, 3) := by decide +kernel
theorem dX7_crushFault_12 : decode cX7_crushFault 12 = .ok (.iload_n 2, 1) := by decide +kernel
theorem dX7_crushFault_13 : decode cX7_crushFault 13 = .ok (.bipush 20, 2) := by decide +kernel
theorem dX7_crushFault_15 : decode cX7_crushFault 15 = .ok (.if_icmp .le 7, 3) := by decide +kernel
theorem dX7_crushFault_18 : decode cX7_crushFault 18 = .ok (.getstatic 72, 3) := by decide +kernel
theorem dX7_crushFault_21 : decode cX7_crushFault 21 = .ok (.areturn, 1) := by decide +kernel
theorem dX7_crushFault_22 : decode cX7_crushFault 22 = .ok (.aload_n 0, 1) := by decide +kernel
theorem dX7_crushFault_23 : decode cX7_crushFault 23 = .ok (.getfield 37, 3) := by decide +kernel
theorem dX7_crushFault_26 : decode cX7_crushFault 26 = .ok (.iload_n 1, 1) := by decide +kernel
theorem dX7_crushFault_27 : decode cX7_crushFault 27 = .ok (.iaload, 1) := by decide +kernel
theorem dX7_crushFault_28 : decode cX7_crushFault 28 = .ok (.iload_n 2, 1) := by decide +kernel
theorem dX7_crushFault_29 : decode cX7_crushFault 29 = .ok (.if_icmp .lt 9, 3) := by decide +kernel
theorem dX7_crushFault_32 : decode cX7_crushFault 32 = .ok (.getstatic 66, 3) := by decide +kernel
theorem dX7_crushFault_35 : decode cX7_crushFault 35 = .ok (.goto 6, 3) := by decide +kernel
theorem dX7_crushFault_38 : decode cX7_crushFault 38 = .ok (.getstatic 90, 3) := by decide +kernel
theorem dX7_crushFault_41 : decode cX7_crushFault 41 = .ok (.areturn, 1) := by decide +kernel
set_option maxRecDepth 20000 in
theorem ggX7_lowerFault_X3_cellFault : GoodIn wsX7_lowerFault wsX3_cellFault := goodIn_r _ [8, 9, 10, 11, 12, 7, 13] (by decide +kernel) (by decide +kernel)
set_option maxRecDepth 20000 in
theorem gX7_lowerFault_X3_cellFault : GoodIn wsX7_lowerFault (va_wsS RX7 75 yX3_cellFault wsX3_cellFault) := goodIn_app (goodIn_of _ (by decide +kernel)) ggX7_lowerFault_X3_cellFault
set_option maxRecDepth 20000 in
theorem ggX7_lowerFault_X3_cellAt : GoodIn wsX7_lowerFault wsX3_cellAt := goodIn_r _ [16] (by decide +kernel) (by decide +kernel)
set_option maxRecDepth 20000 in
theorem gX7_lowerFault_X3_cellAt : GoodIn wsX7_lowerFault (va_wsS RX7 86 yX3_cellAt wsX3_cellAt) := goodIn_app (goodIn_of _ (by decide +kernel)) ggX7_lowerFault_X3_cellAt
theorem dX7_lowerFault_0 : decode cX7_lowerFault 0 = .ok (.iload_n 1, 1) := by decide +kernel
theorem dX7_lowerFault_1 : decode cX7_lowerFault 1 = .ok (.iload_n 2, 1) := by decide +kernel
theorem dX7_lowerFault_2 : decode cX7_lowerFault 2 = .ok (.invokestatic 75, 3) := by decide +kernel
theorem dX7_lowerFault_5 : decode cX7_lowerFault 5 = .ok (.getstatic 66, 3) := by decide +kernel
theorem dX7_lowerFault_8 : decode cX7_lowerFault 8 = .ok (.if_acmp .eq 7, 3) := by decide +kernel
theorem dX7_lowerFault_11 : decode cX7_lowerFault 11 = .ok (.getstatic 79, 3) := by decide +kernel
theorem dX7_lowerFault_14 : decode cX7_lowerFault 14 = .ok (.areturn, 1) := by decide +kernel
theorem dX7_lowerFault_15 : decode cX7_lowerFault 15 = .ok (.iload_n 3, 1) := by decide +kernel
theorem dX7_lowerFault_16 : decode cX7_lowerFault 16 = .ok (.ifCond .lt 21, 3) := by decide +kernel
theorem dX7_lowerFault_19 : decode cX7_lowerFault 19 = .ok (.iload_n 3, 1) := by decide +kernel
theorem dX7_lowerFault_20 : decode cX7_lowerFault 20 = .ok (.aload_n 0, 1) := by decide +kernel
theorem dX7_lowerFault_21 : decode cX7_lowerFault 21 = .ok (.getfield 9, 3) := by decide +kernel
theorem dX7_lowerFault_24 : decode cX7_lowerFault 24 = .ok (.iload_n 1, 1) := by decide +kernel
theorem dX7_lowerFault_25 : decode cX7_lowerFault 25 = .ok (.iload_n 2, 1) := by decide +kernel
theorem dX7_lowerFault_26 : decode cX7_lowerFault 26 = .ok (.invokestatic 86, 3) := by decide +kernel
theorem dX7_lowerFault_29 : decode cX7_lowerFault 29 = .ok (.iaload, 1) := by decide +kernel
theorem dX7_lowerFault_30 : decode cX7_lowerFault 30 = .ok (.if_icmp .gt 7, 3) := by decide +kernel
theorem dX7_lowerFault_33 : decode cX7_lowerFault 33 = .ok (.iconst 1, 1) := by decide +kernel
theorem dX7_lowerFault_34 : decode cX7_lowerFault 34 = .ok (.goto 4, 3) := by decide +kernel
theorem dX7_lowerFault_37 : decode cX7_lowerFault 37 = .ok (.iconst 0, 1) := by decide +kernel
theorem dX7_lowerFault_38 : decode cX7_lowerFault 38 = .ok (.istore 4, 2) := by decide +kernel
theorem dX7_lowerFault_40 : decode cX7_lowerFault 40 = .ok (.iload 4, 2) := by decide +kernel
theorem dX7_lowerFault_42 : decode cX7_lowerFault 42 = .ok (.ifCond .eq 9, 3) := by decide +kernel
theorem dX7_lowerFault_45 : decode cX7_lowerFault 45 = .ok (.getstatic 66, 3) := by decide +kernel
theorem dX7_lowerFault_48 : decode cX7_lowerFault 48 = .ok (.goto 6, 3) := by decide +kernel
theorem dX7_lowerFault_51 : decode cX7_lowerFault 51 = .ok (.getstatic 72, 3) := by decide +kernel
theorem dX7_lowerFault_54 : decode cX7_lowerFault 54 = .ok (.areturn, 1) := by decide +kernel
set_option maxRecDepth 20000 in
theorem ggX7_changeStone_X3_cellAt : GoodIn wsX7_changeStone wsX3_cellAt := goodIn_r _ [5] (by decide +kernel) (by decide +kernel)
set_option maxRecDepth 20000 in
theorem gX7_changeStone_X3_cellAt : GoodIn wsX7_changeStone (va_wsS RX7 86 yX3_cellAt wsX3_cellAt) := goodIn_app (goodIn_of _ (by decide +kernel)) ggX7_changeStone_X3_cellAt
theorem dX7_changeStone_0 : decode cX7_changeStone 0 = .ok (.iload_n 1, 1) := by decide +kernel
theorem dX7_changeStone_1 : decode cX7_changeStone 1 = .ok (.iload_n 2, 1) := by decide +kernel
theorem dX7_changeStone_2 : decode cX7_changeStone 2 = .ok (.invokestatic 86, 3) := by decide +kernel
theorem dX7_changeStone_5 : decode cX7_changeStone 5 = .ok (.istore 4, 2) := by decide +kernel
theorem dX7_changeStone_7 : decode cX7_changeStone 7 = .ok (.aload_n 0, 1) := by decide +kernel
theorem dX7_changeStone_8 : decode cX7_changeStone 8 = .ok (.getfield 15, 3) := by decide +kernel
theorem dX7_changeStone_11 : decode cX7_changeStone 11 = .ok (.iload 4, 2) := by decide +kernel
theorem dX7_changeStone_13 : decode cX7_changeStone 13 = .ok (.iaload, 1) := by decide +kernel
theorem dX7_changeStone_14 : decode cX7_changeStone 14 = .ok (.istore 5, 2) := by decide +kernel
theorem dX7_changeStone_16 : decode cX7_changeStone 16 = .ok (.aload_n 0, 1) := by decide +kernel
theorem dX7_changeStone_17 : decode cX7_changeStone 17 = .ok (.getfield 15, 3) := by decide +kernel
theorem dX7_changeStone_20 : decode cX7_changeStone 20 = .ok (.iload 4, 2) := by decide +kernel
theorem dX7_changeStone_22 : decode cX7_changeStone 22 = .ok (.iload_n 3, 1) := by decide +kernel
theorem dX7_changeStone_23 : decode cX7_changeStone 23 = .ok (.iastore, 1) := by decide +kernel
theorem dX7_changeStone_24 : decode cX7_changeStone 24 = .ok (.iload 5, 2) := by decide +kernel
theorem dX7_changeStone_26 : decode cX7_changeStone 26 = .ok (.ireturn, 1) := by decide +kernel
set_option maxRecDepth 20000 in
theorem ggX7_cutCell_X3_cellAt : GoodIn wsX7_cutCell wsX3_cellAt := goodIn_r _ [9] (by decide +kernel) (by decide +kernel)
set_option maxRecDepth 20000 in
theorem gX7_cutCell_X3_cellAt : GoodIn wsX7_cutCell (va_wsS RX7 86 yX3_cellAt wsX3_cellAt) := goodIn_app (goodIn_of _ (by decide +kernel)) ggX7_cutCell_X3_cellAt
theorem dX7_cutCell_0 : decode cX7_cutCell 0 = .ok (.iload_n 1, 1) := by decide +kernel
theorem dX7_cutCell_1 : decode cX7_cutCell 1 = .ok (.iload_n 2, 1) := by decide +kernel
theorem dX7_cutCell_2 : decode cX7_cutCell 2 = .ok (.invokestatic 86, 3) := by decide +kernel
theorem dX7_cutCell_5 : decode cX7_cutCell 5 = .ok (.istore_n 3, 1) := by decide +kernel
theorem dX7_cutCell_6 : decode cX7_cutCell 6 = .ok (.aload_n 0, 1) := by decide +kernel
theorem dX7_cutCell_7 : decode cX7_cutCell 7 = .ok (.getfield 25, 3) := by decide +kernel
theorem dX7_cutCell_10 : decode cX7_cutCell 10 = .ok (.iload_n 3, 1) := by decide +kernel
theorem dX7_cutCell_11 : decode cX7_cutCell 11 = .ok (.iconst 3, 1) := by decide +kernel
theorem dX7_cutCell_12 : decode cX7_cutCell 12 = .ok (.imul, 1) := by decide +kernel
theorem dX7_cutCell_13 : decode cX7_cutCell 13 = .ok (.aload_n 0, 1) := by decide +kernel
theorem dX7_cutCell_14 : decode cX7_cutCell 14 = .ok (.getfield 22, 3) := by decide +kernel
theorem dX7_cutCell_17 : decode cX7_cutCell 17 = .ok (.iload_n 3, 1) := by decide +kernel
theorem dX7_cutCell_18 : decode cX7_cutCell 18 = .ok (.iaload, 1) := by decide +kernel
theorem dX7_cutCell_19 : decode cX7_cutCell 19 = .ok (.iadd, 1) := by decide +kernel
theorem dX7_cutCell_20 : decode cX7_cutCell 20 = .ok (.aload_n 0, 1) := by decide +kernel
theorem dX7_cutCell_21 : decode cX7_cutCell 21 = .ok (.getfield 15, 3) := by decide +kernel
theorem dX7_cutCell_24 : decode cX7_cutCell 24 = .ok (.iload_n 3, 1) := by decide +kernel
theorem dX7_cutCell_25 : decode cX7_cutCell 25 = .ok (.iaload, 1) := by decide +kernel
theorem dX7_cutCell_26 : decode cX7_cutCell 26 = .ok (.iastore, 1) := by decide +kernel
theorem dX7_cutCell_27 : decode cX7_cutCell 27 = .ok (.aload_n 0, 1) := by decide +kernel
theorem dX7_cutCell_28 : decode cX7_cutCell 28 = .ok (.getfield 22, 3) := by decide +kernel
theorem dX7_cutCell_31 : decode cX7_cutCell 31 = .ok (.iload_n 3, 1) := by decide +kernel
theorem dX7_cutCell_32 : decode cX7_cutCell 32 = .ok (.dup2, 1) := by decide +kernel
theorem dX7_cutCell_33 : decode cX7_cutCell 33 = .ok (.iaload, 1) := by decide +kernel
theorem dX7_cutCell_34 : decode cX7_cutCell 34 = .ok (.iconst 1, 1) := by decide +kernel
theorem dX7_cutCell_35 : decode cX7_cutCell 35 = .ok (.iadd, 1) := by decide +kernel
theorem dX7_cutCell_36 : decode cX7_cutCell 36 = .ok (.iastore, 1) := by decide +kernel
theorem dX7_cutCell_37 : decode cX7_cutCell 37 = .ok (.aload_n 0, 1) := by decide +kernel
theorem dX7_cutCell_38 : decode cX7_cutCell 38 = .ok (.dup, 1) := by decide +kernel
theorem dX7_cutCell_39 : decode cX7_cutCell 39 = .ok (.getfield 56, 3) := by decide +kernel
theorem dX7_cutCell_42 : decode cX7_cutCell 42 = .ok (.iconst 1, 1) := by decide +kernel
theorem dX7_cutCell_43 : decode cX7_cutCell 43 = .ok (.iadd, 1) := by decide +kernel
theorem dX7_cutCell_44 : decode cX7_cutCell 44 = .ok (.putfield 56, 3) := by decide +kernel
theorem dX7_cutCell_47 : decode cX7_cutCell 47 = .ok (.aload_n 0, 1) := by decide +kernel
theorem dX7_cutCell_48 : decode cX7_cutCell 48 = .ok (.getfield 9, 3) := by decide +kernel
theorem dX7_cutCell_51 : decode cX7_cutCell 51 = .ok (.iload_n 3, 1) := by decide +kernel
theorem dX7_cutCell_52 : decode cX7_cutCell 52 = .ok (.dup2, 1) := by decide +kernel
theorem dX7_cutCell_53 : decode cX7_cutCell 53 = .ok (.iaload, 1) := by decide +kernel
theorem dX7_cutCell_54 : decode cX7_cutCell 54 = .ok (.iconst 1, 1) := by decide +kernel
theorem dX7_cutCell_55 : decode cX7_cutCell 55 = .ok (.isub, 1) := by decide +kernel
theorem dX7_cutCell_56 : decode cX7_cutCell 56 = .ok (.iastore, 1) := by decide +kernel
theorem dX7_cutCell_57 : decode cX7_cutCell 57 = .ok (.aload_n 0, 1) := by decide +kernel
theorem dX7_cutCell_58 : decode cX7_cutCell 58 = .ok (.getfield 9, 3) := by decide +kernel
theorem dX7_cutCell_61 : decode cX7_cutCell 61 = .ok (.iload_n 3, 1) := by decide +kernel
theorem dX7_cutCell_62 : decode cX7_cutCell 62 = .ok (.iaload, 1) := by decide +kernel
theorem dX7_cutCell_63 : decode cX7_cutCell 63 = .ok (.ireturn, 1) := by decide +kernel
set_option maxRecDepth 20000 in
theorem ggX7_fillCell_X3_cellAt : GoodIn wsX7_fillCell wsX3_cellAt := goodIn_r _ [6] (by decide +kernel) (by decide +kernel)
set_option maxRecDepth 20000 in
theorem gX7_fillCell_X3_cellAt : GoodIn wsX7_fillCell (va_wsS RX7 86 yX3_cellAt wsX3_cellAt) := goodIn_app (goodIn_of _ (by decide +kernel)) ggX7_fillCell_X3_cellAt
theorem dX7_fillCell_0 : decode cX7_fillCell 0 = .ok (.iload_n 1, 1) := by decide +kernel
theorem dX7_fillCell_1 : decode cX7_fillCell 1 = .ok (.iload_n 2, 1) := by decide +kernel
theorem dX7_fillCell_2 : decode cX7_fillCell 2 = .ok (.invokestatic 86, 3) := by decide +kernel
theorem dX7_fillCell_5 : decode cX7_fillCell 5 = .ok (.istore_n 3, 1) := by decide +kernel
theorem dX7_fillCell_6 : decode cX7_fillCell 6 = .ok (.aload_n 0, 1) := by decide +kernel
theorem dX7_fillCell_7 : decode cX7_fillCell 7 = .ok (.dup, 1) := by decide +kernel
theorem dX7_fillCell_8 : decode cX7_fillCell 8 = .ok (.getfield 44, 3) := by decide +kernel
theorem dX7_fillCell_11 : decode cX7_fillCell 11 = .ok (.iconst 1, 1) := by decide +kernel
theorem dX7_fillCell_12 : decode cX7_fillCell 12 = .ok (.isub, 1) := by decide +kernel
theorem dX7_fillCell_13 : decode cX7_fillCell 13 = .ok (.putfield 44, 3) := by decide +kernel
theorem dX7_fillCell_16 : decode cX7_fillCell 16 = .ok (.aload_n 0, 1) := by decide +kernel
theorem dX7_fillCell_17 : decode cX7_fillCell 17 = .ok (.getfield 9, 3) := by decide +kernel
theorem dX7_fillCell_20 : decode cX7_fillCell 20 = .ok (.iload_n 3, 1) := by decide +kernel
theorem dX7_fillCell_21 : decode cX7_fillCell 21 = .ok (.dup2, 1) := by decide +kernel
theorem dX7_fillCell_22 : decode cX7_fillCell 22 = .ok (.iaload, 1) := by decide +kernel
theorem dX7_fillCell_23 : decode cX7_fillCell 23 = .ok (.iconst 1, 1) := by decide +kernel
theorem dX7_fillCell_24 : decode cX7_fillCell 24 = .ok (.iadd, 1) := by decide +kernel
theorem dX7_fillCell_25 : decode cX7_fillCell 25 = .ok (.iastore, 1) := by decide +kernel
theorem dX7_fillCell_26 : decode cX7_fillCell 26 = .ok (.aload_n 0, 1) := by decide +kernel
theorem dX7_fillCell_27 : decode cX7_fillCell 27 = .ok (.getfield 9, 3) := by decide +kernel
theorem dX7_fillCell_30 : decode cX7_fillCell 30 = .ok (.iload_n 3, 1) := by decide +kernel
theorem dX7_fillCell_31 : decode cX7_fillCell 31 = .ok (.iaload, 1) := by decide +kernel
theorem dX7_fillCell_32 : decode cX7_fillCell 32 = .ok (.ireturn, 1) := by decide +kernel
set_option maxRecDepth 20000 in
theorem ggX7_switchLedge_X3_cellAt : GoodIn wsX7_switchLedge wsX3_cellAt := goodIn_r _ [5] (by decide +kernel) (by decide +kernel)
set_option maxRecDepth 20000 in
theorem gX7_switchLedge_X3_cellAt : GoodIn wsX7_switchLedge (va_wsS RX7 86 yX3_cellAt wsX3_cellAt) := goodIn_app (goodIn_of _ (by decide +kernel)) ggX7_switchLedge_X3_cellAt
theorem dX7_switchLedge_0 : decode cX7_switchLedge 0 = .ok (.iload_n 1, 1) := by decide +kernel
theorem dX7_switchLedge_1 : decode cX7_switchLedge 1 = .ok (.iload_n 2, 1) := by decide +kernel
theorem dX7_switchLedge_2 : decode cX7_switchLedge 2 = .ok (.invokestatic 86, 3) := by decide +kernel
theorem dX7_switchLedge_5 : decode cX7_switchLedge 5 = .ok (.istore_n 3, 1) := by decide +kernel
theorem dX7_switchLedge_6 : decode cX7_switchLedge 6 = .ok (.aload_n 0, 1) := by decide +kernel
theorem dX7_switchLedge_7 : decode cX7_switchLedge 7 = .ok (.getfield 18, 3) := by decide +kernel
theorem dX7_switchLedge_10 : decode cX7_switchLedge 10 = .ok (.iload_n 3, 1) := by decide +kernel
theorem dX7_switchLedge_11 : decode cX7_switchLedge 11 = .ok (.aload_n 0, 1) := by decide +kernel
theorem dX7_switchLedge_12 : decode cX7_switchLedge 12 = .ok (.getfield 18, 3) := by decide +kernel
theorem dX7_switchLedge_15 : decode cX7_switchLedge 15 = .ok (.iload_n 3, 1) := by decide +kernel
theorem dX7_switchLedge_16 : decode cX7_switchLedge 16 = .ok (.baload, 1) := by decide +kernel
theorem dX7_switchLedge_17 : decode cX7_switchLedge 17 = .ok (.ifCond .ne 7, 3) := by decide +kernel
theorem dX7_switchLedge_20 : decode cX7_switchLedge 20 = .ok (.iconst 1, 1) := by decide +kernel
theorem dX7_switchLedge_21 : decode cX7_switchLedge 21 = .ok (.goto 4, 3) := by decide +kernel
theorem dX7_switchLedge_24 : decode cX7_switchLedge 24 = .ok (.iconst 0, 1) := by decide +kernel
theorem dX7_switchLedge_25 : decode cX7_switchLedge 25 = .ok (.bastore, 1) := by decide +kernel
theorem dX7_switchLedge_26 : decode cX7_switchLedge 26 = .ok (.aload_n 0, 1) := by decide +kernel
theorem dX7_switchLedge_27 : decode cX7_switchLedge 27 = .ok (.getfield 18, 3) := by decide +kernel
theorem dX7_switchLedge_30 : decode cX7_switchLedge 30 = .ok (.iload_n 3, 1) := by decide +kernel
theorem dX7_switchLedge_31 : decode cX7_switchLedge 31 = .ok (.baload, 1) := by decide +kernel
theorem dX7_switchLedge_32 : decode cX7_switchLedge 32 = .ok (.ireturn, 1) := by decide +kernel
theorem dX7_changeLimit_0 : decode cX7_changeLimit 0 = .ok (.aload_n 0, 1) := by decide +kernel
theorem dX7_changeLimit_1 : decode cX7_changeLimit 1 = .ok (.getfield 40, 3) := by decide +kernel
theorem dX7_changeLimit_4 : decode cX7_changeLimit 4 = .ok (.istore_n 2, 1) := by decide +kernel
theorem dX7_changeLimit_5 : decode cX7_changeLimit 5 = .ok (.aload_n 0, 1) := by decide +kernel
theorem dX7_changeLimit_6 : decode cX7_changeLimit 6 = .ok (.iload_n 1, 1) := by decide +kernel
theorem dX7_changeLimit_7 : decode cX7_changeLimit 7 = .ok (.putfield 40, 3) := by decide +kernel
theorem dX7_changeLimit_10 : decode cX7_changeLimit 10 = .ok (.iload_n 2, 1) := by decide +kernel
theorem dX7_changeLimit_11 : decode cX7_changeLimit 11 = .ok (.ireturn, 1) := by decide +kernel
set_option maxRecDepth 20000 in
theorem ggX7_placeWinch_X3_cellAt : GoodIn wsX7_placeWinch wsX3_cellAt := goodIn_r _ [8] (by decide +kernel) (by decide +kernel)
set_option maxRecDepth 20000 in
theorem gX7_placeWinch_X3_cellAt : GoodIn wsX7_placeWinch (va_wsS RX7 86 yX3_cellAt wsX3_cellAt) := goodIn_app (goodIn_of _ (by decide +kernel)) ggX7_placeWinch_X3_cellAt
theorem dX7_placeWinch_0 : decode cX7_placeWinch 0 = .ok (.aload_n 0, 1) := by decide +kernel
theorem dX7_placeWinch_1 : decode cX7_placeWinch 1 = .ok (.getfield 53, 3) := by decide +kernel
theorem dX7_placeWinch_4 : decode cX7_placeWinch 4 = .ok (.istore 5, 2) := by decide +kernel
theorem dX7_placeWinch_6 : decode cX7_placeWinch 6 = .ok (.aload_n 0, 1) := by decide +kernel
theorem dX7_placeWinch_7 : decode cX7_placeWinch 7 = .ok (.getfield 28, 3) := by decide +kernel
theorem dX7_placeWinch_10 : decode cX7_placeWinch 10 = .ok (.iload 5, 2) := by decide +kernel
theorem dX7_placeWinch_12 : decode cX7_placeWinch 12 = .ok (.iload_n 1, 1) := by decide +kernel
theorem dX7_placeWinch_13 : decode cX7_placeWinch 13 = .ok (.iload_n 2, 1) := by decide +kernel
theorem dX7_placeWinch_14 : decode cX7_placeWinch 14 = .ok (.invokestatic 86, 3) := by decide +kernel
theorem dX7_placeWinch_17 : decode cX7_placeWinch 17 = .ok (.iastore, 1) := by decide +kernel
theorem dX7_placeWinch_18 : decode cX7_placeWinch 18 = .ok (.aload_n 0, 1) := by decide +kernel
theorem dX7_placeWinch_19 : decode cX7_placeWinch 19 = .ok (.getfield 31, 3) := by decide +kernel
theorem dX7_placeWinch_22 : decode cX7_placeWinch 22 = .ok (.iload 5, 2) := by decide +kernel
theorem dX7_placeWinch_24 : decode cX7_placeWinch 24 = .ok (.iload_n 3, 1) := by decide +kernel
theorem dX7_placeWinch_25 : decode cX7_placeWinch 25 = .ok (.iastore, 1) := by decide +kernel
theorem dX7_placeWinch_26 : decode cX7_placeWinch 26 = .ok (.aload_n 0, 1) := by decide +kernel
theorem dX7_placeWinch_27 : decode cX7_placeWinch 27 = .ok (.getfield 34, 3) := by decide +kernel
theorem dX7_placeWinch_30 : decode cX7_placeWinch 30 = .ok (.iload 5, 2) := by decide +kernel
theorem dX7_placeWinch_32 : decode cX7_placeWinch 32 = .ok (.iload 4, 2) := by decide +kernel
theorem dX7_placeWinch_34 : decode cX7_placeWinch 34 = .ok (.iastore, 1) := by decide +kernel
theorem dX7_placeWinch_35 : decode cX7_placeWinch 35 = .ok (.aload_n 0, 1) := by decide +kernel
theorem dX7_placeWinch_36 : decode cX7_placeWinch 36 = .ok (.dup, 1) := by decide +kernel
theorem dX7_placeWinch_37 : decode cX7_placeWinch 37 = .ok (.getfield 53, 3) := by decide +kernel
theorem dX7_placeWinch_40 : decode cX7_placeWinch 40 = .ok (.iconst 1, 1) := by decide +kernel
theorem dX7_placeWinch_41 : decode cX7_placeWinch 41 = .ok (.iadd, 1) := by decide +kernel
theorem dX7_placeWinch_42 : decode cX7_placeWinch 42 = .ok (.putfield 53, 3) := by decide +kernel
theorem dX7_placeWinch_45 : decode cX7_placeWinch 45 = .ok (.iload 5, 2) := by decide +kernel
theorem dX7_placeWinch_47 : decode cX7_placeWinch 47 = .ok (.ireturn, 1) := by decide +kernel
set_option maxRecDepth 20000 in
theorem ggX7_liftBlock_X3_cellAt : GoodIn wsX7_liftBlock wsX3_cellAt := goodIn_r _ [9] (by decide +kernel) (by decide +kernel)
set_option maxRecDepth 20000 in
theorem gX7_liftBlock_X3_cellAt : GoodIn wsX7_liftBlock (va_wsS RX7 86 yX3_cellAt wsX3_cellAt) := goodIn_app (goodIn_of _ (by decide +kernel)) ggX7_liftBlock_X3_cellAt
set_option maxRecDepth 20000 in
theorem ggX7_liftBlock_X7_topStoneAt : GoodIn wsX7_liftBlock wsX7_topStoneAt := goodIn_ca (goodIn_r _ [14, 15, 2, 19, 20, 21, 22, 23, 24, 25, 26, 27, 28, 29, 30, 31, 32, 33] (by decide +kernel) (by decide +kernel)) (goodIn_sub (fun _ h => List.mem_cons_of_mem _ (List.mem_append_right _ h)) (by decide +kernel))
set_option maxRecDepth 20000 in
theorem gX7_liftBlock_X7_topStoneAt : GoodIn wsX7_liftBlock (wsV RX7 117 RX7 yX7_topStoneAt wsX7_topStoneAt) := goodIn_app (goodIn_of _ (by decide +kernel)) ggX7_liftBlock_X7_topStoneAt
set_option maxRecDepth 20000 in
theorem ggX7_liftBlock_X7_weightOf : GoodIn wsX7_liftBlock wsX7_weightOf := goodIn_r _ [18] (by decide +kernel) (by decide +kernel)
set_option maxRecDepth 20000 in
theorem gX7_liftBlock_X7_weightOf : GoodIn wsX7_liftBlock (va_wsS RX7 121 yX7_weightOf wsX7_weightOf) := goodIn_app (goodIn_of _ (by decide +kernel)) ggX7_liftBlock_X7_weightOf
theorem dX7_liftBlock_0 : decode cX7_liftBlock 0 = .ok (.iload_n 1, 1) := by decide +kernel
theorem dX7_liftBlock_1 : decode cX7_liftBlock 1 = .ok (.iload_n 2, 1) := by decide +kernel
theorem dX7_liftBlock_2 : decode cX7_liftBlock 2 = .ok (.invokestatic 86, 3) := by decide +kernel
theorem dX7_liftBlock_5 : decode cX7_liftBlock 5 = .ok (.istore_n 3, 1) := by decide +kernel
theorem dX7_liftBlock_6 : decode cX7_liftBlock 6 = .ok (.aload_n 0, 1) := by decide +kernel
theorem dX7_liftBlock_7 : decode cX7_liftBlock 7 = .ok (.iload_n 3, 1) := by decide +kernel
theorem dX7_liftBlock_8 : decode cX7_liftBlock 8 = .ok (.invokevirtual 117, 3) := by decide +kernel
theorem dX7_liftBlock_11 : decode cX7_liftBlock 11 = .ok (.istore 4, 2) := by decide +kernel
theorem dX7_liftBlock_13 : decode cX7_liftBlock 13 = .ok (.iload 4, 2) := by decide +kernel
theorem dX7_liftBlock_15 : decode cX7_liftBlock 15 = .ok (.invokestatic 121, 3) := by decide +kernel
theorem dX7_liftBlock_18 : decode cX7_liftBlock 18 = .ok (.bipush 10, 2) := by decide +kernel
theorem dX7_liftBlock_20 : decode cX7_liftBlock 20 = .ok (.aload_n 0, 1) := by decide +kernel
theorem dX7_liftBlock_21 : decode cX7_liftBlock 21 = .ok (.getfield 9, 3) := by decide +kernel
theorem dX7_liftBlock_24 : decode cX7_liftBlock 24 = .ok (.iload_n 3, 1) := by decide +kernel
theorem dX7_liftBlock_25 : decode cX7_liftBlock 25 = .ok (.iaload, 1) := by decide +kernel
theorem dX7_liftBlock_26 : decode cX7_liftBlock 26 = .ok (.isub, 1) := by decide +kernel
theorem dX7_liftBlock_27 : decode cX7_liftBlock 27 = .ok (.imul, 1) := by decide +kernel
theorem dX7_liftBlock_28 : decode cX7_liftBlock 28 = .ok (.istore 5, 2) := by decide +kernel
theorem dX7_liftBlock_30 : decode cX7_liftBlock 30 = .ok (.aload_n 0, 1) := by decide +kernel
theorem dX7_liftBlock_31 : decode cX7_liftBlock 31 = .ok (.getfield 22, 3) := by decide +kernel
theorem dX7_liftBlock_34 : decode cX7_liftBlock 34 = .ok (.iload_n 3, 1) := by decide +kernel
theorem dX7_liftBlock_35 : decode cX7_liftBlock 35 = .ok (.dup2, 1) := by decide +kernel
theorem dX7_liftBlock_36 : decode cX7_liftBlock 36 = .ok (.iaload, 1) := by decide +kernel
theorem dX7_liftBlock_37 : decode cX7_liftBlock 37 = .ok (.iconst 1, 1) := by decide +kernel
theorem dX7_liftBlock_38 : decode cX7_liftBlock 38 = .ok (.isub, 1) := by decide +kernel
theorem dX7_liftBlock_39 : decode cX7_liftBlock 39 = .ok (.iastore, 1) := by decide +kernel
theorem dX7_liftBlock_40 : decode cX7_liftBlock 40 = .ok (.aload_n 0, 1) := by decide +kernel
theorem dX7_liftBlock_41 : decode cX7_liftBlock 41 = .ok (.getfield 37, 3) := by decide +kernel
theorem dX7_liftBlock_44 : decode cX7_liftBlock 44 = .ok (.iload 4, 2) := by decide +kernel
theorem dX7_liftBlock_46 : decode cX7_liftBlock 46 = .ok (.dup2, 1) := by decide +kernel
theorem dX7_liftBlock_47 : decode cX7_liftBlock 47 = .ok (.iaload, 1) := by decide +kernel
theorem dX7_liftBlock_48 : decode cX7_liftBlock 48 = .ok (.iconst 1, 1) := by decide +kernel
theorem dX7_liftBlock_49 : decode cX7_liftBlock 49 = .ok (.iadd, 1) := by decide +kernel
theorem dX7_liftBlock_50 : decode cX7_liftBlock 50 = .ok (.iastore, 1) := by decide +kernel
theorem dX7_liftBlock_51 : decode cX7_liftBlock 51 = .ok (.aload_n 0, 1) := by decide +kernel
theorem dX7_liftBlock_52 : decode cX7_liftBlock 52 = .ok (.dup, 1) := by decide +kernel
theorem dX7_liftBlock_53 : decode cX7_liftBlock 53 = .ok (.getfield 59, 3) := by decide +kernel
theorem dX7_liftBlock_56 : decode cX7_liftBlock 56 = .ok (.iconst 1, 1) := by decide +kernel
theorem dX7_liftBlock_57 : decode cX7_liftBlock 57 = .ok (.iadd, 1) := by decide +kernel
theorem dX7_liftBlock_58 : decode cX7_liftBlock 58 = .ok (.putfield 59, 3) := by decide +kernel
theorem dX7_liftBlock_61 : decode cX7_liftBlock 61 = .ok (.aload_n 0, 1) := by decide +kernel
theorem dX7_liftBlock_62 : decode cX7_liftBlock 62 = .ok (.dup, 1) := by decide +kernel
theorem dX7_liftBlock_63 : decode cX7_liftBlock 63 = .ok (.getfield 62, 3) := by decide +kernel
theorem dX7_liftBlock_66 : decode cX7_liftBlock 66 = .ok (.iload 5, 2) := by decide +kernel
theorem dX7_liftBlock_68 : decode cX7_liftBlock 68 = .ok (.i2l, 1) := by decide +kernel
theorem dX7_liftBlock_69 : decode cX7_liftBlock 69 = .ok (.ladd, 1) := by decide +kernel
theorem dX7_liftBlock_70 : decode cX7_liftBlock 70 = .ok (.putfield 62, 3) := by decide +kernel
theorem dX7_liftBlock_73 : decode cX7_liftBlock 73 = .ok (.iload 5, 2) := by decide +kernel
theorem dX7_liftBlock_75 : decode cX7_liftBlock 75 = .ok (.ireturn, 1) := by decide +kernel
theorem dX7_crushBlocks_0 : decode cX7_crushBlocks 0 = .ok (.aload_n 0, 1) := by decide +kernel
theorem dX7_crushBlocks_1 : decode cX7_crushBlocks 1 = .ok (.getfield 37, 3) := by decide +kernel
theorem dX7_crushBlocks_4 : decode cX7_crushBlocks 4 = .ok (.iload_n 1, 1) := by decide +kernel
theorem dX7_crushBlocks_5 : decode cX7_crushBlocks 5 = .ok (.dup2, 1) := by decide +kernel
theorem dX7_crushBlocks_6 : decode cX7_crushBlocks 6 = .ok (.iaload, 1) := by decide +kernel
theorem dX7_crushBlocks_7 : decode cX7_crushBlocks 7 = .ok (.iload_n 2, 1) := by decide +kernel
theorem dX7_crushBlocks_8 : decode cX7_crushBlocks 8 = .ok (.isub, 1) := by decide +kernel
theorem dX7_crushBlocks_9 : decode cX7_crushBlocks 9 = .ok (.iastore, 1) := by decide +kernel
theorem dX7_crushBlocks_10 : decode cX7_crushBlocks 10 = .ok (.aload_n 0, 1) := by decide +kernel
theorem dX7_crushBlocks_11 : decode cX7_crushBlocks 11 = .ok (.dup, 1) := by decide +kernel
theorem dX7_crushBlocks_12 : decode cX7_crushBlocks 12 = .ok (.getfield 44, 3) := by decide +kernel
theorem dX7_crushBlocks_15 : decode cX7_crushBlocks 15 = .ok (.iconst 2, 1) := by decide +kernel
theorem dX7_crushBlocks_16 : decode cX7_crushBlocks 16 = .ok (.iload_n 2, 1) := by decide +kernel
theorem dX7_crushBlocks_17 : decode cX7_crushBlocks 17 = .ok (.imul, 1) := by decide +kernel
theorem dX7_crushBlocks_18 : decode cX7_crushBlocks 18 = .ok (.iadd, 1) := by decide +kernel
theorem dX7_crushBlocks_19 : decode cX7_crushBlocks 19 = .ok (.putfield 44, 3) := by decide +kernel
theorem dX7_crushBlocks_22 : decode cX7_crushBlocks 22 = .ok (.aload_n 0, 1) := by decide +kernel
theorem dX7_crushBlocks_23 : decode cX7_crushBlocks 23 = .ok (.getfield 44, 3) := by decide +kernel
theorem dX7_crushBlocks_26 : decode cX7_crushBlocks 26 = .ok (.ireturn, 1) := by decide +kernel
theorem dX7_heightAt_0 : decode cX7_heightAt 0 = .ok (.aload_n 0, 1) := by decide +kernel
theorem dX7_heightAt_1 : decode cX7_heightAt 1 = .ok (.getfield 9, 3) := by decide +kernel
theorem dX7_heightAt_4 : decode cX7_heightAt 4 = .ok (.iload_n 1, 1) := by decide +kernel
theorem dX7_heightAt_5 : decode cX7_heightAt 5 = .ok (.iaload, 1) := by decide +kernel
theorem dX7_heightAt_6 : decode cX7_heightAt 6 = .ok (.ireturn, 1) := by decide +kernel
theorem dX7_stoneAt_0 : decode cX7_stoneAt 0 = .ok (.aload_n 0, 1) := by decide +kernel
theorem dX7_stoneAt_1 : decode cX7_stoneAt 1 = .ok (.getfield 15, 3) := by decide +kernel
theorem dX7_stoneAt_4 : decode cX7_stoneAt 4 = .ok (.iload_n 1, 1) := by decide +kernel
theorem dX7_stoneAt_5 : decode cX7_stoneAt 5 = .ok (.iaload, 1) := by decide +kernel
theorem dX7_stoneAt_6 : decode cX7_stoneAt 6 = .ok (.ireturn, 1) := by decide +kernel
theorem dX7_hasLedgeAt_0 : decode cX7_hasLedgeAt 0 = .ok (.aload_n 0, 1) := by decide +kernel
theorem dX7_hasLedgeAt_1 : decode cX7_hasLedgeAt 1 = .ok (.getfield 18, 3) := by decide +kernel
theorem dX7_hasLedgeAt_4 : decode cX7_hasLedgeAt 4 = .ok (.iload_n 1, 1) := by decide +kernel
theorem dX7_hasLedgeAt_5 : decode cX7_hasLedgeAt 5 = .ok (.baload, 1) := by decide +kernel
theorem dX7_hasLedgeAt_6 : decode cX7_hasLedgeAt 6 = .ok (.ireturn, 1) := by decide +kernel
theorem dX7_blocksAt_0 : decode cX7_blocksAt 0 = .ok (.aload_n 0, 1) := by decide +kernel
theorem dX7_blocksAt_1 : decode cX7_blocksAt 1 = .ok (.getfield 22, 3) := by decide +kernel
theorem dX7_blocksAt_4 : decode cX7_blocksAt 4 = .ok (.iload_n 1, 1) := by decide +kernel
theorem dX7_blocksAt_5 : decode cX7_blocksAt 5 = .ok (.iaload, 1) := by decide +kernel
theorem dX7_blocksAt_6 : decode cX7_blocksAt 6 = .ok (.ireturn, 1) := by decide +kernel
theorem dX7_topStoneAt_0 : decode cX7_topStoneAt 0 = .ok (.aload_n 0, 1) := by decide +kernel
theorem dX7_topStoneAt_1 : decode cX7_topStoneAt 1 = .ok (.getfield 25, 3) := by decide +kernel
theorem dX7_topStoneAt_4 : decode cX7_topStoneAt 4 = .ok (.iload_n 1, 1) := by decide +kernel
theorem dX7_topStoneAt_5 : decode cX7_topStoneAt 5 = .ok (.iconst 3, 1) := by decide +kernel
theorem dX7_topStoneAt_6 : decode cX7_topStoneAt 6 = .ok (.imul, 1) := by decide +kernel
theorem dX7_topStoneAt_7 : decode cX7_topStoneAt 7 = .ok (.aload_n 0, 1) := by decide +kernel
theorem dX7_topStoneAt_8 : decode cX7_topStoneAt 8 = .ok (.getfield 22, 3) := by decide +kernel
theorem dX7_topStoneAt_11 : decode cX7_topStoneAt 11 = .ok (.iload_n 1, 1) := by decide +kernel
theorem dX7_topStoneAt_12 : decode cX7_topStoneAt 12 = .ok (.iaload, 1) := by decide +kernel
theorem dX7_topStoneAt_13 : decode cX7_topStoneAt 13 = .ok (.iadd, 1) := by decide +kernel
theorem dX7_topStoneAt_14 : decode cX7_topStoneAt 14 = .ok (.iconst 1, 1) := by decide +kernel
theorem dX7_topStoneAt_15 : decode cX7_topStoneAt 15 = .ok (.isub, 1) := by decide +kernel
theorem dX7_topStoneAt_16 : decode cX7_topStoneAt 16 = .ok (.iaload, 1) := by decide +kernel
theorem dX7_topStoneAt_17 : decode cX7_topStoneAt 17 = .ok (.ireturn, 1) := by decide +kernel
set_option maxRecDepth 20000 in
theorem ggX7_steepestAt_X7_steepestFrom : GoodIn wsX7_steepestAt wsX7_steepestFrom := goodIn_ca (goodIn_r _ [6, 1, 7, 8, 9, 10, 11, 12, 13, 14, 15, 16, 17, 18, 19, 20, 21, 22, 23, 24, 25, 26, 27, 28, 29, 30, 31, 32] (by decide +kernel) (by decide +kernel)) (goodIn_sub (fun _ h => List.mem_cons_of_mem _ (List.mem_append_right _ h)) (by decide +kernel))
set_option maxRecDepth 20000 in
theorem gX7_steepestAt_X7_steepestFrom : GoodIn wsX7_steepestAt (wsV RX7 93 RX7 yX7_steepestFrom wsX7_steepestFrom) := goodIn_app (goodIn_of _ (by decide +kernel)) ggX7_steepestAt_X7_steepestFrom
theorem dX7_steepestAt_0 : decode cX7_steepestAt 0 = .ok (.aload_n 0, 1) := by decide +kernel
theorem dX7_steepestAt_1 : decode cX7_steepestAt 1 = .ok (.iload_n 1, 1) := by decide +kernel
theorem dX7_steepestAt_2 : decode cX7_steepestAt 2 = .ok (.aload_n 0, 1) := by decide +kernel
theorem dX7_steepestAt_3 : decode cX7_steepestAt 3 = .ok (.getfield 9, 3) := by decide +kernel
theorem dX7_steepestAt_6 : decode cX7_steepestAt 6 = .ok (.iload_n 1, 1) := by decide +kernel
theorem dX7_steepestAt_7 : decode cX7_steepestAt 7 = .ok (.iaload, 1) := by decide +kernel
theorem dX7_steepestAt_8 : decode cX7_steepestAt 8 = .ok (.invokevirtual 93, 3) := by decide +kernel
theorem dX7_steepestAt_11 : decode cX7_steepestAt 11 = .ok (.ireturn, 1) := by decide +kernel
set_option maxRecDepth 20000 in
theorem ggX7_steepestFrom_X3_neighbour : GoodIn wsX7_steepestFrom wsX3_neighbour := goodIn_r _ [12] (by decide +kernel) (by decide +kernel)
set_option maxRecDepth 20000 in
theorem gX7_steepestFrom_X3_neighbour : GoodIn wsX7_steepestFrom (va_wsS RX7 124 yX3_neighbour wsX3_neighbour) := goodIn_app (goodIn_of _ (by decide +kernel)) ggX7_steepestFrom_X3_neighbour
theorem dX7_steepestFrom_0 : decode cX7_steepestFrom 0 = .ok (.iconst 0, 1) := by decide +kernel
theorem dX7_steepestFrom_1 : decode cX7_steepestFrom 1 = .ok (.istore_n 3, 1) := by decide +kernel
theorem dX7_steepestFrom_2 : decode cX7_steepestFrom 2 = .ok (.iconst 0, 1) := by decide +kernel
theorem dX7_steepestFrom_3 : decode cX7_steepestFrom 3 = .ok (.istore 4, 2) := by decide +kernel
theorem dX7_steepestFrom_5 : decode cX7_steepestFrom 5 = .ok (.iload 4, 2) := by decide +kernel
theorem dX7_steepestFrom_7 : decode cX7_steepestFrom 7 = .ok (.iconst 4, 1) := by decide +kernel
theorem dX7_steepestFrom_8 : decode cX7_steepestFrom 8 = .ok (.if_icmp .ge 40, 3) := by decide +kernel
theorem dX7_steepestFrom_11 : decode cX7_steepestFrom 11 = .ok (.iload_n 1, 1) := by decide +kernel
theorem dX7_steepestFrom_12 : decode cX7_steepestFrom 12 = .ok (.iload 4, 2) := by decide +kernel
theorem dX7_steepestFrom_14 : decode cX7_steepestFrom 14 = .ok (.invokestatic 124, 3) := by decide +kernel
theorem dX7_steepestFrom_17 : decode cX7_steepestFrom 17 = .ok (.istore 5, 2) := by decide +kernel
theorem dX7_steepestFrom_19 : decode cX7_steepestFrom 19 = .ok (.iload 5, 2) := by decide +kernel
theorem dX7_steepestFrom_21 : decode cX7_steepestFrom 21 = .ok (.iconst (-1), 1) := by decide +kernel
theorem dX7_steepestFrom_22 : decode cX7_steepestFrom 22 = .ok (.if_icmp .eq 20, 3) := by decide +kernel
theorem dX7_steepestFrom_25 : decode cX7_steepestFrom 25 = .ok (.iload_n 3, 1) := by decide +kernel
theorem dX7_steepestFrom_26 : decode cX7_steepestFrom 26 = .ok (.iload_n 2, 1) := by decide +kernel
theorem dX7_steepestFrom_27 : decode cX7_steepestFrom 27 = .ok (.aload_n 0, 1) := by decide +kernel
theorem dX7_steepestFrom_28 : decode cX7_steepestFrom 28 = .ok (.getfield 9, 3) := by decide +kernel
theorem dX7_steepestFrom_31 : decode cX7_steepestFrom 31 = .ok (.iload 5, 2) := by decide +kernel
theorem dX7_steepestFrom_33 : decode cX7_steepestFrom 33 = .ok (.iaload, 1) := by decide +kernel
theorem dX7_steepestFrom_34 : decode cX7_steepestFrom 34 = .ok (.isub, 1) := by decide +kernel
theorem dX7_steepestFrom_35 : decode cX7_steepestFrom 35 = .ok (.invokestatic 127, 3) := by decide +kernel
theorem dX7_steepestFrom_38 : decode cX7_steepestFrom 38 = .ok (.invokestatic 132, 3) := by decide +kernel
theorem dX7_steepestFrom_41 : decode cX7_steepestFrom 41 = .ok (.istore_n 3, 1) := by decide +kernel
theorem dX7_steepestFrom_42 : decode cX7_steepestFrom 42 = .ok (.iinc 4 1, 3) := by decide +kernel
theorem dX7_steepestFrom_45 : decode cX7_steepestFrom 45 = .ok (.goto (-40), 3) := by decide +kernel
theorem dX7_steepestFrom_48 : decode cX7_steepestFrom 48 = .ok (.iload_n 3, 1) := by decide +kernel
theorem dX7_steepestFrom_49 : decode cX7_steepestFrom 49 = .ok (.ireturn, 1) := by decide +kernel
set_option maxRecDepth 20000 in
theorem ggX7_stepsWithin_X7_steepestFrom : GoodIn wsX7_stepsWithin wsX7_steepestFrom := goodIn_ca (goodIn_r _ [6, 1, 7, 8, 9, 10, 11, 12, 13, 14, 15, 16, 17, 18, 19, 20, 21, 22, 23, 24, 25, 26, 27, 28, 29, 30, 31, 32] (by decide +kernel) (by decide +kernel)) (goodIn_sub (fun _ h => List.mem_cons_of_mem _ (List.mem_append_right _ h)) (by decide +kernel))
set_option maxRecDepth 20000 in
theorem gX7_stepsWithin_X7_steepestFrom : GoodIn wsX7_stepsWithin (wsV RX7 93 RX7 yX7_steepestFrom wsX7_steepestFrom) := goodIn_app (goodIn_of _ (by decide +kernel)) ggX7_stepsWithin_X7_steepestFrom
theorem dX7_stepsWithin_0 : decode cX7_stepsWithin 0 = .ok (.iconst 0, 1) := by decide +kernel
theorem dX7_stepsWithin_1 : decode cX7_stepsWithin 1 = .ok (.istore_n 2, 1) := by decide +kernel
theorem dX7_stepsWithin_2 : decode cX7_stepsWithin 2 = .ok (.iload_n 2, 1) := by decide +kernel
theorem dX7_stepsWithin_3 : decode cX7_stepsWithin 3 = .ok (.bipush 30, 2) := by decide +kernel
theorem dX7_stepsWithin_5 : decode cX7_stepsWithin 5 = .ok (.if_icmp .ge 26, 3) := by decide +kernel
theorem dX7_stepsWithin_8 : decode cX7_stepsWithin 8 = .ok (.aload_n 0, 1) := by decide +kernel
theorem dX7_stepsWithin_9 : decode cX7_stepsWithin 9 = .ok (.iload_n 2, 1) := by decide +kernel
theorem dX7_stepsWithin_10 : decode cX7_stepsWithin 10 = .ok (.aload_n 0, 1) := by decide +kernel
theorem dX7_stepsWithin_11 : decode cX7_stepsWithin 11 = .ok (.getfield 9, 3) := by decide +kernel
theorem dX7_stepsWithin_14 : decode cX7_stepsWithin 14 = .ok (.iload_n 2, 1) := by decide +kernel
theorem dX7_stepsWithin_15 : decode cX7_stepsWithin 15 = .ok (.iaload, 1) := by decide +kernel
theorem dX7_stepsWithin_16 : decode cX7_stepsWithin 16 = .ok (.invokevirtual 93, 3) := by decide +kernel
theorem dX7_stepsWithin_19 : decode cX7_stepsWithin 19 = .ok (.iload_n 1, 1) := by decide +kernel
theorem dX7_stepsWithin_20 : decode cX7_stepsWithin 20 = .ok (.if_icmp .le 5, 3) := by decide +kernel
theorem dX7_stepsWithin_23 : decode cX7_stepsWithin 23 = .ok (.iconst 0, 1) := by decide +kernel
theorem dX7_stepsWithin_24 : decode cX7_stepsWithin 24 = .ok (.ireturn, 1) := by decide +kernel
theorem dX7_stepsWithin_25 : decode cX7_stepsWithin 25 = .ok (.iinc 2 1, 3) := by decide +kernel
theorem dX7_stepsWithin_28 : decode cX7_stepsWithin 28 = .ok (.goto (-26), 3) := by decide +kernel
theorem dX7_stepsWithin_31 : decode cX7_stepsWithin 31 = .ok (.iconst 1, 1) := by decide +kernel
theorem dX7_stepsWithin_32 : decode cX7_stepsWithin 32 = .ok (.ireturn, 1) := by decide +kernel
set_option maxRecDepth 20000 in
theorem ggX7_countCuttable_X3_rowOf : GoodIn wsX7_countCuttable wsX3_rowOf := goodIn_r _ [5] (by decide +kernel) (by decide +kernel)
set_option maxRecDepth 20000 in
theorem gX7_countCuttable_X3_rowOf : GoodIn wsX7_countCuttable (va_wsS RX7 135 yX3_rowOf wsX3_rowOf) := goodIn_app (goodIn_of _ (by decide +kernel)) ggX7_countCuttable_X3_rowOf
set_option maxRecDepth 20000 in
theorem ggX7_countCuttable_X3_columnOf : GoodIn wsX7_countCuttable wsX3_columnOf := goodIn_r _ [8] (by decide +kernel) (by decide +kernel)
set_option maxRecDepth 20000 in
theorem gX7_countCuttable_X3_columnOf : GoodIn wsX7_countCuttable (va_wsS RX7 138 yX3_columnOf wsX3_columnOf) := goodIn_app (goodIn_of _ (by decide +kernel)) ggX7_countCuttable_X3_columnOf
set_option maxRecDepth 20000 in
theorem ggX7_countCuttable_X7_cutFault : GoodIn wsX7_countCuttable wsX7_cutFault := goodIn_ca (goodIn_r _ [13, 1, 14, 15, 16, 17, 18, 19, 20, 21, 22, 4, 23, 24, 25, 26, 27, 28, 29, 30, 31, 32, 33, 34, 12, 35, 36, 37, 38, 39, 40, 41, 42, 43, 44, 45, 46, 47, 48, 49, 50, 51, 52, 53, 54, 55, 56, 57, 58, 59, 60] (by decide +kernel) (by decide +kernel)) (goodIn_sub (fun _ h => List.mem_cons_of_mem _ (List.mem_append_right _ h)) (by decide +kernel))
set_option maxRecDepth 20000 in
theorem gX7_countCuttable_X7_cutFault : GoodIn wsX7_countCuttable (wsV RX7 141 RX7 yX7_cutFault wsX7_cutFault) := goodIn_app (goodIn_of _ (by decide +kernel)) ggX7_countCuttable_X7_cutFault
theorem dX7_countCuttable_0 : decode cX7_countCuttable 0 = .ok (.iconst 0, 1) := by decide +kernel
theorem dX7_countCuttable_1 : decode cX7_countCuttable 1 = .ok (.istore_n 1, 1) := by decide +kernel
theorem dX7_countCuttable_2 : decode cX7_countCuttable 2 = .ok (.iconst 0, 1) := by decide +kernel
theorem dX7_countCuttable_3 : decode cX7_countCuttable 3 = .ok (.istore_n 2, 1) := by decide +kernel
theorem dX7_countCuttable_4 : decode cX7_countCuttable 4 = .ok (.iload_n 2, 1) := by decide +kernel
theorem dX7_countCuttable_5 : decode cX7_countCuttable 5 = .ok (.bipush 30, 2) := by decide +kernel
theorem dX7_countCuttable_7 : decode cX7_countCuttable 7 = .ok (.if_icmp .ge 30, 3) := by decide +kernel
theorem dX7_countCuttable_10 : decode cX7_countCuttable 10 = .ok (.aload_n 0, 1) := by decide +kernel
theorem dX7_countCuttable_11 : decode cX7_countCuttable 11 = .ok (.iload_n 2, 1) := by decide +kernel
theorem dX7_countCuttable_12 : decode cX7_countCuttable 12 = .ok (.invokestatic 135, 3) := by decide +kernel
theorem dX7_countCuttable_15 : decode cX7_countCuttable 15 = .ok (.iload_n 2, 1) := by decide +kernel
theorem dX7_countCuttable_16 : decode cX7_countCuttable 16 = .ok (.invokestatic 138, 3) := by decide +kernel
theorem dX7_countCuttable_19 : decode cX7_countCuttable 19 = .ok (.invokevirtual 141, 3) := by decide +kernel
theorem dX7_countCuttable_22 : decode cX7_countCuttable 22 = .ok (.getstatic 66, 3) := by decide +kernel
theorem dX7_countCuttable_25 : decode cX7_countCuttable 25 = .ok (.if_acmp .ne 6, 3) := by decide +kernel
theorem dX7_countCuttable_28 : decode cX7_countCuttable 28 = .ok (.iinc 1 1, 3) := by decide +kernel
theorem dX7_countCuttable_31 : decode cX7_countCuttable 31 = .ok (.iinc 2 1, 3) := by decide +kernel
theorem dX7_countCuttable_34 : decode cX7_countCuttable 34 = .ok (.goto (-30), 3) := by decide +kernel
theorem dX7_countCuttable_37 : decode cX7_countCuttable 37 = .ok (.iload_n 1, 1) := by decide +kernel
theorem dX7_countCuttable_38 : decode cX7_countCuttable 38 = .ok (.ireturn, 1) := by decide +kernel
theorem dX7_countAt_0 : decode cX7_countAt 0 = .ok (.iconst 0, 1) := by decide +kernel
theorem dX7_countAt_1 : decode cX7_countAt 1 = .ok (.istore_n 2, 1) := by decide +kernel
theorem dX7_countAt_2 : decode cX7_countAt 2 = .ok (.iconst 0, 1) := by decide +kernel
theorem dX7_countAt_3 : decode cX7_countAt 3 = .ok (.istore_n 3, 1) := by decide +kernel
theorem dX7_countAt_4 : decode cX7_countAt 4 = .ok (.iload_n 3, 1) := by decide +kernel
theorem dX7_countAt_5 : decode cX7_countAt 5 = .ok (.bipush 30, 2) := by decide +kernel
theorem dX7_countAt_7 : decode cX7_countAt 7 = .ok (.if_icmp .ge 22, 3) := by decide +kernel
theorem dX7_countAt_10 : decode cX7_countAt 10 = .ok (.aload_n 0, 1) := by decide +kernel
theorem dX7_countAt_11 : decode cX7_countAt 11 = .ok (.getfield 9, 3) := by decide +kernel
theorem dX7_countAt_14 : decode cX7_countAt 14 = .ok (.iload_n 3, 1) := by decide +kernel
theorem dX7_countAt_15 : decode cX7_countAt 15 = .ok (.iaload, 1) := by decide +kernel
theorem dX7_countAt_16 : decode cX7_countAt 16 = .ok (.iload_n 1, 1) := by decide +kernel
theorem dX7_countAt_17 : decode cX7_countAt 17 = .ok (.if_icmp .ne 6, 3) := by decide +kernel
theorem dX7_countAt_20 : decode cX7_countAt 20 = .ok (.iinc 2 1, 3) := by decide +kernel
theorem dX7_countAt_23 : decode cX7_countAt 23 = .ok (.iinc 3 1, 3) := by decide +kernel
theorem dX7_countAt_26 : decode cX7_countAt 26 = .ok (.goto (-22), 3) := by decide +kernel
theorem dX7_countAt_29 : decode cX7_countAt 29 = .ok (.iload_n 2, 1) := by decide +kernel
theorem dX7_countAt_30 : decode cX7_countAt 30 = .ok (.ireturn, 1) := by decide +kernel
set_option maxRecDepth 20000 in
theorem ggX7_cutsByDistance_X3_distance : GoodIn wsX7_cutsByDistance wsX3_distance := goodIn_r _ [10, 11, 12, 5, 13, 14, 15, 9, 16, 17, 18, 19] (by decide +kernel) (by decide +kernel)
set_option maxRecDepth 20000 in
theorem gX7_cutsByDistance_X3_distance : GoodIn wsX7_cutsByDistance (va_wsS RX7 114 yX3_distance wsX3_distance) := goodIn_app (goodIn_of _ (by decide +kernel)) ggX7_cutsByDistance_X3_distance
theorem dX7_cutsByDistance_0 : decode cX7_cutsByDistance 0 = .ok (.iconst 0, 1) := by decide +kernel
theorem dX7_cutsByDistance_1 : decode cX7_cutsByDistance 1 = .ok (.istore_n 3, 1) := by decide +kernel
theorem dX7_cutsByDistance_2 : decode cX7_cutsByDistance 2 = .ok (.iconst 0, 1) := by decide +kernel
theorem dX7_cutsByDistance_3 : decode cX7_cutsByDistance 3 = .ok (.istore 4, 2) := by decide +kernel
theorem dX7_cutsByDistance_5 : decode cX7_cutsByDistance 5 = .ok (.iload 4, 2) := by decide +kernel
theorem dX7_cutsByDistance_7 : decode cX7_cutsByDistance 7 = .ok (.bipush 30, 2) := by decide +kernel
theorem dX7_cutsByDistance_9 : decode cX7_cutsByDistance 9 = .ok (.if_icmp .ge 41, 3) := by decide +kernel
theorem dX7_cutsByDistance_12 : decode cX7_cutsByDistance 12 = .ok (.iload_n 2, 1) := by decide +kernel
theorem dX7_cutsByDistance_13 : decode cX7_cutsByDistance 13 = .ok (.aload_n 0, 1) := by decide +kernel
theorem dX7_cutsByDistance_14 : decode cX7_cutsByDistance 14 = .ok (.getfield 40, 3) := by decide +kernel
theorem dX7_cutsByDistance_17 : decode cX7_cutsByDistance 17 = .ok (.iload_n 1, 1) := by decide +kernel
theorem dX7_cutsByDistance_18 : decode cX7_cutsByDistance 18 = .ok (.iload 4, 2) := by decide +kernel
theorem dX7_cutsByDistance_20 : decode cX7_cutsByDistance 20 = .ok (.invokestatic 114, 3) := by decide +kernel
theorem dX7_cutsByDistance_23 : decode cX7_cutsByDistance 23 = .ok (.imul, 1) := by decide +kernel
theorem dX7_cutsByDistance_24 : decode cX7_cutsByDistance 24 = .ok (.iadd, 1) := by decide +kernel
theorem dX7_cutsByDistance_25 : decode cX7_cutsByDistance 25 = .ok (.istore 5, 2) := by decide +kernel
theorem dX7_cutsByDistance_27 : decode cX7_cutsByDistance 27 = .ok (.iload_n 3, 1) := by decide +kernel
theorem dX7_cutsByDistance_28 : decode cX7_cutsByDistance 28 = .ok (.iconst 0, 1) := by decide +kernel
theorem dX7_cutsByDistance_29 : decode cX7_cutsByDistance 29 = .ok (.aload_n 0, 1) := by decide +kernel
theorem dX7_cutsByDistance_30 : decode cX7_cutsByDistance 30 = .ok (.getfield 9, 3) := by decide +kernel
theorem dX7_cutsByDistance_33 : decode cX7_cutsByDistance 33 = .ok (.iload 4, 2) := by decide +kernel
theorem dX7_cutsByDistance_35 : decode cX7_cutsByDistance 35 = .ok (.iaload, 1) := by decide +kernel
theorem dX7_cutsByDistance_36 : decode cX7_cutsByDistance 36 = .ok (.iload 5, 2) := by decide +kernel
theorem dX7_cutsByDistance_38 : decode cX7_cutsByDistance 38 = .ok (.isub, 1) := by decide +kernel
theorem dX7_cutsByDistance_39 : decode cX7_cutsByDistance 39 = .ok (.invokestatic 132, 3) := by decide +kernel
theorem dX7_cutsByDistance_42 : decode cX7_cutsByDistance 42 = .ok (.iadd, 1) := by decide +kernel
theorem dX7_cutsByDistance_43 : decode cX7_cutsByDistance 43 = .ok (.istore_n 3, 1) := by decide +kernel
theorem dX7_cutsByDistance_44 : decode cX7_cutsByDistance 44 = .ok (.iinc 4 1, 3) := by decide +kernel
theorem dX7_cutsByDistance_47 : decode cX7_cutsByDistance 47 = .ok (.goto (-42), 3) := by decide +kernel
theorem dX7_cutsByDistance_50 : decode cX7_cutsByDistance 50 = .ok (.iload_n 3, 1) := by decide +kernel
theorem dX7_cutsByDistance_51 : decode cX7_cutsByDistance 51 = .ok (.ireturn, 1) := by decide +kernel
theorem dX7_heightSum_0 : decode cX7_heightSum 0 = .ok (.iconst 0, 1) := by decide +kernel
theorem dX7_heightSum_1 : decode cX7_heightSum 1 = .ok (.istore_n 1, 1) := by decide +kernel
theorem dX7_heightSum_2 : decode cX7_heightSum 2 = .ok (.iconst 0, 1) := by decide +kernel
theorem dX7_heightSum_3 : decode cX7_heightSum 3 = .ok (.istore_n 2, 1) := by decide +kernel
theorem dX7_heightSum_4 : decode cX7_heightSum 4 = .ok (.iload_n 2, 1) := by decide +kernel
theorem dX7_heightSum_5 : decode cX7_heightSum 5 = .ok (.bipush 30, 2) := by decide +kernel
theorem dX7_heightSum_7 : decode cX7_heightSum 7 = .ok (.if_icmp .ge 18, 3) := by decide +kernel
theorem dX7_heightSum_10 : decode cX7_heightSum 10 = .ok (.iload_n 1, 1) := by decide +kernel
theorem dX7_heightSum_11 : decode cX7_heightSum 11 = .ok (.aload_n 0, 1) := by decide +kernel
theorem dX7_heightSum_12 : decode cX7_heightSum 12 = .ok (.getfield 9, 3) := by decide +kernel
theorem dX7_heightSum_15 : decode cX7_heightSum 15 = .ok (.iload_n 2, 1) := by decide +kernel
theorem dX7_heightSum_16 : decode cX7_heightSum 16 = .ok (.iaload, 1) := by decide +kernel
theorem dX7_heightSum_17 : decode cX7_heightSum 17 = .ok (.iadd, 1) := by decide +kernel
theorem dX7_heightSum_18 : decode cX7_heightSum 18 = .ok (.istore_n 1, 1) := by decide +kernel
theorem dX7_heightSum_19 : decode cX7_heightSum 19 = .ok (.iinc 2 1, 3) := by decide +kernel
theorem dX7_heightSum_22 : decode cX7_heightSum 22 = .ok (.goto (-18), 3) := by decide +kernel
theorem dX7_heightSum_25 : decode cX7_heightSum 25 = .ok (.iload_n 1, 1) := by decide +kernel
theorem dX7_heightSum_26 : decode cX7_heightSum 26 = .ok (.ireturn, 1) := by decide +kernel
theorem dX7_blockSum_0 : decode cX7_blockSum 0 = .ok (.iconst 0, 1) := by decide +kernel
theorem dX7_blockSum_1 : decode cX7_blockSum 1 = .ok (.istore_n 1, 1) := by decide +kernel
theorem dX7_blockSum_2 : decode cX7_blockSum 2 = .ok (.iconst 0, 1) := by decide +kernel
theorem dX7_blockSum_3 : decode cX7_blockSum 3 = .ok (.istore_n 2, 1) := by decide +kernel
theorem dX7_blockSum_4 : decode cX7_blockSum 4 = .ok (.iload_n 2, 1) := by decide +kernel
theorem dX7_blockSum_5 : decode cX7_blockSum 5 = .ok (.bipush 30, 2) := by decide +kernel
theorem dX7_blockSum_7 : decode cX7_blockSum 7 = .ok (.if_icmp .ge 18, 3) := by decide +kernel
theorem dX7_blockSum_10 : decode cX7_blockSum 10 = .ok (.iload_n 1, 1) := by decide +kernel
theorem dX7_blockSum_11 : decode cX7_blockSum 11 = .ok (.aload_n 0, 1) := by decide +kernel
theorem dX7_blockSum_12 : decode cX7_blockSum 12 = .ok (.getfield 22, 3) := by decide +kernel
theorem dX7_blockSum_15 : decode cX7_blockSum 15 = .ok (.iload_n 2, 1) := by decide +kernel
theorem dX7_blockSum_16 : decode cX7_blockSum 16 = .ok (.iaload, 1) := by decide +kernel
theorem dX7_blockSum_17 : decode cX7_blockSum 17 = .ok (.iadd, 1) := by decide +kernel
theorem dX7_blockSum_18 : decode cX7_blockSum 18 = .ok (.istore_n 1, 1) := by decide +kernel
theorem dX7_blockSum_19 : decode cX7_blockSum 19 = .ok (.iinc 2 1, 3) := by decide +kernel
theorem dX7_blockSum_22 : decode cX7_blockSum 22 = .ok (.goto (-18), 3) := by decide +kernel
theorem dX7_blockSum_25 : decode cX7_blockSum 25 = .ok (.iload_n 1, 1) := by decide +kernel
theorem dX7_blockSum_26 : decode cX7_blockSum 26 = .ok (.ireturn, 1) := by decide +kernel
theorem dX7_hasWinch_0 : decode cX7_hasWinch 0 = .ok (.iload_n 1, 1) := by decide +kernel
theorem dX7_hasWinch_1 : decode cX7_hasWinch 1 = .ok (.ifCond .lt 15, 3) := by decide +kernel
theorem dX7_hasWinch_4 : decode cX7_hasWinch 4 = .ok (.iload_n 1, 1) := by decide +kernel
theorem dX7_hasWinch_5 : decode cX7_hasWinch 5 = .ok (.aload_n 0, 1) := by decide +kernel
theorem dX7_hasWinch_6 : decode cX7_hasWinch 6 = .ok (.getfield 53, 3) := by decide +kernel
theorem dX7_hasWinch_9 : decode cX7_hasWinch 9 = .ok (.if_icmp .ge 7, 3) := by decide +kernel
theorem dX7_hasWinch_12 : decode cX7_hasWinch 12 = .ok (.iconst 1, 1) := by decide +kernel
theorem dX7_hasWinch_13 : decode cX7_hasWinch 13 = .ok (.goto 4, 3) := by decide +kernel
theorem dX7_hasWinch_16 : decode cX7_hasWinch 16 = .ok (.iconst 0, 1) := by decide +kernel
theorem dX7_hasWinch_17 : decode cX7_hasWinch 17 = .ok (.ireturn, 1) := by decide +kernel
theorem dX7_hasWinchAt_0 : decode cX7_hasWinchAt 0 = .ok (.iconst 0, 1) := by decide +kernel
theorem dX7_hasWinchAt_1 : decode cX7_hasWinchAt 1 = .ok (.istore_n 2, 1) := by decide +kernel
theorem dX7_hasWinchAt_2 : decode cX7_hasWinchAt 2 = .ok (.iload_n 2, 1) := by decide +kernel
theorem dX7_hasWinchAt_3 : decode cX7_hasWinchAt 3 = .ok (.aload_n 0, 1) := by decide +kernel
theorem dX7_hasWinchAt_4 : decode cX7_hasWinchAt 4 = .ok (.getfield 53, 3) := by decide +kernel
theorem dX7_hasWinchAt_7 : decode cX7_hasWinchAt 7 = .ok (.if_icmp .ge 21, 3) := by decide +kernel
theorem dX7_hasWinchAt_10 : decode cX7_hasWinchAt 10 = .ok (.aload_n 0, 1) := by decide +kernel
theorem dX7_hasWinchAt_11 : decode cX7_hasWinchAt 11 = .ok (.getfield 28, 3) := by decide +kernel
theorem dX7_hasWinchAt_14 : decode cX7_hasWinchAt 14 = .ok (.iload_n 2, 1) := by decide +kernel
theorem dX7_hasWinchAt_15 : decode cX7_hasWinchAt 15 = .ok (.iaload, 1) := by decide +kernel
theorem dX7_hasWinchAt_16 : decode cX7_hasWinchAt 16 = .ok (.iload_n 1, 1) := by decide +kernel
theorem dX7_hasWinchAt_17 : decode cX7_hasWinchAt 17 = .ok (.if_icmp .ne 5, 3) := by decide +kernel
theorem dX7_hasWinchAt_20 : decode cX7_hasWinchAt 20 = .ok (.iconst 1, 1) := by decide +kernel
theorem dX7_hasWinchAt_21 : decode cX7_hasWinchAt 21 = .ok (.ireturn, 1) := by decide +kernel
theorem dX7_hasWinchAt_22 : decode cX7_hasWinchAt 22 = .ok (.iinc 2 1, 3) := by decide +kernel
theorem dX7_hasWinchAt_25 : decode cX7_hasWinchAt 25 = .ok (.goto (-23), 3) := by decide +kernel
theorem dX7_hasWinchAt_28 : decode cX7_hasWinchAt 28 = .ok (.iconst 0, 1) := by decide +kernel
theorem dX7_hasWinchAt_29 : decode cX7_hasWinchAt 29 = .ok (.ireturn, 1) := by decide +kernel
theorem dX7_countWinches_0 : decode cX7_countWinches 0 = .ok (.aload_n 0, 1) := by decide +kernel
theorem dX7_countWinches_1 : decode cX7_countWinches 1 = .ok (.getfield 53, 3) := by decide +kernel
theorem dX7_countWinches_4 : decode cX7_countWinches 4 = .ok (.ireturn, 1) := by decide +kernel
set_option maxRecDepth 20000 in
theorem ggX7_countLiftable_X3_rowOf : GoodIn wsX7_countLiftable wsX3_rowOf := goodIn_r _ [5] (by decide +kernel) (by decide +kernel)
set_option maxRecDepth 20000 in
theorem gX7_countLiftable_X3_rowOf : GoodIn wsX7_countLiftable (va_wsS RX7 135 yX3_rowOf wsX3_rowOf) := goodIn_app (goodIn_of _ (by decide +kernel)) ggX7_countLiftable_X3_rowOf
set_option maxRecDepth 20000 in
theorem ggX7_countLiftable_X3_columnOf : GoodIn wsX7_countLiftable wsX3_columnOf := goodIn_r _ [8] (by decide +kernel) (by decide +kernel)
set_option maxRecDepth 20000 in
theorem gX7_countLiftable_X3_columnOf : GoodIn wsX7_countLiftable (va_wsS RX7 138 yX3_columnOf wsX3_columnOf) := goodIn_app (goodIn_of _ (by decide +kernel)) ggX7_countLiftable_X3_columnOf
set_option maxRecDepth 20000 in
theorem ggX7_countLiftable_X7_liftFault : GoodIn wsX7_countLiftable wsX7_liftFault := goodIn_ca (goodIn_r _ [13, 14, 1, 15, 16, 17, 18, 19, 20, 21, 22, 23, 12, 24, 25, 26, 27, 28, 29, 30, 31, 32, 33, 4, 34, 35, 36, 37, 38, 39, 40, 41, 42, 43, 44, 45, 46, 47, 48, 49, 50, 3, 5, 51, 7, 8, 52, 53, 54, 55, 56, 57, 58, 59, 60, 61, 62, 63, 64, 65, 66, 67, 68, 69, 70, 71, 72, 73, 74] (by decide +kernel) (by decide +kernel)) (goodIn_sub (fun _ h => List.mem_cons_of_mem _ (List.mem_append_right _ h)) (by decide +kernel))
set_option maxRecDepth 20000 in
theorem gX7_countLiftable_X7_liftFault : GoodIn wsX7_countLiftable (wsV RX7 144 RX7 yX7_liftFault wsX7_liftFault) := goodIn_app (goodIn_of _ (by decide +kernel)) ggX7_countLiftable_X7_liftFault
theorem dX7_countLiftable_0 : decode cX7_countLiftable 0 = .ok (.iconst 0, 1) := by decide +kernel
theorem dX7_countLiftable_1 : decode cX7_countLiftable 1 = .ok (.istore_n 2, 1) := by decide +kernel
theorem dX7_countLiftable_2 : decode cX7_countLiftable 2 = .ok (.iconst 0, 1) := by decide +kernel
theorem dX7_countLiftable_3 : decode cX7_countLiftable 3 = .ok (.istore_n 3, 1) := by decide +kernel
theorem dX7_countLiftable_4 : decode cX7_countLiftable 4 = .ok (.iload_n 3, 1) := by decide +kernel
theorem dX7_countLiftable_5 : decode cX7_countLiftable 5 = .ok (.bipush 30, 2) := by decide +kernel
theorem dX7_countLiftable_7 : decode cX7_countLiftable 7 = .ok (.if_icmp .ge 31, 3) := by decide +kernel
theorem dX7_countLiftable_10 : decode cX7_countLiftable 10 = .ok (.aload_n 0, 1) := by decide +kernel
theorem dX7_countLiftable_11 : decode cX7_countLiftable 11 = .ok (.iload_n 1, 1) := by decide +kernel
theorem dX7_countLiftable_12 : decode cX7_countLiftable 12 = .ok (.iload_n 3, 1) := by decide +kernel
theorem dX7_countLiftable_13 : decode cX7_countLiftable 13 = .ok (.invokestatic 135, 3) := by decide +kernel
theorem dX7_countLiftable_16 : decode cX7_countLiftable 16 = .ok (.iload_n 3, 1) := by decide +kernel
theorem dX7_countLiftable_17 : decode cX7_countLiftable 17 = .ok (.invokestatic 138, 3) := by decide +kernel
theorem dX7_countLiftable_20 : decode cX7_countLiftable 20 = .ok (.invokevirtual 144, 3) := by decide +kernel
theorem dX7_countLiftable_23 : decode cX7_countLiftable 23 = .ok (.getstatic 66, 3) := by decide +kernel
theorem dX7_countLiftable_26 : decode cX7_countLiftable 26 = .ok (.if_acmp .ne 6, 3) := by decide +kernel
theorem dX7_countLiftable_29 : decode cX7_countLiftable 29 = .ok (.iinc 2 1, 3) := by decide +kernel
theorem dX7_countLiftable_32 : decode cX7_countLiftable 32 = .ok (.iinc 3 1, 3) := by decide +kernel
theorem dX7_countLiftable_35 : decode cX7_countLiftable 35 = .ok (.goto (-31), 3) := by decide +kernel
theorem dX7_countLiftable_38 : decode cX7_countLiftable 38 = .ok (.iload_n 2, 1) := by decide +kernel
theorem dX7_countLiftable_39 : decode cX7_countLiftable 39 = .ok (.ireturn, 1) := by decide +kernel
set_option maxRecDepth 20000 in
theorem ggX7_leastAbleWinch_X7_liftFault : GoodIn wsX7_leastAbleWinch wsX7_liftFault := goodIn_ca (goodIn_r _ [8, 9, 2, 10, 11, 12, 13, 3, 14, 15, 16, 17, 7, 18, 1, 19, 20, 21, 22, 23, 24, 25, 26, 27, 28, 29, 30, 31, 32, 33, 34, 35, 36, 37, 38, 39, 40, 41, 42, 43, 44, 45, 46, 47, 48, 49, 50, 51, 52, 53, 54, 55, 56, 57, 58, 59, 60, 61, 62, 63, 64, 65, 66, 67, 68, 69, 70, 71, 72] (by decide +kernel) (by decide +kernel)) (goodIn_sub (fun _ h => List.mem_cons_of_mem _ (List.mem_append_right _ h)) (by decide +kernel))
set_option maxRecDepth 20000 in
theorem gX7_leastAbleWinch_X7_liftFault : GoodIn wsX7_leastAbleWinch (wsV RX7 144 RX7 yX7_liftFault wsX7_liftFault) := goodIn_app (goodIn_of _ (by decide +kernel)) ggX7_leastAbleWinch_X7_liftFault
theorem dX7_leastAbleWinch_0 : decode cX7_leastAbleWinch 0 = .ok (.iconst (-1), 1) := by decide +kernel
theorem dX7_leastAbleWinch_1 : decode cX7_leastAbleWinch 1 = .ok (.istore_n 3, 1) := by decide +kernel
theorem dX7_leastAbleWinch_2 : decode cX7_leastAbleWinch 2 = .ok (.iconst 0, 1) := by decide +kernel
theorem dX7_leastAbleWinch_3 : decode cX7_leastAbleWinch 3 = .ok (.istore 4, 2) := by decide +kernel
theorem dX7_leastAbleWinch_5 : decode cX7_leastAbleWinch 5 = .ok (.iload 4, 2) := by decide +kernel
theorem dX7_leastAbleWinch_7 : decode cX7_leastAbleWinch 7 = .ok (.aload_n 0, 1) := by decide +kernel
theorem dX7_leastAbleWinch_8 : decode cX7_leastAbleWinch 8 = .ok (.getfield 53, 3) := by decide +kernel
theorem dX7_leastAbleWinch_11 : decode cX7_leastAbleWinch 11 = .ok (.if_icmp .ge 59, 3) := by decide +kernel
theorem dX7_leastAbleWinch_14 : decode cX7_leastAbleWinch 14 = .ok (.aload_n 0, 1) := by decide +kernel
theorem dX7_leastAbleWinch_15 : decode cX7_leastAbleWinch 15 = .ok (.iload 4, 2) := by decide +kernel
theorem dX7_leastAbleWinch_17 : decode cX7_leastAbleWinch 17 = .ok (.iload_n 1, 1) := by decide +kernel
theorem dX7_leastAbleWinch_18 : decode cX7_leastAbleWinch 18 = .ok (.iload_n 2, 1) := by decide +kernel
theorem dX7_leastAbleWinch_19 : decode cX7_leastAbleWinch 19 = .ok (.invokevirtual 144, 3) := by decide +kernel
theorem dX7_leastAbleWinch_22 : decode cX7_leastAbleWinch 22 = .ok (.getstatic 66, 3) := by decide +kernel
theorem dX7_leastAbleWinch_25 : decode cX7_leastAbleWinch 25 = .ok (.if_acmp .ne 7, 3) := by decide +kernel
theorem dX7_leastAbleWinch_28 : decode cX7_leastAbleWinch 28 = .ok (.iconst 1, 1) := by decide +kernel
theorem dX7_leastAbleWinch_29 : decode cX7_leastAbleWinch 29 = .ok (.goto 4, 3) := by decide +kernel
theorem dX7_leastAbleWinch_32 : decode cX7_leastAbleWinch 32 = .ok (.iconst 0, 1) := by decide +kernel
theorem dX7_leastAbleWinch_33 : decode cX7_leastAbleWinch 33 = .ok (.istore 5, 2) := by decide +kernel
theorem dX7_leastAbleWinch_35 : decode cX7_leastAbleWinch 35 = .ok (.iload 5, 2) := by decide +kernel
theorem dX7_leastAbleWinch_37 : decode cX7_leastAbleWinch 37 = .ok (.ifCond .eq 27, 3) := by decide +kernel
theorem dX7_leastAbleWinch_40 : decode cX7_leastAbleWinch 40 = .ok (.iload_n 3, 1) := by decide +kernel
theorem dX7_leastAbleWinch_41 : decode cX7_leastAbleWinch 41 = .ok (.iconst (-1), 1) := by decide +kernel
theorem dX7_leastAbleWinch_42 : decode cX7_leastAbleWinch 42 = .ok (.if_icmp .eq 19, 3) := by decide +kernel
theorem dX7_leastAbleWinch_45 : decode cX7_leastAbleWinch 45 = .ok (.aload_n 0, 1) := by decide +kernel
theorem dX7_leastAbleWinch_46 : decode cX7_leastAbleWinch 46 = .ok (.getfield 31, 3) := by decide +kernel
theorem dX7_leastAbleWinch_49 : decode cX7_leastAbleWinch 49 = .ok (.iload 4, 2) := by decide +kernel
theorem dX7_leastAbleWinch_51 : decode cX7_leastAbleWinch 51 = .ok (.iaload, 1) := by decide +kernel
theorem dX7_leastAbleWinch_52 : decode cX7_leastAbleWinch 52 = .ok (.aload_n 0, 1) := by decide +kernel
theorem dX7_leastAbleWinch_53 : decode cX7_leastAbleWinch 53 = .ok (.getfield 31, 3) := by decide +kernel
theorem dX7_leastAbleWinch_56 : decode cX7_leastAbleWinch 56 = .ok (.iload_n 3, 1) := by decide +kernel
theorem dX7_leastAbleWinch_57 : decode cX7_leastAbleWinch 57 = .ok (.iaload, 1) := by decide +kernel
theorem dX7_leastAbleWinch_58 : decode cX7_leastAbleWinch 58 = .ok (.if_icmp .ge 6, 3) := by decide +kernel
theorem dX7_leastAbleWinch_61 : decode cX7_leastAbleWinch 61 = .ok (.iload 4, 2) := by decide +kernel
theorem dX7_leastAbleWinch_63 : decode cX7_leastAbleWinch 63 = .ok (.istore_n 3, 1) := by decide +kernel
theorem dX7_leastAbleWinch_64 : decode cX7_leastAbleWinch 64 = .ok (.iinc 4 1, 3) := by decide +kernel
theorem dX7_leastAbleWinch_67 : decode cX7_leastAbleWinch 67 = .ok (.goto (-62), 3) := by decide +kernel
theorem dX7_leastAbleWinch_70 : decode cX7_leastAbleWinch 70 = .ok (.iload_n 3, 1) := by decide +kernel
theorem dX7_leastAbleWinch_71 : decode cX7_leastAbleWinch 71 = .ok (.ireturn, 1) := by decide +kernel
theorem dX7_yardBlocks_0 : decode cX7_yardBlocks 0 = .ok (.aload_n 0, 1) := by decide +kernel
theorem dX7_yardBlocks_1 : decode cX7_yardBlocks 1 = .ok (.getfield 37, 3) := by decide +kernel
theorem dX7_yardBlocks_4 : decode cX7_yardBlocks 4 = .ok (.iload_n 1, 1) := by decide +kernel
theorem dX7_yardBlocks_5 : decode cX7_yardBlocks 5 = .ok (.iaload, 1) := by decide +kernel
theorem dX7_yardBlocks_6 : decode cX7_yardBlocks 6 = .ok (.ireturn, 1) := by decide +kernel
set_option maxRecDepth 20000 in
theorem ggX7_weightOfYard_X7_weightOf : GoodIn wsX7_weightOfYard wsX7_weightOf := goodIn_r _ [5] (by decide +kernel) (by decide +kernel)
set_option maxRecDepth 20000 in
theorem gX7_weightOfYard_X7_weightOf : GoodIn wsX7_weightOfYard (va_wsS RX7 121 yX7_weightOf wsX7_weightOf) := goodIn_app (goodIn_of _ (by decide +kernel)) ggX7_weightOfYard_X7_weightOf
theorem dX7_weightOfYard_0 : decode cX7_weightOfYard 0 = .ok (.iconst 0, 1) := by decide +kernel
theorem dX7_weightOfYard_1 : decode cX7_weightOfYard 1 = .ok (.istore_n 1, 1) := by decide +kernel
theorem dX7_weightOfYard_2 : decode cX7_weightOfYard 2 = .ok (.iconst 0, 1) := by decide +kernel
theorem dX7_weightOfYard_3 : decode cX7_weightOfYard 3 = .ok (.istore_n 2, 1) := by decide +kernel
theorem dX7_weightOfYard_4 : decode cX7_weightOfYard 4 = .ok (.iload_n 2, 1) := by decide +kernel
theorem dX7_weightOfYard_5 : decode cX7_weightOfYard 5 = .ok (.iconst 4, 1) := by decide +kernel
theorem dX7_weightOfYard_6 : decode cX7_weightOfYard 6 = .ok (.if_icmp .ge 23, 3) := by decide +kernel
theorem dX7_weightOfYard_9 : decode cX7_weightOfYard 9 = .ok (.iload_n 1, 1) := by decide +kernel
theorem dX7_weightOfYard_10 : decode cX7_weightOfYard 10 = .ok (.aload_n 0, 1) := by decide +kernel
theorem dX7_weightOfYard_11 : decode cX7_weightOfYard 11 = .ok (.getfield 37, 3) := by decide +kernel
theorem dX7_weightOfYard_14 : decode cX7_weightOfYard 14 = .ok (.iload_n 2, 1) := by decide +kernel
theorem dX7_weightOfYard_15 : decode cX7_weightOfYard 15 = .ok (.iaload, 1) := by decide +kernel
theorem dX7_weightOfYard_16 : decode cX7_weightOfYard 16 = .ok (.iload_n 2, 1) := by decide +kernel
theorem dX7_weightOfYard_17 : decode cX7_weightOfYard 17 = .ok (.invokestatic 121, 3) := by decide +kernel
theorem dX7_weightOfYard_20 : decode cX7_weightOfYard 20 = .ok (.imul, 1) := by decide +kernel
theorem dX7_weightOfYard_21 : decode cX7_weightOfYard 21 = .ok (.iadd, 1) := by decide +kernel
theorem dX7_weightOfYard_22 : decode cX7_weightOfYard 22 = .ok (.istore_n 1, 1) := by decide +kernel
theorem dX7_weightOfYard_23 : decode cX7_weightOfYard 23 = .ok (.iinc 2 1, 3) := by decide +kernel
theorem dX7_weightOfYard_26 : decode cX7_weightOfYard 26 = .ok (.goto (-22), 3) := by decide +kernel
theorem dX7_weightOfYard_29 : decode cX7_weightOfYard 29 = .ok (.iload_n 1, 1) := by decide +kernel
theorem dX7_weightOfYard_30 : decode cX7_weightOfYard 30 = .ok (.ireturn, 1) := by decide +kernel
theorem dX7_weightOf_0 : decode cX7_weightOf 0 = .ok (.iconst 2, 1) := by decide +kernel
theorem dX7_weightOf_1 : decode cX7_weightOf 1 = .ok (.iload_n 0, 1) := by decide +kernel
theorem dX7_weightOf_2 : decode cX7_weightOf 2 = .ok (.iadd, 1) := by decide +kernel
theorem dX7_weightOf_3 : decode cX7_weightOf 3 = .ok (.ireturn, 1) := by decide +kernel
theorem dX7_loads_0 : decode cX7_loads 0 = .ok (.aload_n 0, 1) := by decide +kernel
theorem dX7_loads_1 : decode cX7_loads 1 = .ok (.getfield 44, 3) := by decide +kernel
theorem dX7_loads_4 : decode cX7_loads 4 = .ok (.ireturn, 1) := by decide +kernel
theorem dX7_limit_0 : decode cX7_limit 0 = .ok (.aload_n 0, 1) := by decide +kernel
theorem dX7_limit_1 : decode cX7_limit 1 = .ok (.getfield 40, 3) := by decide +kernel
theorem dX7_limit_4 : decode cX7_limit 4 = .ok (.ireturn, 1) := by decide +kernel
theorem dX7_cutsDone_0 : decode cX7_cutsDone 0 = .ok (.aload_n 0, 1) := by decide +kernel
theorem dX7_cutsDone_1 : decode cX7_cutsDone 1 = .ok (.getfield 56, 3) := by decide +kernel
theorem dX7_cutsDone_4 : decode cX7_cutsDone 4 = .ok (.ireturn, 1) := by decide +kernel
theorem dX7_liftsDone_0 : decode cX7_liftsDone 0 = .ok (.aload_n 0, 1) := by decide +kernel
theorem dX7_liftsDone_1 : decode cX7_liftsDone 1 = .ok (.getfield 59, 3) := by decide +kernel
theorem dX7_liftsDone_4 : decode cX7_liftsDone 4 = .ok (.ireturn, 1) := by decide +kernel
theorem dX7_workDone_0 : decode cX7_workDone 0 = .ok (.aload_n 0, 1) := by decide +kernel
theorem dX7_workDone_1 : decode cX7_workDone 1 = .ok (.getfield 62, 3) := by decide +kernel
theorem dX7_workDone_4 : decode cX7_workDone 4 = .ok (.lreturn, 1) := by decide +kernel
theorem dX8_init_0 : decode cX8_init 0 = .ok (.aload_n 0, 1) := by decide +kernel
theorem dX8_init_1 : decode cX8_init 1 = .ok (.invokespecial 1, 3) := by decide +kernel
theorem dX8_init_4 : decode cX8_init 4 = .ok (.aload_n 0, 1) := by decide +kernel
theorem dX8_init_5 : decode cX8_init 5 = .ok (.sipush 271, 3) := by decide +kernel
theorem dX8_init_8 : decode cX8_init 8 = .ok (.newarray .int, 2) := by decide +kernel
theorem dX8_init_10 : decode cX8_init 10 = .ok (.putfield 11, 3) := by decide +kernel
theorem dX8_init_13 : decode cX8_init 13 = .ok (.aload_n 0, 1) := by decide +kernel
theorem dX8_init_14 : decode cX8_init 14 = .ok (.bipush 30, 2) := by decide +kernel
theorem dX8_init_16 : decode cX8_init 16 = .ok (.newarray .int, 2) := by decide +kernel
theorem dX8_init_18 : decode cX8_init 18 = .ok (.putfield 17, 3) := by decide +kernel
theorem dX8_init_21 : decode cX8_init 21 = .ok (.aload_n 0, 1) := by decide +kernel
theorem dX8_init_22 : decode cX8_init 22 = .ok (.bipush 30, 2) := by decide +kernel
theorem dX8_init_24 : decode cX8_init 24 = .ok (.newarray .int, 2) := by decide +kernel
theorem dX8_init_26 : decode cX8_init 26 = .ok (.putfield 20, 3) := by decide +kernel
theorem dX8_init_29 : decode cX8_init 29 = .ok (.aload_n 0, 1) := by decide +kernel
theorem dX8_init_30 : decode cX8_init 30 = .ok (.bipush 30, 2) := by decide +kernel
theorem dX8_init_32 : decode cX8_init 32 = .ok (.newarray .int, 2) := by decide +kernel
theorem dX8_init_34 : decode cX8_init 34 = .ok (.putfield 23, 3) := by decide +kernel
theorem dX8_init_37 : decode cX8_init 37 = .ok (.aload_n 0, 1) := by decide +kernel
theorem dX8_init_38 : decode cX8_init 38 = .ok (.bipush 30, 2) := by decide +kernel
theorem dX8_init_40 : decode cX8_init 40 = .ok (.newarray .boolean, 2) := by decide +kernel
theorem dX8_init_42 : decode cX8_init 42 = .ok (.putfield 26, 3) := by decide +kernel
theorem dX8_init_45 : decode cX8_init 45 = .ok (.return_, 1) := by decide +kernel
set_option maxRecDepth 20000 in
theorem ggX8_cutsBySpreading_X7_heightAt : GoodIn wsX8_cutsBySpreading wsX7_heightAt := goodIn_ca (goodIn_r _ [7, 8, 28, 29, 30, 31, 32, 33, 34, 35, 36, 37, 38, 39, 40, 41, 42] (by decide +kernel) (by decide +kernel)) (goodIn_sub (fun _ h => List.mem_cons_of_mem _ (List.mem_append_right _ h)) (by decide +kernel))
set_option maxRecDepth 20000 in
theorem gX8_cutsBySpreading_X7_heightAt : GoodIn wsX8_cutsBySpreading (wsV RX8 30 RX7 yX7_heightAt wsX7_heightAt) := goodIn_app (goodIn_of _ (by decide +kernel)) ggX8_cutsBySpreading_X7_heightAt
set_option maxRecDepth 20000 in
theorem ggX8_cutsBySpreading_X3_neighbour : GoodIn wsX8_cutsBySpreading wsX3_neighbour := goodIn_r _ [12] (by decide +kernel) (by decide +kernel)
set_option maxRecDepth 20000 in
theorem gX8_cutsBySpreading_X3_neighbour : GoodIn wsX8_cutsBySpreading (va_wsS RX8 34 yX3_neighbour wsX3_neighbour) := goodIn_app (goodIn_of _ (by decide +kernel)) ggX8_cutsBySpreading_X3_neighbour
set_option maxRecDepth 20000 in
theorem ggX8_cutsBySpreading_X7_limit : GoodIn wsX8_cutsBySpreading wsX7_limit := goodIn_r _ [16, 17, 28, 29, 30, 31, 32, 33, 34, 35, 36, 37, 38, 39, 40, 41, 42] (by decide +kernel) (by decide +kernel)
set_option maxRecDepth 20000 in
theorem gX8_cutsBySpreading_X7_limit : GoodIn wsX8_cutsBySpreading (wsV RX8 38 RX7 yX7_limit wsX7_limit) := goodIn_app (goodIn_of _ (by decide +kernel)) ggX8_cutsBySpreading_X7_limit
set_option maxRecDepth 20000 in
theorem ggX8_cutsBySpreading_X8_excessOver : GoodIn wsX8_cutsBySpreading wsX8_excessOver := goodIn_ca (goodIn_r _ [22, 1, 23, 24, 25, 26, 27] (by decide +kernel) (by decide +kernel)) (goodIn_sub (fun _ h => List.mem_cons_of_mem _ (List.mem_append_right _ h)) (by decide +kernel))
set_option maxRecDepth 20000 in
theorem gX8_cutsBySpreading_X8_excessOver : GoodIn wsX8_cutsBySpreading (wsV RX8 42 RX8 yX8_excessOver wsX8_excessOver) := goodIn_app (goodIn_of _ (by decide +kernel)) ggX8_cutsBySpreading_X8_excessOver
theorem dX8_cutsBySpreading_0 : decode cX8_cutsBySpreading 0 = .ok (.iconst 0, 1) := by decide +kernel
theorem dX8_cutsBySpreading_1 : decode cX8_cutsBySpreading 1 = .ok (.istore 4, 2) := by decide +kernel
theorem dX8_cutsBySpreading_3 : decode cX8_cutsBySpreading 3 = .ok (.iload 4, 2) := by decide +kernel
theorem dX8_cutsBySpreading_5 : decode cX8_cutsBySpreading 5 = .ok (.bipush 30, 2) := by decide +kernel
theorem dX8_cutsBySpreading_7 : decode cX8_cutsBySpreading 7 = .ok (.if_icmp .ge 22, 3) := by decide +kernel
theorem dX8_cutsBySpreading_10 : decode cX8_cutsBySpreading 10 = .ok (.aload_n 0, 1) := by decide +kernel
theorem dX8_cutsBySpreading_11 : decode cX8_cutsBySpreading 11 = .ok (.getfield 17, 3) := by decide +kernel
theorem dX8_cutsBySpreading_14 : decode cX8_cutsBySpreading 14 = .ok (.iload 4, 2) := by decide +kernel
theorem dX8_cutsBySpreading_16 : decode cX8_cutsBySpreading 16 = .ok (.aload_n 1, 1) := by decide +kernel
theorem dX8_cutsBySpreading_17 : decode cX8_cutsBySpreading 17 = .ok (.iload 4, 2) := by decide +kernel
theorem dX8_cutsBySpreading_19 : decode cX8_cutsBySpreading 19 = .ok (.invokevirtual 30, 3) := by decide +kernel
theorem dX8_cutsBySpreading_22 : decode cX8_cutsBySpreading 22 = .ok (.iastore, 1) := by decide +kernel
theorem dX8_cutsBySpreading_23 : decode cX8_cutsBySpreading 23 = .ok (.iinc 4 1, 3) := by decide +kernel
theorem dX8_cutsBySpreading_26 : decode cX8_cutsBySpreading 26 = .ok (.goto (-23), 3) := by decide +kernel
theorem dX8_cutsBySpreading_29 : decode cX8_cutsBySpreading 29 = .ok (.aload_n 0, 1) := by decide +kernel
theorem dX8_cutsBySpreading_30 : decode cX8_cutsBySpreading 30 = .ok (.getfield 17, 3) := by decide +kernel
theorem dX8_cutsBySpreading_33 : decode cX8_cutsBySpreading 33 = .ok (.iload_n 2, 1) := by decide +kernel
theorem dX8_cutsBySpreading_34 : decode cX8_cutsBySpreading 34 = .ok (.iaload, 1) := by decide +kernel
theorem dX8_cutsBySpreading_35 : decode cX8_cutsBySpreading 35 = .ok (.iload_n 3, 1) := by decide +kernel
theorem dX8_cutsBySpreading_36 : decode cX8_cutsBySpreading 36 = .ok (.isub, 1) := by decide +kernel
theorem dX8_cutsBySpreading_37 : decode cX8_cutsBySpreading 37 = .ok (.istore 4, 2) := by decide +kernel
theorem dX8_cutsBySpreading_39 : decode cX8_cutsBySpreading 39 = .ok (.aload_n 0, 1) := by decide +kernel
theorem dX8_cutsBySpreading_40 : decode cX8_cutsBySpreading 40 = .ok (.getfield 17, 3) := by decide +kernel
theorem dX8_cutsBySpreading_43 : decode cX8_cutsBySpreading 43 = .ok (.iload_n 2, 1) := by decide +kernel
theorem dX8_cutsBySpreading_44 : decode cX8_cutsBySpreading 44 = .ok (.iload_n 3, 1) := by decide +kernel
theorem dX8_cutsBySpreading_45 : decode cX8_cutsBySpreading 45 = .ok (.iastore, 1) := by decide +kernel
theorem dX8_cutsBySpreading_46 : decode cX8_cutsBySpreading 46 = .ok (.aload_n 0, 1) := by decide +kernel
theorem dX8_cutsBySpreading_47 : decode cX8_cutsBySpreading 47 = .ok (.getfield 11, 3) := by decide +kernel
theorem dX8_cutsBySpreading_50 : decode cX8_cutsBySpreading 50 = .ok (.iconst 0, 1) := by decide +kernel
theorem dX8_cutsBySpreading_51 : decode cX8_cutsBySpreading 51 = .ok (.iload_n 2, 1) := by decide +kernel
theorem dX8_cutsBySpreading_52 : decode cX8_cutsBySpreading 52 = .ok (.iastore, 1) := by decide +kernel
theorem dX8_cutsBySpreading_53 : decode cX8_cutsBySpreading 53 = .ok (.iconst 1, 1) := by decide +kernel
theorem dX8_cutsBySpreading_54 : decode cX8_cutsBySpreading 54 = .ok (.istore 5, 2) := by decide +kernel
theorem dX8_cutsBySpreading_56 : decode cX8_cutsBySpreading 56 = .ok (.iconst 0, 1) := by decide +kernel
theorem dX8_cutsBySpreading_57 : decode cX8_cutsBySpreading 57 = .ok (.istore 6, 2) := by decide +kernel
theorem dX8_cutsBySpreading_59 : decode cX8_cutsBySpreading 59 = .ok (.iload 6, 2) := by decide +kernel
theorem dX8_cutsBySpreading_61 : decode cX8_cutsBySpreading 61 = .ok (.iload 5, 2) := by decide +kernel
theorem dX8_cutsBySpreading_63 : decode cX8_cutsBySpreading 63 = .ok (.if_icmp .ge 119, 3) := by decide +kernel
theorem dX8_cutsBySpreading_66 : decode cX8_cutsBySpreading 66 = .ok (.iload 6, 2) := by decide +kernel
theorem dX8_cutsBySpreading_68 : decode cX8_cutsBySpreading 68 = .ok (.aload_n 0, 1) := by decide +kernel
theorem dX8_cutsBySpreading_69 : decode cX8_cutsBySpreading 69 = .ok (.getfield 11, 3) := by decide +kernel
theorem dX8_cutsBySpreading_72 : decode cX8_cutsBySpreading 72 = .ok (.arraylength, 1) := by decide +kernel
theorem dX8_cutsBySpreading_73 : decode cX8_cutsBySpreading 73 = .ok (.if_icmp .ge 109, 3) := by decide +kernel
theorem dX8_cutsBySpreading_76 : decode cX8_cutsBySpreading 76 = .ok (.iconst 0, 1) := by decide +kernel
theorem dX8_cutsBySpreading_77 : decode cX8_cutsBySpreading 77 = .ok (.istore 7, 2) := by decide +kernel
theorem dX8_cutsBySpreading_79 : decode cX8_cutsBySpreading 79 = .ok (.iload 7, 2) := by decide +kernel
theorem dX8_cutsBySpreading_81 : decode cX8_cutsBySpreading 81 = .ok (.iconst 4, 1) := by decide +kernel
theorem dX8_cutsBySpreading_82 : decode cX8_cutsBySpreading 82 = .ok (.if_icmp .ge 94, 3) := by decide +kernel
theorem dX8_cutsBySpreading_85 : decode cX8_cutsBySpreading 85 = .ok (.aload_n 0, 1) := by decide +kernel
theorem dX8_cutsBySpreading_86 : decode cX8_cutsBySpreading 86 = .ok (.getfield 11, 3) := by decide +kernel
theorem dX8_cutsBySpreading_89 : decode cX8_cutsBySpreading 89 = .ok (.iload 6, 2) := by decide +kernel
theorem dX8_cutsBySpreading_91 : decode cX8_cutsBySpreading 91 = .ok (.iaload, 1) := by decide +kernel
theorem dX8_cutsBySpreading_92 : decode cX8_cutsBySpreading 92 = .ok (.iload 7, 2) := by decide +kernel
theorem dX8_cutsBySpreading_94 : decode cX8_cutsBySpreading 94 = .ok (.invokestatic 34, 3) := by decide +kernel
theorem dX8_cutsBySpreading_97 : decode cX8_cutsBySpreading 97 = .ok (.istore 8, 2) := by decide +kernel
theorem dX8_cutsBySpreading_99 : decode cX8_cutsBySpreading 99 = .ok (.aload_n 0, 1) := by decide +kernel
theorem dX8_cutsBySpreading_100 : decode cX8_cutsBySpreading 100 = .ok (.iload 8, 2) := by decide +kernel
theorem dX8_cutsBySpreading_102 : decode cX8_cutsBySpreading 102 = .ok (.aload_n 0, 1) := by decide +kernel
theorem dX8_cutsBySpreading_103 : decode cX8_cutsBySpreading 103 = .ok (.getfield 17, 3) := by decide +kernel
theorem dX8_cutsBySpreading_106 : decode cX8_cutsBySpreading 106 = .ok (.aload_n 0, 1) := by decide +kernel
theorem dX8_cutsBySpreading_107 : decode cX8_cutsBySpreading 107 = .ok (.getfield 11, 3) := by decide +kernel
theorem dX8_cutsBySpreading_110 : decode cX8_cutsBySpreading 110 = .ok (.iload 6, 2) := by decide +kernel
theorem dX8_cutsBySpreading_112 : decode cX8_cutsBySpreading 112 = .ok (.iaload, 1) := by decide +kernel
theorem dX8_cutsBySpreading_113 : decode cX8_cutsBySpreading 113 = .ok (.iaload, 1) := by decide +kernel
theorem dX8_cutsBySpreading_114 : decode cX8_cutsBySpreading 114 = .ok (.aload_n 1, 1) := by decide +kernel
theorem dX8_cutsBySpreading_115 : decode cX8_cutsBySpreading 115 = .ok (.invokevirtual 38, 3) := by decide +kernel
theorem dX8_cutsBySpreading_118 : decode cX8_cutsBySpreading 118 = .ok (.iadd, 1) := by decide +kernel
theorem dX8_cutsBySpreading_119 : decode cX8_cutsBySpreading 119 = .ok (.invokevirtual 42, 3) := by decide +kernel
theorem dX8_cutsBySpreading_122 : decode cX8_cutsBySpreading 122 = .ok (.istore 9, 2) := by decide +kernel
theorem dX8_cutsBySpreading_124 : decode cX8_cutsBySpreading 124 = .ok (.iload 9, 2) := by decide +kernel
theorem dX8_cutsBySpreading_126 : decode cX8_cutsBySpreading 126 = .ok (.ifCond .le 44, 3) := by decide +kernel
theorem dX8_cutsBySpreading_129 : decode cX8_cutsBySpreading 129 = .ok (.iload 5, 2) := by decide +kernel
theorem dX8_cutsBySpreading_131 : decode cX8_cutsBySpreading 131 = .ok (.aload_n 0, 1) := by decide +kernel
theorem dX8_cutsBySpreading_132 : decode cX8_cutsBySpreading 132 = .ok (.getfield 11, 3) := by decide +kernel
theorem dX8_cutsBySpreading_135 : decode cX8_cutsBySpreading 135 = .ok (.arraylength, 1) := by decide +kernel
theorem dX8_cutsBySpreading_136 : decode cX8_cutsBySpreading 136 = .ok (.if_icmp .ge 34, 3) := by decide +kernel
theorem dX8_cutsBySpreading_139 : decode cX8_cutsBySpreading 139 = .ok (.aload_n 0, 1) := by decide +kernel
theorem dX8_cutsBySpreading_140 : decode cX8_cutsBySpreading 140 = .ok (.getfield 17, 3) := by decide +kernel
theorem dX8_cutsBySpreading_143 : decode cX8_cutsBySpreading 143 = .ok (.iload 8, 2) := by decide +kernel
theorem dX8_cutsBySpreading_145 : decode cX8_cutsBySpreading 145 = .ok (.dup2, 1) := by decide +kernel
theorem dX8_cutsBySpreading_146 : decode cX8_cutsBySpreading 146 = .ok (.iaload, 1) := by decide +kernel
theorem dX8_cutsBySpreading_147 : decode cX8_cutsBySpreading 147 = .ok (.iload 9, 2) := by decide +kernel
theorem dX8_cutsBySpreading_149 : decode cX8_cutsBySpreading 149 = .ok (.isub, 1) := by decide +kernel
theorem dX8_cutsBySpreading_150 : decode cX8_cutsBySpreading 150 = .ok (.iastore, 1) := by decide +kernel
theorem dX8_cutsBySpreading_151 : decode cX8_cutsBySpreading 151 = .ok (.iload 4, 2) := by decide +kernel
theorem dX8_cutsBySpreading_153 : decode cX8_cutsBySpreading 153 = .ok (.iload 9, 2) := by decide +kernel
theorem dX8_cutsBySpreading_155 : decode cX8_cutsBySpreading 155 = .ok (.iadd, 1) := by decide +kernel
theorem dX8_cutsBySpreading_156 : decode cX8_cutsBySpreading 156 = .ok (.istore 4, 2) := by decide +kernel
theorem dX8_cutsBySpreading_158 : decode cX8_cutsBySpreading 158 = .ok (.aload_n 0, 1) := by decide +kernel
theorem dX8_cutsBySpreading_159 : decode cX8_cutsBySpreading 159 = .ok (.getfield 11, 3) := by decide +kernel
theorem dX8_cutsBySpreading_162 : decode cX8_cutsBySpreading 162 = .ok (.iload 5, 2) := by decide +kernel
theorem dX8_cutsBySpreading_164 : decode cX8_cutsBySpreading 164 = .ok (.iload 8, 2) := by decide +kernel
theorem dX8_cutsBySpreading_166 : decode cX8_cutsBySpreading 166 = .ok (.iastore, 1) := by decide +kernel
theorem dX8_cutsBySpreading_167 : decode cX8_cutsBySpreading 167 = .ok (.iinc 5 1, 3) := by decide +kernel
theorem dX8_cutsBySpreading_170 : decode cX8_cutsBySpreading 170 = .ok (.iinc 7 1, 3) := by decide +kernel
theorem dX8_cutsBySpreading_173 : decode cX8_cutsBySpreading 173 = .ok (.goto (-94), 3) := by decide +kernel
theorem dX8_cutsBySpreading_176 : decode cX8_cutsBySpreading 176 = .ok (.iinc 6 1, 3) := by decide +kernel
theorem dX8_cutsBySpreading_179 : decode cX8_cutsBySpreading 179 = .ok (.goto (-120), 3) := by decide +kernel
theorem dX8_cutsBySpreading_182 : decode cX8_cutsBySpreading 182 = .ok (.iload 4, 2) := by decide +kernel
theorem dX8_cutsBySpreading_184 : decode cX8_cutsBySpreading 184 = .ok (.ireturn, 1) := by decide +kernel
theorem dX8_excessOver_0 : decode cX8_excessOver 0 = .ok (.iload_n 1, 1) := by decide +kernel
theorem dX8_excessOver_1 : decode cX8_excessOver 1 = .ok (.iconst (-1), 1) := by decide +kernel
theorem dX8_excessOver_2 : decode cX8_excessOver 2 = .ok (.if_icmp .ne 7, 3) := by decide +kernel
theorem dX8_excessOver_5 : decode cX8_excessOver 5 = .ok (.iconst 0, 1) := by decide +kernel
theorem dX8_excessOver_6 : decode cX8_excessOver 6 = .ok (.goto 11, 3) := by decide +kernel
theorem dX8_excessOver_9 : decode cX8_excessOver 9 = .ok (.aload_n 0, 1) := by decide +kernel
theorem dX8_excessOver_10 : decode cX8_excessOver 10 = .ok (.getfield 17, 3) := by decide +kernel
theorem dX8_excessOver_13 : decode cX8_excessOver 13 = .ok (.iload_n 1, 1) := by decide +kernel
theorem dX8_excessOver_14 : decode cX8_excessOver 14 = .ok (.iaload, 1) := by decide +kernel
theorem dX8_excessOver_15 : decode cX8_excessOver 15 = .ok (.iload_n 2, 1) := by decide +kernel
theorem dX8_excessOver_16 : decode cX8_excessOver 16 = .ok (.isub, 1) := by decide +kernel
theorem dX8_excessOver_17 : decode cX8_excessOver 17 = .ok (.ireturn, 1) := by decide +kernel
set_option maxRecDepth 20000 in
theorem ggX8_sizeOfSeam_X8_clearMarks : GoodIn wsX8_sizeOfSeam wsX8_clearMarks := goodIn_ca (goodIn_r _ [5, 6, 30, 31, 32, 33, 34] (by decide +kernel) (by decide +kernel)) (goodIn_sub (fun _ h => List.mem_cons_of_mem _ (List.mem_append_right _ h)) (by decide +kernel))
set_option maxRecDepth 20000 in
theorem gX8_sizeOfSeam_X8_clearMarks : GoodIn wsX8_sizeOfSeam (wsV RX8 45 RX8 yX8_clearMarks wsX8_clearMarks) := goodIn_app (goodIn_of _ (by decide +kernel)) ggX8_sizeOfSeam_X8_clearMarks
set_option maxRecDepth 20000 in
theorem ggX8_sizeOfSeam_X8_collectSeam : GoodIn wsX8_sizeOfSeam wsX8_collectSeam := goodIn_ca (goodIn_r _ [10, 6, 11, 12, 13, 14, 15, 16, 17, 18, 19, 20, 21, 22, 23, 4, 24, 25, 26, 27, 28, 29, 30, 31, 32, 33, 34, 35, 36, 37, 38, 39, 40, 41, 42, 43, 44, 45, 46, 47, 48, 49] (by decide +kernel) (by decide +kernel)) (goodIn_sub (fun _ h => List.mem_cons_of_mem _ (List.mem_append_right _ h)) (by decide +kernel))
set_option maxRecDepth 20000 in
theorem gX8_sizeOfSeam_X8_collectSeam : GoodIn wsX8_sizeOfSeam (wsV RX8 48 RX8 yX8_collectSeam wsX8_collectSeam) := goodIn_app (goodIn_of _ (by decide +kernel)) ggX8_sizeOfSeam_X8_collectSeam
theorem dX8_sizeOfSeam_0 : decode cX8_sizeOfSeam 0 = .ok (.aload_n 0, 1) := by decide +kernel
theorem dX8_sizeOfSeam_1 : decode cX8_sizeOfSeam 1 = .ok (.invokevirtual 45, 3) := by decide +kernel
theorem dX8_sizeOfSeam_4 : decode cX8_sizeOfSeam 4 = .ok (.aload_n 0, 1) := by decide +kernel
theorem dX8_sizeOfSeam_5 : decode cX8_sizeOfSeam 5 = .ok (.aload_n 1, 1) := by decide +kernel
theorem dX8_sizeOfSeam_6 : decode cX8_sizeOfSeam 6 = .ok (.iload_n 2, 1) := by decide +kernel
theorem dX8_sizeOfSeam_7 : decode cX8_sizeOfSeam 7 = .ok (.invokevirtual 48, 3) := by decide +kernel
theorem dX8_sizeOfSeam_10 : decode cX8_sizeOfSeam 10 = .ok (.ireturn, 1) := by decide +kernel
set_option maxRecDepth 20000 in
theorem ggX8_volumeOfSeam_X8_clearMarks : GoodIn wsX8_volumeOfSeam wsX8_clearMarks := goodIn_ca (goodIn_r _ [6, 7, 30, 31, 32, 33, 34] (by decide +kernel) (by decide +kernel)) (goodIn_sub (fun _ h => List.mem_cons_of_mem _ (List.mem_append_right _ h)) (by decide +kernel))
set_option maxRecDepth 20000 in
theorem gX8_volumeOfSeam_X8_clearMarks : GoodIn wsX8_volumeOfSeam (wsV RX8 45 RX8 yX8_clearMarks wsX8_clearMarks) := goodIn_app (goodIn_of _ (by decide +kernel)) ggX8_volumeOfSeam_X8_clearMarks
set_option maxRecDepth 20000 in
theorem ggX8_volumeOfSeam_X8_collectSeam : GoodIn wsX8_volumeOfSeam wsX8_collectSeam := goodIn_ca (goodIn_r _ [11, 7, 1, 12, 13, 14, 15, 16, 17, 18, 19, 20, 21, 22, 23, 5, 24, 25, 26, 27, 28, 29, 30, 31, 32, 33, 34, 35, 36, 37, 38, 39, 40, 41, 42, 43, 44, 45, 46, 47, 48, 49] (by decide +kernel) (by decide +kernel)) (goodIn_sub (fun _ h => List.mem_cons_of_mem _ (List.mem_append_right _ h)) (by decide +kernel))
set_option maxRecDepth 20000 in
theorem gX8_volumeOfSeam_X8_collectSeam : GoodIn wsX8_volumeOfSeam (wsV RX8 48 RX8 yX8_collectSeam wsX8_collectSeam) := goodIn_app (goodIn_of _ (by decide +kernel)) ggX8_volumeOfSeam_X8_collectSeam
set_option maxRecDepth 20000 in
theorem ggX8_volumeOfSeam_X7_heightAt : GoodIn wsX8_volumeOfSeam wsX7_heightAt := goodIn_ca (goodIn_r _ [16, 17, 35, 36, 37, 38, 39, 40, 41, 42, 43, 44, 45, 46, 47, 48, 49] (by decide +kernel) (by decide +kernel)) (goodIn_sub (fun _ h => List.mem_cons_of_mem _ (List.mem_append_right _ h)) (by decide +kernel))
set_option maxRecDepth 20000 in
theorem gX8_volumeOfSeam_X7_heightAt : GoodIn wsX8_volumeOfSeam (wsV RX8 30 RX7 yX7_heightAt wsX7_heightAt) := goodIn_app (goodIn_of _ (by decide +kernel)) ggX8_volumeOfSeam_X7_heightAt
theorem dX8_volumeOfSeam_0 : decode cX8_volumeOfSeam 0 = .ok (.aload_n 0, 1) := by decide +kernel
theorem dX8_volumeOfSeam_1 : decode cX8_volumeOfSeam 1 = .ok (.invokevirtual 45, 3) := by decide +kernel
theorem dX8_volumeOfSeam_4 : decode cX8_volumeOfSeam 4 = .ok (.aload_n 0, 1) := by decide +kernel
theorem dX8_volumeOfSeam_5 : decode cX8_volumeOfSeam 5 = .ok (.aload_n 1, 1) := by decide +kernel
theorem dX8_volumeOfSeam_6 : decode cX8_volumeOfSeam 6 = .ok (.iload_n 2, 1) := by decide +kernel
theorem dX8_volumeOfSeam_7 : decode cX8_volumeOfSeam 7 = .ok (.invokevirtual 48, 3) := by decide +kernel
theorem dX8_volumeOfSeam_10 : decode cX8_volumeOfSeam 10 = .ok (.istore_n 3, 1) := by decide +kernel
theorem dX8_volumeOfSeam_11 : decode cX8_volumeOfSeam 11 = .ok (.iconst 0, 1) := by decide +kernel
theorem dX8_volumeOfSeam_12 : decode cX8_volumeOfSeam 12 = .ok (.istore 4, 2) := by decide +kernel
theorem dX8_volumeOfSeam_14 : decode cX8_volumeOfSeam 14 = .ok (.iconst 0, 1) := by decide +kernel
theorem dX8_volumeOfSeam_15 : decode cX8_volumeOfSeam 15 = .ok (.istore 5, 2) := by decide +kernel
theorem dX8_volumeOfSeam_17 : decode cX8_volumeOfSeam 17 = .ok (.iload 5, 2) := by decide +kernel
theorem dX8_volumeOfSeam_19 : decode cX8_volumeOfSeam 19 = .ok (.iload_n 3, 1) := by decide +kernel
theorem dX8_volumeOfSeam_20 : decode cX8_volumeOfSeam 20 = .ok (.if_icmp .ge 35, 3) := by decide +kernel
theorem dX8_volumeOfSeam_23 : decode cX8_volumeOfSeam 23 = .ok (.iload 5, 2) := by decide +kernel
theorem dX8_volumeOfSeam_25 : decode cX8_volumeOfSeam 25 = .ok (.aload_n 0, 1) := by decide +kernel
theorem dX8_volumeOfSeam_26 : decode cX8_volumeOfSeam 26 = .ok (.getfield 11, 3) := by decide +kernel
theorem dX8_volumeOfSeam_29 : decode cX8_volumeOfSeam 29 = .ok (.arraylength, 1) := by decide +kernel
theorem dX8_volumeOfSeam_30 : decode cX8_volumeOfSeam 30 = .ok (.if_icmp .ge 25, 3) := by decide +kernel
theorem dX8_volumeOfSeam_33 : decode cX8_volumeOfSeam 33 = .ok (.iload 4, 2) := by decide +kernel
theorem dX8_volumeOfSeam_35 : decode cX8_volumeOfSeam 35 = .ok (.aload_n 1, 1) := by decide +kernel
theorem dX8_volumeOfSeam_36 : decode cX8_volumeOfSeam 36 = .ok (.aload_n 0, 1) := by decide +kernel
theorem dX8_volumeOfSeam_37 : decode cX8_volumeOfSeam 37 = .ok (.getfield 11, 3) := by decide +kernel
theorem dX8_volumeOfSeam_40 : decode cX8_volumeOfSeam 40 = .ok (.iload 5, 2) := by decide +kernel
theorem dX8_volumeOfSeam_42 : decode cX8_volumeOfSeam 42 = .ok (.iaload, 1) := by decide +kernel
theorem dX8_volumeOfSeam_43 : decode cX8_volumeOfSeam 43 = .ok (.invokevirtual 30, 3) := by decide +kernel
theorem dX8_volumeOfSeam_46 : decode cX8_volumeOfSeam 46 = .ok (.iadd, 1) := by decide +kernel
theorem dX8_volumeOfSeam_47 : decode cX8_volumeOfSeam 47 = .ok (.istore 4, 2) := by decide +kernel
theorem dX8_volumeOfSeam_49 : decode cX8_volumeOfSeam 49 = .ok (.iinc 5 1, 3) := by decide +kernel
theorem dX8_volumeOfSeam_52 : decode cX8_volumeOfSeam 52 = .ok (.goto (-35), 3) := by decide +kernel
theorem dX8_volumeOfSeam_55 : decode cX8_volumeOfSeam 55 = .ok (.iload 4, 2) := by decide +kernel
theorem dX8_volumeOfSeam_57 : decode cX8_volumeOfSeam 57 = .ok (.ireturn, 1) := by decide +kernel
set_option maxRecDepth 20000 in
theorem ggX8_seamsBySearch_X8_clearMarks : GoodIn wsX8_seamsBySearch wsX8_clearMarks := goodIn_ca (goodIn_r _ [5, 6, 30, 31, 32, 33, 34] (by decide +kernel) (by decide +kernel)) (goodIn_sub (fun _ h => List.mem_cons_of_mem _ (List.mem_append_right _ h)) (by decide +kernel))
set_option maxRecDepth 20000 in
theorem gX8_seamsBySearch_X8_clearMarks : GoodIn wsX8_seamsBySearch (wsV RX8 45 RX8 yX8_clearMarks wsX8_clearMarks) := goodIn_app (goodIn_of _ (by decide +kernel)) ggX8_seamsBySearch_X8_clearMarks
set_option maxRecDepth 20000 in
theorem ggX8_seamsBySearch_X8_collectSeam : GoodIn wsX8_seamsBySearch wsX8_collectSeam := goodIn_ca (goodIn_r _ [10, 6, 11, 12, 13, 14, 15, 16, 17, 18, 19, 20, 21, 22, 23, 4, 24, 25, 26, 27, 28, 29, 30, 31, 32, 33, 34, 35, 36, 37, 38, 39, 40, 41, 42, 43, 44, 45, 46, 47, 48, 49] (by decide +kernel) (by decide +kernel)) (goodIn_sub (fun _ h => List.mem_cons_of_mem _ (List.mem_append_right _ h)) (by decide +kernel))
set_option maxRecDepth 20000 in
theorem gX8_seamsBySearch_X8_collectSeam : GoodIn wsX8_seamsBySearch (wsV RX8 48 RX8 yX8_collectSeam wsX8_collectSeam) := goodIn_app (goodIn_of _ (by decide +kernel)) ggX8_seamsBySearch_X8_collectSeam
theorem dX8_seamsBySearch_0 : decode cX8_seamsBySearch 0 = .ok (.aload_n 0, 1) := by decide +kernel
theorem dX8_seamsBySearch_1 : decode cX8_seamsBySearch 1 = .ok (.invokevirtual 45, 3) := by decide +kernel
theorem dX8_seamsBySearch_4 : decode cX8_seamsBySearch 4 = .ok (.iconst 0, 1) := by decide +kernel
theorem dX8_seamsBySearch_5 : decode cX8_seamsBySearch 5 = .ok (.istore_n 2, 1) := by decide +kernel
theorem dX8_seamsBySearch_6 : decode cX8_seamsBySearch 6 = .ok (.iconst 0, 1) := by decide +kernel
theorem dX8_seamsBySearch_7 : decode cX8_seamsBySearch 7 = .ok (.istore_n 3, 1) := by decide +kernel
theorem dX8_seamsBySearch_8 : decode cX8_seamsBySearch 8 = .ok (.iload_n 3, 1) := by decide +kernel
theorem dX8_seamsBySearch_9 : decode cX8_seamsBySearch 9 = .ok (.bipush 30, 2) := by decide +kernel
theorem dX8_seamsBySearch_11 : decode cX8_seamsBySearch 11 = .ok (.if_icmp .ge 21, 3) := by decide +kernel
theorem dX8_seamsBySearch_14 : decode cX8_seamsBySearch 14 = .ok (.aload_n 0, 1) := by decide +kernel
theorem dX8_seamsBySearch_15 : decode cX8_seamsBySearch 15 = .ok (.aload_n 1, 1) := by decide +kernel
theorem dX8_seamsBySearch_16 : decode cX8_seamsBySearch 16 = .ok (.iload_n 3, 1) := by decide +kernel
theorem dX8_seamsBySearch_17 : decode cX8_seamsBySearch 17 = .ok (.invokevirtual 48, 3) := by decide +kernel
theorem dX8_seamsBySearch_20 : decode cX8_seamsBySearch 20 = .ok (.ifCond .le 6, 3) := by decide +kernel
theorem dX8_seamsBySearch_23 : decode cX8_seamsBySearch 23 = .ok (.iinc 2 1, 3) := by decide +kernel
theorem dX8_seamsBySearch_26 : decode cX8_seamsBySearch 26 = .ok (.iinc 3 1, 3) := by decide +kernel
theorem dX8_seamsBySearch_29 : decode cX8_seamsBySearch 29 = .ok (.goto (-21), 3) := by decide +kernel
theorem dX8_seamsBySearch_32 : decode cX8_seamsBySearch 32 = .ok (.iload_n 2, 1) := by decide +kernel
theorem dX8_seamsBySearch_33 : decode cX8_seamsBySearch 33 = .ok (.ireturn, 1) := by decide +kernel
theorem dX8_clearMarks_0 : decode cX8_clearMarks 0 = .ok (.iconst 0, 1) := by decide +kernel
theorem dX8_clearMarks_1 : decode cX8_clearMarks 1 = .ok (.istore_n 1, 1) := by decide +kernel
theorem dX8_clearMarks_2 : decode cX8_clearMarks 2 = .ok (.iload_n 1, 1) := by decide +kernel
theorem dX8_clearMarks_3 : decode cX8_clearMarks 3 = .ok (.bipush 30, 2) := by decide +kernel
theorem dX8_clearMarks_5 : decode cX8_clearMarks 5 = .ok (.if_icmp .ge 16, 3) := by decide +kernel
theorem dX8_clearMarks_8 : decode cX8_clearMarks 8 = .ok (.aload_n 0, 1) := by decide +kernel
theorem dX8_clearMarks_9 : decode cX8_clearMarks 9 = .ok (.getfield 26, 3) := by decide +kernel
theorem dX8_clearMarks_12 : decode cX8_clearMarks 12 = .ok (.iload_n 1, 1) := by decide +kernel
theorem dX8_clearMarks_13 : decode cX8_clearMarks 13 = .ok (.iconst 0, 1) := by decide +kernel
theorem dX8_clearMarks_14 : decode cX8_clearMarks 14 = .ok (.bastore, 1) := by decide +kernel
theorem dX8_clearMarks_15 : decode cX8_clearMarks 15 = .ok (.iinc 1 1, 3) := by decide +kernel
theorem dX8_clearMarks_18 : decode cX8_clearMarks 18 = .ok (.goto (-16), 3) := by decide +kernel
theorem dX8_clearMarks_21 : decode cX8_clearMarks 21 = .ok (.return_, 1) := by decide +kernel
set_option maxRecDepth 20000 in
theorem ggX8_collectSeam_X7_heightAt : GoodIn wsX8_collectSeam wsX7_heightAt := goodIn_ca (goodIn_r _ [7, 8, 27, 28, 29, 30, 31, 32, 33, 34, 35, 36, 37, 38, 39, 40, 41] (by decide +kernel) (by decide +kernel)) (goodIn_sub (fun _ h => List.mem_cons_of_mem _ (List.mem_append_right _ h)) (by decide +kernel))
set_option maxRecDepth 20000 in
theorem gX8_collectSeam_X7_heightAt : GoodIn wsX8_collectSeam (wsV RX8 30 RX7 yX7_heightAt wsX7_heightAt) := goodIn_app (goodIn_of _ (by decide +kernel)) ggX8_collectSeam_X7_heightAt
set_option maxRecDepth 20000 in
theorem ggX8_collectSeam_X3_neighbour : GoodIn wsX8_collectSeam wsX3_neighbour := goodIn_r _ [12] (by decide +kernel) (by decide +kernel)
set_option maxRecDepth 20000 in
theorem gX8_collectSeam_X3_neighbour : GoodIn wsX8_collectSeam (va_wsS RX8 34 yX3_neighbour wsX3_neighbour) := goodIn_app (goodIn_of _ (by decide +kernel)) ggX8_collectSeam_X3_neighbour
set_option maxRecDepth 20000 in
theorem ggX8_collectSeam_X8_continuesSeam : GoodIn wsX8_collectSeam wsX8_continuesSeam := goodIn_ca (goodIn_r _ [16, 3, 4, 5, 6, 7, 8, 17, 18, 19, 20, 21, 27, 28, 29, 30, 31, 32, 33, 34, 35, 36, 37, 38, 39, 40, 41] (by decide +kernel) (by decide +kernel)) (goodIn_sub (fun _ h => List.mem_cons_of_mem _ (List.mem_append_right _ h)) (by decide +kernel))
set_option maxRecDepth 20000 in
theorem gX8_collectSeam_X8_continuesSeam : GoodIn wsX8_collectSeam (va_wsS RX8 52 yX8_continuesSeam wsX8_continuesSeam) := goodIn_app (goodIn_of _ (by decide +kernel)) ggX8_collectSeam_X8_continuesSeam
theorem dX8_collectSeam_0 : decode cX8_collectSeam 0 = .ok (.aload_n 0, 1) := by decide +kernel
theorem dX8_collectSeam_1 : decode cX8_collectSeam 1 = .ok (.getfield 26, 3) := by decide +kernel
theorem dX8_collectSeam_4 : decode cX8_collectSeam 4 = .ok (.iload_n 2, 1) := by decide +kernel
theorem dX8_collectSeam_5 : decode cX8_collectSeam 5 = .ok (.baload, 1) := by decide +kernel
theorem dX8_collectSeam_6 : decode cX8_collectSeam 6 = .ok (.ifCond .ne 11, 3) := by decide +kernel
theorem dX8_collectSeam_9 : decode cX8_collectSeam 9 = .ok (.aload_n 1, 1) := by decide +kernel
theorem dX8_collectSeam_10 : decode cX8_collectSeam 10 = .ok (.iload_n 2, 1) := by decide +kernel
theorem dX8_collectSeam_11 : decode cX8_collectSeam 11 = .ok (.invokevirtual 30, 3) := by decide +kernel
theorem dX8_collectSeam_14 : decode cX8_collectSeam 14 = .ok (.ifCond .ne 5, 3) := by decide +kernel
theorem dX8_collectSeam_17 : decode cX8_collectSeam 17 = .ok (.iconst 0, 1) := by decide +kernel
theorem dX8_collectSeam_18 : decode cX8_collectSeam 18 = .ok (.ireturn, 1) := by decide +kernel
theorem dX8_collectSeam_19 : decode cX8_collectSeam 19 = .ok (.aload_n 0, 1) := by decide +kernel
theorem dX8_collectSeam_20 : decode cX8_collectSeam 20 = .ok (.getfield 26, 3) := by decide +kernel
theorem dX8_collectSeam_23 : decode cX8_collectSeam 23 = .ok (.iload_n 2, 1) := by decide +kernel
theorem dX8_collectSeam_24 : decode cX8_collectSeam 24 = .ok (.iconst 1, 1) := by decide +kernel
theorem dX8_collectSeam_25 : decode cX8_collectSeam 25 = .ok (.bastore, 1) := by decide +kernel
theorem dX8_collectSeam_26 : decode cX8_collectSeam 26 = .ok (.aload_n 0, 1) := by decide +kernel
theorem dX8_collectSeam_27 : decode cX8_collectSeam 27 = .ok (.getfield 11, 3) := by decide +kernel
theorem dX8_collectSeam_30 : decode cX8_collectSeam 30 = .ok (.iconst 0, 1) := by decide +kernel
theorem dX8_collectSeam_31 : decode cX8_collectSeam 31 = .ok (.iload_n 2, 1) := by decide +kernel
theorem dX8_collectSeam_32 : decode cX8_collectSeam 32 = .ok (.iastore, 1) := by decide +kernel
theorem dX8_collectSeam_33 : decode cX8_collectSeam 33 = .ok (.iconst 1, 1) := by decide +kernel
theorem dX8_collectSeam_34 : decode cX8_collectSeam 34 = .ok (.istore_n 3, 1) := by decide +kernel
theorem dX8_collectSeam_35 : decode cX8_collectSeam 35 = .ok (.iconst 0, 1) := by decide +kernel
theorem dX8_collectSeam_36 : decode cX8_collectSeam 36 = .ok (.istore 4, 2) := by decide +kernel
theorem dX8_collectSeam_38 : decode cX8_collectSeam 38 = .ok (.iload 4, 2) := by decide +kernel
theorem dX8_collectSeam_40 : decode cX8_collectSeam 40 = .ok (.iload_n 3, 1) := by decide +kernel
theorem dX8_collectSeam_41 : decode cX8_collectSeam 41 = .ok (.if_icmp .ge 102, 3) := by decide +kernel
theorem dX8_collectSeam_44 : decode cX8_collectSeam 44 = .ok (.iload 4, 2) := by decide +kernel
theorem dX8_collectSeam_46 : decode cX8_collectSeam 46 = .ok (.aload_n 0, 1) := by decide +kernel
theorem dX8_collectSeam_47 : decode cX8_collectSeam 47 = .ok (.getfield 11, 3) := by decide +kernel
theorem dX8_collectSeam_50 : decode cX8_collectSeam 50 = .ok (.arraylength, 1) := by decide +kernel
theorem dX8_collectSeam_51 : decode cX8_collectSeam 51 = .ok (.if_icmp .ge 92, 3) := by decide +kernel
theorem dX8_collectSeam_54 : decode cX8_collectSeam 54 = .ok (.iconst 0, 1) := by decide +kernel
theorem dX8_collectSeam_55 : decode cX8_collectSeam 55 = .ok (.istore 5, 2) := by decide +kernel
theorem dX8_collectSeam_57 : decode cX8_collectSeam 57 = .ok (.iload 5, 2) := by decide +kernel
theorem dX8_collectSeam_59 : decode cX8_collectSeam 59 = .ok (.iconst 4, 1) := by decide +kernel
theorem dX8_collectSeam_60 : decode cX8_collectSeam 60 = .ok (.if_icmp .ge 77, 3) := by decide +kernel
theorem dX8_collectSeam_63 : decode cX8_collectSeam 63 = .ok (.aload_n 0, 1) := by decide +kernel
theorem dX8_collectSeam_64 : decode cX8_collectSeam 64 = .ok (.getfield 11, 3) := by decide +kernel
theorem dX8_collectSeam_67 : decode cX8_collectSeam 67 = .ok (.iload 4, 2) := by decide +kernel
theorem dX8_collectSeam_69 : decode cX8_collectSeam 69 = .ok (.iaload, 1) := by decide +kernel
theorem dX8_collectSeam_70 : decode cX8_collectSeam 70 = .ok (.iload 5, 2) := by decide +kernel
theorem dX8_collectSeam_72 : decode cX8_collectSeam 72 = .ok (.invokestatic 34, 3) := by decide +kernel
theorem dX8_collectSeam_75 : decode cX8_collectSeam 75 = .ok (.istore 6, 2) := by decide +kernel
theorem dX8_collectSeam_77 : decode cX8_collectSeam 77 = .ok (.aload_n 1, 1) := by decide +kernel
theorem dX8_collectSeam_78 : decode cX8_collectSeam 78 = .ok (.aload_n 0, 1) := by decide +kernel
theorem dX8_collectSeam_79 : decode cX8_collectSeam 79 = .ok (.getfield 11, 3) := by decide +kernel
theorem dX8_collectSeam_82 : decode cX8_collectSeam 82 = .ok (.iload 4, 2) := by decide +kernel
theorem dX8_collectSeam_84 : decode cX8_collectSeam 84 = .ok (.iaload, 1) := by decide +kernel
theorem dX8_collectSeam_85 : decode cX8_collectSeam 85 = .ok (.iload 6, 2) := by decide +kernel
theorem dX8_collectSeam_87 : decode cX8_collectSeam 87 = .ok (.invokestatic 52, 3) := by decide +kernel
theorem dX8_collectSeam_90 : decode cX8_collectSeam 90 = .ok (.ifCond .eq 41, 3) := by decide +kernel
theorem dX8_collectSeam_93 : decode cX8_collectSeam 93 = .ok (.aload_n 0, 1) := by decide +kernel
theorem dX8_collectSeam_94 : decode cX8_collectSeam 94 = .ok (.getfield 26, 3) := by decide +kernel
theorem dX8_collectSeam_97 : decode cX8_collectSeam 97 = .ok (.iload 6, 2) := by decide +kernel
theorem dX8_collectSeam_99 : decode cX8_collectSeam 99 = .ok (.baload, 1) := by decide +kernel
theorem dX8_collectSeam_100 : decode cX8_collectSeam 100 = .ok (.ifCond .ne 31, 3) := by decide +kernel
theorem dX8_collectSeam_103 : decode cX8_collectSeam 103 = .ok (.iload_n 3, 1) := by decide +kernel
theorem dX8_collectSeam_104 : decode cX8_collectSeam 104 = .ok (.aload_n 0, 1) := by decide +kernel
theorem dX8_collectSeam_105 : decode cX8_collectSeam 105 = .ok (.getfield 11, 3) := by decide +kernel
theorem dX8_collectSeam_108 : decode cX8_collectSeam 108 = .ok (.arraylength, 1) := by decide +kernel
theorem dX8_collectSeam_109 : decode cX8_collectSeam 109 = .ok (.if_icmp .ge 22, 3) := by decide +kernel
theorem dX8_collectSeam_112 : decode cX8_collectSeam 112 = .ok (.aload_n 0, 1) := by decide +kernel
theorem dX8_collectSeam_113 : decode cX8_collectSeam 113 = .ok (.getfield 26, 3) := by decide +kernel
theorem dX8_collectSeam_116 : decode cX8_collectSeam 116 = .ok (.iload 6, 2) := by decide +kernel
theorem dX8_collectSeam_118 : decode cX8_collectSeam 118 = .ok (.iconst 1, 1) := by decide +kernel
theorem dX8_collectSeam_119 : decode cX8_collectSeam 119 = .ok (.bastore, 1) := by decide +kernel
theorem dX8_collectSeam_120 : decode cX8_collectSeam 120 = .ok (.aload_n 0, 1) := by decide +kernel
theorem dX8_collectSeam_121 : decode cX8_collectSeam 121 = .ok (.getfield 11, 3) := by decide +kernel
theorem dX8_collectSeam_124 : decode cX8_collectSeam 124 = .ok (.iload_n 3, 1) := by decide +kernel
theorem dX8_collectSeam_125 : decode cX8_collectSeam 125 = .ok (.iload 6, 2) := by decide +kernel
theorem dX8_collectSeam_127 : decode cX8_collectSeam 127 = .ok (.iastore, 1) := by decide +kernel
theorem dX8_collectSeam_128 : decode cX8_collectSeam 128 = .ok (.iinc 3 1, 3) := by decide +kernel
theorem dX8_collectSeam_131 : decode cX8_collectSeam 131 = .ok (.iinc 5 1, 3) := by decide +kernel
theorem dX8_collectSeam_134 : decode cX8_collectSeam 134 = .ok (.goto (-77), 3) := by decide +kernel
theorem dX8_collectSeam_137 : decode cX8_collectSeam 137 = .ok (.iinc 4 1, 3) := by decide +kernel
theorem dX8_collectSeam_140 : decode cX8_collectSeam 140 = .ok (.goto (-102), 3) := by decide +kernel
theorem dX8_collectSeam_143 : decode cX8_collectSeam 143 = .ok (.iload_n 3, 1) := by decide +kernel
theorem dX8_collectSeam_144 : decode cX8_collectSeam 144 = .ok (.ireturn, 1) := by decide +kernel
set_option maxRecDepth 20000 in
theorem ggX8_continuesSeam_X7_heightAt : GoodIn wsX8_continuesSeam wsX7_heightAt := goodIn_ca (goodIn_r _ [5, 6, 12, 13, 14, 15, 16, 17, 18, 19, 20, 21, 22, 23, 24, 25, 26] (by decide +kernel) (by decide +kernel)) (goodIn_sub (fun _ h => List.mem_cons_of_mem _ (List.mem_append_right _ h)) (by decide +kernel))
set_option maxRecDepth 20000 in
theorem gX8_continuesSeam_X7_heightAt : GoodIn wsX8_continuesSeam (wsV RX8 30 RX7 yX7_heightAt wsX7_heightAt) := goodIn_app (goodIn_of _ (by decide +kernel)) ggX8_continuesSeam_X7_heightAt
set_option maxRecDepth 20000 in
theorem ggX8_continuesSeam_X7_stoneAt : GoodIn wsX8_continuesSeam wsX7_stoneAt := goodIn_ca (goodIn_r _ [10, 11, 12, 13, 14, 15, 16, 17, 18, 19, 20, 21, 22, 23, 24, 25, 26] (by decide +kernel) (by decide +kernel)) (goodIn_sub (fun _ h => List.mem_cons_of_mem _ (List.mem_append_right _ h)) (by decide +kernel))
set_option maxRecDepth 20000 in
theorem gX8_continuesSeam_X7_stoneAt : GoodIn wsX8_continuesSeam (wsV RX8 56 RX7 yX7_stoneAt wsX7_stoneAt) := goodIn_app (goodIn_of _ (by decide +kernel)) ggX8_continuesSeam_X7_stoneAt
theorem dX8_continuesSeam_0 : decode cX8_continuesSeam 0 = .ok (.iload_n 2, 1) := by decide +kernel
theorem dX8_continuesSeam_1 : decode cX8_continuesSeam 1 = .ok (.iconst (-1), 1) := by decide +kernel
theorem dX8_continuesSeam_2 : decode cX8_continuesSeam 2 = .ok (.if_icmp .eq 36, 3) := by decide +kernel
theorem dX8_continuesSeam_5 : decode cX8_continuesSeam 5 = .ok (.aload_n 0, 1) := by decide +kernel
theorem dX8_continuesSeam_6 : decode cX8_continuesSeam 6 = .ok (.iload_n 1, 1) := by decide +kernel
theorem dX8_continuesSeam_7 : decode cX8_continuesSeam 7 = .ok (.invokevirtual 30, 3) := by decide +kernel
theorem dX8_continuesSeam_10 : decode cX8_continuesSeam 10 = .ok (.ifCond .le 28, 3) := by decide +kernel
theorem dX8_continuesSeam_13 : decode cX8_continuesSeam 13 = .ok (.aload_n 0, 1) := by decide +kernel
theorem dX8_continuesSeam_14 : decode cX8_continuesSeam 14 = .ok (.iload_n 2, 1) := by decide +kernel
theorem dX8_continuesSeam_15 : decode cX8_continuesSeam 15 = .ok (.invokevirtual 30, 3) := by decide +kernel
theorem dX8_continuesSeam_18 : decode cX8_continuesSeam 18 = .ok (.ifCond .le 20, 3) := by decide +kernel
theorem dX8_continuesSeam_21 : decode cX8_continuesSeam 21 = .ok (.aload_n 0, 1) := by decide +kernel
theorem dX8_continuesSeam_22 : decode cX8_continuesSeam 22 = .ok (.iload_n 1, 1) := by decide +kernel
theorem dX8_continuesSeam_23 : decode cX8_continuesSeam 23 = .ok (.invokevirtual 56, 3) := by decide +kernel
theorem dX8_continuesSeam_26 : decode cX8_continuesSeam 26 = .ok (.aload_n 0, 1) := by decide +kernel
theorem dX8_continuesSeam_27 : decode cX8_continuesSeam 27 = .ok (.iload_n 2, 1) := by decide +kernel
theorem dX8_continuesSeam_28 : decode cX8_continuesSeam 28 = .ok (.invokevirtual 56, 3) := by decide +kernel
theorem dX8_continuesSeam_31 : decode cX8_continuesSeam 31 = .ok (.if_icmp .ne 7, 3) := by decide +kernel
theorem dX8_continuesSeam_34 : decode cX8_continuesSeam 34 = .ok (.iconst 1, 1) := by decide +kernel
theorem dX8_continuesSeam_35 : decode cX8_continuesSeam 35 = .ok (.goto 4, 3) := by decide +kernel
theorem dX8_continuesSeam_38 : decode cX8_continuesSeam 38 = .ok (.iconst 0, 1) := by decide +kernel
theorem dX8_continuesSeam_39 : decode cX8_continuesSeam 39 = .ok (.ireturn, 1) := by decide +kernel
set_option maxRecDepth 20000 in
theorem ggX8_seamsByMerging_X7_countAt : GoodIn wsX8_seamsByMerging wsX7_countAt := goodIn_ca (goodIn_r _ [6, 7, 34, 35, 36, 37, 38, 39, 40, 41, 42, 43, 44, 45, 46, 47, 48] (by decide +kernel) (by decide +kernel)) (goodIn_sub (fun _ h => List.mem_cons_of_mem _ (List.mem_append_right _ h)) (by decide +kernel))
set_option maxRecDepth 20000 in
theorem gX8_seamsByMerging_X7_countAt : GoodIn wsX8_seamsByMerging (wsV RX8 59 RX7 yX7_countAt wsX7_countAt) := goodIn_app (goodIn_of _ (by decide +kernel)) ggX8_seamsByMerging_X7_countAt
set_option maxRecDepth 20000 in
theorem ggX8_seamsByMerging_X3_neighbour : GoodIn wsX8_seamsByMerging wsX3_neighbour := goodIn_r _ [11] (by decide +kernel) (by decide +kernel)
set_option maxRecDepth 20000 in
theorem gX8_seamsByMerging_X3_neighbour : GoodIn wsX8_seamsByMerging (va_wsS RX8 34 yX3_neighbour wsX3_neighbour) := goodIn_app (goodIn_of _ (by decide +kernel)) ggX8_seamsByMerging_X3_neighbour
set_option maxRecDepth 20000 in
theorem ggX8_seamsByMerging_X8_continuesSeam : GoodIn wsX8_seamsByMerging wsX8_continuesSeam := goodIn_ca (goodIn_r _ [15, 16, 17, 18, 5, 19, 7, 20, 21, 22, 23, 24, 34, 35, 36, 37, 38, 39, 40, 41, 42, 43, 44, 45, 46, 47, 48] (by decide +kernel) (by decide +kernel)) (goodIn_sub (fun _ h => List.mem_cons_of_mem _ (List.mem_append_right _ h)) (by decide +kernel))
set_option maxRecDepth 20000 in
theorem gX8_seamsByMerging_X8_continuesSeam : GoodIn wsX8_seamsByMerging (va_wsS RX8 52 yX8_continuesSeam wsX8_continuesSeam) := goodIn_app (goodIn_of _ (by decide +kernel)) ggX8_seamsByMerging_X8_continuesSeam
set_option maxRecDepth 20000 in
theorem ggX8_seamsByMerging_X8_relabel : GoodIn wsX8_seamsByMerging wsX8_relabel := goodIn_ca (goodIn_r _ [28, 1, 29, 30, 31, 32, 33] (by decide +kernel) (by decide +kernel)) (goodIn_sub (fun _ h => List.mem_cons_of_mem _ (List.mem_append_right _ h)) (by decide +kernel))
set_option maxRecDepth 20000 in
theorem gX8_seamsByMerging_X8_relabel : GoodIn wsX8_seamsByMerging (wsV RX8 62 RX8 yX8_relabel wsX8_relabel) := goodIn_app (goodIn_of _ (by decide +kernel)) ggX8_seamsByMerging_X8_relabel
theorem dX8_seamsByMerging_0 : decode cX8_seamsByMerging 0 = .ok (.iconst 0, 1) := by decide +kernel
theorem dX8_seamsByMerging_1 : decode cX8_seamsByMerging 1 = .ok (.istore_n 2, 1) := by decide +kernel
theorem dX8_seamsByMerging_2 : decode cX8_seamsByMerging 2 = .ok (.iload_n 2, 1) := by decide +kernel
theorem dX8_seamsByMerging_3 : decode cX8_seamsByMerging 3 = .ok (.bipush 30, 2) := by decide +kernel
theorem dX8_seamsByMerging_5 : decode cX8_seamsByMerging 5 = .ok (.if_icmp .ge 16, 3) := by decide +kernel
theorem dX8_seamsByMerging_8 : decode cX8_seamsByMerging 8 = .ok (.aload_n 0, 1) := by decide +kernel
theorem dX8_seamsByMerging_9 : decode cX8_seamsByMerging 9 = .ok (.getfield 20, 3) := by decide +kernel
theorem dX8_seamsByMerging_12 : decode cX8_seamsByMerging 12 = .ok (.iload_n 2, 1) := by decide +kernel
theorem dX8_seamsByMerging_13 : decode cX8_seamsByMerging 13 = .ok (.iload_n 2, 1) := by decide +kernel
theorem dX8_seamsByMerging_14 : decode cX8_seamsByMerging 14 = .ok (.iastore, 1) := by decide +kernel
theorem dX8_seamsByMerging_15 : decode cX8_seamsByMerging 15 = .ok (.iinc 2 1, 3) := by decide +kernel
theorem dX8_seamsByMerging_18 : decode cX8_seamsByMerging 18 = .ok (.goto (-16), 3) := by decide +kernel
theorem dX8_seamsByMerging_21 : decode cX8_seamsByMerging 21 = .ok (.bipush 30, 2) := by decide +kernel
theorem dX8_seamsByMerging_23 : decode cX8_seamsByMerging 23 = .ok (.aload_n 1, 1) := by decide +kernel
theorem dX8_seamsByMerging_24 : decode cX8_seamsByMerging 24 = .ok (.iconst 0, 1) := by decide +kernel
theorem dX8_seamsByMerging_25 : decode cX8_seamsByMerging 25 = .ok (.invokevirtual 59, 3) := by decide +kernel
theorem dX8_seamsByMerging_28 : decode cX8_seamsByMerging 28 = .ok (.isub, 1) := by decide +kernel
theorem dX8_seamsByMerging_29 : decode cX8_seamsByMerging 29 = .ok (.istore_n 2, 1) := by decide +kernel
theorem dX8_seamsByMerging_30 : decode cX8_seamsByMerging 30 = .ok (.iconst 0, 1) := by decide +kernel
theorem dX8_seamsByMerging_31 : decode cX8_seamsByMerging 31 = .ok (.istore_n 3, 1) := by decide +kernel
theorem dX8_seamsByMerging_32 : decode cX8_seamsByMerging 32 = .ok (.iload_n 3, 1) := by decide +kernel
theorem dX8_seamsByMerging_33 : decode cX8_seamsByMerging 33 = .ok (.bipush 30, 2) := by decide +kernel
theorem dX8_seamsByMerging_35 : decode cX8_seamsByMerging 35 = .ok (.if_icmp .ge 78, 3) := by decide +kernel
theorem dX8_seamsByMerging_38 : decode cX8_seamsByMerging 38 = .ok (.iconst 0, 1) := by decide +kernel
theorem dX8_seamsByMerging_39 : decode cX8_seamsByMerging 39 = .ok (.istore 4, 2) := by decide +kernel
theorem dX8_seamsByMerging_41 : decode cX8_seamsByMerging 41 = .ok (.iload 4, 2) := by decide +kernel
theorem dX8_seamsByMerging_43 : decode cX8_seamsByMerging 43 = .ok (.iconst 4, 1) := by decide +kernel
theorem dX8_seamsByMerging_44 : decode cX8_seamsByMerging 44 = .ok (.if_icmp .ge 63, 3) := by decide +kernel
theorem dX8_seamsByMerging_47 : decode cX8_seamsByMerging 47 = .ok (.iload_n 3, 1) := by decide +kernel
theorem dX8_seamsByMerging_48 : decode cX8_seamsByMerging 48 = .ok (.iload 4, 2) := by decide +kernel
theorem dX8_seamsByMerging_50 : decode cX8_seamsByMerging 50 = .ok (.invokestatic 34, 3) := by decide +kernel
theorem dX8_seamsByMerging_53 : decode cX8_seamsByMerging 53 = .ok (.istore 5, 2) := by decide +kernel
theorem dX8_seamsByMerging_55 : decode cX8_seamsByMerging 55 = .ok (.aload_n 1, 1) := by decide +kernel
theorem dX8_seamsByMerging_56 : decode cX8_seamsByMerging 56 = .ok (.iload_n 3, 1) := by decide +kernel
theorem dX8_seamsByMerging_57 : decode cX8_seamsByMerging 57 = .ok (.iload 5, 2) := by decide +kernel
theorem dX8_seamsByMerging_59 : decode cX8_seamsByMerging 59 = .ok (.invokestatic 52, 3) := by decide +kernel
theorem dX8_seamsByMerging_62 : decode cX8_seamsByMerging 62 = .ok (.ifCond .eq 39, 3) := by decide +kernel
