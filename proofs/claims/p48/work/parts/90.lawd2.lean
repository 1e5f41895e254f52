theorem dL_looks_190 : decode cL_looks 190 = .ok (.if_icmp .ge 42, 3) := by decide +kernel
theorem dL_looks_193 : decode cL_looks 193 = .ok (.aload_n 0, 1) := by decide +kernel
theorem dL_looks_194 : decode cL_looks 194 = .ok (.iload_n 2, 1) := by decide +kernel
theorem dL_looks_195 : decode cL_looks 195 = .ok (.invokevirtual 144, 3) := by decide +kernel
theorem dL_looks_198 : decode cL_looks 198 = .ok (.istore_n 3, 1) := by decide +kernel
theorem dL_looks_199 : decode cL_looks 199 = .ok (.iconst 0, 1) := by decide +kernel
theorem dL_looks_200 : decode cL_looks 200 = .ok (.istore 4, 2) := by decide +kernel
theorem dL_looks_202 : decode cL_looks 202 = .ok (.iload 4, 2) := by decide +kernel
theorem dL_looks_204 : decode cL_looks 204 = .ok (.iload_n 3, 1) := by decide +kernel
theorem dL_looks_205 : decode cL_looks 205 = .ok (.if_icmp .ge 21, 3) := by decide +kernel
theorem dL_looks_208 : decode cL_looks 208 = .ok (.bipush 31, 2) := by decide +kernel
theorem dL_looks_210 : decode cL_looks 210 = .ok (.iload_n 1, 1) := by decide +kernel
theorem dL_looks_211 : decode cL_looks 211 = .ok (.imul, 1) := by decide +kernel
theorem dL_looks_212 : decode cL_looks 212 = .ok (.aload_n 0, 1) := by decide +kernel
theorem dL_looks_213 : decode cL_looks 213 = .ok (.iload 4, 2) := by decide +kernel
theorem dL_looks_215 : decode cL_looks 215 = .ok (.invokevirtual 147, 3) := by decide +kernel
theorem dL_looks_218 : decode cL_looks 218 = .ok (.iadd, 1) := by decide +kernel
theorem dL_looks_219 : decode cL_looks 219 = .ok (.istore_n 1, 1) := by decide +kernel
theorem dL_looks_220 : decode cL_looks 220 = .ok (.iinc 4 1, 3) := by decide +kernel
theorem dL_looks_223 : decode cL_looks 223 = .ok (.goto (-21), 3) := by decide +kernel
theorem dL_looks_226 : decode cL_looks 226 = .ok (.iinc 2 1, 3) := by decide +kernel
theorem dL_looks_229 : decode cL_looks 229 = .ok (.goto (-41), 3) := by decide +kernel
theorem dL_looks_232 : decode cL_looks 232 = .ok (.iload_n 1, 1) := by decide +kernel
theorem dL_looks_233 : decode cL_looks 233 = .ok (.ireturn, 1) := by decide +kernel
theorem dL_steepest_0 : decode cL_steepest 0 = .ok (.iconst 0, 1) := by decide +kernel
theorem dL_steepest_1 : decode cL_steepest 1 = .ok (.istore_n 3, 1) := by decide +kernel
theorem dL_steepest_2 : decode cL_steepest 2 = .ok (.iconst 0, 1) := by decide +kernel
theorem dL_steepest_3 : decode cL_steepest 3 = .ok (.istore 4, 2) := by decide +kernel
theorem dL_steepest_5 : decode cL_steepest 5 = .ok (.iload 4, 2) := by decide +kernel
theorem dL_steepest_7 : decode cL_steepest 7 = .ok (.bipush 30, 2) := by decide +kernel
theorem dL_steepest_9 : decode cL_steepest 9 = .ok (.if_icmp .ge 72, 3) := by decide +kernel
theorem dL_steepest_12 : decode cL_steepest 12 = .ok (.iload_n 1, 1) := by decide +kernel
theorem dL_steepest_13 : decode cL_steepest 13 = .ok (.bipush 6, 2) := by decide +kernel
theorem dL_steepest_15 : decode cL_steepest 15 = .ok (.idiv, 1) := by decide +kernel
theorem dL_steepest_16 : decode cL_steepest 16 = .ok (.iload 4, 2) := by decide +kernel
theorem dL_steepest_18 : decode cL_steepest 18 = .ok (.bipush 6, 2) := by decide +kernel
theorem dL_steepest_20 : decode cL_steepest 20 = .ok (.idiv, 1) := by decide +kernel
theorem dL_steepest_21 : decode cL_steepest 21 = .ok (.isub, 1) := by decide +kernel
theorem dL_steepest_22 : decode cL_steepest 22 = .ok (.invokestatic 151, 3) := by decide +kernel
theorem dL_steepest_25 : decode cL_steepest 25 = .ok (.iload_n 1, 1) := by decide +kernel
theorem dL_steepest_26 : decode cL_steepest 26 = .ok (.bipush 6, 2) := by decide +kernel
theorem dL_steepest_28 : decode cL_steepest 28 = .ok (.irem, 1) := by decide +kernel
theorem dL_steepest_29 : decode cL_steepest 29 = .ok (.iload 4, 2) := by decide +kernel
theorem dL_steepest_31 : decode cL_steepest 31 = .ok (.bipush 6, 2) := by decide +kernel
theorem dL_steepest_33 : decode cL_steepest 33 = .ok (.irem, 1) := by decide +kernel
theorem dL_steepest_34 : decode cL_steepest 34 = .ok (.isub, 1) := by decide +kernel
theorem dL_steepest_35 : decode cL_steepest 35 = .ok (.invokestatic 151, 3) := by decide +kernel
theorem dL_steepest_38 : decode cL_steepest 38 = .ok (.iadd, 1) := by decide +kernel
theorem dL_steepest_39 : decode cL_steepest 39 = .ok (.istore 5, 2) := by decide +kernel
theorem dL_steepest_41 : decode cL_steepest 41 = .ok (.iload 5, 2) := by decide +kernel
theorem dL_steepest_43 : decode cL_steepest 43 = .ok (.iconst 1, 1) := by decide +kernel
theorem dL_steepest_44 : decode cL_steepest 44 = .ok (.if_icmp .ne 29, 3) := by decide +kernel
theorem dL_steepest_47 : decode cL_steepest 47 = .ok (.iload_n 3, 1) := by decide +kernel
theorem dL_steepest_48 : decode cL_steepest 48 = .ok (.iload_n 2, 1) := by decide +kernel
theorem dL_steepest_49 : decode cL_steepest 49 = .ok (.aload_n 0, 1) := by decide +kernel
theorem dL_steepest_50 : decode cL_steepest 50 = .ok (.iload 4, 2) := by decide +kernel
theorem dL_steepest_52 : decode cL_steepest 52 = .ok (.bipush 6, 2) := by decide +kernel
theorem dL_steepest_54 : decode cL_steepest 54 = .ok (.idiv, 1) := by decide +kernel
theorem dL_steepest_55 : decode cL_steepest 55 = .ok (.iload 4, 2) := by decide +kernel
theorem dL_steepest_57 : decode cL_steepest 57 = .ok (.bipush 6, 2) := by decide +kernel
theorem dL_steepest_59 : decode cL_steepest 59 = .ok (.irem, 1) := by decide +kernel
theorem dL_steepest_60 : decode cL_steepest 60 = .ok (.invokevirtual 68, 3) := by decide +kernel
theorem dL_steepest_63 : decode cL_steepest 63 = .ok (.isub, 1) := by decide +kernel
theorem dL_steepest_64 : decode cL_steepest 64 = .ok (.invokestatic 151, 3) := by decide +kernel
theorem dL_steepest_67 : decode cL_steepest 67 = .ok (.invokestatic 114, 3) := by decide +kernel
theorem dL_steepest_70 : decode cL_steepest 70 = .ok (.goto 4, 3) := by decide +kernel
theorem dL_steepest_73 : decode cL_steepest 73 = .ok (.iload_n 3, 1) := by decide +kernel
theorem dL_steepest_74 : decode cL_steepest 74 = .ok (.istore_n 3, 1) := by decide +kernel
theorem dL_steepest_75 : decode cL_steepest 75 = .ok (.iinc 4 1, 3) := by decide +kernel
theorem dL_steepest_78 : decode cL_steepest 78 = .ok (.goto (-73), 3) := by decide +kernel
theorem dL_steepest_81 : decode cL_steepest 81 = .ok (.iload_n 3, 1) := by decide +kernel
theorem dL_steepest_82 : decode cL_steepest 82 = .ok (.ireturn, 1) := by decide +kernel
theorem dL_far_0 : decode cL_far 0 = .ok (.iload_n 0, 1) := by decide +kernel
theorem dL_far_1 : decode cL_far 1 = .ok (.bipush 6, 2) := by decide +kernel
theorem dL_far_3 : decode cL_far 3 = .ok (.idiv, 1) := by decide +kernel
theorem dL_far_4 : decode cL_far 4 = .ok (.iload_n 1, 1) := by decide +kernel
theorem dL_far_5 : decode cL_far 5 = .ok (.bipush 6, 2) := by decide +kernel
theorem dL_far_7 : decode cL_far 7 = .ok (.idiv, 1) := by decide +kernel
theorem dL_far_8 : decode cL_far 8 = .ok (.isub, 1) := by decide +kernel
theorem dL_far_9 : decode cL_far 9 = .ok (.invokestatic 151, 3) := by decide +kernel
theorem dL_far_12 : decode cL_far 12 = .ok (.iload_n 0, 1) := by decide +kernel
theorem dL_far_13 : decode cL_far 13 = .ok (.bipush 6, 2) := by decide +kernel
theorem dL_far_15 : decode cL_far 15 = .ok (.irem, 1) := by decide +kernel
theorem dL_far_16 : decode cL_far 16 = .ok (.iload_n 1, 1) := by decide +kernel
theorem dL_far_17 : decode cL_far 17 = .ok (.bipush 6, 2) := by decide +kernel
theorem dL_far_19 : decode cL_far 19 = .ok (.irem, 1) := by decide +kernel
theorem dL_far_20 : decode cL_far 20 = .ok (.isub, 1) := by decide +kernel
theorem dL_far_21 : decode cL_far 21 = .ok (.invokestatic 151, 3) := by decide +kernel
theorem dL_far_24 : decode cL_far 24 = .ok (.iadd, 1) := by decide +kernel
theorem dL_far_25 : decode cL_far 25 = .ok (.ireturn, 1) := by decide +kernel
theorem dL_areCellsRight_0 : decode cL_areCellsRight 0 = .ok (.iconst 0, 1) := by decide +kernel
theorem dL_areCellsRight_1 : decode cL_areCellsRight 1 = .ok (.istore_n 2, 1) := by decide +kernel
theorem dL_areCellsRight_2 : decode cL_areCellsRight 2 = .ok (.iconst 0, 1) := by decide +kernel
theorem dL_areCellsRight_3 : decode cL_areCellsRight 3 = .ok (.istore_n 3, 1) := by decide +kernel
theorem dL_areCellsRight_4 : decode cL_areCellsRight 4 = .ok (.iconst 0, 1) := by decide +kernel
theorem dL_areCellsRight_5 : decode cL_areCellsRight 5 = .ok (.istore 4, 2) := by decide +kernel
theorem dL_areCellsRight_7 : decode cL_areCellsRight 7 = .ok (.bipush 10, 2) := by decide +kernel
theorem dL_areCellsRight_9 : decode cL_areCellsRight 9 = .ok (.newarray .int, 2) := by decide +kernel
theorem dL_areCellsRight_11 : decode cL_areCellsRight 11 = .ok (.astore 5, 2) := by decide +kernel
theorem dL_areCellsRight_13 : decode cL_areCellsRight 13 = .ok (.aload_n 0, 1) := by decide +kernel
theorem dL_areCellsRight_14 : decode cL_areCellsRight 14 = .ok (.iconst 0, 1) := by decide +kernel
theorem dL_areCellsRight_15 : decode cL_areCellsRight 15 = .ok (.iconst 5, 1) := by decide +kernel
theorem dL_areCellsRight_16 : decode cL_areCellsRight 16 = .ok (.iconst 0, 1) := by decide +kernel
theorem dL_areCellsRight_17 : decode cL_areCellsRight 17 = .ok (.iconst 0, 1) := by decide +kernel
theorem dL_areCellsRight_18 : decode cL_areCellsRight 18 = .ok (.iconst 0, 1) := by decide +kernel
theorem dL_areCellsRight_19 : decode cL_areCellsRight 19 = .ok (.invokestatic 141, 3) := by decide +kernel
theorem dL_areCellsRight_22 : decode cL_areCellsRight 22 = .ok (.sipush (-2002), 3) := by decide +kernel
theorem dL_areCellsRight_25 : decode cL_areCellsRight 25 = .ok (.if_icmp .ne 86, 3) := by decide +kernel
theorem dL_areCellsRight_28 : decode cL_areCellsRight 28 = .ok (.aload_n 0, 1) := by decide +kernel
theorem dL_areCellsRight_29 : decode cL_areCellsRight 29 = .ok (.iconst 0, 1) := by decide +kernel
theorem dL_areCellsRight_30 : decode cL_areCellsRight 30 = .ok (.iconst 0, 1) := by decide +kernel
theorem dL_areCellsRight_31 : decode cL_areCellsRight 31 = .ok (.iconst (-1), 1) := by decide +kernel
theorem dL_areCellsRight_32 : decode cL_areCellsRight 32 = .ok (.iconst 0, 1) := by decide +kernel
theorem dL_areCellsRight_33 : decode cL_areCellsRight 33 = .ok (.iconst 0, 1) := by decide +kernel
theorem dL_areCellsRight_34 : decode cL_areCellsRight 34 = .ok (.invokestatic 141, 3) := by decide +kernel
theorem dL_areCellsRight_37 : decode cL_areCellsRight 37 = .ok (.sipush (-2002), 3) := by decide +kernel
theorem dL_areCellsRight_40 : decode cL_areCellsRight 40 = .ok (.if_icmp .ne 71, 3) := by decide +kernel
theorem dL_areCellsRight_43 : decode cL_areCellsRight 43 = .ok (.aload_n 0, 1) := by decide +kernel
theorem dL_areCellsRight_44 : decode cL_areCellsRight 44 = .ok (.iconst 2, 1) := by decide +kernel
theorem dL_areCellsRight_45 : decode cL_areCellsRight 45 = .ok (.bipush 10, 2) := by decide +kernel
theorem dL_areCellsRight_47 : decode cL_areCellsRight 47 = .ok (.iconst 0, 1) := by decide +kernel
theorem dL_areCellsRight_48 : decode cL_areCellsRight 48 = .ok (.iconst 0, 1) := by decide +kernel
theorem dL_areCellsRight_49 : decode cL_areCellsRight 49 = .ok (.iconst 0, 1) := by decide +kernel
theorem dL_areCellsRight_50 : decode cL_areCellsRight 50 = .ok (.invokestatic 141, 3) := by decide +kernel
theorem dL_areCellsRight_53 : decode cL_areCellsRight 53 = .ok (.sipush (-2003), 3) := by decide +kernel
theorem dL_areCellsRight_56 : decode cL_areCellsRight 56 = .ok (.if_icmp .ne 55, 3) := by decide +kernel
theorem dL_areCellsRight_59 : decode cL_areCellsRight 59 = .ok (.aload_n 0, 1) := by decide +kernel
theorem dL_areCellsRight_60 : decode cL_areCellsRight 60 = .ok (.iconst 3, 1) := by decide +kernel
theorem dL_areCellsRight_61 : decode cL_areCellsRight 61 = .ok (.iconst 0, 1) := by decide +kernel
theorem dL_areCellsRight_62 : decode cL_areCellsRight 62 = .ok (.iconst 0, 1) := by decide +kernel
theorem dL_areCellsRight_63 : decode cL_areCellsRight 63 = .ok (.bipush 10, 2) := by decide +kernel
theorem dL_areCellsRight_65 : decode cL_areCellsRight 65 = .ok (.iconst 0, 1) := by decide +kernel
theorem dL_areCellsRight_66 : decode cL_areCellsRight 66 = .ok (.invokestatic 141, 3) := by decide +kernel
theorem dL_areCellsRight_69 : decode cL_areCellsRight 69 = .ok (.sipush (-2003), 3) := by decide +kernel
theorem dL_areCellsRight_72 : decode cL_areCellsRight 72 = .ok (.if_icmp .ne 39, 3) := by decide +kernel
theorem dL_areCellsRight_75 : decode cL_areCellsRight 75 = .ok (.aload_n 0, 1) := by decide +kernel
theorem dL_areCellsRight_76 : decode cL_areCellsRight 76 = .ok (.iconst 4, 1) := by decide +kernel
theorem dL_areCellsRight_77 : decode cL_areCellsRight 77 = .ok (.iconst 0, 1) := by decide +kernel
theorem dL_areCellsRight_78 : decode cL_areCellsRight 78 = .ok (.bipush 6, 2) := by decide +kernel
theorem dL_areCellsRight_80 : decode cL_areCellsRight 80 = .ok (.iconst 0, 1) := by decide +kernel
theorem dL_areCellsRight_81 : decode cL_areCellsRight 81 = .ok (.iconst 0, 1) := by decide +kernel
theorem dL_areCellsRight_82 : decode cL_areCellsRight 82 = .ok (.invokestatic 141, 3) := by decide +kernel
theorem dL_areCellsRight_85 : decode cL_areCellsRight 85 = .ok (.sipush (-2002), 3) := by decide +kernel
theorem dL_areCellsRight_88 : decode cL_areCellsRight 88 = .ok (.if_icmp .ne 23, 3) := by decide +kernel
theorem dL_areCellsRight_91 : decode cL_areCellsRight 91 = .ok (.aload_n 0, 1) := by decide +kernel
theorem dL_areCellsRight_92 : decode cL_areCellsRight 92 = .ok (.bipush 8, 2) := by decide +kernel
theorem dL_areCellsRight_94 : decode cL_areCellsRight 94 = .ok (.iconst 4, 1) := by decide +kernel
theorem dL_areCellsRight_95 : decode cL_areCellsRight 95 = .ok (.iconst 0, 1) := by decide +kernel
theorem dL_areCellsRight_96 : decode cL_areCellsRight 96 = .ok (.iconst 0, 1) := by decide +kernel
theorem dL_areCellsRight_97 : decode cL_areCellsRight 97 = .ok (.iconst 0, 1) := by decide +kernel
theorem dL_areCellsRight_98 : decode cL_areCellsRight 98 = .ok (.invokestatic 141, 3) := by decide +kernel
theorem dL_areCellsRight_101 : decode cL_areCellsRight 101 = .ok (.sipush (-2003), 3) := by decide +kernel
theorem dL_areCellsRight_104 : decode cL_areCellsRight 104 = .ok (.if_icmp .ne 7, 3) := by decide +kernel
theorem dL_areCellsRight_107 : decode cL_areCellsRight 107 = .ok (.iconst 1, 1) := by decide +kernel
theorem dL_areCellsRight_108 : decode cL_areCellsRight 108 = .ok (.goto 4, 3) := by decide +kernel
theorem dL_areCellsRight_111 : decode cL_areCellsRight 111 = .ok (.iconst 0, 1) := by decide +kernel
theorem dL_areCellsRight_112 : decode cL_areCellsRight 112 = .ok (.istore 6, 2) := by decide +kernel
theorem dL_areCellsRight_114 : decode cL_areCellsRight 114 = .ok (.iconst 0, 1) := by decide +kernel
theorem dL_areCellsRight_115 : decode cL_areCellsRight 115 = .ok (.istore 7, 2) := by decide +kernel
theorem dL_areCellsRight_117 : decode cL_areCellsRight 117 = .ok (.iload 7, 2) := by decide +kernel
theorem dL_areCellsRight_119 : decode cL_areCellsRight 119 = .ok (.bipush 30, 2) := by decide +kernel
theorem dL_areCellsRight_121 : decode cL_areCellsRight 121 = .ok (.if_icmp .ge 364, 3) := by decide +kernel
theorem dL_areCellsRight_124 : decode cL_areCellsRight 124 = .ok (.aload_n 0, 1) := by decide +kernel
theorem dL_areCellsRight_125 : decode cL_areCellsRight 125 = .ok (.iload 7, 2) := by decide +kernel
theorem dL_areCellsRight_127 : decode cL_areCellsRight 127 = .ok (.bipush 6, 2) := by decide +kernel
theorem dL_areCellsRight_129 : decode cL_areCellsRight 129 = .ok (.idiv, 1) := by decide +kernel
theorem dL_areCellsRight_130 : decode cL_areCellsRight 130 = .ok (.iload 7, 2) := by decide +kernel
theorem dL_areCellsRight_132 : decode cL_areCellsRight 132 = .ok (.bipush 6, 2) := by decide +kernel
theorem dL_areCellsRight_134 : decode cL_areCellsRight 134 = .ok (.irem, 1) := by decide +kernel
theorem dL_areCellsRight_135 : decode cL_areCellsRight 135 = .ok (.invokevirtual 68, 3) := by decide +kernel
theorem dL_areCellsRight_138 : decode cL_areCellsRight 138 = .ok (.istore 8, 2) := by decide +kernel
theorem dL_areCellsRight_140 : decode cL_areCellsRight 140 = .ok (.aload_n 0, 1) := by decide +kernel
theorem dL_areCellsRight_141 : decode cL_areCellsRight 141 = .ok (.iload 7, 2) := by decide +kernel
theorem dL_areCellsRight_143 : decode cL_areCellsRight 143 = .ok (.iload 8, 2) := by decide +kernel
theorem dL_areCellsRight_145 : decode cL_areCellsRight 145 = .ok (.invokestatic 154, 3) := by decide +kernel
theorem dL_areCellsRight_148 : decode cL_areCellsRight 148 = .ok (.istore 9, 2) := by decide +kernel
theorem dL_areCellsRight_150 : decode cL_areCellsRight 150 = .ok (.iload_n 2, 1) := by decide +kernel
theorem dL_areCellsRight_151 : decode cL_areCellsRight 151 = .ok (.iload 8, 2) := by decide +kernel
theorem dL_areCellsRight_153 : decode cL_areCellsRight 153 = .ok (.iadd, 1) := by decide +kernel
theorem dL_areCellsRight_154 : decode cL_areCellsRight 154 = .ok (.istore_n 2, 1) := by decide +kernel
theorem dL_areCellsRight_155 : decode cL_areCellsRight 155 = .ok (.aload 5, 2) := by decide +kernel
theorem dL_areCellsRight_157 : decode cL_areCellsRight 157 = .ok (.iload 8, 2) := by decide +kernel
theorem dL_areCellsRight_159 : decode cL_areCellsRight 159 = .ok (.dup2, 1) := by decide +kernel
theorem dL_areCellsRight_160 : decode cL_areCellsRight 160 = .ok (.iaload, 1) := by decide +kernel
theorem dL_areCellsRight_161 : decode cL_areCellsRight 161 = .ok (.iconst 1, 1) := by decide +kernel
theorem dL_areCellsRight_162 : decode cL_areCellsRight 162 = .ok (.iadd, 1) := by decide +kernel
theorem dL_areCellsRight_163 : decode cL_areCellsRight 163 = .ok (.iastore, 1) := by decide +kernel
theorem dL_areCellsRight_164 : decode cL_areCellsRight 164 = .ok (.iload 4, 2) := by decide +kernel
theorem dL_areCellsRight_166 : decode cL_areCellsRight 166 = .ok (.aload_n 0, 1) := by decide +kernel
theorem dL_areCellsRight_167 : decode cL_areCellsRight 167 = .ok (.iload 7, 2) := by decide +kernel
theorem dL_areCellsRight_169 : decode cL_areCellsRight 169 = .ok (.bipush 6, 2) := by decide +kernel
theorem dL_areCellsRight_171 : decode cL_areCellsRight 171 = .ok (.idiv, 1) := by decide +kernel
theorem dL_areCellsRight_172 : decode cL_areCellsRight 172 = .ok (.iload 7, 2) := by decide +kernel
theorem dL_areCellsRight_174 : decode cL_areCellsRight 174 = .ok (.bipush 6, 2) := by decide +kernel
theorem dL_areCellsRight_176 : decode cL_areCellsRight 176 = .ok (.irem, 1) := by decide +kernel
theorem dL_areCellsRight_177 : decode cL_areCellsRight 177 = .ok (.invokevirtual 138, 3) := by decide +kernel
theorem dL_areCellsRight_180 : decode cL_areCellsRight 180 = .ok (.iadd, 1) := by decide +kernel
theorem dL_areCellsRight_181 : decode cL_areCellsRight 181 = .ok (.istore 4, 2) := by decide +kernel
theorem dL_areCellsRight_183 : decode cL_areCellsRight 183 = .ok (.aload_n 0, 1) := by decide +kernel
theorem dL_areCellsRight_184 : decode cL_areCellsRight 184 = .ok (.iload 7, 2) := by decide +kernel
theorem dL_areCellsRight_186 : decode cL_areCellsRight 186 = .ok (.bipush 6, 2) := by decide +kernel
theorem dL_areCellsRight_188 : decode cL_areCellsRight 188 = .ok (.idiv, 1) := by decide +kernel
theorem dL_areCellsRight_189 : decode cL_areCellsRight 189 = .ok (.iload 7, 2) := by decide +kernel
theorem dL_areCellsRight_191 : decode cL_areCellsRight 191 = .ok (.bipush 6, 2) := by decide +kernel
theorem dL_areCellsRight_193 : decode cL_areCellsRight 193 = .ok (.irem, 1) := by decide +kernel
theorem dL_areCellsRight_194 : decode cL_areCellsRight 194 = .ok (.invokevirtual 135, 3) := by decide +kernel
theorem dL_areCellsRight_197 : decode cL_areCellsRight 197 = .ok (.ifCond .ne 47, 3) := by decide +kernel
theorem dL_areCellsRight_200 : decode cL_areCellsRight 200 = .ok (.iload 8, 2) := by decide +kernel
theorem dL_areCellsRight_202 : decode cL_areCellsRight 202 = .ok (.ifCond .le 42, 3) := by decide +kernel
theorem dL_areCellsRight_205 : decode cL_areCellsRight 205 = .ok (.aload_n 0, 1) := by decide +kernel
theorem dL_areCellsRight_206 : decode cL_areCellsRight 206 = .ok (.iload 7, 2) := by decide +kernel
theorem dL_areCellsRight_208 : decode cL_areCellsRight 208 = .ok (.bipush 6, 2) := by decide +kernel
theorem dL_areCellsRight_210 : decode cL_areCellsRight 210 = .ok (.idiv, 1) := by decide +kernel
theorem dL_areCellsRight_211 : decode cL_areCellsRight 211 = .ok (.iload 7, 2) := by decide +kernel
theorem dL_areCellsRight_213 : decode cL_areCellsRight 213 = .ok (.bipush 6, 2) := by decide +kernel
theorem dL_areCellsRight_215 : decode cL_areCellsRight 215 = .ok (.irem, 1) := by decide +kernel
theorem dL_areCellsRight_216 : decode cL_areCellsRight 216 = .ok (.invokevirtual 138, 3) := by decide +kernel
theorem dL_areCellsRight_219 : decode cL_areCellsRight 219 = .ok (.iconst 3, 1) := by decide +kernel
theorem dL_areCellsRight_220 : decode cL_areCellsRight 220 = .ok (.if_icmp .ge 24, 3) := by decide +kernel
theorem dL_areCellsRight_223 : decode cL_areCellsRight 223 = .ok (.aload_n 0, 1) := by decide +kernel
theorem dL_areCellsRight_224 : decode cL_areCellsRight 224 = .ok (.iload 7, 2) := by decide +kernel
theorem dL_areCellsRight_226 : decode cL_areCellsRight 226 = .ok (.iload 8, 2) := by decide +kernel
theorem dL_areCellsRight_228 : decode cL_areCellsRight 228 = .ok (.iconst 1, 1) := by decide +kernel
theorem dL_areCellsRight_229 : decode cL_areCellsRight 229 = .ok (.isub, 1) := by decide +kernel
theorem dL_areCellsRight_230 : decode cL_areCellsRight 230 = .ok (.invokestatic 154, 3) := by decide +kernel
theorem dL_areCellsRight_233 : decode cL_areCellsRight 233 = .ok (.aload_n 0, 1) := by decide +kernel
theorem dL_areCellsRight_234 : decode cL_areCellsRight 234 = .ok (.invokevirtual 119, 3) := by decide +kernel
theorem dL_areCellsRight_237 : decode cL_areCellsRight 237 = .ok (.if_icmp .gt 7, 3) := by decide +kernel
theorem dL_areCellsRight_240 : decode cL_areCellsRight 240 = .ok (.iconst 1, 1) := by decide +kernel
theorem dL_areCellsRight_241 : decode cL_areCellsRight 241 = .ok (.goto 4, 3) := by decide +kernel
theorem dL_areCellsRight_244 : decode cL_areCellsRight 244 = .ok (.iconst 0, 1) := by decide +kernel
theorem dL_areCellsRight_245 : decode cL_areCellsRight 245 = .ok (.istore 10, 2) := by decide +kernel
theorem dL_areCellsRight_247 : decode cL_areCellsRight 247 = .ok (.iload_n 3, 1) := by decide +kernel
theorem dL_areCellsRight_248 : decode cL_areCellsRight 248 = .ok (.iload 10, 2) := by decide +kernel
theorem dL_areCellsRight_250 : decode cL_areCellsRight 250 = .ok (.invokestatic 32, 3) := by decide +kernel
theorem dL_areCellsRight_253 : decode cL_areCellsRight 253 = .ok (.iadd, 1) := by decide +kernel
theorem dL_areCellsRight_254 : decode cL_areCellsRight 254 = .ok (.istore_n 3, 1) := by decide +kernel
theorem dL_areCellsRight_255 : decode cL_areCellsRight 255 = .ok (.iload_n 1, 1) := by decide +kernel
theorem dL_areCellsRight_256 : decode cL_areCellsRight 256 = .ok (.iload 8, 2) := by decide +kernel
theorem dL_areCellsRight_258 : decode cL_areCellsRight 258 = .ok (.invokestatic 158, 3) := by decide +kernel
theorem dL_areCellsRight_261 : decode cL_areCellsRight 261 = .ok (.istore 11, 2) := by decide +kernel
theorem dL_areCellsRight_263 : decode cL_areCellsRight 263 = .ok (.iconst 0, 1) := by decide +kernel
theorem dL_areCellsRight_264 : decode cL_areCellsRight 264 = .ok (.istore 12, 2) := by decide +kernel
theorem dL_areCellsRight_266 : decode cL_areCellsRight 266 = .ok (.iconst 0, 1) := by decide +kernel
theorem dL_areCellsRight_267 : decode cL_areCellsRight 267 = .ok (.istore 13, 2) := by decide +kernel
theorem dL_areCellsRight_269 : decode cL_areCellsRight 269 = .ok (.iload 13, 2) := by decide +kernel
theorem dL_areCellsRight_271 : decode cL_areCellsRight 271 = .ok (.bipush 30, 2) := by decide +kernel
theorem dL_areCellsRight_273 : decode cL_areCellsRight 273 = .ok (.if_icmp .ge 48, 3) := by decide +kernel
theorem dL_areCellsRight_276 : decode cL_areCellsRight 276 = .ok (.iload 12, 2) := by decide +kernel
theorem dL_areCellsRight_278 : decode cL_areCellsRight 278 = .ok (.iconst 0, 1) := by decide +kernel
theorem dL_areCellsRight_279 : decode cL_areCellsRight 279 = .ok (.aload_n 0, 1) := by decide +kernel
theorem dL_areCellsRight_280 : decode cL_areCellsRight 280 = .ok (.iload 13, 2) := by decide +kernel
theorem dL_areCellsRight_282 : decode cL_areCellsRight 282 = .ok (.bipush 6, 2) := by decide +kernel
theorem dL_areCellsRight_284 : decode cL_areCellsRight 284 = .ok (.idiv, 1) := by decide +kernel
theorem dL_areCellsRight_285 : decode cL_areCellsRight 285 = .ok (.iload 13, 2) := by decide +kernel
theorem dL_areCellsRight_287 : decode cL_areCellsRight 287 = .ok (.bipush 6, 2) := by decide +kernel
theorem dL_areCellsRight_289 : decode cL_areCellsRight 289 = .ok (.irem, 1) := by decide +kernel
theorem dL_areCellsRight_290 : decode cL_areCellsRight 290 = .ok (.invokevirtual 68, 3) := by decide +kernel
theorem dL_areCellsRight_293 : decode cL_areCellsRight 293 = .ok (.iload 11, 2) := by decide +kernel
theorem dL_areCellsRight_295 : decode cL_areCellsRight 295 = .ok (.isub, 1) := by decide +kernel
theorem dL_areCellsRight_296 : decode cL_areCellsRight 296 = .ok (.aload_n 0, 1) := by decide +kernel
theorem dL_areCellsRight_297 : decode cL_areCellsRight 297 = .ok (.invokevirtual 119, 3) := by decide +kernel
theorem dL_areCellsRight_300 : decode cL_areCellsRight 300 = .ok (.iload 7, 2) := by decide +kernel
theorem dL_areCellsRight_302 : decode cL_areCellsRight 302 = .ok (.iload 13, 2) := by decide +kernel
theorem dL_areCellsRight_304 : decode cL_areCellsRight 304 = .ok (.invokestatic 161, 3) := by decide +kernel
theorem dL_areCellsRight_307 : decode cL_areCellsRight 307 = .ok (.imul, 1) := by decide +kernel
theorem dL_areCellsRight_308 : decode cL_areCellsRight 308 = .ok (.isub, 1) := by decide +kernel
theorem dL_areCellsRight_309 : decode cL_areCellsRight 309 = .ok (.invokestatic 114, 3) := by decide +kernel
theorem dL_areCellsRight_312 : decode cL_areCellsRight 312 = .ok (.iadd, 1) := by decide +kernel
theorem dL_areCellsRight_313 : decode cL_areCellsRight 313 = .ok (.istore 12, 2) := by decide +kernel
theorem dL_areCellsRight_315 : decode cL_areCellsRight 315 = .ok (.iinc 13 1, 3) := by decide +kernel
theorem dL_areCellsRight_318 : decode cL_areCellsRight 318 = .ok (.goto (-49), 3) := by decide +kernel
theorem dL_areCellsRight_321 : decode cL_areCellsRight 321 = .ok (.iload 6, 2) := by decide +kernel
theorem dL_areCellsRight_323 : decode cL_areCellsRight 323 = .ok (.ifCond .eq 153, 3) := by decide +kernel
theorem dL_areCellsRight_326 : decode cL_areCellsRight 326 = .ok (.aload_n 0, 1) := by decide +kernel
theorem dL_areCellsRight_327 : decode cL_areCellsRight 327 = .ok (.iload 7, 2) := by decide +kernel
theorem dL_areCellsRight_329 : decode cL_areCellsRight 329 = .ok (.bipush 6, 2) := by decide +kernel
theorem dL_areCellsRight_331 : decode cL_areCellsRight 331 = .ok (.idiv, 1) := by decide +kernel
theorem dL_areCellsRight_332 : decode cL_areCellsRight 332 = .ok (.iload 7, 2) := by decide +kernel
theorem dL_areCellsRight_334 : decode cL_areCellsRight 334 = .ok (.bipush 6, 2) := by decide +kernel
theorem dL_areCellsRight_336 : decode cL_areCellsRight 336 = .ok (.irem, 1) := by decide +kernel
theorem dL_areCellsRight_337 : decode cL_areCellsRight 337 = .ok (.invokevirtual 164, 3) := by decide +kernel
theorem dL_areCellsRight_340 : decode cL_areCellsRight 340 = .ok (.iload 9, 2) := by decide +kernel
theorem dL_areCellsRight_342 : decode cL_areCellsRight 342 = .ok (.if_icmp .ne 134, 3) := by decide +kernel
theorem dL_areCellsRight_345 : decode cL_areCellsRight 345 = .ok (.iload 9, 2) := by decide +kernel
theorem dL_areCellsRight_347 : decode cL_areCellsRight 347 = .ok (.aload_n 0, 1) := by decide +kernel
theorem dL_areCellsRight_348 : decode cL_areCellsRight 348 = .ok (.invokevirtual 119, 3) := by decide +kernel
theorem dL_areCellsRight_351 : decode cL_areCellsRight 351 = .ok (.if_icmp .gt 125, 3) := by decide +kernel
theorem dL_areCellsRight_354 : decode cL_areCellsRight 354 = .ok (.aload_n 0, 1) := by decide +kernel
theorem dL_areCellsRight_355 : decode cL_areCellsRight 355 = .ok (.iload 7, 2) := by decide +kernel
theorem dL_areCellsRight_357 : decode cL_areCellsRight 357 = .ok (.bipush 6, 2) := by decide +kernel
theorem dL_areCellsRight_359 : decode cL_areCellsRight 359 = .ok (.idiv, 1) := by decide +kernel
theorem dL_areCellsRight_360 : decode cL_areCellsRight 360 = .ok (.iload 7, 2) := by decide +kernel
theorem dL_areCellsRight_362 : decode cL_areCellsRight 362 = .ok (.bipush 6, 2) := by decide +kernel
theorem dL_areCellsRight_364 : decode cL_areCellsRight 364 = .ok (.irem, 1) := by decide +kernel
theorem dL_areCellsRight_365 : decode cL_areCellsRight 365 = .ok (.invokevirtual 167, 3) := by decide +kernel
theorem dL_areCellsRight_368 : decode cL_areCellsRight 368 = .ok (.iload 10, 2) := by decide +kernel
theorem dL_areCellsRight_370 : decode cL_areCellsRight 370 = .ok (.if_icmp .ne 106, 3) := by decide +kernel
theorem dL_areCellsRight_373 : decode cL_areCellsRight 373 = .ok (.aload_n 0, 1) := by decide +kernel
theorem dL_areCellsRight_374 : decode cL_areCellsRight 374 = .ok (.iconst 3, 1) := by decide +kernel
theorem dL_areCellsRight_375 : decode cL_areCellsRight 375 = .ok (.iload 7, 2) := by decide +kernel
theorem dL_areCellsRight_377 : decode cL_areCellsRight 377 = .ok (.bipush 6, 2) := by decide +kernel
theorem dL_areCellsRight_379 : decode cL_areCellsRight 379 = .ok (.idiv, 1) := by decide +kernel
theorem dL_areCellsRight_380 : decode cL_areCellsRight 380 = .ok (.iload 7, 2) := by decide +kernel
theorem dL_areCellsRight_382 : decode cL_areCellsRight 382 = .ok (.bipush 6, 2) := by decide +kernel
theorem dL_areCellsRight_384 : decode cL_areCellsRight 384 = .ok (.irem, 1) := by decide +kernel
theorem dL_areCellsRight_385 : decode cL_areCellsRight 385 = .ok (.iload 11, 2) := by decide +kernel
theorem dL_areCellsRight_387 : decode cL_areCellsRight 387 = .ok (.iconst 0, 1) := by decide +kernel
theorem dL_areCellsRight_388 : decode cL_areCellsRight 388 = .ok (.invokestatic 141, 3) := by decide +kernel
theorem dL_areCellsRight_391 : decode cL_areCellsRight 391 = .ok (.iload 12, 2) := by decide +kernel
theorem dL_areCellsRight_393 : decode cL_areCellsRight 393 = .ok (.if_icmp .ne 83, 3) := by decide +kernel
theorem dL_areCellsRight_396 : decode cL_areCellsRight 396 = .ok (.aload_n 0, 1) := by decide +kernel
theorem dL_areCellsRight_397 : decode cL_areCellsRight 397 = .ok (.iconst 4, 1) := by decide +kernel
theorem dL_areCellsRight_398 : decode cL_areCellsRight 398 = .ok (.iload 7, 2) := by decide +kernel
theorem dL_areCellsRight_400 : decode cL_areCellsRight 400 = .ok (.bipush 6, 2) := by decide +kernel
theorem dL_areCellsRight_402 : decode cL_areCellsRight 402 = .ok (.idiv, 1) := by decide +kernel
theorem dL_areCellsRight_403 : decode cL_areCellsRight 403 = .ok (.iload 7, 2) := by decide +kernel
theorem dL_areCellsRight_405 : decode cL_areCellsRight 405 = .ok (.bipush 6, 2) := by decide +kernel
theorem dL_areCellsRight_407 : decode cL_areCellsRight 407 = .ok (.irem, 1) := by decide +kernel
theorem dL_areCellsRight_408 : decode cL_areCellsRight 408 = .ok (.iload 11, 2) := by decide +kernel
theorem dL_areCellsRight_410 : decode cL_areCellsRight 410 = .ok (.iconst 0, 1) := by decide +kernel
theorem dL_areCellsRight_411 : decode cL_areCellsRight 411 = .ok (.invokestatic 141, 3) := by decide +kernel
theorem dL_areCellsRight_414 : decode cL_areCellsRight 414 = .ok (.iload 12, 2) := by decide +kernel
theorem dL_areCellsRight_416 : decode cL_areCellsRight 416 = .ok (.if_icmp .ne 60, 3) := by decide +kernel
theorem dL_areCellsRight_419 : decode cL_areCellsRight 419 = .ok (.aload_n 0, 1) := by decide +kernel
theorem dL_areCellsRight_420 : decode cL_areCellsRight 420 = .ok (.iload 7, 2) := by decide +kernel
theorem dL_areCellsRight_422 : decode cL_areCellsRight 422 = .ok (.bipush 6, 2) := by decide +kernel
theorem dL_areCellsRight_424 : decode cL_areCellsRight 424 = .ok (.idiv, 1) := by decide +kernel
theorem dL_areCellsRight_425 : decode cL_areCellsRight 425 = .ok (.iload 7, 2) := by decide +kernel
theorem dL_areCellsRight_427 : decode cL_areCellsRight 427 = .ok (.bipush 6, 2) := by decide +kernel
theorem dL_areCellsRight_429 : decode cL_areCellsRight 429 = .ok (.irem, 1) := by decide +kernel
theorem dL_areCellsRight_430 : decode cL_areCellsRight 430 = .ok (.invokevirtual 138, 3) := by decide +kernel
theorem dL_areCellsRight_433 : decode cL_areCellsRight 433 = .ok (.ifCond .ne 7, 3) := by decide +kernel
theorem dL_areCellsRight_436 : decode cL_areCellsRight 436 = .ok (.iconst 1, 1) := by decide +kernel
theorem dL_areCellsRight_437 : decode cL_areCellsRight 437 = .ok (.goto 4, 3) := by decide +kernel
theorem dL_areCellsRight_440 : decode cL_areCellsRight 440 = .ok (.iconst 0, 1) := by decide +kernel
theorem dL_areCellsRight_441 : decode cL_areCellsRight 441 = .ok (.aload_n 0, 1) := by decide +kernel
theorem dL_areCellsRight_442 : decode cL_areCellsRight 442 = .ok (.iconst 1, 1) := by decide +kernel
theorem dL_areCellsRight_443 : decode cL_areCellsRight 443 = .ok (.iload 7, 2) := by decide +kernel
theorem dL_areCellsRight_445 : decode cL_areCellsRight 445 = .ok (.bipush 6, 2) := by decide +kernel
theorem dL_areCellsRight_447 : decode cL_areCellsRight 447 = .ok (.idiv, 1) := by decide +kernel
theorem dL_areCellsRight_448 : decode cL_areCellsRight 448 = .ok (.iload 7, 2) := by decide +kernel
theorem dL_areCellsRight_450 : decode cL_areCellsRight 450 = .ok (.bipush 6, 2) := by decide +kernel
theorem dL_areCellsRight_452 : decode cL_areCellsRight 452 = .ok (.irem, 1) := by decide +kernel
theorem dL_areCellsRight_453 : decode cL_areCellsRight 453 = .ok (.iconst 0, 1) := by decide +kernel
theorem dL_areCellsRight_454 : decode cL_areCellsRight 454 = .ok (.iconst 0, 1) := by decide +kernel
theorem dL_areCellsRight_455 : decode cL_areCellsRight 455 = .ok (.invokestatic 141, 3) := by decide +kernel
theorem dL_areCellsRight_458 : decode cL_areCellsRight 458 = .ok (.sipush (-2004), 3) := by decide +kernel
theorem dL_areCellsRight_461 : decode cL_areCellsRight 461 = .ok (.if_icmp .ne 7, 3) := by decide +kernel
theorem dL_areCellsRight_464 : decode cL_areCellsRight 464 = .ok (.iconst 1, 1) := by decide +kernel
theorem dL_areCellsRight_465 : decode cL_areCellsRight 465 = .ok (.goto 4, 3) := by decide +kernel
theorem dL_areCellsRight_468 : decode cL_areCellsRight 468 = .ok (.iconst 0, 1) := by decide +kernel
theorem dL_areCellsRight_469 : decode cL_areCellsRight 469 = .ok (.if_icmp .ne 7, 3) := by decide +kernel
theorem dL_areCellsRight_472 : decode cL_areCellsRight 472 = .ok (.iconst 1, 1) := by decide +kernel
theorem dL_areCellsRight_473 : decode cL_areCellsRight 473 = .ok (.goto 4, 3) := by decide +kernel
theorem dL_areCellsRight_476 : decode cL_areCellsRight 476 = .ok (.iconst 0, 1) := by decide +kernel
theorem dL_areCellsRight_477 : decode cL_areCellsRight 477 = .ok (.istore 6, 2) := by decide +kernel
theorem dL_areCellsRight_479 : decode cL_areCellsRight 479 = .ok (.iinc 7 1, 3) := by decide +kernel
theorem dL_areCellsRight_482 : decode cL_areCellsRight 482 = .ok (.goto (-365), 3) := by decide +kernel
theorem dL_areCellsRight_485 : decode cL_areCellsRight 485 = .ok (.iconst 0, 1) := by decide +kernel
theorem dL_areCellsRight_486 : decode cL_areCellsRight 486 = .ok (.istore 7, 2) := by decide +kernel
theorem dL_areCellsRight_488 : decode cL_areCellsRight 488 = .ok (.iload 7, 2) := by decide +kernel
theorem dL_areCellsRight_490 : decode cL_areCellsRight 490 = .ok (.bipush 10, 2) := by decide +kernel
theorem dL_areCellsRight_492 : decode cL_areCellsRight 492 = .ok (.if_icmp .ge 35, 3) := by decide +kernel
theorem dL_areCellsRight_495 : decode cL_areCellsRight 495 = .ok (.iload 6, 2) := by decide +kernel
theorem dL_areCellsRight_497 : decode cL_areCellsRight 497 = .ok (.ifCond .eq 21, 3) := by decide +kernel
theorem dL_areCellsRight_500 : decode cL_areCellsRight 500 = .ok (.aload_n 0, 1) := by decide +kernel
theorem dL_areCellsRight_501 : decode cL_areCellsRight 501 = .ok (.iload 7, 2) := by decide +kernel
theorem dL_areCellsRight_503 : decode cL_areCellsRight 503 = .ok (.invokevirtual 74, 3) := by decide +kernel
theorem dL_areCellsRight_506 : decode cL_areCellsRight 506 = .ok (.aload 5, 2) := by decide +kernel
theorem dL_areCellsRight_508 : decode cL_areCellsRight 508 = .ok (.iload 7, 2) := by decide +kernel
theorem dL_areCellsRight_510 : decode cL_areCellsRight 510 = .ok (.iaload, 1) := by decide +kernel
theorem dL_areCellsRight_511 : decode cL_areCellsRight 511 = .ok (.if_icmp .ne 7, 3) := by decide +kernel
theorem dL_areCellsRight_514 : decode cL_areCellsRight 514 = .ok (.iconst 1, 1) := by decide +kernel
theorem dL_areCellsRight_515 : decode cL_areCellsRight 515 = .ok (.goto 4, 3) := by decide +kernel
theorem dL_areCellsRight_518 : decode cL_areCellsRight 518 = .ok (.iconst 0, 1) := by decide +kernel
theorem dL_areCellsRight_519 : decode cL_areCellsRight 519 = .ok (.istore 6, 2) := by decide +kernel
theorem dL_areCellsRight_521 : decode cL_areCellsRight 521 = .ok (.iinc 7 1, 3) := by decide +kernel
theorem dL_areCellsRight_524 : decode cL_areCellsRight 524 = .ok (.goto (-36), 3) := by decide +kernel
theorem dL_areCellsRight_527 : decode cL_areCellsRight 527 = .ok (.aload_n 0, 1) := by decide +kernel
theorem dL_areCellsRight_528 : decode cL_areCellsRight 528 = .ok (.invokevirtual 125, 3) := by decide +kernel
theorem dL_areCellsRight_531 : decode cL_areCellsRight 531 = .ok (.iload 4, 2) := by decide +kernel
theorem dL_areCellsRight_533 : decode cL_areCellsRight 533 = .ok (.isub, 1) := by decide +kernel
theorem dL_areCellsRight_534 : decode cL_areCellsRight 534 = .ok (.istore 7, 2) := by decide +kernel
theorem dL_areCellsRight_536 : decode cL_areCellsRight 536 = .ok (.iload 6, 2) := by decide +kernel
theorem dL_areCellsRight_538 : decode cL_areCellsRight 538 = .ok (.ifCond .eq 36, 3) := by decide +kernel
theorem dL_areCellsRight_541 : decode cL_areCellsRight 541 = .ok (.aload_n 0, 1) := by decide +kernel
theorem dL_areCellsRight_542 : decode cL_areCellsRight 542 = .ok (.invokevirtual 170, 3) := by decide +kernel
theorem dL_areCellsRight_545 : decode cL_areCellsRight 545 = .ok (.iload_n 3, 1) := by decide +kernel
theorem dL_areCellsRight_546 : decode cL_areCellsRight 546 = .ok (.if_icmp .ne 28, 3) := by decide +kernel
theorem dL_areCellsRight_549 : decode cL_areCellsRight 549 = .ok (.aload_n 0, 1) := by decide +kernel
theorem dL_areCellsRight_550 : decode cL_areCellsRight 550 = .ok (.invokevirtual 173, 3) := by decide +kernel
theorem dL_areCellsRight_553 : decode cL_areCellsRight 553 = .ok (.iload_n 2, 1) := by decide +kernel
theorem dL_areCellsRight_554 : decode cL_areCellsRight 554 = .ok (.i2d, 1) := by decide +kernel
theorem dL_areCellsRight_555 : decode cL_areCellsRight 555 = .ok (.ldc2_w 177, 3) := by decide +kernel
theorem dL_areCellsRight_558 : decode cL_areCellsRight 558 = .ok (.ddiv, 1) := by decide +kernel
theorem dL_areCellsRight_559 : decode cL_areCellsRight 559 = .ok (.dcmp .l, 1) := by decide +kernel
theorem dL_areCellsRight_560 : decode cL_areCellsRight 560 = .ok (.ifCond .ne 14, 3) := by decide +kernel
theorem dL_areCellsRight_563 : decode cL_areCellsRight 563 = .ok (.aload_n 0, 1) := by decide +kernel
theorem dL_areCellsRight_564 : decode cL_areCellsRight 564 = .ok (.invokevirtual 179, 3) := by decide +kernel
theorem dL_areCellsRight_567 : decode cL_areCellsRight 567 = .ok (.ifCond .eq 7, 3) := by decide +kernel
theorem dL_areCellsRight_570 : decode cL_areCellsRight 570 = .ok (.iconst 1, 1) := by decide +kernel
theorem dL_areCellsRight_571 : decode cL_areCellsRight 571 = .ok (.goto 4, 3) := by decide +kernel
theorem dL_areCellsRight_574 : decode cL_areCellsRight 574 = .ok (.iconst 0, 1) := by decide +kernel
theorem dL_areCellsRight_575 : decode cL_areCellsRight 575 = .ok (.istore 6, 2) := by decide +kernel
theorem dL_areCellsRight_577 : decode cL_areCellsRight 577 = .ok (.iload 6, 2) := by decide +kernel
theorem dL_areCellsRight_579 : decode cL_areCellsRight 579 = .ok (.ifCond .eq 31, 3) := by decide +kernel
theorem dL_areCellsRight_582 : decode cL_areCellsRight 582 = .ok (.aload_n 0, 1) := by decide +kernel
theorem dL_areCellsRight_583 : decode cL_areCellsRight 583 = .ok (.invokevirtual 125, 3) := by decide +kernel
theorem dL_areCellsRight_586 : decode cL_areCellsRight 586 = .ok (.ifCond .eq 20, 3) := by decide +kernel
theorem dL_areCellsRight_589 : decode cL_areCellsRight 589 = .ok (.aload_n 0, 1) := by decide +kernel
theorem dL_areCellsRight_590 : decode cL_areCellsRight 590 = .ok (.invokevirtual 183, 3) := by decide +kernel
theorem dL_areCellsRight_593 : decode cL_areCellsRight 593 = .ok (.iload 7, 2) := by decide +kernel
theorem dL_areCellsRight_595 : decode cL_areCellsRight 595 = .ok (.i2f, 1) := by decide +kernel
theorem dL_areCellsRight_596 : decode cL_areCellsRight 596 = .ok (.aload_n 0, 1) := by decide +kernel
theorem dL_areCellsRight_597 : decode cL_areCellsRight 597 = .ok (.invokevirtual 125, 3) := by decide +kernel
theorem dL_areCellsRight_600 : decode cL_areCellsRight 600 = .ok (.i2f, 1) := by decide +kernel
theorem dL_areCellsRight_601 : decode cL_areCellsRight 601 = .ok (.fdiv, 1) := by decide +kernel
theorem dL_areCellsRight_602 : decode cL_areCellsRight 602 = .ok (.fcmp .l, 1) := by decide +kernel
theorem dL_areCellsRight_603 : decode cL_areCellsRight 603 = .ok (.ifCond .ne 7, 3) := by decide +kernel
theorem dL_areCellsRight_606 : decode cL_areCellsRight 606 = .ok (.iconst 1, 1) := by decide +kernel
theorem dL_areCellsRight_607 : decode cL_areCellsRight 607 = .ok (.goto 4, 3) := by decide +kernel
theorem dL_areCellsRight_610 : decode cL_areCellsRight 610 = .ok (.iconst 0, 1) := by decide +kernel
theorem dL_areCellsRight_611 : decode cL_areCellsRight 611 = .ok (.ireturn, 1) := by decide +kernel
theorem dL_areSeamsRight_0 : decode cL_areSeamsRight 0 = .ok (.bipush 30, 2) := by decide +kernel
theorem dL_areSeamsRight_2 : decode cL_areSeamsRight 2 = .ok (.newarray .int, 2) := by decide +kernel
theorem dL_areSeamsRight_4 : decode cL_areSeamsRight 4 = .ok (.astore_n 1, 1) := by decide +kernel
theorem dL_areSeamsRight_5 : decode cL_areSeamsRight 5 = .ok (.iconst 0, 1) := by decide +kernel
theorem dL_areSeamsRight_6 : decode cL_areSeamsRight 6 = .ok (.istore_n 2, 1) := by decide +kernel
theorem dL_areSeamsRight_7 : decode cL_areSeamsRight 7 = .ok (.iload_n 2, 1) := by decide +kernel
theorem dL_areSeamsRight_8 : decode cL_areSeamsRight 8 = .ok (.bipush 30, 2) := by decide +kernel
theorem dL_areSeamsRight_10 : decode cL_areSeamsRight 10 = .ok (.if_icmp .ge 32, 3) := by decide +kernel
theorem dL_areSeamsRight_13 : decode cL_areSeamsRight 13 = .ok (.aload_n 1, 1) := by decide +kernel
theorem dL_areSeamsRight_14 : decode cL_areSeamsRight 14 = .ok (.iload_n 2, 1) := by decide +kernel
theorem dL_areSeamsRight_15 : decode cL_areSeamsRight 15 = .ok (.aload_n 0, 1) := by decide +kernel
theorem dL_areSeamsRight_16 : decode cL_areSeamsRight 16 = .ok (.iload_n 2, 1) := by decide +kernel
theorem dL_areSeamsRight_17 : decode cL_areSeamsRight 17 = .ok (.bipush 6, 2) := by decide +kernel
theorem dL_areSeamsRight_19 : decode cL_areSeamsRight 19 = .ok (.idiv, 1) := by decide +kernel
theorem dL_areSeamsRight_20 : decode cL_areSeamsRight 20 = .ok (.iload_n 2, 1) := by decide +kernel
theorem dL_areSeamsRight_21 : decode cL_areSeamsRight 21 = .ok (.bipush 6, 2) := by decide +kernel
theorem dL_areSeamsRight_23 : decode cL_areSeamsRight 23 = .ok (.irem, 1) := by decide +kernel
theorem dL_areSeamsRight_24 : decode cL_areSeamsRight 24 = .ok (.invokevirtual 68, 3) := by decide +kernel
theorem dL_areSeamsRight_27 : decode cL_areSeamsRight 27 = .ok (.ifCond .le 7, 3) := by decide +kernel
theorem dL_areSeamsRight_30 : decode cL_areSeamsRight 30 = .ok (.iload_n 2, 1) := by decide +kernel
theorem dL_areSeamsRight_31 : decode cL_areSeamsRight 31 = .ok (.goto 4, 3) := by decide +kernel
theorem dL_areSeamsRight_34 : decode cL_areSeamsRight 34 = .ok (.iconst (-1), 1) := by decide +kernel
theorem dL_areSeamsRight_35 : decode cL_areSeamsRight 35 = .ok (.iastore, 1) := by decide +kernel
theorem dL_areSeamsRight_36 : decode cL_areSeamsRight 36 = .ok (.iinc 2 1, 3) := by decide +kernel
theorem dL_areSeamsRight_39 : decode cL_areSeamsRight 39 = .ok (.goto (-32), 3) := by decide +kernel
theorem dL_areSeamsRight_42 : decode cL_areSeamsRight 42 = .ok (.iconst 0, 1) := by decide +kernel
theorem dL_areSeamsRight_43 : decode cL_areSeamsRight 43 = .ok (.istore_n 2, 1) := by decide +kernel
theorem dL_areSeamsRight_44 : decode cL_areSeamsRight 44 = .ok (.iload_n 2, 1) := by decide +kernel
theorem dL_areSeamsRight_45 : decode cL_areSeamsRight 45 = .ok (.bipush 30, 2) := by decide +kernel
theorem dL_areSeamsRight_47 : decode cL_areSeamsRight 47 = .ok (.if_icmp .ge 126, 3) := by decide +kernel
theorem dL_areSeamsRight_50 : decode cL_areSeamsRight 50 = .ok (.iconst 0, 1) := by decide +kernel
theorem dL_areSeamsRight_51 : decode cL_areSeamsRight 51 = .ok (.istore_n 3, 1) := by decide +kernel
theorem dL_areSeamsRight_52 : decode cL_areSeamsRight 52 = .ok (.iload_n 3, 1) := by decide +kernel
theorem dL_areSeamsRight_53 : decode cL_areSeamsRight 53 = .ok (.sipush 900, 3) := by decide +kernel
theorem dL_areSeamsRight_56 : decode cL_areSeamsRight 56 = .ok (.if_icmp .ge 111, 3) := by decide +kernel
theorem dL_areSeamsRight_59 : decode cL_areSeamsRight 59 = .ok (.iload_n 3, 1) := by decide +kernel
theorem dL_areSeamsRight_60 : decode cL_areSeamsRight 60 = .ok (.bipush 30, 2) := by decide +kernel
theorem dL_areSeamsRight_62 : decode cL_areSeamsRight 62 = .ok (.idiv, 1) := by decide +kernel
theorem dL_areSeamsRight_63 : decode cL_areSeamsRight 63 = .ok (.istore 4, 2) := by decide +kernel
theorem dL_areSeamsRight_65 : decode cL_areSeamsRight 65 = .ok (.iload_n 3, 1) := by decide +kernel
theorem dL_areSeamsRight_66 : decode cL_areSeamsRight 66 = .ok (.bipush 30, 2) := by decide +kernel
theorem dL_areSeamsRight_68 : decode cL_areSeamsRight 68 = .ok (.irem, 1) := by decide +kernel
theorem dL_areSeamsRight_69 : decode cL_areSeamsRight 69 = .ok (.istore 5, 2) := by decide +kernel
theorem dL_areSeamsRight_71 : decode cL_areSeamsRight 71 = .ok (.iload 4, 2) := by decide +kernel
theorem dL_areSeamsRight_73 : decode cL_areSeamsRight 73 = .ok (.iload 5, 2) := by decide +kernel
theorem dL_areSeamsRight_75 : decode cL_areSeamsRight 75 = .ok (.invokestatic 161, 3) := by decide +kernel
theorem dL_areSeamsRight_78 : decode cL_areSeamsRight 78 = .ok (.iconst 1, 1) := by decide +kernel
theorem dL_areSeamsRight_79 : decode cL_areSeamsRight 79 = .ok (.if_icmp .ne 52, 3) := by decide +kernel
theorem dL_areSeamsRight_82 : decode cL_areSeamsRight 82 = .ok (.aload_n 1, 1) := by decide +kernel
theorem dL_areSeamsRight_83 : decode cL_areSeamsRight 83 = .ok (.iload 4, 2) := by decide +kernel
theorem dL_areSeamsRight_85 : decode cL_areSeamsRight 85 = .ok (.iaload, 1) := by decide +kernel
theorem dL_areSeamsRight_86 : decode cL_areSeamsRight 86 = .ok (.ifCond .lt 45, 3) := by decide +kernel
theorem dL_areSeamsRight_89 : decode cL_areSeamsRight 89 = .ok (.aload_n 1, 1) := by decide +kernel
theorem dL_areSeamsRight_90 : decode cL_areSeamsRight 90 = .ok (.iload 5, 2) := by decide +kernel
theorem dL_areSeamsRight_92 : decode cL_areSeamsRight 92 = .ok (.iaload, 1) := by decide +kernel
theorem dL_areSeamsRight_93 : decode cL_areSeamsRight 93 = .ok (.ifCond .lt 38, 3) := by decide +kernel
theorem dL_areSeamsRight_96 : decode cL_areSeamsRight 96 = .ok (.aload_n 0, 1) := by decide +kernel
theorem dL_areSeamsRight_97 : decode cL_areSeamsRight 97 = .ok (.iload 4, 2) := by decide +kernel
theorem dL_areSeamsRight_99 : decode cL_areSeamsRight 99 = .ok (.bipush 6, 2) := by decide +kernel
theorem dL_areSeamsRight_101 : decode cL_areSeamsRight 101 = .ok (.idiv, 1) := by decide +kernel
theorem dL_areSeamsRight_102 : decode cL_areSeamsRight 102 = .ok (.iload 4, 2) := by decide +kernel
theorem dL_areSeamsRight_104 : decode cL_areSeamsRight 104 = .ok (.bipush 6, 2) := by decide +kernel
theorem dL_areSeamsRight_106 : decode cL_areSeamsRight 106 = .ok (.irem, 1) := by decide +kernel
theorem dL_areSeamsRight_107 : decode cL_areSeamsRight 107 = .ok (.invokevirtual 132, 3) := by decide +kernel
theorem dL_areSeamsRight_110 : decode cL_areSeamsRight 110 = .ok (.aload_n 0, 1) := by decide +kernel
theorem dL_areSeamsRight_111 : decode cL_areSeamsRight 111 = .ok (.iload 5, 2) := by decide +kernel
theorem dL_areSeamsRight_113 : decode cL_areSeamsRight 113 = .ok (.bipush 6, 2) := by decide +kernel
theorem dL_areSeamsRight_115 : decode cL_areSeamsRight 115 = .ok (.idiv, 1) := by decide +kernel
theorem dL_areSeamsRight_116 : decode cL_areSeamsRight 116 = .ok (.iload 5, 2) := by decide +kernel
theorem dL_areSeamsRight_118 : decode cL_areSeamsRight 118 = .ok (.bipush 6, 2) := by decide +kernel
theorem dL_areSeamsRight_120 : decode cL_areSeamsRight 120 = .ok (.irem, 1) := by decide +kernel
theorem dL_areSeamsRight_121 : decode cL_areSeamsRight 121 = .ok (.invokevirtual 132, 3) := by decide +kernel
theorem dL_areSeamsRight_124 : decode cL_areSeamsRight 124 = .ok (.if_icmp .ne 7, 3) := by decide +kernel
theorem dL_areSeamsRight_127 : decode cL_areSeamsRight 127 = .ok (.iconst 1, 1) := by decide +kernel
theorem dL_areSeamsRight_128 : decode cL_areSeamsRight 128 = .ok (.goto 4, 3) := by decide +kernel
theorem dL_areSeamsRight_131 : decode cL_areSeamsRight 131 = .ok (.iconst 0, 1) := by decide +kernel
theorem dL_areSeamsRight_132 : decode cL_areSeamsRight 132 = .ok (.istore 6, 2) := by decide +kernel
theorem dL_areSeamsRight_134 : decode cL_areSeamsRight 134 = .ok (.aload_n 1, 1) := by decide +kernel
theorem dL_areSeamsRight_135 : decode cL_areSeamsRight 135 = .ok (.iload 4, 2) := by decide +kernel
theorem dL_areSeamsRight_137 : decode cL_areSeamsRight 137 = .ok (.iload 6, 2) := by decide +kernel
theorem dL_areSeamsRight_139 : decode cL_areSeamsRight 139 = .ok (.ifCond .eq 17, 3) := by decide +kernel
theorem dL_areSeamsRight_142 : decode cL_areSeamsRight 142 = .ok (.aload_n 1, 1) := by decide +kernel
theorem dL_areSeamsRight_143 : decode cL_areSeamsRight 143 = .ok (.iload 4, 2) := by decide +kernel
theorem dL_areSeamsRight_145 : decode cL_areSeamsRight 145 = .ok (.iaload, 1) := by decide +kernel
theorem dL_areSeamsRight_146 : decode cL_areSeamsRight 146 = .ok (.aload_n 1, 1) := by decide +kernel
theorem dL_areSeamsRight_147 : decode cL_areSeamsRight 147 = .ok (.iload 5, 2) := by decide +kernel
theorem dL_areSeamsRight_149 : decode cL_areSeamsRight 149 = .ok (.iaload, 1) := by decide +kernel
theorem dL_areSeamsRight_150 : decode cL_areSeamsRight 150 = .ok (.invokestatic 158, 3) := by decide +kernel
theorem dL_areSeamsRight_153 : decode cL_areSeamsRight 153 = .ok (.goto 7, 3) := by decide +kernel
theorem dL_areSeamsRight_156 : decode cL_areSeamsRight 156 = .ok (.aload_n 1, 1) := by decide +kernel
theorem dL_areSeamsRight_157 : decode cL_areSeamsRight 157 = .ok (.iload 4, 2) := by decide +kernel
theorem dL_areSeamsRight_159 : decode cL_areSeamsRight 159 = .ok (.iaload, 1) := by decide +kernel
theorem dL_areSeamsRight_160 : decode cL_areSeamsRight 160 = .ok (.iastore, 1) := by decide +kernel
theorem dL_areSeamsRight_161 : decode cL_areSeamsRight 161 = .ok (.iinc 3 1, 3) := by decide +kernel
theorem dL_areSeamsRight_164 : decode cL_areSeamsRight 164 = .ok (.goto (-112), 3) := by decide +kernel
theorem dL_areSeamsRight_167 : decode cL_areSeamsRight 167 = .ok (.iinc 2 1, 3) := by decide +kernel
theorem dL_areSeamsRight_170 : decode cL_areSeamsRight 170 = .ok (.goto (-126), 3) := by decide +kernel
theorem dL_areSeamsRight_173 : decode cL_areSeamsRight 173 = .ok (.iconst 0, 1) := by decide +kernel
theorem dL_areSeamsRight_174 : decode cL_areSeamsRight 174 = .ok (.istore_n 2, 1) := by decide +kernel
theorem dL_areSeamsRight_175 : decode cL_areSeamsRight 175 = .ok (.iconst 1, 1) := by decide +kernel
theorem dL_areSeamsRight_176 : decode cL_areSeamsRight 176 = .ok (.istore_n 3, 1) := by decide +kernel
theorem dL_areSeamsRight_177 : decode cL_areSeamsRight 177 = .ok (.iconst 0, 1) := by decide +kernel
theorem dL_areSeamsRight_178 : decode cL_areSeamsRight 178 = .ok (.istore 4, 2) := by decide +kernel
theorem dL_areSeamsRight_180 : decode cL_areSeamsRight 180 = .ok (.iload 4, 2) := by decide +kernel
theorem dL_areSeamsRight_182 : decode cL_areSeamsRight 182 = .ok (.bipush 30, 2) := by decide +kernel
theorem dL_areSeamsRight_184 : decode cL_areSeamsRight 184 = .ok (.if_icmp .ge 162, 3) := by decide +kernel
theorem dL_areSeamsRight_187 : decode cL_areSeamsRight 187 = .ok (.iconst 0, 1) := by decide +kernel
theorem dL_areSeamsRight_188 : decode cL_areSeamsRight 188 = .ok (.istore 5, 2) := by decide +kernel
theorem dL_areSeamsRight_190 : decode cL_areSeamsRight 190 = .ok (.iconst 0, 1) := by decide +kernel
theorem dL_areSeamsRight_191 : decode cL_areSeamsRight 191 = .ok (.istore 6, 2) := by decide +kernel
theorem dL_areSeamsRight_193 : decode cL_areSeamsRight 193 = .ok (.iconst 0, 1) := by decide +kernel
theorem dL_areSeamsRight_194 : decode cL_areSeamsRight 194 = .ok (.istore 7, 2) := by decide +kernel
theorem dL_areSeamsRight_196 : decode cL_areSeamsRight 196 = .ok (.iload 7, 2) := by decide +kernel
theorem dL_areSeamsRight_198 : decode cL_areSeamsRight 198 = .ok (.bipush 30, 2) := by decide +kernel
theorem dL_areSeamsRight_200 : decode cL_areSeamsRight 200 = .ok (.if_icmp .ge 72, 3) := by decide +kernel
theorem dL_areSeamsRight_203 : decode cL_areSeamsRight 203 = .ok (.aload_n 1, 1) := by decide +kernel
theorem dL_areSeamsRight_204 : decode cL_areSeamsRight 204 = .ok (.iload 4, 2) := by decide +kernel
theorem dL_areSeamsRight_206 : decode cL_areSeamsRight 206 = .ok (.iaload, 1) := by decide +kernel
theorem dL_areSeamsRight_207 : decode cL_areSeamsRight 207 = .ok (.ifCond .lt 18, 3) := by decide +kernel
theorem dL_areSeamsRight_210 : decode cL_areSeamsRight 210 = .ok (.aload_n 1, 1) := by decide +kernel
theorem dL_areSeamsRight_211 : decode cL_areSeamsRight 211 = .ok (.iload 7, 2) := by decide +kernel
theorem dL_areSeamsRight_213 : decode cL_areSeamsRight 213 = .ok (.iaload, 1) := by decide +kernel
theorem dL_areSeamsRight_214 : decode cL_areSeamsRight 214 = .ok (.aload_n 1, 1) := by decide +kernel
theorem dL_areSeamsRight_215 : decode cL_areSeamsRight 215 = .ok (.iload 4, 2) := by decide +kernel
theorem dL_areSeamsRight_217 : decode cL_areSeamsRight 217 = .ok (.iaload, 1) := by decide +kernel
theorem dL_areSeamsRight_218 : decode cL_areSeamsRight 218 = .ok (.if_icmp .ne 7, 3) := by decide +kernel
theorem dL_areSeamsRight_221 : decode cL_areSeamsRight 221 = .ok (.iconst 1, 1) := by decide +kernel
theorem dL_areSeamsRight_222 : decode cL_areSeamsRight 222 = .ok (.goto 4, 3) := by decide +kernel
theorem dL_areSeamsRight_225 : decode cL_areSeamsRight 225 = .ok (.iconst 0, 1) := by decide +kernel
theorem dL_areSeamsRight_226 : decode cL_areSeamsRight 226 = .ok (.istore 8, 2) := by decide +kernel
theorem dL_areSeamsRight_228 : decode cL_areSeamsRight 228 = .ok (.iload 5, 2) := by decide +kernel
theorem dL_areSeamsRight_230 : decode cL_areSeamsRight 230 = .ok (.iload 8, 2) := by decide +kernel
theorem dL_areSeamsRight_232 : decode cL_areSeamsRight 232 = .ok (.invokestatic 32, 3) := by decide +kernel
theorem dL_areSeamsRight_235 : decode cL_areSeamsRight 235 = .ok (.iadd, 1) := by decide +kernel
theorem dL_areSeamsRight_236 : decode cL_areSeamsRight 236 = .ok (.istore 5, 2) := by decide +kernel
theorem dL_areSeamsRight_238 : decode cL_areSeamsRight 238 = .ok (.iload 6, 2) := by decide +kernel
theorem dL_areSeamsRight_240 : decode cL_areSeamsRight 240 = .ok (.iload 8, 2) := by decide +kernel
theorem dL_areSeamsRight_242 : decode cL_areSeamsRight 242 = .ok (.ifCond .eq 20, 3) := by decide +kernel
theorem dL_areSeamsRight_245 : decode cL_areSeamsRight 245 = .ok (.aload_n 0, 1) := by decide +kernel
theorem dL_areSeamsRight_246 : decode cL_areSeamsRight 246 = .ok (.iload 7, 2) := by decide +kernel
theorem dL_areSeamsRight_248 : decode cL_areSeamsRight 248 = .ok (.bipush 6, 2) := by decide +kernel
theorem dL_areSeamsRight_250 : decode cL_areSeamsRight 250 = .ok (.idiv, 1) := by decide +kernel
theorem dL_areSeamsRight_251 : decode cL_areSeamsRight 251 = .ok (.iload 7, 2) := by decide +kernel
theorem dL_areSeamsRight_253 : decode cL_areSeamsRight 253 = .ok (.bipush 6, 2) := by decide +kernel
theorem dL_areSeamsRight_255 : decode cL_areSeamsRight 255 = .ok (.irem, 1) := by decide +kernel
theorem dL_areSeamsRight_256 : decode cL_areSeamsRight 256 = .ok (.invokevirtual 68, 3) := by decide +kernel
theorem dL_areSeamsRight_259 : decode cL_areSeamsRight 259 = .ok (.goto 4, 3) := by decide +kernel
theorem dL_areSeamsRight_262 : decode cL_areSeamsRight 262 = .ok (.iconst 0, 1) := by decide +kernel
theorem dL_areSeamsRight_263 : decode cL_areSeamsRight 263 = .ok (.iadd, 1) := by decide +kernel
theorem dL_areSeamsRight_264 : decode cL_areSeamsRight 264 = .ok (.istore 6, 2) := by decide +kernel
theorem dL_areSeamsRight_266 : decode cL_areSeamsRight 266 = .ok (.iinc 7 1, 3) := by decide +kernel
theorem dL_areSeamsRight_269 : decode cL_areSeamsRight 269 = .ok (.goto (-73), 3) := by decide +kernel
theorem dL_areSeamsRight_272 : decode cL_areSeamsRight 272 = .ok (.iload_n 2, 1) := by decide +kernel
theorem dL_areSeamsRight_273 : decode cL_areSeamsRight 273 = .ok (.aload_n 1, 1) := by decide +kernel
theorem dL_areSeamsRight_274 : decode cL_areSeamsRight 274 = .ok (.iload 4, 2) := by decide +kernel
theorem dL_areSeamsRight_276 : decode cL_areSeamsRight 276 = .ok (.iaload, 1) := by decide +kernel
theorem dL_areSeamsRight_277 : decode cL_areSeamsRight 277 = .ok (.iload 4, 2) := by decide +kernel
theorem dL_areSeamsRight_279 : decode cL_areSeamsRight 279 = .ok (.if_icmp .ne 7, 3) := by decide +kernel
theorem dL_areSeamsRight_282 : decode cL_areSeamsRight 282 = .ok (.iconst 1, 1) := by decide +kernel
theorem dL_areSeamsRight_283 : decode cL_areSeamsRight 283 = .ok (.goto 4, 3) := by decide +kernel
theorem dL_areSeamsRight_286 : decode cL_areSeamsRight 286 = .ok (.iconst 0, 1) := by decide +kernel
theorem dL_areSeamsRight_287 : decode cL_areSeamsRight 287 = .ok (.invokestatic 32, 3) := by decide +kernel
theorem dL_areSeamsRight_290 : decode cL_areSeamsRight 290 = .ok (.iadd, 1) := by decide +kernel
theorem dL_areSeamsRight_291 : decode cL_areSeamsRight 291 = .ok (.istore_n 2, 1) := by decide +kernel
theorem dL_areSeamsRight_292 : decode cL_areSeamsRight 292 = .ok (.iload_n 3, 1) := by decide +kernel
theorem dL_areSeamsRight_293 : decode cL_areSeamsRight 293 = .ok (.ifCond .eq 45, 3) := by decide +kernel
theorem dL_areSeamsRight_296 : decode cL_areSeamsRight 296 = .ok (.aload_n 0, 1) := by decide +kernel
theorem dL_areSeamsRight_297 : decode cL_areSeamsRight 297 = .ok (.iload 4, 2) := by decide +kernel
theorem dL_areSeamsRight_299 : decode cL_areSeamsRight 299 = .ok (.bipush 6, 2) := by decide +kernel
theorem dL_areSeamsRight_301 : decode cL_areSeamsRight 301 = .ok (.idiv, 1) := by decide +kernel
theorem dL_areSeamsRight_302 : decode cL_areSeamsRight 302 = .ok (.iload 4, 2) := by decide +kernel
theorem dL_areSeamsRight_304 : decode cL_areSeamsRight 304 = .ok (.bipush 6, 2) := by decide +kernel
