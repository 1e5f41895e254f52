theorem dL_areSeamsRight_306 : decode cL_areSeamsRight 306 = .ok (.irem, 1) := by decide +kernel
theorem dL_areSeamsRight_307 : decode cL_areSeamsRight 307 = .ok (.invokevirtual 187, 3) := by decide +kernel
theorem dL_areSeamsRight_310 : decode cL_areSeamsRight 310 = .ok (.iload 5, 2) := by decide +kernel
theorem dL_areSeamsRight_312 : decode cL_areSeamsRight 312 = .ok (.if_icmp .ne 26, 3) := by decide +kernel
theorem dL_areSeamsRight_315 : decode cL_areSeamsRight 315 = .ok (.aload_n 0, 1) := by decide +kernel
theorem dL_areSeamsRight_316 : decode cL_areSeamsRight 316 = .ok (.iload 4, 2) := by decide +kernel
theorem dL_areSeamsRight_318 : decode cL_areSeamsRight 318 = .ok (.bipush 6, 2) := by decide +kernel
theorem dL_areSeamsRight_320 : decode cL_areSeamsRight 320 = .ok (.idiv, 1) := by decide +kernel
theorem dL_areSeamsRight_321 : decode cL_areSeamsRight 321 = .ok (.iload 4, 2) := by decide +kernel
theorem dL_areSeamsRight_323 : decode cL_areSeamsRight 323 = .ok (.bipush 6, 2) := by decide +kernel
theorem dL_areSeamsRight_325 : decode cL_areSeamsRight 325 = .ok (.irem, 1) := by decide +kernel
theorem dL_areSeamsRight_326 : decode cL_areSeamsRight 326 = .ok (.invokevirtual 190, 3) := by decide +kernel
theorem dL_areSeamsRight_329 : decode cL_areSeamsRight 329 = .ok (.iload 6, 2) := by decide +kernel
theorem dL_areSeamsRight_331 : decode cL_areSeamsRight 331 = .ok (.if_icmp .ne 7, 3) := by decide +kernel
theorem dL_areSeamsRight_334 : decode cL_areSeamsRight 334 = .ok (.iconst 1, 1) := by decide +kernel
theorem dL_areSeamsRight_335 : decode cL_areSeamsRight 335 = .ok (.goto 4, 3) := by decide +kernel
theorem dL_areSeamsRight_338 : decode cL_areSeamsRight 338 = .ok (.iconst 0, 1) := by decide +kernel
theorem dL_areSeamsRight_339 : decode cL_areSeamsRight 339 = .ok (.istore_n 3, 1) := by decide +kernel
theorem dL_areSeamsRight_340 : decode cL_areSeamsRight 340 = .ok (.iinc 4 1, 3) := by decide +kernel
theorem dL_areSeamsRight_343 : decode cL_areSeamsRight 343 = .ok (.goto (-163), 3) := by decide +kernel
theorem dL_areSeamsRight_346 : decode cL_areSeamsRight 346 = .ok (.iload_n 3, 1) := by decide +kernel
theorem dL_areSeamsRight_347 : decode cL_areSeamsRight 347 = .ok (.ifCond .eq 23, 3) := by decide +kernel
theorem dL_areSeamsRight_350 : decode cL_areSeamsRight 350 = .ok (.aload_n 0, 1) := by decide +kernel
theorem dL_areSeamsRight_351 : decode cL_areSeamsRight 351 = .ok (.invokevirtual 193, 3) := by decide +kernel
theorem dL_areSeamsRight_354 : decode cL_areSeamsRight 354 = .ok (.iload_n 2, 1) := by decide +kernel
theorem dL_areSeamsRight_355 : decode cL_areSeamsRight 355 = .ok (.if_icmp .ne 15, 3) := by decide +kernel
theorem dL_areSeamsRight_358 : decode cL_areSeamsRight 358 = .ok (.aload_n 0, 1) := by decide +kernel
theorem dL_areSeamsRight_359 : decode cL_areSeamsRight 359 = .ok (.invokevirtual 196, 3) := by decide +kernel
theorem dL_areSeamsRight_362 : decode cL_areSeamsRight 362 = .ok (.iload_n 2, 1) := by decide +kernel
theorem dL_areSeamsRight_363 : decode cL_areSeamsRight 363 = .ok (.if_icmp .ne 7, 3) := by decide +kernel
theorem dL_areSeamsRight_366 : decode cL_areSeamsRight 366 = .ok (.iconst 1, 1) := by decide +kernel
theorem dL_areSeamsRight_367 : decode cL_areSeamsRight 367 = .ok (.goto 4, 3) := by decide +kernel
theorem dL_areSeamsRight_370 : decode cL_areSeamsRight 370 = .ok (.iconst 0, 1) := by decide +kernel
theorem dL_areSeamsRight_371 : decode cL_areSeamsRight 371 = .ok (.ireturn, 1) := by decide +kernel
theorem dL_arePathsRight_0 : decode cL_arePathsRight 0 = .ok (.bipush 30, 2) := by decide +kernel
theorem dL_arePathsRight_2 : decode cL_arePathsRight 2 = .ok (.newarray .int, 2) := by decide +kernel
theorem dL_arePathsRight_4 : decode cL_arePathsRight 4 = .ok (.astore_n 2, 1) := by decide +kernel
theorem dL_arePathsRight_5 : decode cL_arePathsRight 5 = .ok (.iconst 0, 1) := by decide +kernel
theorem dL_arePathsRight_6 : decode cL_arePathsRight 6 = .ok (.istore_n 3, 1) := by decide +kernel
theorem dL_arePathsRight_7 : decode cL_arePathsRight 7 = .ok (.iload_n 3, 1) := by decide +kernel
theorem dL_arePathsRight_8 : decode cL_arePathsRight 8 = .ok (.bipush 30, 2) := by decide +kernel
theorem dL_arePathsRight_10 : decode cL_arePathsRight 10 = .ok (.if_icmp .ge 38, 3) := by decide +kernel
theorem dL_arePathsRight_13 : decode cL_arePathsRight 13 = .ok (.aload_n 2, 1) := by decide +kernel
theorem dL_arePathsRight_14 : decode cL_arePathsRight 14 = .ok (.iload_n 3, 1) := by decide +kernel
theorem dL_arePathsRight_15 : decode cL_arePathsRight 15 = .ok (.iload_n 3, 1) := by decide +kernel
theorem dL_arePathsRight_16 : decode cL_arePathsRight 16 = .ok (.iload_n 1, 1) := by decide +kernel
theorem dL_arePathsRight_17 : decode cL_arePathsRight 17 = .ok (.if_icmp .ne 22, 3) := by decide +kernel
theorem dL_arePathsRight_20 : decode cL_arePathsRight 20 = .ok (.aload_n 0, 1) := by decide +kernel
theorem dL_arePathsRight_21 : decode cL_arePathsRight 21 = .ok (.iload_n 3, 1) := by decide +kernel
theorem dL_arePathsRight_22 : decode cL_arePathsRight 22 = .ok (.bipush 6, 2) := by decide +kernel
theorem dL_arePathsRight_24 : decode cL_arePathsRight 24 = .ok (.idiv, 1) := by decide +kernel
theorem dL_arePathsRight_25 : decode cL_arePathsRight 25 = .ok (.iload_n 3, 1) := by decide +kernel
theorem dL_arePathsRight_26 : decode cL_arePathsRight 26 = .ok (.bipush 6, 2) := by decide +kernel
theorem dL_arePathsRight_28 : decode cL_arePathsRight 28 = .ok (.irem, 1) := by decide +kernel
theorem dL_arePathsRight_29 : decode cL_arePathsRight 29 = .ok (.invokevirtual 135, 3) := by decide +kernel
theorem dL_arePathsRight_32 : decode cL_arePathsRight 32 = .ok (.ifCond .ne 7, 3) := by decide +kernel
theorem dL_arePathsRight_35 : decode cL_arePathsRight 35 = .ok (.iconst 0, 1) := by decide +kernel
theorem dL_arePathsRight_36 : decode cL_arePathsRight 36 = .ok (.goto 5, 3) := by decide +kernel
theorem dL_arePathsRight_39 : decode cL_arePathsRight 39 = .ok (.bipush 99, 2) := by decide +kernel
theorem dL_arePathsRight_41 : decode cL_arePathsRight 41 = .ok (.iastore, 1) := by decide +kernel
theorem dL_arePathsRight_42 : decode cL_arePathsRight 42 = .ok (.iinc 3 1, 3) := by decide +kernel
theorem dL_arePathsRight_45 : decode cL_arePathsRight 45 = .ok (.goto (-38), 3) := by decide +kernel
theorem dL_arePathsRight_48 : decode cL_arePathsRight 48 = .ok (.iconst 0, 1) := by decide +kernel
theorem dL_arePathsRight_49 : decode cL_arePathsRight 49 = .ok (.istore_n 3, 1) := by decide +kernel
theorem dL_arePathsRight_50 : decode cL_arePathsRight 50 = .ok (.iload_n 3, 1) := by decide +kernel
theorem dL_arePathsRight_51 : decode cL_arePathsRight 51 = .ok (.bipush 30, 2) := by decide +kernel
theorem dL_arePathsRight_53 : decode cL_arePathsRight 53 = .ok (.if_icmp .ge 140, 3) := by decide +kernel
theorem dL_arePathsRight_56 : decode cL_arePathsRight 56 = .ok (.iconst 0, 1) := by decide +kernel
theorem dL_arePathsRight_57 : decode cL_arePathsRight 57 = .ok (.istore 4, 2) := by decide +kernel
theorem dL_arePathsRight_59 : decode cL_arePathsRight 59 = .ok (.iload 4, 2) := by decide +kernel
theorem dL_arePathsRight_61 : decode cL_arePathsRight 61 = .ok (.sipush 900, 3) := by decide +kernel
theorem dL_arePathsRight_64 : decode cL_arePathsRight 64 = .ok (.if_icmp .ge 123, 3) := by decide +kernel
theorem dL_arePathsRight_67 : decode cL_arePathsRight 67 = .ok (.iload 4, 2) := by decide +kernel
theorem dL_arePathsRight_69 : decode cL_arePathsRight 69 = .ok (.bipush 30, 2) := by decide +kernel
theorem dL_arePathsRight_71 : decode cL_arePathsRight 71 = .ok (.idiv, 1) := by decide +kernel
theorem dL_arePathsRight_72 : decode cL_arePathsRight 72 = .ok (.istore 5, 2) := by decide +kernel
theorem dL_arePathsRight_74 : decode cL_arePathsRight 74 = .ok (.iload 4, 2) := by decide +kernel
theorem dL_arePathsRight_76 : decode cL_arePathsRight 76 = .ok (.bipush 30, 2) := by decide +kernel
theorem dL_arePathsRight_78 : decode cL_arePathsRight 78 = .ok (.irem, 1) := by decide +kernel
theorem dL_arePathsRight_79 : decode cL_arePathsRight 79 = .ok (.istore 6, 2) := by decide +kernel
theorem dL_arePathsRight_81 : decode cL_arePathsRight 81 = .ok (.iload 5, 2) := by decide +kernel
theorem dL_arePathsRight_83 : decode cL_arePathsRight 83 = .ok (.iload 6, 2) := by decide +kernel
theorem dL_arePathsRight_85 : decode cL_arePathsRight 85 = .ok (.invokestatic 161, 3) := by decide +kernel
theorem dL_arePathsRight_88 : decode cL_arePathsRight 88 = .ok (.iconst 1, 1) := by decide +kernel
theorem dL_arePathsRight_89 : decode cL_arePathsRight 89 = .ok (.if_icmp .ne 60, 3) := by decide +kernel
theorem dL_arePathsRight_92 : decode cL_arePathsRight 92 = .ok (.aload_n 0, 1) := by decide +kernel
theorem dL_arePathsRight_93 : decode cL_arePathsRight 93 = .ok (.iload 6, 2) := by decide +kernel
theorem dL_arePathsRight_95 : decode cL_arePathsRight 95 = .ok (.bipush 6, 2) := by decide +kernel
theorem dL_arePathsRight_97 : decode cL_arePathsRight 97 = .ok (.idiv, 1) := by decide +kernel
theorem dL_arePathsRight_98 : decode cL_arePathsRight 98 = .ok (.iload 6, 2) := by decide +kernel
theorem dL_arePathsRight_100 : decode cL_arePathsRight 100 = .ok (.bipush 6, 2) := by decide +kernel
theorem dL_arePathsRight_102 : decode cL_arePathsRight 102 = .ok (.irem, 1) := by decide +kernel
theorem dL_arePathsRight_103 : decode cL_arePathsRight 103 = .ok (.invokevirtual 135, 3) := by decide +kernel
theorem dL_arePathsRight_106 : decode cL_arePathsRight 106 = .ok (.ifCond .ne 43, 3) := by decide +kernel
theorem dL_arePathsRight_109 : decode cL_arePathsRight 109 = .ok (.aload_n 0, 1) := by decide +kernel
theorem dL_arePathsRight_110 : decode cL_arePathsRight 110 = .ok (.iload 5, 2) := by decide +kernel
theorem dL_arePathsRight_112 : decode cL_arePathsRight 112 = .ok (.bipush 6, 2) := by decide +kernel
theorem dL_arePathsRight_114 : decode cL_arePathsRight 114 = .ok (.idiv, 1) := by decide +kernel
theorem dL_arePathsRight_115 : decode cL_arePathsRight 115 = .ok (.iload 5, 2) := by decide +kernel
theorem dL_arePathsRight_117 : decode cL_arePathsRight 117 = .ok (.bipush 6, 2) := by decide +kernel
theorem dL_arePathsRight_119 : decode cL_arePathsRight 119 = .ok (.irem, 1) := by decide +kernel
theorem dL_arePathsRight_120 : decode cL_arePathsRight 120 = .ok (.invokevirtual 68, 3) := by decide +kernel
theorem dL_arePathsRight_123 : decode cL_arePathsRight 123 = .ok (.aload_n 0, 1) := by decide +kernel
theorem dL_arePathsRight_124 : decode cL_arePathsRight 124 = .ok (.iload 6, 2) := by decide +kernel
theorem dL_arePathsRight_126 : decode cL_arePathsRight 126 = .ok (.bipush 6, 2) := by decide +kernel
theorem dL_arePathsRight_128 : decode cL_arePathsRight 128 = .ok (.idiv, 1) := by decide +kernel
theorem dL_arePathsRight_129 : decode cL_arePathsRight 129 = .ok (.iload 6, 2) := by decide +kernel
theorem dL_arePathsRight_131 : decode cL_arePathsRight 131 = .ok (.bipush 6, 2) := by decide +kernel
theorem dL_arePathsRight_133 : decode cL_arePathsRight 133 = .ok (.irem, 1) := by decide +kernel
theorem dL_arePathsRight_134 : decode cL_arePathsRight 134 = .ok (.invokevirtual 68, 3) := by decide +kernel
theorem dL_arePathsRight_137 : decode cL_arePathsRight 137 = .ok (.isub, 1) := by decide +kernel
theorem dL_arePathsRight_138 : decode cL_arePathsRight 138 = .ok (.invokestatic 151, 3) := by decide +kernel
theorem dL_arePathsRight_141 : decode cL_arePathsRight 141 = .ok (.iconst 1, 1) := by decide +kernel
theorem dL_arePathsRight_142 : decode cL_arePathsRight 142 = .ok (.if_icmp .gt 7, 3) := by decide +kernel
theorem dL_arePathsRight_145 : decode cL_arePathsRight 145 = .ok (.iconst 1, 1) := by decide +kernel
theorem dL_arePathsRight_146 : decode cL_arePathsRight 146 = .ok (.goto 4, 3) := by decide +kernel
theorem dL_arePathsRight_149 : decode cL_arePathsRight 149 = .ok (.iconst 0, 1) := by decide +kernel
theorem dL_arePathsRight_150 : decode cL_arePathsRight 150 = .ok (.istore 7, 2) := by decide +kernel
theorem dL_arePathsRight_152 : decode cL_arePathsRight 152 = .ok (.aload_n 2, 1) := by decide +kernel
theorem dL_arePathsRight_153 : decode cL_arePathsRight 153 = .ok (.iload 6, 2) := by decide +kernel
theorem dL_arePathsRight_155 : decode cL_arePathsRight 155 = .ok (.iload 7, 2) := by decide +kernel
theorem dL_arePathsRight_157 : decode cL_arePathsRight 157 = .ok (.ifCond .eq 19, 3) := by decide +kernel
theorem dL_arePathsRight_160 : decode cL_arePathsRight 160 = .ok (.aload_n 2, 1) := by decide +kernel
theorem dL_arePathsRight_161 : decode cL_arePathsRight 161 = .ok (.iload 6, 2) := by decide +kernel
theorem dL_arePathsRight_163 : decode cL_arePathsRight 163 = .ok (.iaload, 1) := by decide +kernel
theorem dL_arePathsRight_164 : decode cL_arePathsRight 164 = .ok (.aload_n 2, 1) := by decide +kernel
theorem dL_arePathsRight_165 : decode cL_arePathsRight 165 = .ok (.iload 5, 2) := by decide +kernel
theorem dL_arePathsRight_167 : decode cL_arePathsRight 167 = .ok (.iaload, 1) := by decide +kernel
theorem dL_arePathsRight_168 : decode cL_arePathsRight 168 = .ok (.iconst 1, 1) := by decide +kernel
theorem dL_arePathsRight_169 : decode cL_arePathsRight 169 = .ok (.iadd, 1) := by decide +kernel
theorem dL_arePathsRight_170 : decode cL_arePathsRight 170 = .ok (.invokestatic 158, 3) := by decide +kernel
theorem dL_arePathsRight_173 : decode cL_arePathsRight 173 = .ok (.goto 7, 3) := by decide +kernel
theorem dL_arePathsRight_176 : decode cL_arePathsRight 176 = .ok (.aload_n 2, 1) := by decide +kernel
theorem dL_arePathsRight_177 : decode cL_arePathsRight 177 = .ok (.iload 6, 2) := by decide +kernel
theorem dL_arePathsRight_179 : decode cL_arePathsRight 179 = .ok (.iaload, 1) := by decide +kernel
theorem dL_arePathsRight_180 : decode cL_arePathsRight 180 = .ok (.iastore, 1) := by decide +kernel
theorem dL_arePathsRight_181 : decode cL_arePathsRight 181 = .ok (.iinc 4 1, 3) := by decide +kernel
theorem dL_arePathsRight_184 : decode cL_arePathsRight 184 = .ok (.goto (-125), 3) := by decide +kernel
theorem dL_arePathsRight_187 : decode cL_arePathsRight 187 = .ok (.iinc 3 1, 3) := by decide +kernel
theorem dL_arePathsRight_190 : decode cL_arePathsRight 190 = .ok (.goto (-140), 3) := by decide +kernel
theorem dL_arePathsRight_193 : decode cL_arePathsRight 193 = .ok (.aload_n 0, 1) := by decide +kernel
theorem dL_arePathsRight_194 : decode cL_arePathsRight 194 = .ok (.iconst 5, 1) := by decide +kernel
theorem dL_arePathsRight_195 : decode cL_arePathsRight 195 = .ok (.iconst 0, 1) := by decide +kernel
theorem dL_arePathsRight_196 : decode cL_arePathsRight 196 = .ok (.iconst 0, 1) := by decide +kernel
theorem dL_arePathsRight_197 : decode cL_arePathsRight 197 = .ok (.iconst 5, 1) := by decide +kernel
theorem dL_arePathsRight_198 : decode cL_arePathsRight 198 = .ok (.iconst 0, 1) := by decide +kernel
theorem dL_arePathsRight_199 : decode cL_arePathsRight 199 = .ok (.invokestatic 141, 3) := by decide +kernel
theorem dL_arePathsRight_202 : decode cL_arePathsRight 202 = .ok (.sipush (-2002), 3) := by decide +kernel
theorem dL_arePathsRight_205 : decode cL_arePathsRight 205 = .ok (.if_icmp .ne 23, 3) := by decide +kernel
theorem dL_arePathsRight_208 : decode cL_arePathsRight 208 = .ok (.aload_n 0, 1) := by decide +kernel
theorem dL_arePathsRight_209 : decode cL_arePathsRight 209 = .ok (.iconst 5, 1) := by decide +kernel
theorem dL_arePathsRight_210 : decode cL_arePathsRight 210 = .ok (.iconst 0, 1) := by decide +kernel
theorem dL_arePathsRight_211 : decode cL_arePathsRight 211 = .ok (.bipush 6, 2) := by decide +kernel
theorem dL_arePathsRight_213 : decode cL_arePathsRight 213 = .ok (.iconst 0, 1) := by decide +kernel
theorem dL_arePathsRight_214 : decode cL_arePathsRight 214 = .ok (.iconst 0, 1) := by decide +kernel
theorem dL_arePathsRight_215 : decode cL_arePathsRight 215 = .ok (.invokestatic 141, 3) := by decide +kernel
theorem dL_arePathsRight_218 : decode cL_arePathsRight 218 = .ok (.sipush (-2002), 3) := by decide +kernel
theorem dL_arePathsRight_221 : decode cL_arePathsRight 221 = .ok (.if_icmp .ne 7, 3) := by decide +kernel
theorem dL_arePathsRight_224 : decode cL_arePathsRight 224 = .ok (.iconst 1, 1) := by decide +kernel
theorem dL_arePathsRight_225 : decode cL_arePathsRight 225 = .ok (.goto 4, 3) := by decide +kernel
theorem dL_arePathsRight_228 : decode cL_arePathsRight 228 = .ok (.iconst 0, 1) := by decide +kernel
theorem dL_arePathsRight_229 : decode cL_arePathsRight 229 = .ok (.istore_n 3, 1) := by decide +kernel
theorem dL_arePathsRight_230 : decode cL_arePathsRight 230 = .ok (.iconst 0, 1) := by decide +kernel
theorem dL_arePathsRight_231 : decode cL_arePathsRight 231 = .ok (.istore 4, 2) := by decide +kernel
theorem dL_arePathsRight_233 : decode cL_arePathsRight 233 = .ok (.iload 4, 2) := by decide +kernel
theorem dL_arePathsRight_235 : decode cL_arePathsRight 235 = .ok (.bipush 30, 2) := by decide +kernel
theorem dL_arePathsRight_237 : decode cL_arePathsRight 237 = .ok (.if_icmp .ge 64, 3) := by decide +kernel
theorem dL_arePathsRight_240 : decode cL_arePathsRight 240 = .ok (.iload_n 3, 1) := by decide +kernel
theorem dL_arePathsRight_241 : decode cL_arePathsRight 241 = .ok (.ifCond .eq 52, 3) := by decide +kernel
theorem dL_arePathsRight_244 : decode cL_arePathsRight 244 = .ok (.aload_n 0, 1) := by decide +kernel
theorem dL_arePathsRight_245 : decode cL_arePathsRight 245 = .ok (.iconst 5, 1) := by decide +kernel
theorem dL_arePathsRight_246 : decode cL_arePathsRight 246 = .ok (.iload_n 1, 1) := by decide +kernel
theorem dL_arePathsRight_247 : decode cL_arePathsRight 247 = .ok (.bipush 6, 2) := by decide +kernel
theorem dL_arePathsRight_249 : decode cL_arePathsRight 249 = .ok (.idiv, 1) := by decide +kernel
theorem dL_arePathsRight_250 : decode cL_arePathsRight 250 = .ok (.iload_n 1, 1) := by decide +kernel
theorem dL_arePathsRight_251 : decode cL_arePathsRight 251 = .ok (.bipush 6, 2) := by decide +kernel
theorem dL_arePathsRight_253 : decode cL_arePathsRight 253 = .ok (.irem, 1) := by decide +kernel
theorem dL_arePathsRight_254 : decode cL_arePathsRight 254 = .ok (.iload 4, 2) := by decide +kernel
theorem dL_arePathsRight_256 : decode cL_arePathsRight 256 = .ok (.bipush 6, 2) := by decide +kernel
theorem dL_arePathsRight_258 : decode cL_arePathsRight 258 = .ok (.idiv, 1) := by decide +kernel
theorem dL_arePathsRight_259 : decode cL_arePathsRight 259 = .ok (.iload 4, 2) := by decide +kernel
theorem dL_arePathsRight_261 : decode cL_arePathsRight 261 = .ok (.bipush 6, 2) := by decide +kernel
theorem dL_arePathsRight_263 : decode cL_arePathsRight 263 = .ok (.irem, 1) := by decide +kernel
theorem dL_arePathsRight_264 : decode cL_arePathsRight 264 = .ok (.invokestatic 141, 3) := by decide +kernel
theorem dL_arePathsRight_267 : decode cL_arePathsRight 267 = .ok (.aload_n 2, 1) := by decide +kernel
theorem dL_arePathsRight_268 : decode cL_arePathsRight 268 = .ok (.iload 4, 2) := by decide +kernel
theorem dL_arePathsRight_270 : decode cL_arePathsRight 270 = .ok (.iaload, 1) := by decide +kernel
theorem dL_arePathsRight_271 : decode cL_arePathsRight 271 = .ok (.bipush 98, 2) := by decide +kernel
theorem dL_arePathsRight_273 : decode cL_arePathsRight 273 = .ok (.if_icmp .le 9, 3) := by decide +kernel
theorem dL_arePathsRight_276 : decode cL_arePathsRight 276 = .ok (.sipush (-2004), 3) := by decide +kernel
theorem dL_arePathsRight_279 : decode cL_arePathsRight 279 = .ok (.goto 7, 3) := by decide +kernel
theorem dL_arePathsRight_282 : decode cL_arePathsRight 282 = .ok (.aload_n 2, 1) := by decide +kernel
theorem dL_arePathsRight_283 : decode cL_arePathsRight 283 = .ok (.iload 4, 2) := by decide +kernel
theorem dL_arePathsRight_285 : decode cL_arePathsRight 285 = .ok (.iaload, 1) := by decide +kernel
theorem dL_arePathsRight_286 : decode cL_arePathsRight 286 = .ok (.if_icmp .ne 7, 3) := by decide +kernel
theorem dL_arePathsRight_289 : decode cL_arePathsRight 289 = .ok (.iconst 1, 1) := by decide +kernel
theorem dL_arePathsRight_290 : decode cL_arePathsRight 290 = .ok (.goto 4, 3) := by decide +kernel
theorem dL_arePathsRight_293 : decode cL_arePathsRight 293 = .ok (.iconst 0, 1) := by decide +kernel
theorem dL_arePathsRight_294 : decode cL_arePathsRight 294 = .ok (.istore_n 3, 1) := by decide +kernel
theorem dL_arePathsRight_295 : decode cL_arePathsRight 295 = .ok (.iinc 4 1, 3) := by decide +kernel
theorem dL_arePathsRight_298 : decode cL_arePathsRight 298 = .ok (.goto (-65), 3) := by decide +kernel
theorem dL_arePathsRight_301 : decode cL_arePathsRight 301 = .ok (.iload_n 3, 1) := by decide +kernel
theorem dL_arePathsRight_302 : decode cL_arePathsRight 302 = .ok (.ireturn, 1) := by decide +kernel
theorem dL_areWinchesRight_0 : decode cL_areWinchesRight 0 = .ok (.aload_n 0, 1) := by decide +kernel
theorem dL_areWinchesRight_1 : decode cL_areWinchesRight 1 = .ok (.invokevirtual 111, 3) := by decide +kernel
theorem dL_areWinchesRight_4 : decode cL_areWinchesRight 4 = .ok (.istore_n 1, 1) := by decide +kernel
theorem dL_areWinchesRight_5 : decode cL_areWinchesRight 5 = .ok (.iconst 0, 1) := by decide +kernel
theorem dL_areWinchesRight_6 : decode cL_areWinchesRight 6 = .ok (.istore_n 2, 1) := by decide +kernel
theorem dL_areWinchesRight_7 : decode cL_areWinchesRight 7 = .ok (.aload_n 0, 1) := by decide +kernel
theorem dL_areWinchesRight_8 : decode cL_areWinchesRight 8 = .ok (.invokestatic 199, 3) := by decide +kernel
theorem dL_areWinchesRight_11 : decode cL_areWinchesRight 11 = .ok (.istore_n 3, 1) := by decide +kernel
theorem dL_areWinchesRight_12 : decode cL_areWinchesRight 12 = .ok (.aload_n 0, 1) := by decide +kernel
theorem dL_areWinchesRight_13 : decode cL_areWinchesRight 13 = .ok (.bipush 6, 2) := by decide +kernel
theorem dL_areWinchesRight_15 : decode cL_areWinchesRight 15 = .ok (.iload_n 1, 1) := by decide +kernel
theorem dL_areWinchesRight_16 : decode cL_areWinchesRight 16 = .ok (.iconst 0, 1) := by decide +kernel
theorem dL_areWinchesRight_17 : decode cL_areWinchesRight 17 = .ok (.iconst 0, 1) := by decide +kernel
theorem dL_areWinchesRight_18 : decode cL_areWinchesRight 18 = .ok (.iconst 0, 1) := by decide +kernel
theorem dL_areWinchesRight_19 : decode cL_areWinchesRight 19 = .ok (.invokestatic 141, 3) := by decide +kernel
theorem dL_areWinchesRight_22 : decode cL_areWinchesRight 22 = .ok (.sipush (-2002), 3) := by decide +kernel
theorem dL_areWinchesRight_25 : decode cL_areWinchesRight 25 = .ok (.if_icmp .ne 39, 3) := by decide +kernel
theorem dL_areWinchesRight_28 : decode cL_areWinchesRight 28 = .ok (.aload_n 0, 1) := by decide +kernel
theorem dL_areWinchesRight_29 : decode cL_areWinchesRight 29 = .ok (.bipush 6, 2) := by decide +kernel
theorem dL_areWinchesRight_31 : decode cL_areWinchesRight 31 = .ok (.iconst (-1), 1) := by decide +kernel
theorem dL_areWinchesRight_32 : decode cL_areWinchesRight 32 = .ok (.iconst 0, 1) := by decide +kernel
theorem dL_areWinchesRight_33 : decode cL_areWinchesRight 33 = .ok (.iconst 0, 1) := by decide +kernel
theorem dL_areWinchesRight_34 : decode cL_areWinchesRight 34 = .ok (.iconst 0, 1) := by decide +kernel
theorem dL_areWinchesRight_35 : decode cL_areWinchesRight 35 = .ok (.invokestatic 141, 3) := by decide +kernel
theorem dL_areWinchesRight_38 : decode cL_areWinchesRight 38 = .ok (.sipush (-2002), 3) := by decide +kernel
theorem dL_areWinchesRight_41 : decode cL_areWinchesRight 41 = .ok (.if_icmp .ne 23, 3) := by decide +kernel
theorem dL_areWinchesRight_44 : decode cL_areWinchesRight 44 = .ok (.aload_n 0, 1) := by decide +kernel
theorem dL_areWinchesRight_45 : decode cL_areWinchesRight 45 = .ok (.bipush 7, 2) := by decide +kernel
theorem dL_areWinchesRight_47 : decode cL_areWinchesRight 47 = .ok (.iconst 5, 1) := by decide +kernel
theorem dL_areWinchesRight_48 : decode cL_areWinchesRight 48 = .ok (.iconst 0, 1) := by decide +kernel
theorem dL_areWinchesRight_49 : decode cL_areWinchesRight 49 = .ok (.iconst 0, 1) := by decide +kernel
theorem dL_areWinchesRight_50 : decode cL_areWinchesRight 50 = .ok (.iconst 0, 1) := by decide +kernel
theorem dL_areWinchesRight_51 : decode cL_areWinchesRight 51 = .ok (.invokestatic 141, 3) := by decide +kernel
theorem dL_areWinchesRight_54 : decode cL_areWinchesRight 54 = .ok (.sipush (-2002), 3) := by decide +kernel
theorem dL_areWinchesRight_57 : decode cL_areWinchesRight 57 = .ok (.if_icmp .ne 7, 3) := by decide +kernel
theorem dL_areWinchesRight_60 : decode cL_areWinchesRight 60 = .ok (.iconst 1, 1) := by decide +kernel
theorem dL_areWinchesRight_61 : decode cL_areWinchesRight 61 = .ok (.goto 4, 3) := by decide +kernel
theorem dL_areWinchesRight_64 : decode cL_areWinchesRight 64 = .ok (.iconst 0, 1) := by decide +kernel
theorem dL_areWinchesRight_65 : decode cL_areWinchesRight 65 = .ok (.istore 4, 2) := by decide +kernel
theorem dL_areWinchesRight_67 : decode cL_areWinchesRight 67 = .ok (.aload_n 0, 1) := by decide +kernel
theorem dL_areWinchesRight_68 : decode cL_areWinchesRight 68 = .ok (.invokevirtual 203, 3) := by decide +kernel
theorem dL_areWinchesRight_71 : decode cL_areWinchesRight 71 = .ok (.bipush 30, 2) := by decide +kernel
theorem dL_areWinchesRight_73 : decode cL_areWinchesRight 73 = .ok (.newarray .int, 2) := by decide +kernel
theorem dL_areWinchesRight_75 : decode cL_areWinchesRight 75 = .ok (.astore 5, 2) := by decide +kernel
theorem dL_areWinchesRight_77 : decode cL_areWinchesRight 77 = .ok (.iconst 0, 1) := by decide +kernel
theorem dL_areWinchesRight_78 : decode cL_areWinchesRight 78 = .ok (.istore 6, 2) := by decide +kernel
theorem dL_areWinchesRight_80 : decode cL_areWinchesRight 80 = .ok (.iload 6, 2) := by decide +kernel
theorem dL_areWinchesRight_82 : decode cL_areWinchesRight 82 = .ok (.iload_n 1, 1) := by decide +kernel
theorem dL_areWinchesRight_83 : decode cL_areWinchesRight 83 = .ok (.if_icmp .ge 143, 3) := by decide +kernel
theorem dL_areWinchesRight_86 : decode cL_areWinchesRight 86 = .ok (.iconst 0, 1) := by decide +kernel
theorem dL_areWinchesRight_87 : decode cL_areWinchesRight 87 = .ok (.istore 7, 2) := by decide +kernel
theorem dL_areWinchesRight_89 : decode cL_areWinchesRight 89 = .ok (.iconst 0, 1) := by decide +kernel
theorem dL_areWinchesRight_90 : decode cL_areWinchesRight 90 = .ok (.istore 8, 2) := by decide +kernel
theorem dL_areWinchesRight_92 : decode cL_areWinchesRight 92 = .ok (.iload 8, 2) := by decide +kernel
theorem dL_areWinchesRight_94 : decode cL_areWinchesRight 94 = .ok (.bipush 30, 2) := by decide +kernel
theorem dL_areWinchesRight_96 : decode cL_areWinchesRight 96 = .ok (.if_icmp .ge 101, 3) := by decide +kernel
theorem dL_areWinchesRight_99 : decode cL_areWinchesRight 99 = .ok (.aload_n 0, 1) := by decide +kernel
theorem dL_areWinchesRight_100 : decode cL_areWinchesRight 100 = .ok (.iload 6, 2) := by decide +kernel
theorem dL_areWinchesRight_102 : decode cL_areWinchesRight 102 = .ok (.invokevirtual 86, 3) := by decide +kernel
theorem dL_areWinchesRight_105 : decode cL_areWinchesRight 105 = .ok (.istore 9, 2) := by decide +kernel
theorem dL_areWinchesRight_107 : decode cL_areWinchesRight 107 = .ok (.aload_n 0, 1) := by decide +kernel
theorem dL_areWinchesRight_108 : decode cL_areWinchesRight 108 = .ok (.bipush 6, 2) := by decide +kernel
theorem dL_areWinchesRight_110 : decode cL_areWinchesRight 110 = .ok (.iload 8, 2) := by decide +kernel
theorem dL_areWinchesRight_112 : decode cL_areWinchesRight 112 = .ok (.bipush 6, 2) := by decide +kernel
theorem dL_areWinchesRight_114 : decode cL_areWinchesRight 114 = .ok (.idiv, 1) := by decide +kernel
theorem dL_areWinchesRight_115 : decode cL_areWinchesRight 115 = .ok (.iload 8, 2) := by decide +kernel
theorem dL_areWinchesRight_117 : decode cL_areWinchesRight 117 = .ok (.bipush 6, 2) := by decide +kernel
theorem dL_areWinchesRight_119 : decode cL_areWinchesRight 119 = .ok (.irem, 1) := by decide +kernel
theorem dL_areWinchesRight_120 : decode cL_areWinchesRight 120 = .ok (.iload 6, 2) := by decide +kernel
theorem dL_areWinchesRight_122 : decode cL_areWinchesRight 122 = .ok (.iconst 0, 1) := by decide +kernel
theorem dL_areWinchesRight_123 : decode cL_areWinchesRight 123 = .ok (.invokestatic 108, 3) := by decide +kernel
theorem dL_areWinchesRight_126 : decode cL_areWinchesRight 126 = .ok (.istore 10, 2) := by decide +kernel
theorem dL_areWinchesRight_128 : decode cL_areWinchesRight 128 = .ok (.iload 7, 2) := by decide +kernel
theorem dL_areWinchesRight_130 : decode cL_areWinchesRight 130 = .ok (.iload 10, 2) := by decide +kernel
theorem dL_areWinchesRight_132 : decode cL_areWinchesRight 132 = .ok (.ifCond .lt 7, 3) := by decide +kernel
theorem dL_areWinchesRight_135 : decode cL_areWinchesRight 135 = .ok (.iconst 1, 1) := by decide +kernel
theorem dL_areWinchesRight_136 : decode cL_areWinchesRight 136 = .ok (.goto 4, 3) := by decide +kernel
theorem dL_areWinchesRight_139 : decode cL_areWinchesRight 139 = .ok (.iconst 0, 1) := by decide +kernel
theorem dL_areWinchesRight_140 : decode cL_areWinchesRight 140 = .ok (.iadd, 1) := by decide +kernel
theorem dL_areWinchesRight_141 : decode cL_areWinchesRight 141 = .ok (.istore 7, 2) := by decide +kernel
theorem dL_areWinchesRight_143 : decode cL_areWinchesRight 143 = .ok (.aload 5, 2) := by decide +kernel
theorem dL_areWinchesRight_145 : decode cL_areWinchesRight 145 = .ok (.iload 8, 2) := by decide +kernel
theorem dL_areWinchesRight_147 : decode cL_areWinchesRight 147 = .ok (.dup2, 1) := by decide +kernel
theorem dL_areWinchesRight_148 : decode cL_areWinchesRight 148 = .ok (.iaload, 1) := by decide +kernel
theorem dL_areWinchesRight_149 : decode cL_areWinchesRight 149 = .ok (.iload 10, 2) := by decide +kernel
theorem dL_areWinchesRight_151 : decode cL_areWinchesRight 151 = .ok (.ifCond .lt 10, 3) := by decide +kernel
theorem dL_areWinchesRight_154 : decode cL_areWinchesRight 154 = .ok (.iconst 1, 1) := by decide +kernel
theorem dL_areWinchesRight_155 : decode cL_areWinchesRight 155 = .ok (.iload 6, 2) := by decide +kernel
theorem dL_areWinchesRight_157 : decode cL_areWinchesRight 157 = .ok (.ishl, 1) := by decide +kernel
theorem dL_areWinchesRight_158 : decode cL_areWinchesRight 158 = .ok (.goto 4, 3) := by decide +kernel
theorem dL_areWinchesRight_161 : decode cL_areWinchesRight 161 = .ok (.iconst 0, 1) := by decide +kernel
theorem dL_areWinchesRight_162 : decode cL_areWinchesRight 162 = .ok (.iadd, 1) := by decide +kernel
theorem dL_areWinchesRight_163 : decode cL_areWinchesRight 163 = .ok (.iastore, 1) := by decide +kernel
theorem dL_areWinchesRight_164 : decode cL_areWinchesRight 164 = .ok (.aload_n 0, 1) := by decide +kernel
theorem dL_areWinchesRight_165 : decode cL_areWinchesRight 165 = .ok (.invokevirtual 206, 3) := by decide +kernel
theorem dL_areWinchesRight_168 : decode cL_areWinchesRight 168 = .ok (.iload 4, 2) := by decide +kernel
theorem dL_areWinchesRight_170 : decode cL_areWinchesRight 170 = .ok (.ifCond .eq 18, 3) := by decide +kernel
theorem dL_areWinchesRight_173 : decode cL_areWinchesRight 173 = .ok (.iload 9, 2) := by decide +kernel
theorem dL_areWinchesRight_175 : decode cL_areWinchesRight 175 = .ok (.aload_n 0, 1) := by decide +kernel
theorem dL_areWinchesRight_176 : decode cL_areWinchesRight 176 = .ok (.iload 6, 2) := by decide +kernel
theorem dL_areWinchesRight_178 : decode cL_areWinchesRight 178 = .ok (.invokevirtual 86, 3) := by decide +kernel
theorem dL_areWinchesRight_181 : decode cL_areWinchesRight 181 = .ok (.if_icmp .ne 7, 3) := by decide +kernel
theorem dL_areWinchesRight_184 : decode cL_areWinchesRight 184 = .ok (.iconst 1, 1) := by decide +kernel
theorem dL_areWinchesRight_185 : decode cL_areWinchesRight 185 = .ok (.goto 4, 3) := by decide +kernel
theorem dL_areWinchesRight_188 : decode cL_areWinchesRight 188 = .ok (.iconst 0, 1) := by decide +kernel
theorem dL_areWinchesRight_189 : decode cL_areWinchesRight 189 = .ok (.istore 4, 2) := by decide +kernel
theorem dL_areWinchesRight_191 : decode cL_areWinchesRight 191 = .ok (.iinc 8 1, 3) := by decide +kernel
theorem dL_areWinchesRight_194 : decode cL_areWinchesRight 194 = .ok (.goto (-102), 3) := by decide +kernel
theorem dL_areWinchesRight_197 : decode cL_areWinchesRight 197 = .ok (.iload 4, 2) := by decide +kernel
theorem dL_areWinchesRight_199 : decode cL_areWinchesRight 199 = .ok (.ifCond .eq 18, 3) := by decide +kernel
theorem dL_areWinchesRight_202 : decode cL_areWinchesRight 202 = .ok (.aload_n 0, 1) := by decide +kernel
theorem dL_areWinchesRight_203 : decode cL_areWinchesRight 203 = .ok (.iload 6, 2) := by decide +kernel
theorem dL_areWinchesRight_205 : decode cL_areWinchesRight 205 = .ok (.invokevirtual 86, 3) := by decide +kernel
theorem dL_areWinchesRight_208 : decode cL_areWinchesRight 208 = .ok (.iload 7, 2) := by decide +kernel
theorem dL_areWinchesRight_210 : decode cL_areWinchesRight 210 = .ok (.if_icmp .ne 7, 3) := by decide +kernel
theorem dL_areWinchesRight_213 : decode cL_areWinchesRight 213 = .ok (.iconst 1, 1) := by decide +kernel
theorem dL_areWinchesRight_214 : decode cL_areWinchesRight 214 = .ok (.goto 4, 3) := by decide +kernel
theorem dL_areWinchesRight_217 : decode cL_areWinchesRight 217 = .ok (.iconst 0, 1) := by decide +kernel
theorem dL_areWinchesRight_218 : decode cL_areWinchesRight 218 = .ok (.istore 4, 2) := by decide +kernel
theorem dL_areWinchesRight_220 : decode cL_areWinchesRight 220 = .ok (.iinc 6 1, 3) := by decide +kernel
theorem dL_areWinchesRight_223 : decode cL_areWinchesRight 223 = .ok (.goto (-143), 3) := by decide +kernel
theorem dL_areWinchesRight_226 : decode cL_areWinchesRight 226 = .ok (.iconst 0, 1) := by decide +kernel
theorem dL_areWinchesRight_227 : decode cL_areWinchesRight 227 = .ok (.istore 6, 2) := by decide +kernel
theorem dL_areWinchesRight_229 : decode cL_areWinchesRight 229 = .ok (.iload 6, 2) := by decide +kernel
theorem dL_areWinchesRight_231 : decode cL_areWinchesRight 231 = .ok (.bipush 30, 2) := by decide +kernel
theorem dL_areWinchesRight_233 : decode cL_areWinchesRight 233 = .ok (.if_icmp .ge 79, 3) := by decide +kernel
theorem dL_areWinchesRight_236 : decode cL_areWinchesRight 236 = .ok (.aload_n 0, 1) := by decide +kernel
theorem dL_areWinchesRight_237 : decode cL_areWinchesRight 237 = .ok (.bipush 7, 2) := by decide +kernel
theorem dL_areWinchesRight_239 : decode cL_areWinchesRight 239 = .ok (.iload 6, 2) := by decide +kernel
theorem dL_areWinchesRight_241 : decode cL_areWinchesRight 241 = .ok (.bipush 6, 2) := by decide +kernel
theorem dL_areWinchesRight_243 : decode cL_areWinchesRight 243 = .ok (.idiv, 1) := by decide +kernel
theorem dL_areWinchesRight_244 : decode cL_areWinchesRight 244 = .ok (.iload 6, 2) := by decide +kernel
theorem dL_areWinchesRight_246 : decode cL_areWinchesRight 246 = .ok (.bipush 6, 2) := by decide +kernel
theorem dL_areWinchesRight_248 : decode cL_areWinchesRight 248 = .ok (.irem, 1) := by decide +kernel
theorem dL_areWinchesRight_249 : decode cL_areWinchesRight 249 = .ok (.iconst 0, 1) := by decide +kernel
theorem dL_areWinchesRight_250 : decode cL_areWinchesRight 250 = .ok (.iconst 0, 1) := by decide +kernel
theorem dL_areWinchesRight_251 : decode cL_areWinchesRight 251 = .ok (.invokestatic 141, 3) := by decide +kernel
theorem dL_areWinchesRight_254 : decode cL_areWinchesRight 254 = .ok (.istore 7, 2) := by decide +kernel
theorem dL_areWinchesRight_256 : decode cL_areWinchesRight 256 = .ok (.iload 4, 2) := by decide +kernel
theorem dL_areWinchesRight_258 : decode cL_areWinchesRight 258 = .ok (.ifCond .eq 45, 3) := by decide +kernel
theorem dL_areWinchesRight_261 : decode cL_areWinchesRight 261 = .ok (.aload 5, 2) := by decide +kernel
theorem dL_areWinchesRight_263 : decode cL_areWinchesRight 263 = .ok (.iload 6, 2) := by decide +kernel
theorem dL_areWinchesRight_265 : decode cL_areWinchesRight 265 = .ok (.iaload, 1) := by decide +kernel
theorem dL_areWinchesRight_266 : decode cL_areWinchesRight 266 = .ok (.ifCond .ne 14, 3) := by decide +kernel
theorem dL_areWinchesRight_269 : decode cL_areWinchesRight 269 = .ok (.iload 7, 2) := by decide +kernel
theorem dL_areWinchesRight_271 : decode cL_areWinchesRight 271 = .ok (.sipush (-2004), 3) := by decide +kernel
theorem dL_areWinchesRight_274 : decode cL_areWinchesRight 274 = .ok (.if_icmp .ne 29, 3) := by decide +kernel
theorem dL_areWinchesRight_277 : decode cL_areWinchesRight 277 = .ok (.goto 22, 3) := by decide +kernel
theorem dL_areWinchesRight_280 : decode cL_areWinchesRight 280 = .ok (.iload 7, 2) := by decide +kernel
theorem dL_areWinchesRight_282 : decode cL_areWinchesRight 282 = .ok (.ifCond .lt 21, 3) := by decide +kernel
theorem dL_areWinchesRight_285 : decode cL_areWinchesRight 285 = .ok (.aload 5, 2) := by decide +kernel
theorem dL_areWinchesRight_287 : decode cL_areWinchesRight 287 = .ok (.iload 6, 2) := by decide +kernel
theorem dL_areWinchesRight_289 : decode cL_areWinchesRight 289 = .ok (.iaload, 1) := by decide +kernel
theorem dL_areWinchesRight_290 : decode cL_areWinchesRight 290 = .ok (.iload 7, 2) := by decide +kernel
theorem dL_areWinchesRight_292 : decode cL_areWinchesRight 292 = .ok (.ishr, 1) := by decide +kernel
theorem dL_areWinchesRight_293 : decode cL_areWinchesRight 293 = .ok (.iconst 2, 1) := by decide +kernel
theorem dL_areWinchesRight_294 : decode cL_areWinchesRight 294 = .ok (.irem, 1) := by decide +kernel
theorem dL_areWinchesRight_295 : decode cL_areWinchesRight 295 = .ok (.iconst 1, 1) := by decide +kernel
theorem dL_areWinchesRight_296 : decode cL_areWinchesRight 296 = .ok (.if_icmp .ne 7, 3) := by decide +kernel
theorem dL_areWinchesRight_299 : decode cL_areWinchesRight 299 = .ok (.iconst 1, 1) := by decide +kernel
theorem dL_areWinchesRight_300 : decode cL_areWinchesRight 300 = .ok (.goto 4, 3) := by decide +kernel
theorem dL_areWinchesRight_303 : decode cL_areWinchesRight 303 = .ok (.iconst 0, 1) := by decide +kernel
theorem dL_areWinchesRight_304 : decode cL_areWinchesRight 304 = .ok (.istore 4, 2) := by decide +kernel
theorem dL_areWinchesRight_306 : decode cL_areWinchesRight 306 = .ok (.iinc 6 1, 3) := by decide +kernel
theorem dL_areWinchesRight_309 : decode cL_areWinchesRight 309 = .ok (.goto (-80), 3) := by decide +kernel
theorem dL_areWinchesRight_312 : decode cL_areWinchesRight 312 = .ok (.iconst 0, 1) := by decide +kernel
theorem dL_areWinchesRight_313 : decode cL_areWinchesRight 313 = .ok (.istore 6, 2) := by decide +kernel
theorem dL_areWinchesRight_315 : decode cL_areWinchesRight 315 = .ok (.iload 6, 2) := by decide +kernel
theorem dL_areWinchesRight_317 : decode cL_areWinchesRight 317 = .ok (.iconst 4, 1) := by decide +kernel
theorem dL_areWinchesRight_318 : decode cL_areWinchesRight 318 = .ok (.if_icmp .ge 23, 3) := by decide +kernel
theorem dL_areWinchesRight_321 : decode cL_areWinchesRight 321 = .ok (.iload_n 2, 1) := by decide +kernel
theorem dL_areWinchesRight_322 : decode cL_areWinchesRight 322 = .ok (.aload_n 0, 1) := by decide +kernel
theorem dL_areWinchesRight_323 : decode cL_areWinchesRight 323 = .ok (.iload 6, 2) := by decide +kernel
theorem dL_areWinchesRight_325 : decode cL_areWinchesRight 325 = .ok (.invokevirtual 92, 3) := by decide +kernel
theorem dL_areWinchesRight_328 : decode cL_areWinchesRight 328 = .ok (.iconst 2, 1) := by decide +kernel
theorem dL_areWinchesRight_329 : decode cL_areWinchesRight 329 = .ok (.iload 6, 2) := by decide +kernel
theorem dL_areWinchesRight_331 : decode cL_areWinchesRight 331 = .ok (.iadd, 1) := by decide +kernel
theorem dL_areWinchesRight_332 : decode cL_areWinchesRight 332 = .ok (.imul, 1) := by decide +kernel
theorem dL_areWinchesRight_333 : decode cL_areWinchesRight 333 = .ok (.iadd, 1) := by decide +kernel
theorem dL_areWinchesRight_334 : decode cL_areWinchesRight 334 = .ok (.istore_n 2, 1) := by decide +kernel
theorem dL_areWinchesRight_335 : decode cL_areWinchesRight 335 = .ok (.iinc 6 1, 3) := by decide +kernel
theorem dL_areWinchesRight_338 : decode cL_areWinchesRight 338 = .ok (.goto (-23), 3) := by decide +kernel
theorem dL_areWinchesRight_341 : decode cL_areWinchesRight 341 = .ok (.iload 4, 2) := by decide +kernel
theorem dL_areWinchesRight_343 : decode cL_areWinchesRight 343 = .ok (.ifCond .eq 23, 3) := by decide +kernel
theorem dL_areWinchesRight_346 : decode cL_areWinchesRight 346 = .ok (.aload_n 0, 1) := by decide +kernel
theorem dL_areWinchesRight_347 : decode cL_areWinchesRight 347 = .ok (.invokevirtual 209, 3) := by decide +kernel
theorem dL_areWinchesRight_350 : decode cL_areWinchesRight 350 = .ok (.iload_n 2, 1) := by decide +kernel
theorem dL_areWinchesRight_351 : decode cL_areWinchesRight 351 = .ok (.if_icmp .ne 15, 3) := by decide +kernel
theorem dL_areWinchesRight_354 : decode cL_areWinchesRight 354 = .ok (.aload_n 0, 1) := by decide +kernel
theorem dL_areWinchesRight_355 : decode cL_areWinchesRight 355 = .ok (.invokestatic 199, 3) := by decide +kernel
theorem dL_areWinchesRight_358 : decode cL_areWinchesRight 358 = .ok (.iload_n 3, 1) := by decide +kernel
theorem dL_areWinchesRight_359 : decode cL_areWinchesRight 359 = .ok (.if_icmp .ne 7, 3) := by decide +kernel
theorem dL_areWinchesRight_362 : decode cL_areWinchesRight 362 = .ok (.iconst 1, 1) := by decide +kernel
theorem dL_areWinchesRight_363 : decode cL_areWinchesRight 363 = .ok (.goto 4, 3) := by decide +kernel
theorem dL_areWinchesRight_366 : decode cL_areWinchesRight 366 = .ok (.iconst 0, 1) := by decide +kernel
theorem dL_areWinchesRight_367 : decode cL_areWinchesRight 367 = .ok (.ireturn, 1) := by decide +kernel
theorem dL_areLinesRight_0 : decode cL_areLinesRight 0 = .ok (.iconst 1, 1) := by decide +kernel
theorem dL_areLinesRight_1 : decode cL_areLinesRight 1 = .ok (.istore_n 1, 1) := by decide +kernel
theorem dL_areLinesRight_2 : decode cL_areLinesRight 2 = .ok (.iconst 0, 1) := by decide +kernel
theorem dL_areLinesRight_3 : decode cL_areLinesRight 3 = .ok (.istore_n 2, 1) := by decide +kernel
theorem dL_areLinesRight_4 : decode cL_areLinesRight 4 = .ok (.iconst 0, 1) := by decide +kernel
theorem dL_areLinesRight_5 : decode cL_areLinesRight 5 = .ok (.istore_n 3, 1) := by decide +kernel
theorem dL_areLinesRight_6 : decode cL_areLinesRight 6 = .ok (.iload_n 3, 1) := by decide +kernel
theorem dL_areLinesRight_7 : decode cL_areLinesRight 7 = .ok (.iconst 5, 1) := by decide +kernel
theorem dL_areLinesRight_8 : decode cL_areLinesRight 8 = .ok (.if_icmp .ge 251, 3) := by decide +kernel
theorem dL_areLinesRight_11 : decode cL_areLinesRight 11 = .ok (.aload_n 0, 1) := by decide +kernel
theorem dL_areLinesRight_12 : decode cL_areLinesRight 12 = .ok (.iload_n 3, 1) := by decide +kernel
theorem dL_areLinesRight_13 : decode cL_areLinesRight 13 = .ok (.invokevirtual 144, 3) := by decide +kernel
theorem dL_areLinesRight_16 : decode cL_areLinesRight 16 = .ok (.istore 4, 2) := by decide +kernel
theorem dL_areLinesRight_18 : decode cL_areLinesRight 18 = .ok (.iconst 0, 1) := by decide +kernel
theorem dL_areLinesRight_19 : decode cL_areLinesRight 19 = .ok (.istore 5, 2) := by decide +kernel
theorem dL_areLinesRight_21 : decode cL_areLinesRight 21 = .ok (.iconst 0, 1) := by decide +kernel
theorem dL_areLinesRight_22 : decode cL_areLinesRight 22 = .ok (.istore 6, 2) := by decide +kernel
theorem dL_areLinesRight_24 : decode cL_areLinesRight 24 = .ok (.iload 6, 2) := by decide +kernel
theorem dL_areLinesRight_26 : decode cL_areLinesRight 26 = .ok (.bipush 6, 2) := by decide +kernel
theorem dL_areLinesRight_28 : decode cL_areLinesRight 28 = .ok (.if_icmp .ge 208, 3) := by decide +kernel
theorem dL_areLinesRight_31 : decode cL_areLinesRight 31 = .ok (.iload_n 1, 1) := by decide +kernel
theorem dL_areLinesRight_32 : decode cL_areLinesRight 32 = .ok (.ifCond .eq 204, 3) := by decide +kernel
theorem dL_areLinesRight_35 : decode cL_areLinesRight 35 = .ok (.iload 6, 2) := by decide +kernel
theorem dL_areLinesRight_37 : decode cL_areLinesRight 37 = .ok (.ifCond .eq 17, 3) := by decide +kernel
theorem dL_areLinesRight_40 : decode cL_areLinesRight 40 = .ok (.aload_n 0, 1) := by decide +kernel
theorem dL_areLinesRight_41 : decode cL_areLinesRight 41 = .ok (.iload 5, 2) := by decide +kernel
theorem dL_areLinesRight_43 : decode cL_areLinesRight 43 = .ok (.iinc 5 1, 3) := by decide +kernel
theorem dL_areLinesRight_46 : decode cL_areLinesRight 46 = .ok (.invokevirtual 147, 3) := by decide +kernel
theorem dL_areLinesRight_49 : decode cL_areLinesRight 49 = .ok (.bipush 32, 2) := by decide +kernel
theorem dL_areLinesRight_51 : decode cL_areLinesRight 51 = .ok (.if_icmp .ne 51, 3) := by decide +kernel
theorem dL_areLinesRight_54 : decode cL_areLinesRight 54 = .ok (.aload_n 0, 1) := by decide +kernel
theorem dL_areLinesRight_55 : decode cL_areLinesRight 55 = .ok (.iload 5, 2) := by decide +kernel
theorem dL_areLinesRight_57 : decode cL_areLinesRight 57 = .ok (.iinc 5 1, 3) := by decide +kernel
theorem dL_areLinesRight_60 : decode cL_areLinesRight 60 = .ok (.invokevirtual 147, 3) := by decide +kernel
theorem dL_areLinesRight_63 : decode cL_areLinesRight 63 = .ok (.bipush 48, 2) := by decide +kernel
theorem dL_areLinesRight_65 : decode cL_areLinesRight 65 = .ok (.aload_n 0, 1) := by decide +kernel
theorem dL_areLinesRight_66 : decode cL_areLinesRight 66 = .ok (.iload_n 3, 1) := by decide +kernel
theorem dL_areLinesRight_67 : decode cL_areLinesRight 67 = .ok (.iload 6, 2) := by decide +kernel
theorem dL_areLinesRight_69 : decode cL_areLinesRight 69 = .ok (.invokevirtual 68, 3) := by decide +kernel
theorem dL_areLinesRight_72 : decode cL_areLinesRight 72 = .ok (.iadd, 1) := by decide +kernel
theorem dL_areLinesRight_73 : decode cL_areLinesRight 73 = .ok (.if_icmp .ne 29, 3) := by decide +kernel
theorem dL_areLinesRight_76 : decode cL_areLinesRight 76 = .ok (.aload_n 0, 1) := by decide +kernel
theorem dL_areLinesRight_77 : decode cL_areLinesRight 77 = .ok (.iload 5, 2) := by decide +kernel
theorem dL_areLinesRight_79 : decode cL_areLinesRight 79 = .ok (.iinc 5 1, 3) := by decide +kernel
theorem dL_areLinesRight_82 : decode cL_areLinesRight 82 = .ok (.invokevirtual 147, 3) := by decide +kernel
theorem dL_areLinesRight_85 : decode cL_areLinesRight 85 = .ok (.bipush 97, 2) := by decide +kernel
theorem dL_areLinesRight_87 : decode cL_areLinesRight 87 = .ok (.aload_n 0, 1) := by decide +kernel
theorem dL_areLinesRight_88 : decode cL_areLinesRight 88 = .ok (.iload_n 3, 1) := by decide +kernel
theorem dL_areLinesRight_89 : decode cL_areLinesRight 89 = .ok (.iload 6, 2) := by decide +kernel
theorem dL_areLinesRight_91 : decode cL_areLinesRight 91 = .ok (.invokevirtual 132, 3) := by decide +kernel
theorem dL_areLinesRight_94 : decode cL_areLinesRight 94 = .ok (.iadd, 1) := by decide +kernel
theorem dL_areLinesRight_95 : decode cL_areLinesRight 95 = .ok (.if_icmp .ne 7, 3) := by decide +kernel
theorem dL_areLinesRight_98 : decode cL_areLinesRight 98 = .ok (.iconst 1, 1) := by decide +kernel
theorem dL_areLinesRight_99 : decode cL_areLinesRight 99 = .ok (.goto 4, 3) := by decide +kernel
theorem dL_areLinesRight_102 : decode cL_areLinesRight 102 = .ok (.iconst 0, 1) := by decide +kernel
theorem dL_areLinesRight_103 : decode cL_areLinesRight 103 = .ok (.istore_n 1, 1) := by decide +kernel
theorem dL_areLinesRight_104 : decode cL_areLinesRight 104 = .ok (.iload_n 1, 1) := by decide +kernel
theorem dL_areLinesRight_105 : decode cL_areLinesRight 105 = .ok (.ifCond .eq 31, 3) := by decide +kernel
theorem dL_areLinesRight_108 : decode cL_areLinesRight 108 = .ok (.aload_n 0, 1) := by decide +kernel
theorem dL_areLinesRight_109 : decode cL_areLinesRight 109 = .ok (.iload_n 3, 1) := by decide +kernel
theorem dL_areLinesRight_110 : decode cL_areLinesRight 110 = .ok (.iload 6, 2) := by decide +kernel
theorem dL_areLinesRight_112 : decode cL_areLinesRight 112 = .ok (.invokevirtual 135, 3) := by decide +kernel
theorem dL_areLinesRight_115 : decode cL_areLinesRight 115 = .ok (.ifCond .eq 17, 3) := by decide +kernel
theorem dL_areLinesRight_118 : decode cL_areLinesRight 118 = .ok (.aload_n 0, 1) := by decide +kernel
theorem dL_areLinesRight_119 : decode cL_areLinesRight 119 = .ok (.iload 5, 2) := by decide +kernel
theorem dL_areLinesRight_121 : decode cL_areLinesRight 121 = .ok (.iinc 5 1, 3) := by decide +kernel
theorem dL_areLinesRight_124 : decode cL_areLinesRight 124 = .ok (.invokevirtual 147, 3) := by decide +kernel
theorem dL_areLinesRight_127 : decode cL_areLinesRight 127 = .ok (.bipush 61, 2) := by decide +kernel
theorem dL_areLinesRight_129 : decode cL_areLinesRight 129 = .ok (.if_icmp .ne 7, 3) := by decide +kernel
theorem dL_areLinesRight_132 : decode cL_areLinesRight 132 = .ok (.iconst 1, 1) := by decide +kernel
theorem dL_areLinesRight_133 : decode cL_areLinesRight 133 = .ok (.goto 4, 3) := by decide +kernel
theorem dL_areLinesRight_136 : decode cL_areLinesRight 136 = .ok (.iconst 0, 1) := by decide +kernel
theorem dL_areLinesRight_137 : decode cL_areLinesRight 137 = .ok (.istore_n 1, 1) := by decide +kernel
theorem dL_areLinesRight_138 : decode cL_areLinesRight 138 = .ok (.iload_n 1, 1) := by decide +kernel
theorem dL_areLinesRight_139 : decode cL_areLinesRight 139 = .ok (.ifCond .eq 25, 3) := by decide +kernel
theorem dL_areLinesRight_142 : decode cL_areLinesRight 142 = .ok (.iload 5, 2) := by decide +kernel
theorem dL_areLinesRight_144 : decode cL_areLinesRight 144 = .ok (.iload 4, 2) := by decide +kernel
theorem dL_areLinesRight_146 : decode cL_areLinesRight 146 = .ok (.if_icmp .ge 18, 3) := by decide +kernel
theorem dL_areLinesRight_149 : decode cL_areLinesRight 149 = .ok (.aload_n 0, 1) := by decide +kernel
theorem dL_areLinesRight_150 : decode cL_areLinesRight 150 = .ok (.iload 5, 2) := by decide +kernel
theorem dL_areLinesRight_152 : decode cL_areLinesRight 152 = .ok (.invokevirtual 147, 3) := by decide +kernel
theorem dL_areLinesRight_155 : decode cL_areLinesRight 155 = .ok (.bipush 94, 2) := by decide +kernel
theorem dL_areLinesRight_157 : decode cL_areLinesRight 157 = .ok (.if_icmp .ne 7, 3) := by decide +kernel
theorem dL_areLinesRight_160 : decode cL_areLinesRight 160 = .ok (.iconst 1, 1) := by decide +kernel
theorem dL_areLinesRight_161 : decode cL_areLinesRight 161 = .ok (.goto 4, 3) := by decide +kernel
theorem dL_areLinesRight_164 : decode cL_areLinesRight 164 = .ok (.iconst 0, 1) := by decide +kernel
theorem dL_areLinesRight_165 : decode cL_areLinesRight 165 = .ok (.istore 7, 2) := by decide +kernel
theorem dL_areLinesRight_167 : decode cL_areLinesRight 167 = .ok (.iload_n 2, 1) := by decide +kernel
theorem dL_areLinesRight_168 : decode cL_areLinesRight 168 = .ok (.iload 7, 2) := by decide +kernel
theorem dL_areLinesRight_170 : decode cL_areLinesRight 170 = .ok (.invokestatic 32, 3) := by decide +kernel
theorem dL_areLinesRight_173 : decode cL_areLinesRight 173 = .ok (.iadd, 1) := by decide +kernel
theorem dL_areLinesRight_174 : decode cL_areLinesRight 174 = .ok (.istore_n 2, 1) := by decide +kernel
theorem dL_areLinesRight_175 : decode cL_areLinesRight 175 = .ok (.iload 5, 2) := by decide +kernel
theorem dL_areLinesRight_177 : decode cL_areLinesRight 177 = .ok (.iload 7, 2) := by decide +kernel
theorem dL_areLinesRight_179 : decode cL_areLinesRight 179 = .ok (.invokestatic 32, 3) := by decide +kernel
theorem dL_areLinesRight_182 : decode cL_areLinesRight 182 = .ok (.iadd, 1) := by decide +kernel
theorem dL_areLinesRight_183 : decode cL_areLinesRight 183 = .ok (.istore 5, 2) := by decide +kernel
theorem dL_areLinesRight_185 : decode cL_areLinesRight 185 = .ok (.iconst 0, 1) := by decide +kernel
theorem dL_areLinesRight_186 : decode cL_areLinesRight 186 = .ok (.istore 8, 2) := by decide +kernel
theorem dL_areLinesRight_188 : decode cL_areLinesRight 188 = .ok (.iload_n 1, 1) := by decide +kernel
theorem dL_areLinesRight_189 : decode cL_areLinesRight 189 = .ok (.ifCond .eq 41, 3) := by decide +kernel
theorem dL_areLinesRight_192 : decode cL_areLinesRight 192 = .ok (.iload 8, 2) := by decide +kernel
theorem dL_areLinesRight_194 : decode cL_areLinesRight 194 = .ok (.aload_n 0, 1) := by decide +kernel
theorem dL_areLinesRight_195 : decode cL_areLinesRight 195 = .ok (.iload_n 3, 1) := by decide +kernel
theorem dL_areLinesRight_196 : decode cL_areLinesRight 196 = .ok (.iload 6, 2) := by decide +kernel
theorem dL_areLinesRight_198 : decode cL_areLinesRight 198 = .ok (.invokevirtual 138, 3) := by decide +kernel
theorem dL_areLinesRight_201 : decode cL_areLinesRight 201 = .ok (.if_icmp .ge 29, 3) := by decide +kernel
theorem dL_areLinesRight_204 : decode cL_areLinesRight 204 = .ok (.aload_n 0, 1) := by decide +kernel
theorem dL_areLinesRight_205 : decode cL_areLinesRight 205 = .ok (.iload 5, 2) := by decide +kernel
theorem dL_areLinesRight_207 : decode cL_areLinesRight 207 = .ok (.iinc 5 1, 3) := by decide +kernel
theorem dL_areLinesRight_210 : decode cL_areLinesRight 210 = .ok (.invokevirtual 147, 3) := by decide +kernel
theorem dL_areLinesRight_213 : decode cL_areLinesRight 213 = .ok (.bipush 46, 2) := by decide +kernel
theorem dL_areLinesRight_215 : decode cL_areLinesRight 215 = .ok (.if_icmp .ne 7, 3) := by decide +kernel
theorem dL_areLinesRight_218 : decode cL_areLinesRight 218 = .ok (.iconst 1, 1) := by decide +kernel
theorem dL_areLinesRight_219 : decode cL_areLinesRight 219 = .ok (.goto 4, 3) := by decide +kernel
theorem dL_areLinesRight_222 : decode cL_areLinesRight 222 = .ok (.iconst 0, 1) := by decide +kernel
theorem dL_areLinesRight_223 : decode cL_areLinesRight 223 = .ok (.istore_n 1, 1) := by decide +kernel
theorem dL_areLinesRight_224 : decode cL_areLinesRight 224 = .ok (.iinc 8 1, 3) := by decide +kernel
theorem dL_areLinesRight_227 : decode cL_areLinesRight 227 = .ok (.goto (-39), 3) := by decide +kernel
theorem dL_areLinesRight_230 : decode cL_areLinesRight 230 = .ok (.iinc 6 1, 3) := by decide +kernel
theorem dL_areLinesRight_233 : decode cL_areLinesRight 233 = .ok (.goto (-209), 3) := by decide +kernel
theorem dL_areLinesRight_236 : decode cL_areLinesRight 236 = .ok (.iload_n 1, 1) := by decide +kernel
theorem dL_areLinesRight_237 : decode cL_areLinesRight 237 = .ok (.ifCond .eq 14, 3) := by decide +kernel
theorem dL_areLinesRight_240 : decode cL_areLinesRight 240 = .ok (.iload 5, 2) := by decide +kernel
theorem dL_areLinesRight_242 : decode cL_areLinesRight 242 = .ok (.iload 4, 2) := by decide +kernel
theorem dL_areLinesRight_244 : decode cL_areLinesRight 244 = .ok (.if_icmp .ne 7, 3) := by decide +kernel
theorem dL_areLinesRight_247 : decode cL_areLinesRight 247 = .ok (.iconst 1, 1) := by decide +kernel
theorem dL_areLinesRight_248 : decode cL_areLinesRight 248 = .ok (.goto 4, 3) := by decide +kernel
theorem dL_areLinesRight_251 : decode cL_areLinesRight 251 = .ok (.iconst 0, 1) := by decide +kernel
theorem dL_areLinesRight_252 : decode cL_areLinesRight 252 = .ok (.istore_n 1, 1) := by decide +kernel
theorem dL_areLinesRight_253 : decode cL_areLinesRight 253 = .ok (.iinc 3 1, 3) := by decide +kernel
theorem dL_areLinesRight_256 : decode cL_areLinesRight 256 = .ok (.goto (-250), 3) := by decide +kernel
theorem dL_areLinesRight_259 : decode cL_areLinesRight 259 = .ok (.iload_n 1, 1) := by decide +kernel
theorem dL_areLinesRight_260 : decode cL_areLinesRight 260 = .ok (.ifCond .eq 15, 3) := by decide +kernel
theorem dL_areLinesRight_263 : decode cL_areLinesRight 263 = .ok (.iload_n 2, 1) := by decide +kernel
theorem dL_areLinesRight_264 : decode cL_areLinesRight 264 = .ok (.aload_n 0, 1) := by decide +kernel
theorem dL_areLinesRight_265 : decode cL_areLinesRight 265 = .ok (.invokevirtual 111, 3) := by decide +kernel
theorem dL_areLinesRight_268 : decode cL_areLinesRight 268 = .ok (.if_icmp .ne 7, 3) := by decide +kernel
theorem dL_areLinesRight_271 : decode cL_areLinesRight 271 = .ok (.iconst 1, 1) := by decide +kernel
theorem dL_areLinesRight_272 : decode cL_areLinesRight 272 = .ok (.goto 4, 3) := by decide +kernel
theorem dL_areLinesRight_275 : decode cL_areLinesRight 275 = .ok (.iconst 0, 1) := by decide +kernel
theorem dL_areLinesRight_276 : decode cL_areLinesRight 276 = .ok (.ireturn, 1) := by decide +kernel
theorem dL_law_0 : decode cL_law 0 = .ok (.new 16, 3) := by decide +kernel
theorem dL_law_3 : decode cL_law 3 = .ok (.dup, 1) := by decide +kernel
theorem dL_law_4 : decode cL_law 4 = .ok (.invokespecial 212, 3) := by decide +kernel
theorem dL_law_7 : decode cL_law 7 = .ok (.astore_n 1, 1) := by decide +kernel
theorem dL_law_8 : decode cL_law 8 = .ok (.aload_n 1, 1) := by decide +kernel
theorem dL_law_9 : decode cL_law 9 = .ok (.aload_n 0, 1) := by decide +kernel
theorem dL_law_10 : decode cL_law 10 = .ok (.invokestatic 213, 3) := by decide +kernel
theorem dL_law_13 : decode cL_law 13 = .ok (.iconst 0, 1) := by decide +kernel
theorem dL_law_14 : decode cL_law 14 = .ok (.istore_n 2, 1) := by decide +kernel
theorem dL_law_15 : decode cL_law 15 = .ok (.iload_n 2, 1) := by decide +kernel
theorem dL_law_16 : decode cL_law 16 = .ok (.bipush 8, 2) := by decide +kernel
theorem dL_law_18 : decode cL_law 18 = .ok (.if_icmp .ge 82, 3) := by decide +kernel
theorem dL_law_21 : decode cL_law 21 = .ok (.aload_n 1, 1) := by decide +kernel
theorem dL_law_22 : decode cL_law 22 = .ok (.aload_n 0, 1) := by decide +kernel
theorem dL_law_23 : decode cL_law 23 = .ok (.sipush 300, 3) := by decide +kernel
theorem dL_law_26 : decode cL_law 26 = .ok (.bipush 6, 2) := by decide +kernel
theorem dL_law_28 : decode cL_law 28 = .ok (.iload_n 2, 1) := by decide +kernel
theorem dL_law_29 : decode cL_law 29 = .ok (.imul, 1) := by decide +kernel
theorem dL_law_30 : decode cL_law 30 = .ok (.iadd, 1) := by decide +kernel
theorem dL_law_31 : decode cL_law 31 = .ok (.invokestatic 217, 3) := by decide +kernel
theorem dL_law_34 : decode cL_law 34 = .ok (.istore_n 3, 1) := by decide +kernel
theorem dL_law_35 : decode cL_law 35 = .ok (.aload_n 1, 1) := by decide +kernel
theorem dL_law_36 : decode cL_law 36 = .ok (.aload_n 0, 1) := by decide +kernel
theorem dL_law_37 : decode cL_law 37 = .ok (.sipush 400, 3) := by decide +kernel
theorem dL_law_40 : decode cL_law 40 = .ok (.iload_n 2, 1) := by decide +kernel
theorem dL_law_41 : decode cL_law 41 = .ok (.iadd, 1) := by decide +kernel
theorem dL_law_42 : decode cL_law 42 = .ok (.bipush 10, 2) := by decide +kernel
theorem dL_law_44 : decode cL_law 44 = .ok (.invokestatic 104, 3) := by decide +kernel
theorem dL_law_47 : decode cL_law 47 = .ok (.invokestatic 221, 3) := by decide +kernel
theorem dL_law_50 : decode cL_law 50 = .ok (.ifCond .eq 42, 3) := by decide +kernel
theorem dL_law_53 : decode cL_law 53 = .ok (.aload_n 1, 1) := by decide +kernel
theorem dL_law_54 : decode cL_law 54 = .ok (.invokestatic 225, 3) := by decide +kernel
theorem dL_law_57 : decode cL_law 57 = .ok (.ifCond .eq 35, 3) := by decide +kernel
theorem dL_law_60 : decode cL_law 60 = .ok (.aload_n 1, 1) := by decide +kernel
theorem dL_law_61 : decode cL_law 61 = .ok (.aload_n 0, 1) := by decide +kernel
theorem dL_law_62 : decode cL_law 62 = .ok (.sipush 420, 3) := by decide +kernel
theorem dL_law_65 : decode cL_law 65 = .ok (.iload_n 2, 1) := by decide +kernel
theorem dL_law_66 : decode cL_law 66 = .ok (.iadd, 1) := by decide +kernel
theorem dL_law_67 : decode cL_law 67 = .ok (.bipush 30, 2) := by decide +kernel
theorem dL_law_69 : decode cL_law 69 = .ok (.invokestatic 104, 3) := by decide +kernel
theorem dL_law_72 : decode cL_law 72 = .ok (.invokestatic 229, 3) := by decide +kernel
theorem dL_law_75 : decode cL_law 75 = .ok (.ifCond .eq 17, 3) := by decide +kernel
theorem dL_law_78 : decode cL_law 78 = .ok (.aload_n 1, 1) := by decide +kernel
theorem dL_law_79 : decode cL_law 79 = .ok (.invokestatic 232, 3) := by decide +kernel
theorem dL_law_82 : decode cL_law 82 = .ok (.ifCond .eq 10, 3) := by decide +kernel
theorem dL_law_85 : decode cL_law 85 = .ok (.aload_n 1, 1) := by decide +kernel
theorem dL_law_86 : decode cL_law 86 = .ok (.invokestatic 235, 3) := by decide +kernel
theorem dL_law_89 : decode cL_law 89 = .ok (.ifCond .ne 5, 3) := by decide +kernel
theorem dL_law_92 : decode cL_law 92 = .ok (.iconst 0, 1) := by decide +kernel
theorem dL_law_93 : decode cL_law 93 = .ok (.ireturn, 1) := by decide +kernel
theorem dL_law_94 : decode cL_law 94 = .ok (.iinc 2 1, 3) := by decide +kernel
theorem dL_law_97 : decode cL_law 97 = .ok (.goto (-82), 3) := by decide +kernel
theorem dL_law_100 : decode cL_law 100 = .ok (.iconst 1, 1) := by decide +kernel
theorem dL_law_101 : decode cL_law 101 = .ok (.ireturn, 1) := by decide +kernel
