set_option maxRecDepth 20000 in
theorem ggL_areLinesRight_X10_writeRow : GoodIn wsL_areLinesRight wsX10_writeRow := goodIn_ca (goodIn_ca (goodIn_r _ [5, 6, 7, 8, 9, 10, 11, 12, 13, 14, 15, 16, 17, 18, 19, 20, 21, 22, 23, 24, 25, 26, 27, 28, 29, 30, 31, 32, 33, 34, 35, 36, 37, 38, 39, 40, 41, 42, 43, 44, 45, 46, 47, 48, 49, 50, 51, 52, 53, 54, 55, 56, 57, 58, 129, 130, 131, 132, 133, 134, 135, 136, 137, 138, 139, 140, 141, 142, 143, 144, 145, 146, 147, 148, 149, 150, 151, 152, 153, 154] (by decide +kernel) (by decide +kernel)) (goodIn_sub (fun _ h => List.mem_cons_of_mem _ (List.mem_append_left _ (List.mem_append_left _ (List.mem_append_left _ (List.mem_append_left _ (List.mem_append_left _ (List.mem_append_right _ h))))))) (by decide +kernel))) (goodIn_sub (fun _ h => List.mem_cons_of_mem _ (List.mem_append_left _ (List.mem_append_left _ (List.mem_append_left _ (List.mem_append_left _ (List.mem_append_right _ h)))))) (by decide +kernel))
set_option maxRecDepth 20000 in
theorem gL_areLinesRight_X10_writeRow : GoodIn wsL_areLinesRight (wsV RL 144 RX10 yX10_writeRow wsX10_writeRow) := goodIn_app (goodIn_of _ (by decide +kernel)) ggL_areLinesRight_X10_writeRow
set_option maxRecDepth 20000 in
theorem ggL_areLinesRight_X10_outputAt : GoodIn wsL_areLinesRight wsX10_outputAt := goodIn_ca (goodIn_ca (goodIn_r _ [62, 6, 7, 8, 63, 64, 65, 17, 66, 19, 67, 68, 69, 70, 24, 129, 130, 131, 132, 133, 134, 135, 136, 137, 138, 139] (by decide +kernel) (by decide +kernel)) (goodIn_sub (fun _ h => List.mem_cons_of_mem _ (List.mem_append_left _ (List.mem_append_left _ (List.mem_append_left _ (List.mem_append_left _ (List.mem_append_left _ (List.mem_append_right _ h))))))) (by decide +kernel))) (goodIn_sub (fun _ h => List.mem_cons_of_mem _ (List.mem_append_left _ (List.mem_append_left _ (List.mem_append_left _ (List.mem_append_left _ (List.mem_append_right _ h)))))) (by decide +kernel))
set_option maxRecDepth 20000 in
theorem gL_areLinesRight_X10_outputAt : GoodIn wsL_areLinesRight (wsV RL 147 RX10 yX10_outputAt wsX10_outputAt) := goodIn_app (goodIn_of _ (by decide +kernel)) ggL_areLinesRight_X10_outputAt
set_option maxRecDepth 20000 in
theorem ggL_areLinesRight_X10_height : GoodIn wsL_areLinesRight wsX10_height := goodIn_ca (goodIn_ca (goodIn_ca (goodIn_ca (goodIn_ca (goodIn_ca (goodIn_r _ [74, 9, 75, 76, 12, 77, 78, 79, 80, 11, 13, 81, 82, 4, 83, 6, 7, 84, 85, 86, 87, 88, 89, 90, 91, 92, 93, 94, 95, 96, 97, 98, 99, 100, 26, 27, 101, 33, 34, 35, 36, 37, 129, 130, 131, 132, 133, 134, 135, 136, 137, 140, 141, 142, 143, 144, 145, 146, 147, 148, 149, 150, 151, 152, 153, 154] (by decide +kernel) (by decide +kernel)) (goodIn_sub (fun _ h => List.mem_cons_of_mem _ (List.mem_append_left _ (List.mem_append_left _ (List.mem_append_left _ (List.mem_append_left _ (List.mem_append_right _ h)))))) (by decide +kernel))) (goodIn_sub (fun _ h => List.mem_cons_of_mem _ (List.mem_append_left _ (List.mem_append_left _ (List.mem_append_left _ (List.mem_append_left _ (List.mem_append_left _ (List.mem_append_right _ h))))))) (by decide +kernel))) (goodIn_sub (fun _ h => List.mem_cons_of_mem _ (List.mem_append_left _ (List.mem_append_left _ (List.mem_append_left _ (List.mem_append_right _ h))))) (by decide +kernel))) (goodIn_sub (fun _ h => List.mem_cons_of_mem _ (List.mem_append_left _ (List.mem_append_left _ (List.mem_append_right _ h)))) (by decide +kernel))) (goodIn_sub (fun _ h => List.mem_cons_of_mem _ (List.mem_append_left _ (List.mem_append_right _ h))) (by decide +kernel))) (goodIn_sub (fun _ h => List.mem_cons_of_mem _ (List.mem_append_right _ h)) (by decide +kernel))
set_option maxRecDepth 20000 in
theorem gL_areLinesRight_X10_height : GoodIn wsL_areLinesRight (wsV RL 68 RX10 yX10_height wsX10_height) := goodIn_app (goodIn_of _ (by decide +kernel)) ggL_areLinesRight_X10_height
set_option maxRecDepth 20000 in
theorem ggL_areLinesRight_X10_stone : GoodIn wsL_areLinesRight wsX10_stone := goodIn_ca (goodIn_ca (goodIn_ca (goodIn_ca (goodIn_ca (goodIn_ca (goodIn_r _ [105, 9, 75, 76, 12, 77, 78, 79, 80, 11, 13, 81, 82, 4, 83, 6, 7, 84, 85, 86, 87, 88, 89, 90, 91, 92, 93, 94, 95, 96, 97, 98, 99, 100, 26, 27, 106, 39, 40, 35, 41, 42, 129, 130, 131, 132, 133, 134, 135, 136, 137, 140, 141, 142, 143, 144, 145, 146, 147, 148, 149, 150, 151, 152, 153, 154] (by decide +kernel) (by decide +kernel)) (goodIn_sub (fun _ h => List.mem_cons_of_mem _ (List.mem_append_left _ (List.mem_append_left _ (List.mem_append_left _ (List.mem_append_left _ (List.mem_append_right _ h)))))) (by decide +kernel))) (goodIn_sub (fun _ h => List.mem_cons_of_mem _ (List.mem_append_left _ (List.mem_append_left _ (List.mem_append_left _ (List.mem_append_left _ (List.mem_append_left _ (List.mem_append_right _ h))))))) (by decide +kernel))) (goodIn_sub (fun _ h => List.mem_cons_of_mem _ (List.mem_append_left _ (List.mem_append_left _ (List.mem_append_left _ (List.mem_append_right _ h))))) (by decide +kernel))) (goodIn_sub (fun _ h => List.mem_cons_of_mem _ (List.mem_append_left _ (List.mem_append_left _ (List.mem_append_right _ h)))) (by decide +kernel))) (goodIn_sub (fun _ h => List.mem_cons_of_mem _ (List.mem_append_left _ (List.mem_append_right _ h))) (by decide +kernel))) (goodIn_sub (fun _ h => List.mem_cons_of_mem _ (List.mem_append_right _ h)) (by decide +kernel))
set_option maxRecDepth 20000 in
theorem gL_areLinesRight_X10_stone : GoodIn wsL_areLinesRight (wsV RL 132 RX10 yX10_stone wsX10_stone) := goodIn_app (goodIn_of _ (by decide +kernel)) ggL_areLinesRight_X10_stone
set_option maxRecDepth 20000 in
theorem ggL_areLinesRight_X10_isLedge : GoodIn wsL_areLinesRight wsX10_isLedge := goodIn_ca (goodIn_ca (goodIn_ca (goodIn_ca (goodIn_ca (goodIn_ca (goodIn_r _ [110, 9, 75, 76, 12, 77, 78, 79, 80, 11, 13, 81, 82, 4, 83, 6, 7, 84, 85, 86, 87, 88, 89, 90, 91, 92, 93, 94, 95, 96, 97, 98, 99, 100, 26, 27, 111, 44, 45, 35, 46, 47, 129, 130, 131, 132, 133, 134, 135, 136, 137, 140, 141, 142, 143, 144, 145, 146, 147, 148, 149, 150, 151, 152, 153, 154] (by decide +kernel) (by decide +kernel)) (goodIn_sub (fun _ h => List.mem_cons_of_mem _ (List.mem_append_left _ (List.mem_append_left _ (List.mem_append_left _ (List.mem_append_left _ (List.mem_append_right _ h)))))) (by decide +kernel))) (goodIn_sub (fun _ h => List.mem_cons_of_mem _ (List.mem_append_left _ (List.mem_append_left _ (List.mem_append_left _ (List.mem_append_left _ (List.mem_append_left _ (List.mem_append_right _ h))))))) (by decide +kernel))) (goodIn_sub (fun _ h => List.mem_cons_of_mem _ (List.mem_append_left _ (List.mem_append_left _ (List.mem_append_left _ (List.mem_append_right _ h))))) (by decide +kernel))) (goodIn_sub (fun _ h => List.mem_cons_of_mem _ (List.mem_append_left _ (List.mem_append_left _ (List.mem_append_right _ h)))) (by decide +kernel))) (goodIn_sub (fun _ h => List.mem_cons_of_mem _ (List.mem_append_left _ (List.mem_append_right _ h))) (by decide +kernel))) (goodIn_sub (fun _ h => List.mem_cons_of_mem _ (List.mem_append_right _ h)) (by decide +kernel))
set_option maxRecDepth 20000 in
theorem gL_areLinesRight_X10_isLedge : GoodIn wsL_areLinesRight (wsV RL 135 RX10 yX10_isLedge wsX10_isLedge) := goodIn_app (goodIn_of _ (by decide +kernel)) ggL_areLinesRight_X10_isLedge
set_option maxRecDepth 20000 in
theorem ggL_areLinesRight_L_told : GoodIn wsL_areLinesRight wsL_told := goodIn_r _ [115] (by decide +kernel) (by decide +kernel)
set_option maxRecDepth 20000 in
theorem gL_areLinesRight_L_told : GoodIn wsL_areLinesRight (va_wsS RL 32 yL_told wsL_told) := goodIn_app (goodIn_of _ (by decide +kernel)) ggL_areLinesRight_L_told
set_option maxRecDepth 20000 in
theorem ggL_areLinesRight_X10_looseBlocks : GoodIn wsL_areLinesRight wsX10_looseBlocks := goodIn_ca (goodIn_ca (goodIn_ca (goodIn_ca (goodIn_ca (goodIn_ca (goodIn_r _ [119, 9, 75, 76, 12, 77, 78, 79, 80, 11, 13, 81, 82, 4, 83, 6, 7, 84, 85, 86, 87, 88, 89, 90, 91, 92, 93, 94, 95, 96, 97, 98, 99, 100, 26, 27, 120, 55, 56, 35, 57, 58, 129, 130, 131, 132, 133, 134, 135, 136, 137, 140, 141, 142, 143, 144, 145, 146, 147, 148, 149, 150, 151, 152, 153, 154] (by decide +kernel) (by decide +kernel)) (goodIn_sub (fun _ h => List.mem_cons_of_mem _ (List.mem_append_left _ (List.mem_append_left _ (List.mem_append_left _ (List.mem_append_left _ (List.mem_append_right _ h)))))) (by decide +kernel))) (goodIn_sub (fun _ h => List.mem_cons_of_mem _ (List.mem_append_left _ (List.mem_append_left _ (List.mem_append_left _ (List.mem_append_left _ (List.mem_append_left _ (List.mem_append_right _ h))))))) (by decide +kernel))) (goodIn_sub (fun _ h => List.mem_cons_of_mem _ (List.mem_append_left _ (List.mem_append_left _ (List.mem_append_left _ (List.mem_append_right _ h))))) (by decide +kernel))) (goodIn_sub (fun _ h => List.mem_cons_of_mem _ (List.mem_append_left _ (List.mem_append_left _ (List.mem_append_right _ h)))) (by decide +kernel))) (goodIn_sub (fun _ h => List.mem_cons_of_mem _ (List.mem_append_left _ (List.mem_append_right _ h))) (by decide +kernel))) (goodIn_sub (fun _ h => List.mem_cons_of_mem _ (List.mem_append_right _ h)) (by decide +kernel))
set_option maxRecDepth 20000 in
theorem gL_areLinesRight_X10_looseBlocks : GoodIn wsL_areLinesRight (wsV RL 138 RX10 yX10_looseBlocks wsX10_looseBlocks) := goodIn_app (goodIn_of _ (by decide +kernel)) ggL_areLinesRight_X10_looseBlocks
set_option maxRecDepth 20000 in
theorem ggL_areLinesRight_X10_winchCount : GoodIn wsL_areLinesRight wsX10_winchCount := goodIn_r _ [124, 9, 125, 126, 127, 35, 128, 52, 129, 130, 131, 132, 133, 134, 135, 136, 137, 140, 141, 142, 143, 144, 145, 146, 147, 148, 149, 150, 151, 152, 153, 154] (by decide +kernel) (by decide +kernel)
set_option maxRecDepth 20000 in
theorem gL_areLinesRight_X10_winchCount : GoodIn wsL_areLinesRight (wsV RL 111 RX10 yX10_winchCount wsX10_winchCount) := goodIn_app (goodIn_of _ (by decide +kernel)) ggL_areLinesRight_X10_winchCount
set_option maxRecDepth 20000 in
theorem ggL_law_X10_init : GoodIn wsL_law wsX10_init := goodIn_ca (goodIn_r _ [5, 6, 7, 8, 9, 10, 11, 12, 13, 14, 15, 16, 17, 18, 19, 20, 21, 22, 23, 24, 25, 26, 27, 28, 29, 30, 31, 32, 33, 34, 35, 36, 37, 38, 39, 40, 41, 42, 43, 44, 45, 46, 47, 48, 49, 50, 51, 52, 53, 54, 55, 56, 57, 58, 59, 60, 61, 62, 63, 64, 65, 66, 67, 68, 69, 70, 71, 72, 73, 74, 75, 76, 77, 78, 79, 80, 81, 82, 83, 84, 85, 86, 87, 88, 89, 90, 91, 92, 93, 94, 95, 96, 97, 98, 926, 927, 928, 929, 930, 931, 932, 933, 934, 935, 936, 937, 938, 939, 940, 917, 918, 919, 920, 921, 922, 923, 924, 925, 941, 942, 943, 944, 945, 946, 947, 948, 949, 950, 951, 952, 953, 954, 955, 956] (by decide +kernel) (by decide +kernel)) (goodIn_sub (fun _ h => List.mem_append_left _ (List.mem_append_left _ (List.mem_append_left _ (List.mem_append_left _ (List.mem_append_left _ (List.mem_append_left _ (List.mem_append_left _ (List.mem_append_right _ h)))))))) (by decide +kernel))
set_option maxRecDepth 20000 in
theorem gL_law_X10_init : GoodIn wsL_law (wsX10_init) := ggL_law_X10_init
set_option maxRecDepth 20000 in
theorem gk_ggL_law_L_lay_0 : GoodIn wsL_law [.code yL_lay cL_lay 4 none] := goodIn_r _ [102] (by decide +kernel) (by decide +kernel)
set_option maxRecDepth 20000 in
theorem gk_ggL_law_L_lay_1 : GoodIn wsL_law wsL_lay_r1 := goodIn_r _ [103, 104, 101, 105, 106, 107, 108, 109, 110, 111, 112, 113, 114, 115, 116, 117, 118, 119, 120, 121, 122, 123, 124, 2] (by decide +kernel) (by decide +kernel)
set_option maxRecDepth 20000 in
theorem gk_ggL_law_L_lay_2 : GoodIn wsL_law wsL_lay_r2 := goodIn_r _ [125, 12, 21, 126, 127, 128, 11, 129, 130, 131, 132, 133, 134, 135, 136, 137, 138, 139, 140, 141, 142, 143, 144, 145] (by decide +kernel) (by decide +kernel)
set_option maxRecDepth 20000 in
theorem gk_ggL_law_L_lay_3 : GoodIn wsL_law wsL_lay_r3 := goodIn_r _ [146, 147, 148, 149, 150, 151, 152, 153, 154, 155, 156, 157, 158, 159, 160, 161, 162, 163, 164, 165, 166, 167, 168, 20] (by decide +kernel) (by decide +kernel)
set_option maxRecDepth 20000 in
theorem gk_ggL_law_L_lay_4 : GoodIn wsL_law wsL_lay_r4 := goodIn_r _ [169, 64, 65, 63, 10, 66, 170, 171, 172, 173, 174, 34, 35, 36, 7, 8, 37, 38, 39, 40, 41, 42, 43, 44] (by decide +kernel) (by decide +kernel)
set_option maxRecDepth 20000 in
theorem gk_ggL_law_L_lay_5 : GoodIn wsL_law wsL_lay_r5 := goodIn_r _ [45, 46, 47, 48, 49, 175, 176, 177, 178, 179, 180, 181, 182, 183, 184, 185, 186, 187, 188, 189, 190, 191, 192, 193] (by decide +kernel) (by decide +kernel)
set_option maxRecDepth 20000 in
theorem gk_ggL_law_L_lay_6 : GoodIn wsL_law wsL_lay_r6 := goodIn_r _ [194, 195, 196, 197, 198, 199, 200, 201, 202, 203, 204, 205, 206, 207, 208, 209, 210, 211, 212, 213, 214, 215, 216, 217] (by decide +kernel) (by decide +kernel)
set_option maxRecDepth 20000 in
theorem gk_ggL_law_L_lay_7 : GoodIn wsL_law wsL_lay_r7 := goodIn_r _ [218, 219, 220, 221, 222, 223, 224, 225, 226, 227, 228, 229, 230, 231, 232, 233, 234, 235, 236, 237, 238, 239, 240, 241] (by decide +kernel) (by decide +kernel)
set_option maxRecDepth 20000 in
theorem gk_ggL_law_L_lay_8 : GoodIn wsL_law wsL_lay_r8 := goodIn_r _ [242, 243, 244, 245, 246, 247, 248, 249, 250, 251, 252, 253, 254, 255, 256, 257, 258, 259, 260, 261, 262, 263, 264, 265] (by decide +kernel) (by decide +kernel)
set_option maxRecDepth 20000 in
theorem gk_ggL_law_L_lay_9 : GoodIn wsL_law wsL_lay_r9 := goodIn_r _ [266, 267, 268, 269, 270, 271, 272, 273, 274, 275, 276, 277, 278, 279, 280, 281, 282, 283, 284, 285, 286, 287, 288, 289] (by decide +kernel) (by decide +kernel)
set_option maxRecDepth 20000 in
theorem gk_ggL_law_L_lay_10 : GoodIn wsL_law wsL_lay_r10 := goodIn_r _ [290, 291, 292, 293, 294, 295, 296, 297, 298, 299, 300, 301, 302, 303, 304, 305, 306, 307, 308, 309, 310, 311, 312, 313] (by decide +kernel) (by decide +kernel)
set_option maxRecDepth 20000 in
theorem gk_ggL_law_L_lay_11 : GoodIn wsL_law wsL_lay_r11 := goodIn_r _ [314, 315, 316, 317, 318, 319, 320, 321, 322, 323, 324, 325, 326, 327, 328, 329, 330, 25, 31, 13, 32, 331, 332, 333] (by decide +kernel) (by decide +kernel)
set_option maxRecDepth 20000 in
theorem gk_ggL_law_L_lay_12 : GoodIn wsL_law wsL_lay_r12 := goodIn_r _ [24, 334, 76, 77, 72, 335, 336, 337, 75, 338, 339, 340, 82, 341, 342, 343, 344, 345, 346, 347, 348, 349, 350, 351] (by decide +kernel) (by decide +kernel)
set_option maxRecDepth 20000 in
theorem gk_ggL_law_L_lay_13 : GoodIn wsL_law wsL_lay_r13 := goodIn_r _ [352, 353, 354, 355, 356, 357, 358, 359, 360, 361, 362, 363, 364, 365, 366, 367, 368, 369, 370, 371, 372, 373, 374, 375] (by decide +kernel) (by decide +kernel)
set_option maxRecDepth 20000 in
theorem gk_ggL_law_L_lay_14 : GoodIn wsL_law wsL_lay_r14 := goodIn_r _ [376, 377, 378, 379, 380, 381, 382, 383, 384, 385, 386, 387, 388, 389, 390, 391, 392, 393, 394, 395, 396, 397, 398, 399] (by decide +kernel) (by decide +kernel)
set_option maxRecDepth 20000 in
theorem gk_ggL_law_L_lay_15 : GoodIn wsL_law wsL_lay_r15 := goodIn_r _ [400, 401, 402, 403, 404, 405, 406, 407, 408, 409, 410, 411, 412, 413, 414, 415, 416, 417, 418, 419, 420, 421, 422, 423] (by decide +kernel) (by decide +kernel)
set_option maxRecDepth 20000 in
theorem gk_ggL_law_L_lay_16 : GoodIn wsL_law wsL_lay_r16 := goodIn_r _ [424, 425, 426, 427, 428, 429, 430, 431, 432, 433, 434, 435, 436, 437, 438, 439, 440, 441, 442, 443, 444, 445, 446, 447] (by decide +kernel) (by decide +kernel)
set_option maxRecDepth 20000 in
theorem gk_ggL_law_L_lay_17 : GoodIn wsL_law wsL_lay_r17 := goodIn_r _ [448, 449, 450, 451, 452, 453, 454, 455, 456, 457, 458, 81, 459, 460, 461, 462, 463, 464, 465, 466, 467, 468, 469, 470] (by decide +kernel) (by decide +kernel)
set_option maxRecDepth 20000 in
theorem gk_ggL_law_L_lay_18 : GoodIn wsL_law wsL_lay_r18 := goodIn_r _ [471, 472, 473, 474, 475, 476, 477, 478, 479, 480, 481, 482, 483, 484, 485, 486, 487, 488, 489, 490, 491, 492, 493, 494] (by decide +kernel) (by decide +kernel)
set_option maxRecDepth 20000 in
theorem gk_ggL_law_L_lay_19 : GoodIn wsL_law wsL_lay_r19 := goodIn_r _ [495, 496, 497, 498, 499, 500, 501, 502, 503, 504, 505, 506, 507, 508, 509, 510, 511, 512, 513, 514, 515, 516, 517, 518] (by decide +kernel) (by decide +kernel)
set_option maxRecDepth 20000 in
theorem gk_ggL_law_L_lay_20 : GoodIn wsL_law wsL_lay_r20 := goodIn_r _ [519, 520, 521, 522, 523, 524, 525, 526, 527, 528, 529, 530, 531, 532, 533, 534, 535, 536, 537, 538, 539, 540, 541, 542] (by decide +kernel) (by decide +kernel)
set_option maxRecDepth 20000 in
theorem gk_ggL_law_L_lay_21 : GoodIn wsL_law wsL_lay_r21 := goodIn_r _ [543, 544, 545, 546, 547, 548, 549, 550, 551, 552, 553, 554] (by decide +kernel) (by decide +kernel)
set_option maxRecDepth 20000 in
theorem gk_ggL_law_L_lay_wsX100 : GoodIn wsL_law wsX100 := goodIn_r _ [917, 918, 919, 920, 921, 922, 923, 924, 925] (by decide +kernel) (by decide +kernel)
set_option maxRecDepth 20000 in
theorem gk_ggL_law_L_lay_wsX40 : GoodIn wsL_law wsX40 := goodIn_r _ [946, 947, 948] (by decide +kernel) (by decide +kernel)
set_option maxRecDepth 20000 in
theorem gk_ggL_law_L_lay_wsX70 : GoodIn wsL_law wsX70 := goodIn_r _ [926, 927, 928, 929, 930, 931, 932, 933, 934, 935, 936, 937, 938, 939, 940] (by decide +kernel) (by decide +kernel)
set_option maxRecDepth 20000 in
theorem gk_ggL_law_L_lay_wsX60 : GoodIn wsL_law wsX60 := goodIn_r _ [949, 950, 951] (by decide +kernel) (by decide +kernel)
set_option maxRecDepth 20000 in
theorem gk_ggL_law_L_lay_wsJx4a65c0 : GoodIn wsL_law wsJx4a65c0 := goodIn_r _ [954, 955, 956] (by decide +kernel) (by decide +kernel)
set_option maxRecDepth 20000 in
theorem gk_ggL_law_L_lay_wsJ00 : GoodIn wsL_law wsJ00 := goodIn_r _ [957, 958] (by decide +kernel) (by decide +kernel)
set_option maxRecDepth 20000 in
theorem gk_ggL_law_L_lay_wsX10 : GoodIn wsL_law wsX10 := goodIn_r _ [959, 960, 961] (by decide +kernel) (by decide +kernel)
set_option maxRecDepth 20000 in
theorem ggL_law_L_lay : GoodIn wsL_law wsL_lay := goodIn_ca (goodIn_ca (goodIn_ca (goodIn_ca (goodIn_ca (goodIn_ca (goodIn_ca (goodIn_cons gk_ggL_law_L_lay_0 (goodIn_app (goodIn_app (goodIn_app (goodIn_app (goodIn_app (goodIn_app (goodIn_app (goodIn_app gk_ggL_law_L_lay_1 (goodIn_app gk_ggL_law_L_lay_2 (goodIn_app gk_ggL_law_L_lay_3 (goodIn_app gk_ggL_law_L_lay_4 (goodIn_app gk_ggL_law_L_lay_5 (goodIn_app gk_ggL_law_L_lay_6 (goodIn_app gk_ggL_law_L_lay_7 (goodIn_app gk_ggL_law_L_lay_8 (goodIn_app gk_ggL_law_L_lay_9 (goodIn_app gk_ggL_law_L_lay_10 (goodIn_app gk_ggL_law_L_lay_11 (goodIn_app gk_ggL_law_L_lay_12 (goodIn_app gk_ggL_law_L_lay_13 (goodIn_app gk_ggL_law_L_lay_14 (goodIn_app gk_ggL_law_L_lay_15 (goodIn_app gk_ggL_law_L_lay_16 (goodIn_app gk_ggL_law_L_lay_17 (goodIn_app gk_ggL_law_L_lay_18 (goodIn_app gk_ggL_law_L_lay_19 (goodIn_app gk_ggL_law_L_lay_20 gk_ggL_law_L_lay_21)))))))))))))))))))) gk_ggL_law_L_lay_wsX100) gk_ggL_law_L_lay_wsX40) gk_ggL_law_L_lay_wsX70) gk_ggL_law_L_lay_wsX60) gk_ggL_law_L_lay_wsJx4a65c0) gk_ggL_law_L_lay_wsJ00) gk_ggL_law_L_lay_wsX10)) (goodIn_sub (fun _ h => List.mem_append_left _ (List.mem_append_left _ (List.mem_append_left _ (List.mem_append_left _ (List.mem_append_left _ (List.mem_append_left _ (List.mem_append_right _ h))))))) (by decide +kernel))) (goodIn_sub (fun _ h => List.mem_append_left _ (List.mem_append_left _ (List.mem_append_left _ (List.mem_append_left _ (List.mem_append_left _ (List.mem_append_left _ (List.mem_append_left _ (List.mem_append_right _ h)))))))) (by decide +kernel))) (goodIn_sub (fun _ h => List.mem_append_left _ (List.mem_append_left _ (List.mem_append_left _ (List.mem_append_left _ (List.mem_append_left _ (List.mem_append_right _ h)))))) (by decide +kernel))) (goodIn_sub (fun _ h => List.mem_append_left _ (List.mem_append_left _ (List.mem_append_left _ (List.mem_append_left _ (List.mem_append_right _ h))))) (by decide +kernel))) (goodIn_sub (fun _ h => List.mem_append_left _ (List.mem_append_left _ (List.mem_append_left _ (List.mem_append_right _ h)))) (by decide +kernel))) (goodIn_sub (fun _ h => List.mem_append_left _ (List.mem_append_left _ (List.mem_append_right _ h))) (by decide +kernel))) (goodIn_sub (fun _ h => List.mem_append_left _ (List.mem_append_right _ h)) (by decide +kernel))
set_option maxRecDepth 20000 in
theorem gL_law_L_lay : GoodIn wsL_law (va_wsS RL 213 yL_lay wsL_lay) := goodIn_app (goodIn_of _ (by decide +kernel)) ggL_law_L_lay
set_option maxRecDepth 20000 in
theorem gk_ggL_law_L_any_0 : GoodIn wsL_law [.code yL_any cL_any 5 (some .int)] := goodIn_r _ [557] (by decide +kernel) (by decide +kernel)
set_option maxRecDepth 20000 in
theorem gk_ggL_law_L_any_1 : GoodIn wsL_law wsL_any_r1 := goodIn_r _ [558, 212, 172, 213, 103, 104, 101, 105, 106, 107, 108, 109, 110, 111, 112, 113, 114, 115, 116, 117, 118, 119, 120, 121] (by decide +kernel) (by decide +kernel)
set_option maxRecDepth 20000 in
theorem gk_ggL_law_L_any_2 : GoodIn wsL_law wsL_any_r2 := goodIn_r _ [122, 123, 124, 2, 125, 12, 21, 126, 127, 128, 11, 129, 130, 131, 132, 133, 134, 135, 136, 137, 138, 139, 140, 141] (by decide +kernel) (by decide +kernel)
set_option maxRecDepth 20000 in
theorem gk_ggL_law_L_any_3 : GoodIn wsL_law wsL_any_r3 := goodIn_r _ [142, 143, 144, 145, 146, 147, 148, 149, 150, 151, 152, 153, 154, 155, 156, 157, 158, 159, 160, 161, 162, 163, 164, 165] (by decide +kernel) (by decide +kernel)
set_option maxRecDepth 20000 in
theorem gk_ggL_law_L_any_4 : GoodIn wsL_law wsL_any_r4 := goodIn_r _ [166, 167, 168, 20, 169, 64, 65, 63, 10, 66, 170, 171, 173, 174, 34, 35, 36, 7, 8, 37, 38, 39, 40, 41] (by decide +kernel) (by decide +kernel)
set_option maxRecDepth 20000 in
theorem gk_ggL_law_L_any_5 : GoodIn wsL_law wsL_any_r5 := goodIn_r _ [42, 43, 44, 45, 46, 47, 48, 49, 175, 176, 177, 178, 179, 180, 181, 182, 183, 184, 185, 186, 187, 188, 189, 190] (by decide +kernel) (by decide +kernel)
set_option maxRecDepth 20000 in
theorem gk_ggL_law_L_any_6 : GoodIn wsL_law wsL_any_r6 := goodIn_r _ [191, 192, 193, 194, 195, 196, 197, 198, 199, 200, 201, 202, 203, 204, 205, 206, 207, 208, 209, 210, 211, 214, 215, 216] (by decide +kernel) (by decide +kernel)
set_option maxRecDepth 20000 in
theorem gk_ggL_law_L_any_7 : GoodIn wsL_law wsL_any_r7 := goodIn_r _ [217, 218, 219, 220, 221, 222, 223, 224, 225, 226, 227, 228, 229, 230, 231, 232, 233, 234, 235, 236, 237, 238, 239, 240] (by decide +kernel) (by decide +kernel)
set_option maxRecDepth 20000 in
theorem gk_ggL_law_L_any_8 : GoodIn wsL_law wsL_any_r8 := goodIn_r _ [241, 242, 243, 244, 245, 246, 247, 248, 249, 250, 251, 252, 253, 254, 255, 256, 257, 258, 259, 260, 261, 262, 263, 264] (by decide +kernel) (by decide +kernel)
set_option maxRecDepth 20000 in
theorem gk_ggL_law_L_any_9 : GoodIn wsL_law wsL_any_r9 := goodIn_r _ [265, 266, 267, 268, 269, 270, 271, 272, 273, 274, 275, 276, 277, 278, 279, 280, 281, 282, 283, 284, 285, 286, 287, 288] (by decide +kernel) (by decide +kernel)
set_option maxRecDepth 20000 in
theorem gk_ggL_law_L_any_10 : GoodIn wsL_law wsL_any_r10 := goodIn_r _ [289, 290, 291, 292, 293, 294, 295, 296, 297, 298, 299, 300, 301, 302, 303, 304, 305, 306, 307, 308, 309, 310, 311, 312] (by decide +kernel) (by decide +kernel)
set_option maxRecDepth 20000 in
theorem gk_ggL_law_L_any_11 : GoodIn wsL_law wsL_any_r11 := goodIn_r _ [313, 314, 315, 316, 317, 318, 319, 320, 321, 322, 323, 324, 325, 326, 327, 328, 329, 330, 25, 31, 13, 32, 331, 332] (by decide +kernel) (by decide +kernel)
set_option maxRecDepth 20000 in
theorem gk_ggL_law_L_any_12 : GoodIn wsL_law wsL_any_r12 := goodIn_r _ [333, 24, 334, 76, 77, 72, 335, 336, 337, 75, 338, 339, 340, 82, 341, 342, 343, 344, 345, 346, 347, 348, 349, 350] (by decide +kernel) (by decide +kernel)
set_option maxRecDepth 20000 in
theorem gk_ggL_law_L_any_13 : GoodIn wsL_law wsL_any_r13 := goodIn_r _ [351, 352, 353, 354, 355, 356, 357, 358, 359, 360, 361, 362, 363, 364, 365, 366, 367, 368, 369, 370, 371, 372, 373, 374] (by decide +kernel) (by decide +kernel)
set_option maxRecDepth 20000 in
theorem gk_ggL_law_L_any_14 : GoodIn wsL_law wsL_any_r14 := goodIn_r _ [375, 376, 377, 378, 379, 380, 381, 382, 383, 384, 385, 386, 387, 388, 389, 390, 391, 392, 393, 394, 395, 396, 397, 398] (by decide +kernel) (by decide +kernel)
set_option maxRecDepth 20000 in
theorem gk_ggL_law_L_any_15 : GoodIn wsL_law wsL_any_r15 := goodIn_r _ [399, 400, 401, 402, 403, 404, 405, 406, 407, 408, 409, 410, 411, 412, 413, 414, 415, 416, 417, 418, 419, 420, 421, 422] (by decide +kernel) (by decide +kernel)
set_option maxRecDepth 20000 in
theorem gk_ggL_law_L_any_16 : GoodIn wsL_law wsL_any_r16 := goodIn_r _ [423, 424, 425, 426, 427, 428, 429, 430, 431, 432, 433, 434, 435, 436, 437, 438, 439, 440, 441, 442, 443, 444, 445, 446] (by decide +kernel) (by decide +kernel)
set_option maxRecDepth 20000 in
theorem gk_ggL_law_L_any_17 : GoodIn wsL_law wsL_any_r17 := goodIn_r _ [447, 448, 449, 450, 451, 452, 453, 454, 455, 456, 457, 458, 81, 459, 460, 461, 462, 463, 464, 465, 466, 467, 468, 469] (by decide +kernel) (by decide +kernel)
set_option maxRecDepth 20000 in
theorem gk_ggL_law_L_any_18 : GoodIn wsL_law wsL_any_r18 := goodIn_r _ [470, 471, 472, 473, 474, 475, 476, 477, 478, 479, 480, 481, 482, 483, 484, 485, 486, 487, 488, 489, 490, 491, 492, 493] (by decide +kernel) (by decide +kernel)
set_option maxRecDepth 20000 in
theorem gk_ggL_law_L_any_19 : GoodIn wsL_law wsL_any_r19 := goodIn_r _ [494, 495, 496, 497, 498, 499, 500, 501, 502, 503, 504, 505, 506, 507, 508, 509, 510, 511, 512, 513, 514, 515, 516, 517] (by decide +kernel) (by decide +kernel)
set_option maxRecDepth 20000 in
theorem gk_ggL_law_L_any_20 : GoodIn wsL_law wsL_any_r20 := goodIn_r _ [518, 519, 520, 521, 522, 523, 524, 525, 526, 527, 528, 529, 530, 531, 532, 533, 534, 535, 536, 537, 538, 539, 540, 541] (by decide +kernel) (by decide +kernel)
set_option maxRecDepth 20000 in
theorem gk_ggL_law_L_any_21 : GoodIn wsL_law wsL_any_r21 := goodIn_r _ [542, 543, 544, 545, 546, 547, 548, 549, 550, 551, 552, 553, 554, 559, 560, 561, 562, 563, 564, 565, 566] (by decide +kernel) (by decide +kernel)
set_option maxRecDepth 20000 in
theorem gk_ggL_law_L_any_wsX100 : GoodIn wsL_law wsX100 := goodIn_r _ [917, 918, 919, 920, 921, 922, 923, 924, 925] (by decide +kernel) (by decide +kernel)
set_option maxRecDepth 20000 in
theorem gk_ggL_law_L_any_wsX40 : GoodIn wsL_law wsX40 := goodIn_r _ [946, 947, 948] (by decide +kernel) (by decide +kernel)
set_option maxRecDepth 20000 in
theorem gk_ggL_law_L_any_wsX70 : GoodIn wsL_law wsX70 := goodIn_r _ [926, 927, 928, 929, 930, 931, 932, 933, 934, 935, 936, 937, 938, 939, 940] (by decide +kernel) (by decide +kernel)
set_option maxRecDepth 20000 in
theorem gk_ggL_law_L_any_wsX60 : GoodIn wsL_law wsX60 := goodIn_r _ [949, 950, 951] (by decide +kernel) (by decide +kernel)
set_option maxRecDepth 20000 in
theorem gk_ggL_law_L_any_wsJx4a65c0 : GoodIn wsL_law wsJx4a65c0 := goodIn_r _ [954, 955, 956] (by decide +kernel) (by decide +kernel)
set_option maxRecDepth 20000 in
theorem gk_ggL_law_L_any_wsJ00 : GoodIn wsL_law wsJ00 := goodIn_r _ [957, 958] (by decide +kernel) (by decide +kernel)
set_option maxRecDepth 20000 in
theorem gk_ggL_law_L_any_wsX10 : GoodIn wsL_law wsX10 := goodIn_r _ [959, 960, 961] (by decide +kernel) (by decide +kernel)
set_option maxRecDepth 20000 in
theorem ggL_law_L_any : GoodIn wsL_law wsL_any := goodIn_ca (goodIn_ca (goodIn_ca (goodIn_ca (goodIn_ca (goodIn_ca (goodIn_ca (goodIn_cons gk_ggL_law_L_any_0 (goodIn_app (goodIn_app (goodIn_app (goodIn_app (goodIn_app (goodIn_app (goodIn_app (goodIn_app gk_ggL_law_L_any_1 (goodIn_app gk_ggL_law_L_any_2 (goodIn_app gk_ggL_law_L_any_3 (goodIn_app gk_ggL_law_L_any_4 (goodIn_app gk_ggL_law_L_any_5 (goodIn_app gk_ggL_law_L_any_6 (goodIn_app gk_ggL_law_L_any_7 (goodIn_app gk_ggL_law_L_any_8 (goodIn_app gk_ggL_law_L_any_9 (goodIn_app gk_ggL_law_L_any_10 (goodIn_app gk_ggL_law_L_any_11 (goodIn_app gk_ggL_law_L_any_12 (goodIn_app gk_ggL_law_L_any_13 (goodIn_app gk_ggL_law_L_any_14 (goodIn_app gk_ggL_law_L_any_15 (goodIn_app gk_ggL_law_L_any_16 (goodIn_app gk_ggL_law_L_any_17 (goodIn_app gk_ggL_law_L_any_18 (goodIn_app gk_ggL_law_L_any_19 (goodIn_app gk_ggL_law_L_any_20 gk_ggL_law_L_any_21)))))))))))))))))))) gk_ggL_law_L_any_wsX100) gk_ggL_law_L_any_wsX40) gk_ggL_law_L_any_wsX70) gk_ggL_law_L_any_wsX60) gk_ggL_law_L_any_wsJx4a65c0) gk_ggL_law_L_any_wsJ00) gk_ggL_law_L_any_wsX10)) (goodIn_sub (fun _ h => List.mem_append_left _ (List.mem_append_left _ (List.mem_append_left _ (List.mem_append_left _ (List.mem_append_left _ (List.mem_append_left _ (List.mem_append_right _ h))))))) (by decide +kernel))) (goodIn_sub (fun _ h => List.mem_append_left _ (List.mem_append_left _ (List.mem_append_left _ (List.mem_append_left _ (List.mem_append_left _ (List.mem_append_left _ (List.mem_append_left _ (List.mem_append_right _ h)))))))) (by decide +kernel))) (goodIn_sub (fun _ h => List.mem_append_left _ (List.mem_append_left _ (List.mem_append_left _ (List.mem_append_left _ (List.mem_append_left _ (List.mem_append_right _ h)))))) (by decide +kernel))) (goodIn_sub (fun _ h => List.mem_append_left _ (List.mem_append_left _ (List.mem_append_left _ (List.mem_append_left _ (List.mem_append_right _ h))))) (by decide +kernel))) (goodIn_sub (fun _ h => List.mem_append_left _ (List.mem_append_left _ (List.mem_append_left _ (List.mem_append_right _ h)))) (by decide +kernel))) (goodIn_sub (fun _ h => List.mem_append_left _ (List.mem_append_left _ (List.mem_append_right _ h))) (by decide +kernel))) (goodIn_sub (fun _ h => List.mem_append_left _ (List.mem_append_right _ h)) (by decide +kernel))
set_option maxRecDepth 20000 in
theorem gL_law_L_any : GoodIn wsL_law (va_wsS RL 217 yL_any wsL_any) := goodIn_app (goodIn_of _ (by decide +kernel)) ggL_law_L_any
