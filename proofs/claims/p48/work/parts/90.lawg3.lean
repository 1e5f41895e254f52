set_option maxRecDepth 20000 in
theorem ggL_any_L_pick : GoodIn wsL_any wsL_pick := goodIn_ca (goodIn_ca (goodIn_r _ [8, 9, 10, 7, 11, 12, 13] (by decide +kernel) (by decide +kernel)) (goodIn_sub (fun _ h => List.mem_cons_of_mem _ (List.mem_append_left _ (List.mem_append_left _ (List.mem_append_left _ (List.mem_append_left _ (List.mem_append_left _ (List.mem_append_left _ (List.mem_append_right _ h)))))))) (by decide +kernel))) (goodIn_sub (fun _ h => List.mem_cons_of_mem _ (List.mem_append_left _ (List.mem_append_left _ (List.mem_append_left _ (List.mem_append_left _ (List.mem_append_left _ (List.mem_append_right _ h))))))) (by decide +kernel))
set_option maxRecDepth 20000 in
theorem gL_any_L_pick : GoodIn wsL_any (va_wsS RL 104 yL_pick wsL_pick) := goodIn_app (goodIn_of _ (by decide +kernel)) ggL_any_L_pick
set_option maxRecDepth 20000 in
theorem gk_ggL_any_L_deed_0 : GoodIn wsL_any [.codeWith yL_deed cL_deed 7 (some .int) [(0, 11, 12, 58), (0, 11, 18, 60), (0, 11, 24, 62), (0, 11, 30, 64), (0, 11, 36, 66)]] := goodIn_r _ [16] (by decide +kernel) (by decide +kernel)
set_option maxRecDepth 20000 in
theorem gk_ggL_any_L_deed_1 : GoodIn wsL_any wsL_deed_r1 := goodIn_r _ [17, 18, 19, 20, 21, 22, 23, 7, 24, 25, 26, 27, 28, 29, 30, 31, 32, 33, 34, 35, 36, 37, 38, 39] (by decide +kernel) (by decide +kernel)
set_option maxRecDepth 20000 in
theorem gk_ggL_any_L_deed_2 : GoodIn wsL_any wsL_deed_r2 := goodIn_r _ [40, 41, 42, 43, 44, 45, 46, 47, 48, 49, 50, 51, 52, 53, 54, 55, 56, 57, 58, 59, 60, 61, 62, 63] (by decide +kernel) (by decide +kernel)
set_option maxRecDepth 20000 in
theorem gk_ggL_any_L_deed_3 : GoodIn wsL_any wsL_deed_r3 := goodIn_r _ [64, 65, 66, 67, 68, 69, 70, 71, 72, 73, 74, 75, 76, 77, 78, 79, 80, 81, 82, 83, 84, 3, 85, 86] (by decide +kernel) (by decide +kernel)
set_option maxRecDepth 20000 in
theorem gk_ggL_any_L_deed_4 : GoodIn wsL_any wsL_deed_r4 := goodIn_r _ [87, 88, 89, 90, 91, 92, 93, 94, 95, 96, 97, 98, 99, 100, 101, 102, 103, 104, 105, 106, 107, 108, 109, 110] (by decide +kernel) (by decide +kernel)
set_option maxRecDepth 20000 in
theorem gk_ggL_any_L_deed_5 : GoodIn wsL_any wsL_deed_r5 := goodIn_r _ [111, 112, 113, 114, 115, 116, 117, 118, 119, 120, 121, 122, 123, 124, 125, 126, 127, 128, 129, 130, 131, 132, 133, 134] (by decide +kernel) (by decide +kernel)
set_option maxRecDepth 20000 in
theorem gk_ggL_any_L_deed_6 : GoodIn wsL_any wsL_deed_r6 := goodIn_r _ [135, 136, 137, 138, 139, 140, 141, 2, 4, 142, 143, 144, 145, 146, 147, 148, 149, 150, 151, 152, 153, 154, 155, 156] (by decide +kernel) (by decide +kernel)
set_option maxRecDepth 20000 in
theorem gk_ggL_any_L_deed_7 : GoodIn wsL_any wsL_deed_r7 := goodIn_r _ [157, 158, 159, 160, 161, 162, 163, 164, 165, 166, 167, 168, 169, 170, 171, 172, 173, 174, 175, 176, 177, 178, 179, 180] (by decide +kernel) (by decide +kernel)
set_option maxRecDepth 20000 in
theorem gk_ggL_any_L_deed_8 : GoodIn wsL_any wsL_deed_r8 := goodIn_r _ [181, 182, 183, 184, 185, 186, 187, 188, 189, 190, 191, 192, 193, 194, 195, 196, 197, 198, 199, 200, 201, 202, 203, 204] (by decide +kernel) (by decide +kernel)
set_option maxRecDepth 20000 in
theorem gk_ggL_any_L_deed_9 : GoodIn wsL_any wsL_deed_r9 := goodIn_r _ [205, 206, 207, 208, 209, 210, 211, 212, 213, 214, 215, 216, 217, 218, 219, 220, 221, 222, 223, 224, 225, 226, 227, 228] (by decide +kernel) (by decide +kernel)
set_option maxRecDepth 20000 in
theorem gk_ggL_any_L_deed_10 : GoodIn wsL_any wsL_deed_r10 := goodIn_r _ [229, 230, 231, 232, 233, 234, 235, 236, 237, 238, 239, 240, 241, 242, 243, 244, 245, 246, 247, 248, 249, 250, 251, 252] (by decide +kernel) (by decide +kernel)
set_option maxRecDepth 20000 in
theorem gk_ggL_any_L_deed_11 : GoodIn wsL_any wsL_deed_r11 := goodIn_r _ [253, 254, 255, 256, 257, 258, 259, 260, 261, 262, 263, 264, 265, 266, 267, 268, 269, 270, 271, 272, 273, 274, 275, 276] (by decide +kernel) (by decide +kernel)
set_option maxRecDepth 20000 in
theorem gk_ggL_any_L_deed_12 : GoodIn wsL_any wsL_deed_r12 := goodIn_r _ [277, 278, 279, 280, 281, 282, 283, 284, 285, 286, 287, 288, 289, 290, 291, 292, 293, 294, 295, 296, 297, 298, 299, 300] (by decide +kernel) (by decide +kernel)
set_option maxRecDepth 20000 in
theorem gk_ggL_any_L_deed_13 : GoodIn wsL_any wsL_deed_r13 := goodIn_r _ [301, 302, 303, 304, 305, 306, 307, 308, 309, 310, 311, 312, 313, 314, 315, 316, 317, 318, 319, 320, 321, 322, 323, 324] (by decide +kernel) (by decide +kernel)
set_option maxRecDepth 20000 in
theorem gk_ggL_any_L_deed_14 : GoodIn wsL_any wsL_deed_r14 := goodIn_r _ [325, 326, 327, 328, 329, 330, 331, 332, 333, 334, 335, 336, 337, 338, 339, 340, 341, 342, 343, 344, 345, 346, 347, 348] (by decide +kernel) (by decide +kernel)
set_option maxRecDepth 20000 in
theorem gk_ggL_any_L_deed_15 : GoodIn wsL_any wsL_deed_r15 := goodIn_r _ [349, 350, 351, 352, 353, 354, 355, 356, 357, 358, 359, 360, 361, 362, 363, 364, 365, 366, 367, 368, 369, 370, 371, 372] (by decide +kernel) (by decide +kernel)
set_option maxRecDepth 20000 in
theorem gk_ggL_any_L_deed_16 : GoodIn wsL_any wsL_deed_r16 := goodIn_r _ [373, 374, 375, 376, 377, 378, 379, 380, 381, 382, 383, 384, 385, 386, 387, 388, 389, 390, 391, 392, 393, 394, 395, 396] (by decide +kernel) (by decide +kernel)
set_option maxRecDepth 20000 in
theorem gk_ggL_any_L_deed_17 : GoodIn wsL_any wsL_deed_r17 := goodIn_r _ [397, 398, 399, 400, 401, 402, 403, 404, 405, 406, 407, 408, 409, 410, 411, 412, 413, 414, 415, 416, 417, 418, 419, 420] (by decide +kernel) (by decide +kernel)
set_option maxRecDepth 20000 in
theorem gk_ggL_any_L_deed_18 : GoodIn wsL_any wsL_deed_r18 := goodIn_r _ [421, 422, 423, 424, 425, 426, 427, 428, 429, 430, 431, 432, 433, 434, 435, 436, 437, 438, 439, 440, 441, 442, 443, 444] (by decide +kernel) (by decide +kernel)
set_option maxRecDepth 20000 in
theorem gk_ggL_any_L_deed_19 : GoodIn wsL_any wsL_deed_r19 := goodIn_r _ [445, 446, 447, 448, 449, 450, 451, 452, 453, 454, 455, 456, 457, 458, 459, 460, 461, 462, 463, 464, 465, 466, 467, 468] (by decide +kernel) (by decide +kernel)
set_option maxRecDepth 20000 in
theorem gk_ggL_any_L_deed_20 : GoodIn wsL_any wsL_deed_r20 := goodIn_r _ [469, 470, 471, 472, 473, 474, 475, 476, 477, 478, 479, 480, 481, 482, 483, 484, 485, 486, 487, 488, 489, 490, 491, 492] (by decide +kernel) (by decide +kernel)
set_option maxRecDepth 20000 in
theorem gk_ggL_any_L_deed_21 : GoodIn wsL_any wsL_deed_r21 := goodIn_r _ [493] (by decide +kernel) (by decide +kernel)
set_option maxRecDepth 20000 in
theorem gk_ggL_any_L_deed_wsX100 : GoodIn wsL_any wsX100 := goodIn_r _ [502, 503, 504, 505, 506, 507, 508, 509, 510] (by decide +kernel) (by decide +kernel)
set_option maxRecDepth 20000 in
theorem gk_ggL_any_L_deed_wsX40 : GoodIn wsL_any wsX40 := goodIn_r _ [511, 512, 513] (by decide +kernel) (by decide +kernel)
set_option maxRecDepth 20000 in
theorem gk_ggL_any_L_deed_wsX70 : GoodIn wsL_any wsX70 := goodIn_r _ [514, 515, 516, 517, 518, 519, 520, 521, 522, 523, 524, 525, 526, 527, 528] (by decide +kernel) (by decide +kernel)
set_option maxRecDepth 20000 in
theorem gk_ggL_any_L_deed_wsX60 : GoodIn wsL_any wsX60 := goodIn_r _ [529, 530, 531] (by decide +kernel) (by decide +kernel)
set_option maxRecDepth 20000 in
theorem gk_ggL_any_L_deed_wsJx4a65c0 : GoodIn wsL_any wsJx4a65c0 := goodIn_r _ [532, 533, 534] (by decide +kernel) (by decide +kernel)
set_option maxRecDepth 20000 in
theorem gk_ggL_any_L_deed_wsJ00 : GoodIn wsL_any wsJ00 := goodIn_r _ [535, 536] (by decide +kernel) (by decide +kernel)
set_option maxRecDepth 20000 in
theorem gk_ggL_any_L_deed_wsX10 : GoodIn wsL_any wsX10 := goodIn_r _ [537, 538, 539] (by decide +kernel) (by decide +kernel)
set_option maxRecDepth 20000 in
theorem ggL_any_L_deed : GoodIn wsL_any wsL_deed := goodIn_ca (goodIn_ca (goodIn_ca (goodIn_ca (goodIn_ca (goodIn_ca (goodIn_cons gk_ggL_any_L_deed_0 (goodIn_app (goodIn_app (goodIn_app (goodIn_app (goodIn_app (goodIn_app (goodIn_app (goodIn_app gk_ggL_any_L_deed_1 (goodIn_app gk_ggL_any_L_deed_2 (goodIn_app gk_ggL_any_L_deed_3 (goodIn_app gk_ggL_any_L_deed_4 (goodIn_app gk_ggL_any_L_deed_5 (goodIn_app gk_ggL_any_L_deed_6 (goodIn_app gk_ggL_any_L_deed_7 (goodIn_app gk_ggL_any_L_deed_8 (goodIn_app gk_ggL_any_L_deed_9 (goodIn_app gk_ggL_any_L_deed_10 (goodIn_app gk_ggL_any_L_deed_11 (goodIn_app gk_ggL_any_L_deed_12 (goodIn_app gk_ggL_any_L_deed_13 (goodIn_app gk_ggL_any_L_deed_14 (goodIn_app gk_ggL_any_L_deed_15 (goodIn_app gk_ggL_any_L_deed_16 (goodIn_app gk_ggL_any_L_deed_17 (goodIn_app gk_ggL_any_L_deed_18 (goodIn_app gk_ggL_any_L_deed_19 (goodIn_app gk_ggL_any_L_deed_20 gk_ggL_any_L_deed_21)))))))))))))))))))) gk_ggL_any_L_deed_wsX100) gk_ggL_any_L_deed_wsX40) gk_ggL_any_L_deed_wsX70) gk_ggL_any_L_deed_wsX60) gk_ggL_any_L_deed_wsJx4a65c0) gk_ggL_any_L_deed_wsJ00) gk_ggL_any_L_deed_wsX10)) (goodIn_sub (fun _ h => List.mem_cons_of_mem _ (List.mem_append_left _ (List.mem_append_left _ (List.mem_append_left _ (List.mem_append_left _ (List.mem_append_left _ (List.mem_append_right _ h))))))) (by decide +kernel))) (goodIn_sub (fun _ h => List.mem_cons_of_mem _ (List.mem_append_left _ (List.mem_append_left _ (List.mem_append_left _ (List.mem_append_left _ (List.mem_append_right _ h)))))) (by decide +kernel))) (goodIn_sub (fun _ h => List.mem_cons_of_mem _ (List.mem_append_left _ (List.mem_append_left _ (List.mem_append_left _ (List.mem_append_right _ h))))) (by decide +kernel))) (goodIn_sub (fun _ h => List.mem_cons_of_mem _ (List.mem_append_left _ (List.mem_append_left _ (List.mem_append_right _ h)))) (by decide +kernel))) (goodIn_sub (fun _ h => List.mem_cons_of_mem _ (List.mem_append_left _ (List.mem_append_right _ h))) (by decide +kernel))) (goodIn_sub (fun _ h => List.mem_cons_of_mem _ (List.mem_append_right _ h)) (by decide +kernel))
set_option maxRecDepth 20000 in
theorem gL_any_L_deed : GoodIn wsL_any (va_wsS RL 108 yL_deed wsL_deed) := goodIn_app (goodIn_of _ (by decide +kernel)) ggL_any_L_deed
set_option maxRecDepth 20000 in
theorem ggL_any_X10_winchCount : GoodIn wsL_any wsX10_winchCount := goodIn_r _ [497, 30, 498, 499, 500, 35, 501, 113, 502, 503, 504, 505, 506, 507, 508, 509, 510, 514, 515, 516, 517, 518, 519, 520, 521, 522, 523, 524, 525, 526, 527, 528] (by decide +kernel) (by decide +kernel)
set_option maxRecDepth 20000 in
theorem gL_any_X10_winchCount : GoodIn wsL_any (wsV RL 111 RX10 yX10_winchCount wsX10_winchCount) := goodIn_app (goodIn_of _ (by decide +kernel)) ggL_any_X10_winchCount
set_option maxRecDepth 20000 in
theorem ggL_looks_X10_stepLimit : GoodIn wsL_looks wsX10_stepLimit := goodIn_r _ [5, 6, 7, 8, 9, 10, 11, 12, 325, 326, 327, 328, 329, 330, 331, 332, 333, 334, 335, 336, 337, 338, 339, 340, 341, 342, 343, 344, 345, 346, 347, 348] (by decide +kernel) (by decide +kernel)
set_option maxRecDepth 20000 in
theorem gL_looks_X10_stepLimit : GoodIn wsL_looks (wsV RL 119 RX10 yX10_stepLimit wsX10_stepLimit) := goodIn_app (goodIn_of _ (by decide +kernel)) ggL_looks_X10_stepLimit
set_option maxRecDepth 20000 in
theorem ggL_looks_X10_rubble : GoodIn wsL_looks wsX10_rubble := goodIn_r _ [16, 6, 17, 18, 19, 10, 20, 21, 325, 326, 327, 328, 329, 330, 331, 332, 333, 334, 335, 336, 337, 338, 339, 340, 341, 342, 343, 344, 345, 346, 347, 348] (by decide +kernel) (by decide +kernel)
set_option maxRecDepth 20000 in
theorem gL_looks_X10_rubble : GoodIn wsL_looks (wsV RL 122 RX10 yX10_rubble wsX10_rubble) := goodIn_app (goodIn_of _ (by decide +kernel)) ggL_looks_X10_rubble
set_option maxRecDepth 20000 in
theorem ggL_looks_X10_cutTotal : GoodIn wsL_looks wsX10_cutTotal := goodIn_r _ [25, 6, 26, 27, 28, 10, 29, 30, 325, 326, 327, 328, 329, 330, 331, 332, 333, 334, 335, 336, 337, 338, 339, 340, 341, 342, 343, 344, 345, 346, 347, 348] (by decide +kernel) (by decide +kernel)
set_option maxRecDepth 20000 in
theorem gL_looks_X10_cutTotal : GoodIn wsL_looks (wsV RL 125 RX10 yX10_cutTotal wsX10_cutTotal) := goodIn_app (goodIn_of _ (by decide +kernel)) ggL_looks_X10_cutTotal
set_option maxRecDepth 20000 in
theorem ggL_looks_X10_workTotal : GoodIn wsL_looks wsX10_workTotal := goodIn_r _ [34, 6, 35, 36, 37, 10, 38, 39, 325, 326, 327, 328, 329, 330, 331, 332, 333, 334, 335, 336, 337, 338, 339, 340, 341, 342, 343, 344, 345, 346, 347, 348] (by decide +kernel) (by decide +kernel)
set_option maxRecDepth 20000 in
theorem gL_looks_X10_workTotal : GoodIn wsL_looks (wsV RL 128 RX10 yX10_workTotal wsX10_workTotal) := goodIn_app (goodIn_of _ (by decide +kernel)) ggL_looks_X10_workTotal
set_option maxRecDepth 20000 in
theorem ggL_looks_X10_winchCount : GoodIn wsL_looks wsX10_winchCount := goodIn_r _ [43, 6, 44, 45, 46, 10, 47, 48, 325, 326, 327, 328, 329, 330, 331, 332, 333, 334, 335, 336, 337, 338, 339, 340, 341, 342, 343, 344, 345, 346, 347, 348] (by decide +kernel) (by decide +kernel)
set_option maxRecDepth 20000 in
theorem gL_looks_X10_winchCount : GoodIn wsL_looks (wsV RL 111 RX10 yX10_winchCount wsX10_winchCount) := goodIn_app (goodIn_of _ (by decide +kernel)) ggL_looks_X10_winchCount
set_option maxRecDepth 20000 in
theorem ggL_looks_X10_height : GoodIn wsL_looks wsX10_height := goodIn_ca (goodIn_ca (goodIn_ca (goodIn_ca (goodIn_ca (goodIn_ca (goodIn_r _ [52, 6, 53, 54, 55, 56, 57, 58, 59, 60, 61, 62, 63, 4, 64, 65, 66, 67, 68, 69, 70, 71, 72, 73, 74, 75, 76, 77, 78, 79, 80, 81, 82, 83, 84, 85, 86, 87, 88, 10, 89, 90, 325, 326, 327, 328, 329, 330, 331, 332, 333, 334, 335, 336, 337, 338, 339, 340, 341, 342, 343, 344, 345, 346, 347, 348] (by decide +kernel) (by decide +kernel)) (goodIn_sub (fun _ h => List.mem_cons_of_mem _ (List.mem_append_left _ (List.mem_append_left _ (List.mem_append_left _ (List.mem_append_left _ (List.mem_append_left _ (List.mem_append_right _ h))))))) (by decide +kernel))) (goodIn_sub (fun _ h => List.mem_cons_of_mem _ (List.mem_append_left _ (List.mem_append_left _ (List.mem_append_left _ (List.mem_append_left _ (List.mem_append_right _ h)))))) (by decide +kernel))) (goodIn_sub (fun _ h => List.mem_cons_of_mem _ (List.mem_append_left _ (List.mem_append_left _ (List.mem_append_left _ (List.mem_append_right _ h))))) (by decide +kernel))) (goodIn_sub (fun _ h => List.mem_cons_of_mem _ (List.mem_append_left _ (List.mem_append_left _ (List.mem_append_right _ h)))) (by decide +kernel))) (goodIn_sub (fun _ h => List.mem_cons_of_mem _ (List.mem_append_left _ (List.mem_append_right _ h))) (by decide +kernel))) (goodIn_sub (fun _ h => List.mem_cons_of_mem _ (List.mem_append_right _ h)) (by decide +kernel))
set_option maxRecDepth 20000 in
theorem gL_looks_X10_height : GoodIn wsL_looks (wsV RL 68 RX10 yX10_height wsX10_height) := goodIn_app (goodIn_of _ (by decide +kernel)) ggL_looks_X10_height
set_option maxRecDepth 20000 in
theorem ggL_looks_X10_stone : GoodIn wsL_looks wsX10_stone := goodIn_ca (goodIn_ca (goodIn_ca (goodIn_ca (goodIn_ca (goodIn_ca (goodIn_r _ [94, 6, 53, 54, 55, 56, 57, 58, 59, 60, 61, 62, 63, 4, 64, 65, 66, 67, 68, 69, 70, 71, 72, 73, 74, 75, 76, 77, 78, 79, 80, 81, 82, 83, 84, 85, 95, 96, 97, 10, 98, 99, 325, 326, 327, 328, 329, 330, 331, 332, 333, 334, 335, 336, 337, 338, 339, 340, 341, 342, 343, 344, 345, 346, 347, 348] (by decide +kernel) (by decide +kernel)) (goodIn_sub (fun _ h => List.mem_cons_of_mem _ (List.mem_append_left _ (List.mem_append_left _ (List.mem_append_left _ (List.mem_append_left _ (List.mem_append_left _ (List.mem_append_right _ h))))))) (by decide +kernel))) (goodIn_sub (fun _ h => List.mem_cons_of_mem _ (List.mem_append_left _ (List.mem_append_left _ (List.mem_append_left _ (List.mem_append_left _ (List.mem_append_right _ h)))))) (by decide +kernel))) (goodIn_sub (fun _ h => List.mem_cons_of_mem _ (List.mem_append_left _ (List.mem_append_left _ (List.mem_append_left _ (List.mem_append_right _ h))))) (by decide +kernel))) (goodIn_sub (fun _ h => List.mem_cons_of_mem _ (List.mem_append_left _ (List.mem_append_left _ (List.mem_append_right _ h)))) (by decide +kernel))) (goodIn_sub (fun _ h => List.mem_cons_of_mem _ (List.mem_append_left _ (List.mem_append_right _ h))) (by decide +kernel))) (goodIn_sub (fun _ h => List.mem_cons_of_mem _ (List.mem_append_right _ h)) (by decide +kernel))
set_option maxRecDepth 20000 in
theorem gL_looks_X10_stone : GoodIn wsL_looks (wsV RL 132 RX10 yX10_stone wsX10_stone) := goodIn_app (goodIn_of _ (by decide +kernel)) ggL_looks_X10_stone
set_option maxRecDepth 20000 in
theorem ggL_looks_X10_isLedge : GoodIn wsL_looks wsX10_isLedge := goodIn_ca (goodIn_ca (goodIn_ca (goodIn_ca (goodIn_ca (goodIn_ca (goodIn_r _ [103, 6, 53, 54, 55, 56, 57, 58, 59, 60, 61, 62, 63, 4, 64, 65, 66, 67, 68, 69, 70, 71, 72, 73, 74, 75, 76, 77, 78, 79, 80, 81, 82, 83, 84, 85, 104, 105, 106, 10, 107, 108, 325, 326, 327, 328, 329, 330, 331, 332, 333, 334, 335, 336, 337, 338, 339, 340, 341, 342, 343, 344, 345, 346, 347, 348] (by decide +kernel) (by decide +kernel)) (goodIn_sub (fun _ h => List.mem_cons_of_mem _ (List.mem_append_left _ (List.mem_append_left _ (List.mem_append_left _ (List.mem_append_left _ (List.mem_append_left _ (List.mem_append_right _ h))))))) (by decide +kernel))) (goodIn_sub (fun _ h => List.mem_cons_of_mem _ (List.mem_append_left _ (List.mem_append_left _ (List.mem_append_left _ (List.mem_append_left _ (List.mem_append_right _ h)))))) (by decide +kernel))) (goodIn_sub (fun _ h => List.mem_cons_of_mem _ (List.mem_append_left _ (List.mem_append_left _ (List.mem_append_left _ (List.mem_append_right _ h))))) (by decide +kernel))) (goodIn_sub (fun _ h => List.mem_cons_of_mem _ (List.mem_append_left _ (List.mem_append_left _ (List.mem_append_right _ h)))) (by decide +kernel))) (goodIn_sub (fun _ h => List.mem_cons_of_mem _ (List.mem_append_left _ (List.mem_append_right _ h))) (by decide +kernel))) (goodIn_sub (fun _ h => List.mem_cons_of_mem _ (List.mem_append_right _ h)) (by decide +kernel))
set_option maxRecDepth 20000 in
theorem gL_looks_X10_isLedge : GoodIn wsL_looks (wsV RL 135 RX10 yX10_isLedge wsX10_isLedge) := goodIn_app (goodIn_of _ (by decide +kernel)) ggL_looks_X10_isLedge
set_option maxRecDepth 20000 in
theorem ggL_looks_L_told : GoodIn wsL_looks wsL_told := goodIn_r _ [112] (by decide +kernel) (by decide +kernel)
set_option maxRecDepth 20000 in
theorem gL_looks_L_told : GoodIn wsL_looks (va_wsS RL 32 yL_told wsL_told) := goodIn_app (goodIn_of _ (by decide +kernel)) ggL_looks_L_told
set_option maxRecDepth 20000 in
theorem ggL_looks_X10_looseBlocks : GoodIn wsL_looks wsX10_looseBlocks := goodIn_ca (goodIn_ca (goodIn_ca (goodIn_ca (goodIn_ca (goodIn_ca (goodIn_r _ [116, 6, 53, 54, 55, 56, 57, 58, 59, 60, 61, 62, 63, 4, 64, 65, 66, 67, 68, 69, 70, 71, 72, 73, 74, 75, 76, 77, 78, 79, 80, 81, 82, 83, 84, 85, 117, 118, 119, 10, 120, 121, 325, 326, 327, 328, 329, 330, 331, 332, 333, 334, 335, 336, 337, 338, 339, 340, 341, 342, 343, 344, 345, 346, 347, 348] (by decide +kernel) (by decide +kernel)) (goodIn_sub (fun _ h => List.mem_cons_of_mem _ (List.mem_append_left _ (List.mem_append_left _ (List.mem_append_left _ (List.mem_append_left _ (List.mem_append_left _ (List.mem_append_right _ h))))))) (by decide +kernel))) (goodIn_sub (fun _ h => List.mem_cons_of_mem _ (List.mem_append_left _ (List.mem_append_left _ (List.mem_append_left _ (List.mem_append_left _ (List.mem_append_right _ h)))))) (by decide +kernel))) (goodIn_sub (fun _ h => List.mem_cons_of_mem _ (List.mem_append_left _ (List.mem_append_left _ (List.mem_append_left _ (List.mem_append_right _ h))))) (by decide +kernel))) (goodIn_sub (fun _ h => List.mem_cons_of_mem _ (List.mem_append_left _ (List.mem_append_left _ (List.mem_append_right _ h)))) (by decide +kernel))) (goodIn_sub (fun _ h => List.mem_cons_of_mem _ (List.mem_append_left _ (List.mem_append_right _ h))) (by decide +kernel))) (goodIn_sub (fun _ h => List.mem_cons_of_mem _ (List.mem_append_right _ h)) (by decide +kernel))
set_option maxRecDepth 20000 in
theorem gL_looks_X10_looseBlocks : GoodIn wsL_looks (wsV RL 138 RX10 yX10_looseBlocks wsX10_looseBlocks) := goodIn_app (goodIn_of _ (by decide +kernel)) ggL_looks_X10_looseBlocks
