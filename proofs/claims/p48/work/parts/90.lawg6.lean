set_option maxRecDepth 20000 in
theorem gk_ggL_areWinchesRight_L_ask_0 : GoodIn wsL_areWinchesRight [.codeWith yL_ask cL_ask 7 (some .int) [(0, 11, 12, 58), (0, 11, 18, 60), (0, 11, 24, 66)]] := goodIn_r _ [128] (by decide +kernel) (by decide +kernel)
set_option maxRecDepth 20000 in
theorem gk_ggL_areWinchesRight_L_ask_1 : GoodIn wsL_areWinchesRight wsL_ask_r1 := goodIn_r _ [129, 130, 131, 132, 133, 16, 134, 54, 55, 56, 5, 57, 7, 58, 59, 60, 61, 62, 63, 64, 65, 66, 67, 68] (by decide +kernel) (by decide +kernel)
set_option maxRecDepth 20000 in
theorem gk_ggL_areWinchesRight_L_ask_2 : GoodIn wsL_areWinchesRight wsL_ask_r2 := goodIn_r _ [69, 70, 71, 72, 73, 74, 75, 76, 77, 78, 79, 80, 81, 82, 83, 84, 85, 86, 87, 88, 89, 90, 91, 92] (by decide +kernel) (by decide +kernel)
set_option maxRecDepth 20000 in
theorem gk_ggL_areWinchesRight_L_ask_3 : GoodIn wsL_areWinchesRight wsL_ask_r3 := goodIn_r _ [93, 11, 94, 95, 135, 136, 137, 138, 139, 140, 141, 142, 143, 144, 125, 145, 146, 147, 148, 149, 150, 151, 152, 153] (by decide +kernel) (by decide +kernel)
set_option maxRecDepth 20000 in
theorem gk_ggL_areWinchesRight_L_ask_4 : GoodIn wsL_areWinchesRight wsL_ask_r4 := goodIn_r _ [154, 155, 156, 157, 158, 159, 160, 161, 162, 163, 164, 165, 166, 167, 168, 169, 170, 171, 172, 173, 174, 175, 176, 26] (by decide +kernel) (by decide +kernel)
set_option maxRecDepth 20000 in
theorem gk_ggL_areWinchesRight_L_ask_5 : GoodIn wsL_areWinchesRight wsL_ask_r5 := goodIn_r _ [177, 178, 179, 180, 181, 182, 183, 184, 185, 186, 187, 188, 189, 190, 191, 192, 193, 194, 195, 196, 197, 198, 199, 200] (by decide +kernel) (by decide +kernel)
set_option maxRecDepth 20000 in
theorem gk_ggL_areWinchesRight_L_ask_6 : GoodIn wsL_areWinchesRight wsL_ask_r6 := goodIn_r _ [201, 202, 203, 204, 205, 206, 207, 208, 209, 23, 24, 25, 210, 211, 212, 213, 214, 215, 216, 217, 218, 219, 220, 221] (by decide +kernel) (by decide +kernel)
set_option maxRecDepth 20000 in
theorem gk_ggL_areWinchesRight_L_ask_7 : GoodIn wsL_areWinchesRight wsL_ask_r7 := goodIn_r _ [222, 223, 110, 111, 112, 113, 224, 225, 226, 227, 228, 229, 230, 231, 232, 233, 234, 235, 13, 236, 237, 238, 239, 240] (by decide +kernel) (by decide +kernel)
set_option maxRecDepth 20000 in
theorem gk_ggL_areWinchesRight_L_ask_8 : GoodIn wsL_areWinchesRight wsL_ask_r8 := goodIn_r _ [241, 242, 243, 244, 245, 246, 247, 248, 249, 250, 251, 252, 253, 254, 255, 256, 257, 258, 259, 260, 261, 262, 263, 264] (by decide +kernel) (by decide +kernel)
set_option maxRecDepth 20000 in
theorem gk_ggL_areWinchesRight_L_ask_9 : GoodIn wsL_areWinchesRight wsL_ask_r9 := goodIn_r _ [265, 266, 267, 268, 269, 270, 271, 272, 273, 274, 275, 276, 277, 278, 279, 280, 281, 282, 283, 284, 285, 286] (by decide +kernel) (by decide +kernel)
set_option maxRecDepth 20000 in
theorem gk_ggL_areWinchesRight_L_ask_wsX100 : GoodIn wsL_areWinchesRight wsX100 := goodIn_r _ [728, 729, 730, 731, 732, 733, 734, 735, 736] (by decide +kernel) (by decide +kernel)
set_option maxRecDepth 20000 in
theorem gk_ggL_areWinchesRight_L_ask_wsX70 : GoodIn wsL_areWinchesRight wsX70 := goodIn_r _ [737, 738, 739, 740, 741, 742, 743, 744, 745, 746, 747, 748, 749, 750, 751] (by decide +kernel) (by decide +kernel)
set_option maxRecDepth 20000 in
theorem gk_ggL_areWinchesRight_L_ask_wsX80 : GoodIn wsL_areWinchesRight wsX80 := goodIn_r _ [752, 753, 754, 755, 756] (by decide +kernel) (by decide +kernel)
set_option maxRecDepth 20000 in
theorem ggL_areWinchesRight_L_ask : GoodIn wsL_areWinchesRight wsL_ask := goodIn_ca (goodIn_ca (goodIn_ca (goodIn_ca (goodIn_ca (goodIn_ca (goodIn_cons gk_ggL_areWinchesRight_L_ask_0 (goodIn_app (goodIn_app (goodIn_app (goodIn_app gk_ggL_areWinchesRight_L_ask_1 (goodIn_app gk_ggL_areWinchesRight_L_ask_2 (goodIn_app gk_ggL_areWinchesRight_L_ask_3 (goodIn_app gk_ggL_areWinchesRight_L_ask_4 (goodIn_app gk_ggL_areWinchesRight_L_ask_5 (goodIn_app gk_ggL_areWinchesRight_L_ask_6 (goodIn_app gk_ggL_areWinchesRight_L_ask_7 (goodIn_app gk_ggL_areWinchesRight_L_ask_8 gk_ggL_areWinchesRight_L_ask_9)))))))) gk_ggL_areWinchesRight_L_ask_wsX100) gk_ggL_areWinchesRight_L_ask_wsX70) gk_ggL_areWinchesRight_L_ask_wsX80)) (goodIn_sub (fun _ h => List.mem_cons_of_mem _ (List.mem_append_left _ (List.mem_append_left _ (List.mem_append_left _ (List.mem_append_left _ (List.mem_append_left _ (List.mem_append_right _ h))))))) (by decide +kernel))) (goodIn_sub (fun _ h => List.mem_cons_of_mem _ (List.mem_append_left _ (List.mem_append_left _ (List.mem_append_left _ (List.mem_append_left _ (List.mem_append_right _ h)))))) (by decide +kernel))) (goodIn_sub (fun _ h => List.mem_cons_of_mem _ (List.mem_append_left _ (List.mem_append_left _ (List.mem_append_left _ (List.mem_append_right _ h))))) (by decide +kernel))) (goodIn_sub (fun _ h => List.mem_cons_of_mem _ (List.mem_append_left _ (List.mem_append_left _ (List.mem_append_right _ h)))) (by decide +kernel))) (goodIn_sub (fun _ h => List.mem_cons_of_mem _ (List.mem_append_left _ (List.mem_append_right _ h))) (by decide +kernel))) (goodIn_sub (fun _ h => List.mem_cons_of_mem _ (List.mem_append_right _ h)) (by decide +kernel))
set_option maxRecDepth 20000 in
theorem gL_areWinchesRight_L_ask : GoodIn wsL_areWinchesRight (va_wsS RL 141 yL_ask wsL_ask) := goodIn_app (goodIn_of _ (by decide +kernel)) ggL_areWinchesRight_L_ask
set_option maxRecDepth 20000 in
theorem ggL_areWinchesRight_X10_save : GoodIn wsL_areWinchesRight wsX10_save := goodIn_ca (goodIn_r _ [332, 333, 334, 335, 11, 7, 336, 337, 338, 339, 340, 341, 1, 95, 104, 342, 113, 125, 152, 247, 249, 248, 276, 26, 35, 343, 344, 345, 346, 347, 348, 349, 350, 13, 44, 351, 53, 728, 729, 730, 731, 732, 733, 734, 735, 736, 737, 738, 739, 740, 741, 742, 743, 744, 745, 746, 747, 748, 749, 750, 751] (by decide +kernel) (by decide +kernel)) (goodIn_sub (fun _ h => List.mem_cons_of_mem _ (List.mem_append_left _ (List.mem_append_left _ (List.mem_append_left _ (List.mem_append_left _ (List.mem_append_left _ (List.mem_append_right _ h))))))) (by decide +kernel))
set_option maxRecDepth 20000 in
theorem gL_areWinchesRight_X10_save : GoodIn wsL_areWinchesRight (wsV RL 203 RX10 yX10_save wsX10_save) := goodIn_app (goodIn_of _ (by decide +kernel)) ggL_areWinchesRight_X10_save
set_option maxRecDepth 20000 in
theorem ggL_areWinchesRight_X10_liftableCells : GoodIn wsL_areWinchesRight wsX10_liftableCells := goodIn_ca (goodIn_ca (goodIn_r _ [231, 70, 71, 7, 232, 233, 234, 11, 235, 13, 236, 237, 238, 239, 143, 240, 188, 60, 189, 241, 191, 192, 242, 243, 244, 245, 144, 113, 246, 247, 248, 249, 250, 251, 252, 140, 141, 142, 125, 145, 146, 59, 61, 62, 63, 64, 65, 66, 147, 89, 90, 181, 182, 183, 184, 185, 179, 186, 187, 190, 253, 149, 150, 151, 152, 254, 255, 256, 728, 729, 730, 731, 732, 733, 734, 735, 736, 737, 738, 739, 740, 741, 742, 743, 744, 745, 746, 747, 748, 749, 750, 751] (by decide +kernel) (by decide +kernel)) (goodIn_sub (fun _ h => List.mem_cons_of_mem _ (List.mem_append_left _ (List.mem_append_left _ (List.mem_append_left _ (List.mem_append_left _ (List.mem_append_right _ h)))))) (by decide +kernel))) (goodIn_sub (fun _ h => List.mem_cons_of_mem _ (List.mem_append_left _ (List.mem_append_left _ (List.mem_append_left _ (List.mem_append_left _ (List.mem_append_left _ (List.mem_append_right _ h))))))) (by decide +kernel))
set_option maxRecDepth 20000 in
theorem gL_areWinchesRight_X10_liftableCells : GoodIn wsL_areWinchesRight (wsV RL 86 RX10 yX10_liftableCells wsX10_liftableCells) := goodIn_app (goodIn_of _ (by decide +kernel)) ggL_areWinchesRight_X10_liftableCells
set_option maxRecDepth 20000 in
theorem gk_ggL_areWinchesRight_L_deed_0 : GoodIn wsL_areWinchesRight [.codeWith yL_deed cL_deed 7 (some .int) [(0, 11, 12, 58), (0, 11, 18, 60), (0, 11, 24, 62), (0, 11, 30, 64), (0, 11, 36, 66)]] := goodIn_r _ [354] (by decide +kernel) (by decide +kernel)
set_option maxRecDepth 20000 in
theorem gk_ggL_areWinchesRight_L_deed_1 : GoodIn wsL_areWinchesRight wsL_deed_r1 := goodIn_r _ [129, 130, 355, 356, 131, 357, 358, 16, 359, 360, 361, 362, 5, 363, 7, 364, 365, 366, 367, 11, 368, 143, 144, 160] (by decide +kernel) (by decide +kernel)
set_option maxRecDepth 20000 in
theorem gk_ggL_areWinchesRight_L_deed_2 : GoodIn wsL_areWinchesRight wsL_deed_r2 := goodIn_r _ [146, 59, 60, 61, 62, 63, 64, 65, 66, 369, 270, 271, 67, 68, 69, 70, 71, 72, 73, 74, 75, 76, 77, 78] (by decide +kernel) (by decide +kernel)
set_option maxRecDepth 20000 in
theorem gk_ggL_areWinchesRight_L_deed_3 : GoodIn wsL_areWinchesRight wsL_deed_r3 := goodIn_r _ [79, 80, 81, 82, 83, 84, 85, 86, 87, 370, 371, 372, 373, 374, 375, 376, 377, 335, 378, 379, 380, 179, 381, 382] (by decide +kernel) (by decide +kernel)
set_option maxRecDepth 20000 in
theorem gk_ggL_areWinchesRight_L_deed_4 : GoodIn wsL_areWinchesRight wsL_deed_r4 := goodIn_r _ [337, 338, 339, 340, 341, 1, 95, 104, 342, 113, 125, 152, 247, 249, 248, 276, 26, 35, 383, 344, 345, 346, 347, 348] (by decide +kernel) (by decide +kernel)
set_option maxRecDepth 20000 in
theorem gk_ggL_areWinchesRight_L_deed_5 : GoodIn wsL_areWinchesRight wsL_deed_r5 := goodIn_r _ [349, 350, 13, 44, 351, 53, 384, 385, 386, 387, 147, 89, 90, 388, 389, 390, 391, 392, 393, 394, 395, 246, 250, 396] (by decide +kernel) (by decide +kernel)
set_option maxRecDepth 20000 in
theorem gk_ggL_areWinchesRight_L_deed_6 : GoodIn wsL_areWinchesRight wsL_deed_r6 := goodIn_r _ [397, 398, 399, 400, 185, 186, 177, 178, 180, 401, 207, 208, 402, 403, 404, 405, 406, 407, 408, 409, 410, 411, 412, 413] (by decide +kernel) (by decide +kernel)
set_option maxRecDepth 20000 in
theorem gk_ggL_areWinchesRight_L_deed_7 : GoodIn wsL_areWinchesRight wsL_deed_r7 := goodIn_r _ [414, 415, 416, 417, 418, 419, 420, 421, 58, 422, 423, 424, 425, 114, 115, 116, 426, 427, 428, 429, 430, 431, 432, 433] (by decide +kernel) (by decide +kernel)
set_option maxRecDepth 20000 in
theorem gk_ggL_areWinchesRight_L_deed_8 : GoodIn wsL_areWinchesRight wsL_deed_r8 := goodIn_r _ [434, 435, 436, 437, 438, 439, 440, 441, 442, 443, 444, 445, 446, 447, 448, 449, 450, 313, 314, 315, 451, 452, 453, 454] (by decide +kernel) (by decide +kernel)
set_option maxRecDepth 20000 in
theorem gk_ggL_areWinchesRight_L_deed_9 : GoodIn wsL_areWinchesRight wsL_deed_r9 := goodIn_r _ [455, 456, 457, 458, 459, 243, 244, 245, 251, 233, 234, 235, 252, 140, 141, 142, 145, 181, 182, 183, 184, 187, 188, 189] (by decide +kernel) (by decide +kernel)
set_option maxRecDepth 20000 in
theorem gk_ggL_areWinchesRight_L_deed_10 : GoodIn wsL_areWinchesRight wsL_deed_r10 := goodIn_r _ [190, 191, 192, 253, 149, 150, 151, 254, 255, 256, 460, 461, 462, 463, 464, 465, 466, 467, 468, 469, 470, 471, 472, 473] (by decide +kernel) (by decide +kernel)
set_option maxRecDepth 20000 in
theorem gk_ggL_areWinchesRight_L_deed_11 : GoodIn wsL_areWinchesRight wsL_deed_r11 := goodIn_r _ [474, 475, 476, 477, 478, 479, 480, 281, 481, 286, 482, 483, 484, 485, 486, 487, 488, 489, 490, 491, 492, 493, 494, 495] (by decide +kernel) (by decide +kernel)
set_option maxRecDepth 20000 in
theorem gk_ggL_areWinchesRight_L_deed_12 : GoodIn wsL_areWinchesRight wsL_deed_r12 := goodIn_r _ [496, 497, 498, 499, 500, 501, 502, 503, 504, 505, 506, 507, 508, 509, 510, 511, 512, 513, 514, 515, 516, 517, 518, 519] (by decide +kernel) (by decide +kernel)
set_option maxRecDepth 20000 in
theorem gk_ggL_areWinchesRight_L_deed_13 : GoodIn wsL_areWinchesRight wsL_deed_r13 := goodIn_r _ [520, 521, 522, 523, 524, 525, 526, 527, 528, 529, 530, 531, 532, 533, 534, 535, 536, 537, 538, 539, 540, 541, 542, 543] (by decide +kernel) (by decide +kernel)
set_option maxRecDepth 20000 in
theorem gk_ggL_areWinchesRight_L_deed_14 : GoodIn wsL_areWinchesRight wsL_deed_r14 := goodIn_r _ [544, 545, 546, 547, 548, 549, 550, 551, 552, 553, 554, 555, 556, 557, 558, 559, 560, 561, 562, 563, 564, 565, 566, 567] (by decide +kernel) (by decide +kernel)
set_option maxRecDepth 20000 in
theorem gk_ggL_areWinchesRight_L_deed_15 : GoodIn wsL_areWinchesRight wsL_deed_r15 := goodIn_r _ [568, 569, 570, 571, 572, 573, 574, 575, 576, 577, 578, 579, 580, 581, 582, 583, 584, 585, 586, 587, 588, 589, 590, 591] (by decide +kernel) (by decide +kernel)
set_option maxRecDepth 20000 in
theorem gk_ggL_areWinchesRight_L_deed_16 : GoodIn wsL_areWinchesRight wsL_deed_r16 := goodIn_r _ [592, 593, 594, 595, 596, 597, 598, 599, 600, 601, 602, 603, 604, 605, 606, 607, 608, 609, 610, 611, 612, 613, 614, 615] (by decide +kernel) (by decide +kernel)
set_option maxRecDepth 20000 in
theorem gk_ggL_areWinchesRight_L_deed_17 : GoodIn wsL_areWinchesRight wsL_deed_r17 := goodIn_r _ [616, 617, 618, 619, 620, 621, 622, 623, 624, 625, 626, 627, 628, 629, 630, 631, 632, 633, 634, 635, 636, 637, 638, 639] (by decide +kernel) (by decide +kernel)
set_option maxRecDepth 20000 in
theorem gk_ggL_areWinchesRight_L_deed_18 : GoodIn wsL_areWinchesRight wsL_deed_r18 := goodIn_r _ [640, 641, 642, 643, 644, 645, 646, 647, 648, 649, 650, 651, 652, 653, 654, 655, 656, 343, 657, 658, 659, 660, 661, 662] (by decide +kernel) (by decide +kernel)
set_option maxRecDepth 20000 in
theorem gk_ggL_areWinchesRight_L_deed_19 : GoodIn wsL_areWinchesRight wsL_deed_r19 := goodIn_r _ [663, 664, 665, 666, 667, 668, 669, 670, 671, 672, 673, 674, 675, 676, 677, 678, 679, 680, 681, 682, 683, 684, 685, 686] (by decide +kernel) (by decide +kernel)
set_option maxRecDepth 20000 in
theorem gk_ggL_areWinchesRight_L_deed_20 : GoodIn wsL_areWinchesRight wsL_deed_r20 := goodIn_r _ [687, 688, 689, 690, 691, 692, 693, 694, 695, 696, 697, 698, 699, 700, 701, 702, 703, 704, 705, 706, 707, 708, 709, 710] (by decide +kernel) (by decide +kernel)
set_option maxRecDepth 20000 in
theorem gk_ggL_areWinchesRight_L_deed_21 : GoodIn wsL_areWinchesRight wsL_deed_r21 := goodIn_r _ [711] (by decide +kernel) (by decide +kernel)
set_option maxRecDepth 20000 in
theorem gk_ggL_areWinchesRight_L_deed_wsX100 : GoodIn wsL_areWinchesRight wsX100 := goodIn_r _ [728, 729, 730, 731, 732, 733, 734, 735, 736] (by decide +kernel) (by decide +kernel)
set_option maxRecDepth 20000 in
theorem gk_ggL_areWinchesRight_L_deed_wsX40 : GoodIn wsL_areWinchesRight wsX40 := goodIn_r _ [759, 760, 761] (by decide +kernel) (by decide +kernel)
set_option maxRecDepth 20000 in
theorem gk_ggL_areWinchesRight_L_deed_wsX70 : GoodIn wsL_areWinchesRight wsX70 := goodIn_r _ [737, 738, 739, 740, 741, 742, 743, 744, 745, 746, 747, 748, 749, 750, 751] (by decide +kernel) (by decide +kernel)
set_option maxRecDepth 20000 in
theorem gk_ggL_areWinchesRight_L_deed_wsX60 : GoodIn wsL_areWinchesRight wsX60 := goodIn_r _ [762, 763, 764] (by decide +kernel) (by decide +kernel)
set_option maxRecDepth 20000 in
theorem gk_ggL_areWinchesRight_L_deed_wsJx4a65c0 : GoodIn wsL_areWinchesRight wsJx4a65c0 := goodIn_r _ [765, 766, 767] (by decide +kernel) (by decide +kernel)
set_option maxRecDepth 20000 in
theorem gk_ggL_areWinchesRight_L_deed_wsJ00 : GoodIn wsL_areWinchesRight wsJ00 := goodIn_r _ [768, 769] (by decide +kernel) (by decide +kernel)
set_option maxRecDepth 20000 in
theorem gk_ggL_areWinchesRight_L_deed_wsX10 : GoodIn wsL_areWinchesRight wsX10 := goodIn_r _ [770, 771, 772] (by decide +kernel) (by decide +kernel)
set_option maxRecDepth 20000 in
theorem ggL_areWinchesRight_L_deed : GoodIn wsL_areWinchesRight wsL_deed := goodIn_ca (goodIn_ca (goodIn_ca (goodIn_ca (goodIn_ca (goodIn_ca (goodIn_cons gk_ggL_areWinchesRight_L_deed_0 (goodIn_app (goodIn_app (goodIn_app (goodIn_app (goodIn_app (goodIn_app (goodIn_app (goodIn_app gk_ggL_areWinchesRight_L_deed_1 (goodIn_app gk_ggL_areWinchesRight_L_deed_2 (goodIn_app gk_ggL_areWinchesRight_L_deed_3 (goodIn_app gk_ggL_areWinchesRight_L_deed_4 (goodIn_app gk_ggL_areWinchesRight_L_deed_5 (goodIn_app gk_ggL_areWinchesRight_L_deed_6 (goodIn_app gk_ggL_areWinchesRight_L_deed_7 (goodIn_app gk_ggL_areWinchesRight_L_deed_8 (goodIn_app gk_ggL_areWinchesRight_L_deed_9 (goodIn_app gk_ggL_areWinchesRight_L_deed_10 (goodIn_app gk_ggL_areWinchesRight_L_deed_11 (goodIn_app gk_ggL_areWinchesRight_L_deed_12 (goodIn_app gk_ggL_areWinchesRight_L_deed_13 (goodIn_app gk_ggL_areWinchesRight_L_deed_14 (goodIn_app gk_ggL_areWinchesRight_L_deed_15 (goodIn_app gk_ggL_areWinchesRight_L_deed_16 (goodIn_app gk_ggL_areWinchesRight_L_deed_17 (goodIn_app gk_ggL_areWinchesRight_L_deed_18 (goodIn_app gk_ggL_areWinchesRight_L_deed_19 (goodIn_app gk_ggL_areWinchesRight_L_deed_20 gk_ggL_areWinchesRight_L_deed_21)))))))))))))))))))) gk_ggL_areWinchesRight_L_deed_wsX100) gk_ggL_areWinchesRight_L_deed_wsX40) gk_ggL_areWinchesRight_L_deed_wsX70) gk_ggL_areWinchesRight_L_deed_wsX60) gk_ggL_areWinchesRight_L_deed_wsJx4a65c0) gk_ggL_areWinchesRight_L_deed_wsJ00) gk_ggL_areWinchesRight_L_deed_wsX10)) (goodIn_sub (fun _ h => List.mem_cons_of_mem _ (List.mem_append_left _ (List.mem_append_left _ (List.mem_append_left _ (List.mem_append_left _ (List.mem_append_left _ (List.mem_append_right _ h))))))) (by decide +kernel))) (goodIn_sub (fun _ h => List.mem_cons_of_mem _ (List.mem_append_left _ (List.mem_append_left _ (List.mem_append_left _ (List.mem_append_left _ (List.mem_append_right _ h)))))) (by decide +kernel))) (goodIn_sub (fun _ h => List.mem_cons_of_mem _ (List.mem_append_left _ (List.mem_append_left _ (List.mem_append_left _ (List.mem_append_right _ h))))) (by decide +kernel))) (goodIn_sub (fun _ h => List.mem_cons_of_mem _ (List.mem_append_left _ (List.mem_append_left _ (List.mem_append_right _ h)))) (by decide +kernel))) (goodIn_sub (fun _ h => List.mem_cons_of_mem _ (List.mem_append_left _ (List.mem_append_right _ h))) (by decide +kernel))) (goodIn_sub (fun _ h => List.mem_cons_of_mem _ (List.mem_append_right _ h)) (by decide +kernel))
set_option maxRecDepth 20000 in
theorem gL_areWinchesRight_L_deed : GoodIn wsL_areWinchesRight (va_wsS RL 108 yL_deed wsL_deed) := goodIn_app (goodIn_of _ (by decide +kernel)) ggL_areWinchesRight_L_deed
set_option maxRecDepth 20000 in
theorem ggL_areWinchesRight_X10_restore : GoodIn wsL_areWinchesRight wsX10_restore := goodIn_ca (goodIn_ca (goodIn_r _ [715, 76, 77, 333, 7, 364, 343, 344, 345, 11, 346, 95, 347, 348, 349, 350, 104, 125, 152, 247, 249, 248, 276, 113, 13, 26, 35, 44, 351, 53, 716, 717, 718, 373, 719, 378, 728, 729, 730, 731, 732, 733, 734, 735, 736, 737, 738, 739, 740, 741, 742, 743, 744, 745, 746, 747, 748, 749, 750, 751, 759, 760, 761] (by decide +kernel) (by decide +kernel)) (goodIn_sub (fun _ h => List.mem_cons_of_mem _ (List.mem_append_left _ (List.mem_append_right _ h))) (by decide +kernel))) (goodIn_sub (fun _ h => List.mem_cons_of_mem _ (List.mem_append_left _ (List.mem_append_left _ (List.mem_append_left _ (List.mem_append_left _ (List.mem_append_left _ (List.mem_append_right _ h))))))) (by decide +kernel))
set_option maxRecDepth 20000 in
theorem gL_areWinchesRight_X10_restore : GoodIn wsL_areWinchesRight (wsV RL 206 RX10 yX10_restore wsX10_restore) := goodIn_app (goodIn_of _ (by decide +kernel)) ggL_areWinchesRight_X10_restore
set_option maxRecDepth 20000 in
theorem ggL_areWinchesRight_X10_inYard : GoodIn wsL_areWinchesRight wsX10_inYard := goodIn_ca (goodIn_ca (goodIn_r _ [268, 72, 73, 7, 269, 270, 11, 271, 272, 273, 274, 275, 276, 728, 729, 730, 731, 732, 733, 734, 735, 736, 737, 738, 739, 740, 741, 742, 743, 744, 745, 746, 747, 748, 749, 750, 751] (by decide +kernel) (by decide +kernel)) (goodIn_sub (fun _ h => List.mem_cons_of_mem _ (List.mem_append_left _ (List.mem_append_left _ (List.mem_append_left _ (List.mem_append_right _ h))))) (by decide +kernel))) (goodIn_sub (fun _ h => List.mem_cons_of_mem _ (List.mem_append_left _ (List.mem_append_left _ (List.mem_append_left _ (List.mem_append_left _ (List.mem_append_left _ (List.mem_append_right _ h))))))) (by decide +kernel))
set_option maxRecDepth 20000 in
theorem gL_areWinchesRight_X10_inYard : GoodIn wsL_areWinchesRight (wsV RL 92 RX10 yX10_inYard wsX10_inYard) := goodIn_app (goodIn_of _ (by decide +kernel)) ggL_areWinchesRight_X10_inYard
set_option maxRecDepth 20000 in
theorem ggL_areWinchesRight_X10_yardWeight : GoodIn wsL_areWinchesRight wsX10_yardWeight := goodIn_ca (goodIn_r _ [723, 7, 724, 725, 726, 11, 727, 276, 254, 255, 256, 728, 729, 730, 731, 732, 733, 734, 735, 736, 737, 738, 739, 740, 741, 742, 743, 744, 745, 746, 747, 748, 749, 750, 751] (by decide +kernel) (by decide +kernel)) (goodIn_sub (fun _ h => List.mem_cons_of_mem _ (List.mem_append_left _ (List.mem_append_left _ (List.mem_append_left _ (List.mem_append_left _ (List.mem_append_left _ (List.mem_append_right _ h))))))) (by decide +kernel))
set_option maxRecDepth 20000 in
theorem gL_areWinchesRight_X10_yardWeight : GoodIn wsL_areWinchesRight (wsV RL 209 RX10 yX10_yardWeight wsX10_yardWeight) := goodIn_app (goodIn_of _ (by decide +kernel)) ggL_areWinchesRight_X10_yardWeight
