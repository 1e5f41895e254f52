set_option maxRecDepth 20000 in
theorem ggL_law_L_pick : GoodIn wsL_law wsL_pick := goodIn_ca (goodIn_ca (goodIn_r _ [105, 106, 107, 101, 108, 109, 110] (by decide +kernel) (by decide +kernel)) (goodIn_sub (fun _ h => List.mem_append_left _ (List.mem_append_left _ (List.mem_append_left _ (List.mem_append_left _ (List.mem_append_left _ (List.mem_append_left _ (List.mem_append_right _ h))))))) (by decide +kernel))) (goodIn_sub (fun _ h => List.mem_append_left _ (List.mem_append_left _ (List.mem_append_left _ (List.mem_append_left _ (List.mem_append_left _ (List.mem_append_left _ (List.mem_append_left _ (List.mem_append_right _ h)))))))) (by decide +kernel))
set_option maxRecDepth 20000 in
theorem gL_law_L_pick : GoodIn wsL_law (va_wsS RL 104 yL_pick wsL_pick) := goodIn_app (goodIn_of _ (by decide +kernel)) ggL_law_L_pick
set_option maxRecDepth 20000 in
theorem gk_ggL_law_L_areCellsRight_0 : GoodIn wsL_law [.code yL_areCellsRight cL_areCellsRight 14 (some .boolean)] := goodIn_r _ [569] (by decide +kernel) (by decide +kernel)
set_option maxRecDepth 20000 in
theorem gk_ggL_law_L_areCellsRight_1 : GoodIn wsL_law wsL_areCellsRight_r1 := goodIn_r _ [37, 570, 171, 172, 173, 558, 212, 213, 571, 572, 573, 101, 574, 114, 115, 118, 575, 576, 577, 578, 579, 580, 2, 581] (by decide +kernel) (by decide +kernel)
set_option maxRecDepth 20000 in
theorem gk_ggL_law_L_areCellsRight_2 : GoodIn wsL_law wsL_areCellsRight_r2 := goodIn_r _ [12, 237, 134, 135, 136, 137, 138, 139, 140, 141, 145, 146, 147, 148, 149, 150, 151, 152, 153, 154, 155, 156, 157, 158] (by decide +kernel) (by decide +kernel)
set_option maxRecDepth 20000 in
theorem gk_ggL_law_L_areCellsRight_3 : GoodIn wsL_law wsL_areCellsRight_r3 := goodIn_r _ [159, 160, 161, 162, 163, 164, 165, 582, 192, 193, 583, 584, 585, 11, 586, 38, 587, 588, 589, 590, 591, 290, 291, 292] (by decide +kernel) (by decide +kernel)
set_option maxRecDepth 20000 in
theorem gk_ggL_law_L_areCellsRight_4 : GoodIn wsL_law wsL_areCellsRight_r4 := goodIn_r _ [130, 131, 42, 293, 133, 191, 592, 305, 306, 307, 43, 593, 594, 595, 596, 597, 598, 599, 132, 600, 601, 602, 603, 604] (by decide +kernel) (by decide +kernel)
set_option maxRecDepth 20000 in
theorem gk_ggL_law_L_areCellsRight_5 : GoodIn wsL_law wsL_areCellsRight_r5 := goodIn_r _ [605, 606, 607, 608, 609, 610, 611, 612, 613, 614, 615, 48, 211, 294, 295, 296, 297, 209, 210, 298, 299, 300, 301, 302] (by decide +kernel) (by decide +kernel)
set_option maxRecDepth 20000 in
theorem gk_ggL_law_L_areCellsRight_6 : GoodIn wsL_law wsL_areCellsRight_r6 := goodIn_r _ [303, 616, 617, 618, 619, 17, 620, 621, 622, 16, 623, 55, 54, 624, 625, 215, 216, 626, 627, 628, 629, 630, 631, 632] (by decide +kernel) (by decide +kernel)
set_option maxRecDepth 20000 in
theorem gk_ggL_law_L_areCellsRight_7 : GoodIn wsL_law wsL_areCellsRight_r7 := goodIn_r _ [633, 634, 635, 636, 637, 638, 639, 640, 641, 57, 642, 643, 644, 645, 41, 646, 647, 648, 649, 650, 651, 652, 653, 654] (by decide +kernel) (by decide +kernel)
set_option maxRecDepth 20000 in
theorem gk_ggL_law_L_areCellsRight_8 : GoodIn wsL_law wsL_areCellsRight_r8 := goodIn_r _ [286, 287, 288, 183, 655, 656, 657, 658, 659, 660, 661, 282, 283, 284, 202, 44, 46, 45, 203, 285, 289, 304, 308, 309] (by decide +kernel) (by decide +kernel)
set_option maxRecDepth 20000 in
theorem gk_ggL_law_L_areCellsRight_9 : GoodIn wsL_law wsL_areCellsRight_r9 := goodIn_r _ [310, 662, 663, 664, 665, 666, 667, 668, 669, 670, 671, 672, 673, 674, 143, 144, 675, 676, 677, 678, 47, 679, 680, 681] (by decide +kernel) (by decide +kernel)
set_option maxRecDepth 20000 in
theorem gk_ggL_law_L_areCellsRight_10 : GoodIn wsL_law wsL_areCellsRight_r10 := goodIn_r _ [682, 31, 683, 684, 685, 686, 32, 687, 688, 689, 690, 691, 692, 693, 694, 695, 696, 697, 698, 699, 700, 701, 702, 703] (by decide +kernel) (by decide +kernel)
set_option maxRecDepth 20000 in
theorem gk_ggL_law_L_areCellsRight_11 : GoodIn wsL_law wsL_areCellsRight_r11 := goodIn_r _ [704, 705, 706, 707, 708, 242, 243, 244, 709, 710, 711, 712, 713, 714, 715, 716, 717, 718, 719, 204, 205, 206, 207, 208] (by decide +kernel) (by decide +kernel)
set_option maxRecDepth 20000 in
theorem gk_ggL_law_L_areCellsRight_12 : GoodIn wsL_law wsL_areCellsRight_r12 := goodIn_r _ [214, 720, 721, 722, 723, 724, 198, 199, 200, 201, 725, 726, 727, 728, 729, 730, 731, 732, 184, 733, 734, 735, 736, 737] (by decide +kernel) (by decide +kernel)
set_option maxRecDepth 20000 in
theorem gk_ggL_law_L_areCellsRight_13 : GoodIn wsL_law wsL_areCellsRight_r13 := goodIn_r _ [738, 739, 740, 741, 742, 743, 744, 745, 746, 747, 748, 749, 750, 751, 752, 753, 754, 755, 254, 255, 256, 756, 757, 758] (by decide +kernel) (by decide +kernel)
set_option maxRecDepth 20000 in
theorem gk_ggL_law_L_areCellsRight_14 : GoodIn wsL_law wsL_areCellsRight_r14 := goodIn_r _ [759, 760, 761, 762, 763, 58, 764, 765, 766, 767, 768, 769, 770, 771, 772, 773, 774, 39, 775, 776, 777, 778, 56, 779] (by decide +kernel) (by decide +kernel)
set_option maxRecDepth 20000 in
theorem gk_ggL_law_L_areCellsRight_15 : GoodIn wsL_law wsL_areCellsRight_r15 := goodIn_r _ [780, 781, 782, 783, 784, 785, 786, 787, 788, 789, 790, 791, 185, 792, 793, 794, 795, 796, 797, 798, 799, 800, 801] (by decide +kernel) (by decide +kernel)
set_option maxRecDepth 20000 in
theorem gk_ggL_law_L_areCellsRight_wsX100 : GoodIn wsL_law wsX100 := goodIn_r _ [917, 918, 919, 920, 921, 922, 923, 924, 925] (by decide +kernel) (by decide +kernel)
set_option maxRecDepth 20000 in
theorem gk_ggL_law_L_areCellsRight_wsX70 : GoodIn wsL_law wsX70 := goodIn_r _ [926, 927, 928, 929, 930, 931, 932, 933, 934, 935, 936, 937, 938, 939, 940] (by decide +kernel) (by decide +kernel)
set_option maxRecDepth 20000 in
theorem gk_ggL_law_L_areCellsRight_wsX80 : GoodIn wsL_law wsX80 := goodIn_r _ [941, 942, 943, 944, 945] (by decide +kernel) (by decide +kernel)
set_option maxRecDepth 20000 in
theorem ggL_law_L_areCellsRight : GoodIn wsL_law wsL_areCellsRight := goodIn_ca (goodIn_ca (goodIn_ca (goodIn_ca (goodIn_ca (goodIn_ca (goodIn_ca (goodIn_cons gk_ggL_law_L_areCellsRight_0 (goodIn_app (goodIn_app (goodIn_app (goodIn_app gk_ggL_law_L_areCellsRight_1 (goodIn_app gk_ggL_law_L_areCellsRight_2 (goodIn_app gk_ggL_law_L_areCellsRight_3 (goodIn_app gk_ggL_law_L_areCellsRight_4 (goodIn_app gk_ggL_law_L_areCellsRight_5 (goodIn_app gk_ggL_law_L_areCellsRight_6 (goodIn_app gk_ggL_law_L_areCellsRight_7 (goodIn_app gk_ggL_law_L_areCellsRight_8 (goodIn_app gk_ggL_law_L_areCellsRight_9 (goodIn_app gk_ggL_law_L_areCellsRight_10 (goodIn_app gk_ggL_law_L_areCellsRight_11 (goodIn_app gk_ggL_law_L_areCellsRight_12 (goodIn_app gk_ggL_law_L_areCellsRight_13 (goodIn_app gk_ggL_law_L_areCellsRight_14 gk_ggL_law_L_areCellsRight_15)))))))))))))) gk_ggL_law_L_areCellsRight_wsX100) gk_ggL_law_L_areCellsRight_wsX70) gk_ggL_law_L_areCellsRight_wsX80)) (goodIn_sub (fun _ h => List.mem_append_left _ (List.mem_append_left _ (List.mem_append_left _ (List.mem_append_left _ (List.mem_append_left _ (List.mem_append_left _ (List.mem_append_left _ (List.mem_append_right _ h)))))))) (by decide +kernel))) (goodIn_sub (fun _ h => List.mem_append_left _ (List.mem_append_left _ (List.mem_append_left _ (List.mem_append_left _ (List.mem_append_left _ (List.mem_append_right _ h)))))) (by decide +kernel))) (goodIn_sub (fun _ h => List.mem_append_left _ (List.mem_append_left _ (List.mem_append_left _ (List.mem_append_left _ (List.mem_append_right _ h))))) (by decide +kernel))) (goodIn_sub (fun _ h => List.mem_append_left _ (List.mem_append_left _ (List.mem_append_left _ (List.mem_append_right _ h)))) (by decide +kernel))) (goodIn_sub (fun _ h => List.mem_append_left _ (List.mem_append_left _ (List.mem_append_right _ h))) (by decide +kernel))) (goodIn_sub (fun _ h => List.mem_append_left _ (List.mem_append_right _ h)) (by decide +kernel))) (goodIn_sub (fun _ h => List.mem_append_right _ h) (by decide +kernel))
set_option maxRecDepth 20000 in
theorem gL_law_L_areCellsRight : GoodIn wsL_law (va_wsS RL 221 yL_areCellsRight wsL_areCellsRight) := goodIn_app (goodIn_of _ (by decide +kernel)) ggL_law_L_areCellsRight
set_option maxRecDepth 20000 in
theorem gk_ggL_law_L_areSeamsRight_0 : GoodIn wsL_law [.code yL_areSeamsRight cL_areSeamsRight 9 (some .boolean)] := goodIn_r _ [804] (by decide +kernel) (by decide +kernel)
set_option maxRecDepth 20000 in
theorem gk_ggL_law_L_areSeamsRight_1 : GoodIn wsL_law wsL_areSeamsRight_r1 := goodIn_r _ [37, 570, 171, 172, 173, 578, 579, 580, 2, 581, 12, 237, 134, 135, 136, 137, 138, 139, 140, 141, 145, 146, 147, 148] (by decide +kernel) (by decide +kernel)
set_option maxRecDepth 20000 in
theorem gk_ggL_law_L_areSeamsRight_2 : GoodIn wsL_law wsL_areSeamsRight_r2 := goodIn_r _ [149, 150, 151, 152, 153, 154, 155, 156, 157, 158, 159, 160, 161, 162, 163, 164, 165, 582, 192, 193, 583, 584, 585, 11] (by decide +kernel) (by decide +kernel)
set_option maxRecDepth 20000 in
theorem gk_ggL_law_L_areSeamsRight_3 : GoodIn wsL_law wsL_areSeamsRight_r3 := goodIn_r _ [586, 38, 709, 710, 101, 711, 690, 209, 210, 805, 806, 807, 808, 809, 772, 773, 774, 39, 242, 243, 244, 810, 811, 812] (by decide +kernel) (by decide +kernel)
set_option maxRecDepth 20000 in
theorem gk_ggL_law_L_areSeamsRight_4 : GoodIn wsL_law wsL_areSeamsRight_r4 := goodIn_r _ [813, 17, 814, 815, 816, 16, 817, 760, 761, 762, 763, 58, 764, 765, 766, 767, 54, 624, 625, 215, 216, 768, 769, 770] (by decide +kernel) (by decide +kernel)
set_option maxRecDepth 20000 in
theorem gk_ggL_law_L_areSeamsRight_5 : GoodIn wsL_law wsL_areSeamsRight_r5 := goodIn_r _ [771, 818, 819, 820, 821, 822, 823, 824, 825, 826, 827, 828, 829, 756, 757, 758, 759, 830, 831, 832, 833, 775, 776, 777] (by decide +kernel) (by decide +kernel)
set_option maxRecDepth 20000 in
theorem gk_ggL_law_L_areSeamsRight_6 : GoodIn wsL_law wsL_areSeamsRight_r6 := goodIn_r _ [778, 56, 779, 601, 602, 603, 780, 781, 782, 783] (by decide +kernel) (by decide +kernel)
set_option maxRecDepth 20000 in
theorem gk_ggL_law_L_areSeamsRight_wsX100 : GoodIn wsL_law wsX100 := goodIn_r _ [917, 918, 919, 920, 921, 922, 923, 924, 925] (by decide +kernel) (by decide +kernel)
set_option maxRecDepth 20000 in
theorem gk_ggL_law_L_areSeamsRight_wsX70 : GoodIn wsL_law wsX70 := goodIn_r _ [926, 927, 928, 929, 930, 931, 932, 933, 934, 935, 936, 937, 938, 939, 940] (by decide +kernel) (by decide +kernel)
set_option maxRecDepth 20000 in
theorem gk_ggL_law_L_areSeamsRight_wsX80 : GoodIn wsL_law wsX80 := goodIn_r _ [941, 942, 943, 944, 945] (by decide +kernel) (by decide +kernel)
set_option maxRecDepth 20000 in
theorem ggL_law_L_areSeamsRight : GoodIn wsL_law wsL_areSeamsRight := goodIn_ca (goodIn_ca (goodIn_ca (goodIn_ca (goodIn_ca (goodIn_ca (goodIn_cons gk_ggL_law_L_areSeamsRight_0 (goodIn_app (goodIn_app (goodIn_app (goodIn_app gk_ggL_law_L_areSeamsRight_1 (goodIn_app gk_ggL_law_L_areSeamsRight_2 (goodIn_app gk_ggL_law_L_areSeamsRight_3 (goodIn_app gk_ggL_law_L_areSeamsRight_4 (goodIn_app gk_ggL_law_L_areSeamsRight_5 gk_ggL_law_L_areSeamsRight_6))))) gk_ggL_law_L_areSeamsRight_wsX100) gk_ggL_law_L_areSeamsRight_wsX70) gk_ggL_law_L_areSeamsRight_wsX80)) (goodIn_sub (fun _ h => List.mem_append_left _ (List.mem_append_left _ (List.mem_append_left _ (List.mem_append_left _ (List.mem_append_left _ (List.mem_append_left _ (List.mem_append_left _ (List.mem_append_right _ h)))))))) (by decide +kernel))) (goodIn_sub (fun _ h => List.mem_append_left _ (List.mem_append_left _ (List.mem_append_left _ (List.mem_append_left _ (List.mem_append_left _ (List.mem_append_right _ h)))))) (by decide +kernel))) (goodIn_sub (fun _ h => List.mem_append_left _ (List.mem_append_left _ (List.mem_append_left _ (List.mem_append_left _ (List.mem_append_right _ h))))) (by decide +kernel))) (goodIn_sub (fun _ h => List.mem_append_left _ (List.mem_append_left _ (List.mem_append_left _ (List.mem_append_right _ h)))) (by decide +kernel))) (goodIn_sub (fun _ h => List.mem_append_left _ (List.mem_append_left _ (List.mem_append_right _ h))) (by decide +kernel))) (goodIn_sub (fun _ h => List.mem_append_left _ (List.mem_append_right _ h)) (by decide +kernel))
set_option maxRecDepth 20000 in
theorem gL_law_L_areSeamsRight : GoodIn wsL_law (va_wsS RL 225 yL_areSeamsRight wsL_areSeamsRight) := goodIn_app (goodIn_of _ (by decide +kernel)) ggL_law_L_areSeamsRight
set_option maxRecDepth 20000 in
theorem gk_ggL_law_L_arePathsRight_0 : GoodIn wsL_law [.code yL_arePathsRight cL_arePathsRight 8 (some .boolean)] := goodIn_r _ [836] (by decide +kernel) (by decide +kernel)
set_option maxRecDepth 20000 in
theorem gk_ggL_law_L_arePathsRight_1 : GoodIn wsL_law wsL_arePathsRight_r1 := goodIn_r _ [37, 690, 209, 172, 210, 570, 171, 173, 699, 700, 701, 2, 702, 12, 237, 134, 135, 136, 137, 138, 139, 140, 141, 145] (by decide +kernel) (by decide +kernel)
set_option maxRecDepth 20000 in
theorem gk_ggL_law_L_arePathsRight_2 : GoodIn wsL_law wsL_arePathsRight_r2 := goodIn_r _ [146, 147, 148, 149, 150, 151, 152, 153, 154, 155, 156, 157, 158, 159, 160, 161, 162, 163, 164, 165, 582, 192, 193, 703] (by decide +kernel) (by decide +kernel)
set_option maxRecDepth 20000 in
theorem gk_ggL_law_L_arePathsRight_3 : GoodIn wsL_law wsL_arePathsRight_r3 := goodIn_r _ [643, 644, 11, 645, 41, 709, 710, 101, 711, 578, 579, 580, 581, 583, 584, 585, 586, 38, 572, 573, 574, 114, 115, 118] (by decide +kernel) (by decide +kernel)
set_option maxRecDepth 20000 in
theorem gk_ggL_law_L_arePathsRight_4 : GoodIn wsL_law wsL_arePathsRight_r4 := goodIn_r _ [575, 576, 577, 587, 588, 589, 590, 591, 290, 291, 292, 130, 131, 42, 293, 133, 191, 592, 305, 306, 307, 43, 593, 594] (by decide +kernel) (by decide +kernel)
set_option maxRecDepth 20000 in
theorem gk_ggL_law_L_arePathsRight_5 : GoodIn wsL_law wsL_arePathsRight_r5 := goodIn_r _ [595, 596, 597, 598, 599, 132, 600, 601, 602, 603, 604, 605, 606, 607, 608, 609, 610, 611, 612, 613, 614, 615, 48, 211] (by decide +kernel) (by decide +kernel)
set_option maxRecDepth 20000 in
theorem gk_ggL_law_L_arePathsRight_6 : GoodIn wsL_law wsL_arePathsRight_r6 := goodIn_r _ [212, 213, 294, 295, 296, 297, 298, 299, 300, 301, 302, 303, 616, 617, 618, 619, 17, 620, 621, 622, 16, 623, 55, 54] (by decide +kernel) (by decide +kernel)
set_option maxRecDepth 20000 in
theorem gk_ggL_law_L_arePathsRight_7 : GoodIn wsL_law wsL_arePathsRight_r7 := goodIn_r _ [624, 625, 215, 216, 626, 627, 628, 629, 630, 631, 632, 633, 634, 635, 636, 637, 638, 639, 640, 641, 57, 642, 646, 647] (by decide +kernel) (by decide +kernel)
set_option maxRecDepth 20000 in
theorem gk_ggL_law_L_arePathsRight_8 : GoodIn wsL_law wsL_arePathsRight_r8 := goodIn_r _ [648, 649, 650, 651, 652, 653, 654, 286, 287, 288, 183, 655, 656, 657, 658, 659, 660, 661, 282, 283, 284, 202, 44, 46] (by decide +kernel) (by decide +kernel)
set_option maxRecDepth 20000 in
theorem gk_ggL_law_L_arePathsRight_9 : GoodIn wsL_law wsL_arePathsRight_r9 := goodIn_r _ [45, 203, 285, 289, 304, 308, 309, 310, 662, 663, 664, 665, 666, 667, 668, 669, 670, 671, 672, 673, 674, 143, 144, 675] (by decide +kernel) (by decide +kernel)
set_option maxRecDepth 20000 in
theorem gk_ggL_law_L_arePathsRight_10 : GoodIn wsL_law wsL_arePathsRight_r10 := goodIn_r _ [676, 677, 678, 47, 679, 680, 681, 682, 31, 683, 684, 685, 686, 32] (by decide +kernel) (by decide +kernel)
set_option maxRecDepth 20000 in
theorem gk_ggL_law_L_arePathsRight_wsX100 : GoodIn wsL_law wsX100 := goodIn_r _ [917, 918, 919, 920, 921, 922, 923, 924, 925] (by decide +kernel) (by decide +kernel)
set_option maxRecDepth 20000 in
theorem gk_ggL_law_L_arePathsRight_wsX70 : GoodIn wsL_law wsX70 := goodIn_r _ [926, 927, 928, 929, 930, 931, 932, 933, 934, 935, 936, 937, 938, 939, 940] (by decide +kernel) (by decide +kernel)
set_option maxRecDepth 20000 in
theorem gk_ggL_law_L_arePathsRight_wsX80 : GoodIn wsL_law wsX80 := goodIn_r _ [941, 942, 943, 944, 945] (by decide +kernel) (by decide +kernel)
set_option maxRecDepth 20000 in
theorem ggL_law_L_arePathsRight : GoodIn wsL_law wsL_arePathsRight := goodIn_ca (goodIn_ca (goodIn_ca (goodIn_ca (goodIn_ca (goodIn_ca (goodIn_cons gk_ggL_law_L_arePathsRight_0 (goodIn_app (goodIn_app (goodIn_app (goodIn_app gk_ggL_law_L_arePathsRight_1 (goodIn_app gk_ggL_law_L_arePathsRight_2 (goodIn_app gk_ggL_law_L_arePathsRight_3 (goodIn_app gk_ggL_law_L_arePathsRight_4 (goodIn_app gk_ggL_law_L_arePathsRight_5 (goodIn_app gk_ggL_law_L_arePathsRight_6 (goodIn_app gk_ggL_law_L_arePathsRight_7 (goodIn_app gk_ggL_law_L_arePathsRight_8 (goodIn_app gk_ggL_law_L_arePathsRight_9 gk_ggL_law_L_arePathsRight_10))))))))) gk_ggL_law_L_arePathsRight_wsX100) gk_ggL_law_L_arePathsRight_wsX70) gk_ggL_law_L_arePathsRight_wsX80)) (goodIn_sub (fun _ h => List.mem_append_left _ (List.mem_append_left _ (List.mem_append_left _ (List.mem_append_left _ (List.mem_append_left _ (List.mem_append_left _ (List.mem_append_left _ (List.mem_append_right _ h)))))))) (by decide +kernel))) (goodIn_sub (fun _ h => List.mem_append_left _ (List.mem_append_left _ (List.mem_append_left _ (List.mem_append_left _ (List.mem_append_left _ (List.mem_append_right _ h)))))) (by decide +kernel))) (goodIn_sub (fun _ h => List.mem_append_left _ (List.mem_append_left _ (List.mem_append_left _ (List.mem_append_left _ (List.mem_append_right _ h))))) (by decide +kernel))) (goodIn_sub (fun _ h => List.mem_append_left _ (List.mem_append_left _ (List.mem_append_left _ (List.mem_append_right _ h)))) (by decide +kernel))) (goodIn_sub (fun _ h => List.mem_append_left _ (List.mem_append_left _ (List.mem_append_right _ h))) (by decide +kernel))) (goodIn_sub (fun _ h => List.mem_append_left _ (List.mem_append_right _ h)) (by decide +kernel))
set_option maxRecDepth 20000 in
theorem gL_law_L_arePathsRight : GoodIn wsL_law (va_wsS RL 229 yL_arePathsRight wsL_arePathsRight) := goodIn_app (goodIn_of _ (by decide +kernel)) ggL_law_L_arePathsRight
set_option maxRecDepth 20000 in
theorem gk_ggL_law_L_areWinchesRight_0 : GoodIn wsL_law [.code yL_areWinchesRight cL_areWinchesRight 11 (some .boolean)] := goodIn_r _ [839] (by decide +kernel) (by decide +kernel)
set_option maxRecDepth 20000 in
theorem gk_ggL_law_L_areWinchesRight_1 : GoodIn wsL_law wsL_areWinchesRight_r1 := goodIn_r _ [37, 559, 560, 561, 2, 562, 12, 563, 564, 565, 11, 566, 183, 840, 841, 101, 842, 704, 705, 706, 707, 708, 627, 628] (by decide +kernel) (by decide +kernel)
set_option maxRecDepth 20000 in
theorem gk_ggL_law_L_areWinchesRight_2 : GoodIn wsL_law wsL_areWinchesRight_r2 := goodIn_r _ [629, 48, 843, 844, 845, 846, 847, 848, 849, 850, 49, 725, 726, 727, 728, 729, 730, 731, 732, 184, 851, 852, 853, 854] (by decide +kernel) (by decide +kernel)
set_option maxRecDepth 20000 in
theorem gk_ggL_law_L_areWinchesRight_3 : GoodIn wsL_law wsL_areWinchesRight_r3 := goodIn_r _ [855, 856, 857, 858, 186, 578, 579, 580, 581, 237, 134, 135, 136, 137, 138, 139, 140, 141, 145, 146, 147, 148, 149, 150] (by decide +kernel) (by decide +kernel)
set_option maxRecDepth 20000 in
theorem gk_ggL_law_L_areWinchesRight_4 : GoodIn wsL_law wsL_areWinchesRight_r4 := goodIn_r _ [151, 152, 153, 154, 155, 156, 157, 158, 159, 160, 161, 162, 163, 164, 165, 582, 192, 193, 583, 584, 585, 586, 38, 805] (by decide +kernel) (by decide +kernel)
set_option maxRecDepth 20000 in
theorem gk_ggL_law_L_areWinchesRight_5 : GoodIn wsL_law wsL_areWinchesRight_r5 := goodIn_r _ [806, 807, 808, 809, 772, 773, 774, 39, 699, 700, 701, 702, 703, 643, 644, 645, 41, 242, 243, 244, 691, 692, 693, 694] (by decide +kernel) (by decide +kernel)
set_option maxRecDepth 20000 in
theorem gk_ggL_law_L_areWinchesRight_6 : GoodIn wsL_law wsL_areWinchesRight_r6 := goodIn_r _ [695, 696, 697, 698, 42, 572, 573, 574, 114, 115, 118, 575, 576, 577, 587, 588, 589, 590, 591, 290, 291, 292, 130, 131] (by decide +kernel) (by decide +kernel)
set_option maxRecDepth 20000 in
theorem gk_ggL_law_L_areWinchesRight_7 : GoodIn wsL_law wsL_areWinchesRight_r7 := goodIn_r _ [293, 133, 191, 592, 305, 306, 307, 43, 593, 594, 595, 596, 597, 598, 599, 132, 600, 601, 602, 603, 604, 605, 606, 607] (by decide +kernel) (by decide +kernel)
set_option maxRecDepth 20000 in
theorem gk_ggL_law_L_areWinchesRight_8 : GoodIn wsL_law wsL_areWinchesRight_r8 := goodIn_r _ [608, 609, 610, 611, 612, 613, 614, 615, 211, 212, 172, 213, 294, 295, 296, 297, 209, 210, 298, 299, 300, 301, 302, 303] (by decide +kernel) (by decide +kernel)
set_option maxRecDepth 20000 in
theorem gk_ggL_law_L_areWinchesRight_9 : GoodIn wsL_law wsL_areWinchesRight_r9 := goodIn_r _ [616, 617, 618, 619, 17, 620, 621, 622, 16, 623, 55, 54, 624, 625, 215, 216, 626, 630, 631, 632, 633, 634, 635, 636] (by decide +kernel) (by decide +kernel)
set_option maxRecDepth 20000 in
theorem gk_ggL_law_L_areWinchesRight_10 : GoodIn wsL_law wsL_areWinchesRight_r10 := goodIn_r _ [637, 638, 639, 640, 641, 57, 642, 646, 647, 648, 649, 650, 651, 652, 653, 654, 286, 287, 288, 655, 656, 657, 658, 659] (by decide +kernel) (by decide +kernel)
set_option maxRecDepth 20000 in
theorem gk_ggL_law_L_areWinchesRight_11 : GoodIn wsL_law wsL_areWinchesRight_r11 := goodIn_r _ [660, 661, 282, 283, 284, 202, 44, 46, 45, 203, 285, 289, 304, 308, 309, 310, 662, 663, 664, 665, 666, 667, 668, 669] (by decide +kernel) (by decide +kernel)
set_option maxRecDepth 20000 in
theorem gk_ggL_law_L_areWinchesRight_12 : GoodIn wsL_law wsL_areWinchesRight_r12 := goodIn_r _ [670, 671, 672, 673, 674, 143, 144, 675, 676, 677, 678, 47, 679, 680, 681, 682, 31, 683, 684, 685, 686, 32, 859, 860] (by decide +kernel) (by decide +kernel)
set_option maxRecDepth 20000 in
theorem gk_ggL_law_L_areWinchesRight_13 : GoodIn wsL_law wsL_areWinchesRight_r13 := goodIn_r _ [861, 862, 29, 863, 864, 865, 866, 28, 867, 98, 868, 869, 870, 871, 97, 872, 873, 874, 875, 876, 877, 878, 879, 880] (by decide +kernel) (by decide +kernel)
set_option maxRecDepth 20000 in
theorem gk_ggL_law_L_areWinchesRight_14 : GoodIn wsL_law wsL_areWinchesRight_r14 := goodIn_r _ [270, 271, 272, 881, 882, 883, 884, 885, 886, 887, 888, 889, 890, 891, 892, 893, 894, 895, 896, 897, 30, 9, 10, 33] (by decide +kernel) (by decide +kernel)
set_option maxRecDepth 20000 in
theorem gk_ggL_law_L_areWinchesRight_15 : GoodIn wsL_law wsL_areWinchesRight_r15 := goodIn_r _ [34, 35, 36, 7, 8, 40, 499, 176, 177, 178, 179, 180, 181, 182, 185, 111, 112, 113, 116, 117, 119, 120, 121, 122] (by decide +kernel) (by decide +kernel)
set_option maxRecDepth 20000 in
theorem gk_ggL_law_L_areWinchesRight_16 : GoodIn wsL_law wsL_areWinchesRight_r16 := goodIn_r _ [123, 124, 125, 21, 126, 127, 128, 129, 142, 166, 167, 168, 20, 169, 64, 65, 63, 66, 170, 171, 173, 174, 175, 187] (by decide +kernel) (by decide +kernel)
set_option maxRecDepth 20000 in
theorem gk_ggL_law_L_areWinchesRight_17 : GoodIn wsL_law wsL_areWinchesRight_r17 := goodIn_r _ [188, 189, 190, 194, 195, 196, 197, 198, 199, 200, 201, 204, 205, 206, 207, 208, 214, 217, 218, 219, 220, 221, 222, 223] (by decide +kernel) (by decide +kernel)
set_option maxRecDepth 20000 in
theorem gk_ggL_law_L_areWinchesRight_18 : GoodIn wsL_law wsL_areWinchesRight_r18 := goodIn_r _ [224, 225, 226, 227, 228, 229, 230, 231, 232, 233, 234, 235, 236, 238, 239, 240, 241, 245, 246, 247, 248, 249, 250, 251] (by decide +kernel) (by decide +kernel)
set_option maxRecDepth 20000 in
theorem gk_ggL_law_L_areWinchesRight_19 : GoodIn wsL_law wsL_areWinchesRight_r19 := goodIn_r _ [252, 253, 254, 255, 256, 257, 258, 259, 260, 261, 262, 263, 264, 265, 266, 267, 268, 269, 273, 274, 275, 276, 277, 278] (by decide +kernel) (by decide +kernel)
set_option maxRecDepth 20000 in
theorem gk_ggL_law_L_areWinchesRight_20 : GoodIn wsL_law wsL_areWinchesRight_r20 := goodIn_r _ [279, 280, 281, 311, 312, 313, 314, 315, 316, 317, 318, 319, 320, 321, 322, 323, 324, 325, 326, 327, 328, 329, 330, 25] (by decide +kernel) (by decide +kernel)
set_option maxRecDepth 20000 in
theorem gk_ggL_law_L_areWinchesRight_21 : GoodIn wsL_law wsL_areWinchesRight_r21 := goodIn_r _ [13, 331, 332, 333, 24, 334, 76, 77, 72, 335, 336, 337, 75, 338, 339, 340, 82, 341, 342, 343, 344, 345, 346, 347] (by decide +kernel) (by decide +kernel)
set_option maxRecDepth 20000 in
theorem gk_ggL_law_L_areWinchesRight_22 : GoodIn wsL_law wsL_areWinchesRight_r22 := goodIn_r _ [348, 349, 350, 351, 352, 353, 354, 355, 356, 357, 358, 359, 360, 361, 362, 363, 364, 365, 366, 367, 368, 369, 370, 371] (by decide +kernel) (by decide +kernel)
set_option maxRecDepth 20000 in
theorem gk_ggL_law_L_areWinchesRight_23 : GoodIn wsL_law wsL_areWinchesRight_r23 := goodIn_r _ [372, 373, 374, 375, 376, 377, 378, 379, 380, 381, 382, 383, 384, 385, 386, 387, 388, 389, 390, 391, 392, 393, 394, 395] (by decide +kernel) (by decide +kernel)
set_option maxRecDepth 20000 in
theorem gk_ggL_law_L_areWinchesRight_24 : GoodIn wsL_law wsL_areWinchesRight_r24 := goodIn_r _ [396, 397, 398, 399, 400, 401, 402, 403, 404, 405, 406, 407, 408, 409, 410, 411, 412, 413, 414, 415, 416, 417, 418, 419] (by decide +kernel) (by decide +kernel)
set_option maxRecDepth 20000 in
theorem gk_ggL_law_L_areWinchesRight_25 : GoodIn wsL_law wsL_areWinchesRight_r25 := goodIn_r _ [420, 421, 422, 423, 424, 425, 426, 427, 428, 429, 430, 431, 432, 433, 434, 435, 436, 437, 438, 439, 440, 441, 442, 443] (by decide +kernel) (by decide +kernel)
set_option maxRecDepth 20000 in
theorem gk_ggL_law_L_areWinchesRight_26 : GoodIn wsL_law wsL_areWinchesRight_r26 := goodIn_r _ [444, 445, 446, 447, 448, 449, 450, 451, 452, 453, 454, 455, 456, 457, 458, 81, 459, 460, 461, 462, 463, 464, 465, 466] (by decide +kernel) (by decide +kernel)
set_option maxRecDepth 20000 in
theorem gk_ggL_law_L_areWinchesRight_27 : GoodIn wsL_law wsL_areWinchesRight_r27 := goodIn_r _ [467, 468, 469, 470, 471, 472, 473, 474, 475, 476, 477, 478, 479, 480, 481, 482, 483, 484, 485, 486, 487, 488, 489, 490] (by decide +kernel) (by decide +kernel)
set_option maxRecDepth 20000 in
theorem gk_ggL_law_L_areWinchesRight_28 : GoodIn wsL_law wsL_areWinchesRight_r28 := goodIn_r _ [491, 492, 493, 494, 495, 496, 497, 498, 500, 501, 502, 503, 504, 505, 506, 507, 508, 509, 510, 511, 512, 513, 514, 515] (by decide +kernel) (by decide +kernel)
set_option maxRecDepth 20000 in
theorem gk_ggL_law_L_areWinchesRight_29 : GoodIn wsL_law wsL_areWinchesRight_r29 := goodIn_r _ [516, 517, 518, 519, 520, 521, 522, 523, 524, 525, 526, 527, 528, 529, 530, 531, 532, 533, 534, 535, 536, 537, 538, 539] (by decide +kernel) (by decide +kernel)
set_option maxRecDepth 20000 in
theorem gk_ggL_law_L_areWinchesRight_30 : GoodIn wsL_law wsL_areWinchesRight_r30 := goodIn_r _ [540, 541, 542, 543, 544, 545, 546, 547, 548, 549, 550, 551, 552, 553, 554, 898, 899, 900, 901, 902, 903, 904, 905, 906] (by decide +kernel) (by decide +kernel)
set_option maxRecDepth 20000 in
theorem gk_ggL_law_L_areWinchesRight_31 : GoodIn wsL_law wsL_areWinchesRight_r31 := goodIn_r _ [907, 908, 909, 910, 911, 912, 913] (by decide +kernel) (by decide +kernel)
set_option maxRecDepth 20000 in
theorem gk_ggL_law_L_areWinchesRight_wsX100 : GoodIn wsL_law wsX100 := goodIn_r _ [917, 918, 919, 920, 921, 922, 923, 924, 925] (by decide +kernel) (by decide +kernel)
set_option maxRecDepth 20000 in
theorem gk_ggL_law_L_areWinchesRight_wsX70 : GoodIn wsL_law wsX70 := goodIn_r _ [926, 927, 928, 929, 930, 931, 932, 933, 934, 935, 936, 937, 938, 939, 940] (by decide +kernel) (by decide +kernel)
set_option maxRecDepth 20000 in
theorem gk_ggL_law_L_areWinchesRight_wsX80 : GoodIn wsL_law wsX80 := goodIn_r _ [941, 942, 943, 944, 945] (by decide +kernel) (by decide +kernel)
set_option maxRecDepth 20000 in
theorem gk_ggL_law_L_areWinchesRight_wsX50 : GoodIn wsL_law wsX50 := goodIn_r _ [952, 953] (by decide +kernel) (by decide +kernel)
set_option maxRecDepth 20000 in
theorem gk_ggL_law_L_areWinchesRight_wsX40 : GoodIn wsL_law wsX40 := goodIn_r _ [946, 947, 948] (by decide +kernel) (by decide +kernel)
set_option maxRecDepth 20000 in
theorem gk_ggL_law_L_areWinchesRight_wsX60 : GoodIn wsL_law wsX60 := goodIn_r _ [949, 950, 951] (by decide +kernel) (by decide +kernel)
set_option maxRecDepth 20000 in
theorem gk_ggL_law_L_areWinchesRight_wsJx4a65c0 : GoodIn wsL_law wsJx4a65c0 := goodIn_r _ [954, 955, 956] (by decide +kernel) (by decide +kernel)
set_option maxRecDepth 20000 in
theorem gk_ggL_law_L_areWinchesRight_wsJ00 : GoodIn wsL_law wsJ00 := goodIn_r _ [957, 958] (by decide +kernel) (by decide +kernel)
set_option maxRecDepth 20000 in
theorem gk_ggL_law_L_areWinchesRight_wsX10 : GoodIn wsL_law wsX10 := goodIn_r _ [959, 960, 961] (by decide +kernel) (by decide +kernel)
set_option maxRecDepth 20000 in
theorem ggL_law_L_areWinchesRight : GoodIn wsL_law wsL_areWinchesRight := goodIn_ca (goodIn_ca (goodIn_ca (goodIn_ca (goodIn_ca (goodIn_ca (goodIn_cons gk_ggL_law_L_areWinchesRight_0 (goodIn_app (goodIn_app (goodIn_app (goodIn_app (goodIn_app (goodIn_app (goodIn_app (goodIn_app (goodIn_app (goodIn_app gk_ggL_law_L_areWinchesRight_1 (goodIn_app gk_ggL_law_L_areWinchesRight_2 (goodIn_app gk_ggL_law_L_areWinchesRight_3 (goodIn_app gk_ggL_law_L_areWinchesRight_4 (goodIn_app gk_ggL_law_L_areWinchesRight_5 (goodIn_app gk_ggL_law_L_areWinchesRight_6 (goodIn_app gk_ggL_law_L_areWinchesRight_7 (goodIn_app gk_ggL_law_L_areWinchesRight_8 (goodIn_app gk_ggL_law_L_areWinchesRight_9 (goodIn_app gk_ggL_law_L_areWinchesRight_10 (goodIn_app gk_ggL_law_L_areWinchesRight_11 (goodIn_app gk_ggL_law_L_areWinchesRight_12 (goodIn_app gk_ggL_law_L_areWinchesRight_13 (goodIn_app gk_ggL_law_L_areWinchesRight_14 (goodIn_app gk_ggL_law_L_areWinchesRight_15 (goodIn_app gk_ggL_law_L_areWinchesRight_16 (goodIn_app gk_ggL_law_L_areWinchesRight_17 (goodIn_app gk_ggL_law_L_areWinchesRight_18 (goodIn_app gk_ggL_law_L_areWinchesRight_19 (goodIn_app gk_ggL_law_L_areWinchesRight_20 (goodIn_app gk_ggL_law_L_areWinchesRight_21 (goodIn_app gk_ggL_law_L_areWinchesRight_22 (goodIn_app gk_ggL_law_L_areWinchesRight_23 (goodIn_app gk_ggL_law_L_areWinchesRight_24 (goodIn_app gk_ggL_law_L_areWinchesRight_25 (goodIn_app gk_ggL_law_L_areWinchesRight_26 (goodIn_app gk_ggL_law_L_areWinchesRight_27 (goodIn_app gk_ggL_law_L_areWinchesRight_28 (goodIn_app gk_ggL_law_L_areWinchesRight_29 (goodIn_app gk_ggL_law_L_areWinchesRight_30 gk_ggL_law_L_areWinchesRight_31)))))))))))))))))))))))))))))) gk_ggL_law_L_areWinchesRight_wsX100) gk_ggL_law_L_areWinchesRight_wsX70) gk_ggL_law_L_areWinchesRight_wsX80) gk_ggL_law_L_areWinchesRight_wsX50) gk_ggL_law_L_areWinchesRight_wsX40) gk_ggL_law_L_areWinchesRight_wsX60) gk_ggL_law_L_areWinchesRight_wsJx4a65c0) gk_ggL_law_L_areWinchesRight_wsJ00) gk_ggL_law_L_areWinchesRight_wsX10)) (goodIn_sub (fun _ h => List.mem_append_left _ (List.mem_append_left _ (List.mem_append_left _ (List.mem_append_left _ (List.mem_append_left _ (List.mem_append_left _ (List.mem_append_left _ (List.mem_append_right _ h)))))))) (by decide +kernel))) (goodIn_sub (fun _ h => List.mem_append_left _ (List.mem_append_left _ (List.mem_append_left _ (List.mem_append_left _ (List.mem_append_left _ (List.mem_append_right _ h)))))) (by decide +kernel))) (goodIn_sub (fun _ h => List.mem_append_left _ (List.mem_append_left _ (List.mem_append_left _ (List.mem_append_left _ (List.mem_append_right _ h))))) (by decide +kernel))) (goodIn_sub (fun _ h => List.mem_append_left _ (List.mem_append_left _ (List.mem_append_left _ (List.mem_append_right _ h)))) (by decide +kernel))) (goodIn_sub (fun _ h => List.mem_append_left _ (List.mem_append_left _ (List.mem_append_right _ h))) (by decide +kernel))) (goodIn_sub (fun _ h => List.mem_append_left _ (List.mem_append_right _ h)) (by decide +kernel))
set_option maxRecDepth 20000 in
theorem gL_law_L_areWinchesRight : GoodIn wsL_law (va_wsS RL 232 yL_areWinchesRight wsL_areWinchesRight) := goodIn_app (goodIn_of _ (by decide +kernel)) ggL_law_L_areWinchesRight
