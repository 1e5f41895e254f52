theorem lw_sub {ws : List Cond} (ps : List Nat) (hp : ws = ps.filterMap (fun i => lw_tbl[i]?)) : ∀ w ∈ ws, w ∈ lw_tbl := by
  intro w hw
  rw [hp] at hw
  obtain ⟨i, -, hi⟩ := List.mem_filterMap.mp hw
  exact List.mem_of_getElem? hi
set_option maxRecDepth 100000 in
theorem lwp_1 : ∀ w ∈ wsL_law0_r1, w ∈ lw_tbl := lw_sub [51, 52, 17, 53, 54, 55, 56, 57, 58, 59, 60, 18, 209, 210, 113, 114, 19, 211, 135, 136, 20, 212, 153, 154] rfl
set_option maxRecDepth 100000 in
theorem lwp_2 : ∀ w ∈ wsL_law0_r2, w ∈ lw_tbl := lw_sub [21, 213, 196, 197, 25, 214, 215, 216, 217, 61, 62, 63, 64, 111, 65, 66, 112, 67, 68, 69, 70, 71, 72, 73] rfl
set_option maxRecDepth 100000 in
theorem lwp_3 : ∀ w ∈ wsL_law0_r3, w ∈ lw_tbl := lw_sub [75, 76, 115, 116, 117, 118, 119, 120, 121, 122, 123, 137, 138, 139, 140, 141, 143, 144, 145, 155, 156, 157, 158, 185] rfl
set_option maxRecDepth 100000 in
theorem lwp_4 : ∀ w ∈ wsL_law0_r4, w ∈ lw_tbl := lw_sub [186, 159, 160, 24, 187, 188, 161, 162, 163, 171, 173, 164, 165, 23, 166, 175, 167, 168, 22, 169, 170, 198, 199, 200] rfl
set_option maxRecDepth 100000 in
theorem lwp_5 : ∀ w ∈ wsL_law0_r5, w ∈ lw_tbl := lw_sub [201, 202, 203, 245, 246, 16, 247, 237, 238, 239, 240, 241, 242, 243, 244, 248, 249, 250, 251, 331, 332, 333, 334, 335] rfl
set_option maxRecDepth 100000 in
theorem lwp_6 : ∀ w ∈ wsL_law0_r6, w ∈ lw_tbl := lw_sub [336, 337, 338, 339, 340, 341, 342, 343, 344, 345, 356, 357, 361, 346, 347, 32, 348, 352, 354, 349, 350, 351, 358, 359] rfl
set_option maxRecDepth 100000 in
theorem lwp_7 : ∀ w ∈ wsL_law0_r7, w ∈ lw_tbl := lw_sub [360, 363, 364, 365, 374, 29, 387, 36, 403, 37, 419, 38, 435, 39, 366, 368, 369, 371, 372, 33, 373, 1272, 451, 452] rfl
set_option maxRecDepth 100000 in
theorem lwp_8 : ∀ w ∈ wsL_law0_r8, w ∈ lw_tbl := lw_sub [453, 454, 463, 464, 41, 465, 455, 456, 457, 458, 459, 460, 462, 461, 40, 74, 77, 78, 79, 466, 467, 468, 469, 470] rfl
set_option maxRecDepth 100000 in
theorem lwp_9 : ∀ w ∈ wsL_law0_r9, w ∈ lw_tbl := lw_sub [471, 472, 473, 474, 475, 476, 477, 478, 479, 480, 481, 496, 483, 485, 1, 486, 490, 491, 492, 493, 494, 495, 487, 488] rfl
set_option maxRecDepth 100000 in
theorem lwp_10 : ∀ w ∈ wsL_law0_r10, w ∈ lw_tbl := lw_sub [489, 498, 499, 500, 501, 502, 503, 504, 505, 506, 507, 508, 509, 510, 511, 512, 513, 514, 515, 516, 517, 518, 519, 520] rfl
set_option maxRecDepth 100000 in
theorem lwp_11 : ∀ w ∈ wsL_law0_r11, w ∈ lw_tbl := lw_sub [521, 522, 523, 524, 525, 526, 527, 528, 529, 530, 531, 532, 533, 534, 535, 536, 537, 538, 539, 540, 541, 542, 543, 544] rfl
set_option maxRecDepth 100000 in
theorem lwp_12 : ∀ w ∈ wsL_law0_r12, w ∈ lw_tbl := lw_sub [545, 546, 547, 548, 549, 550, 551, 552, 553, 554, 555, 556, 557, 558, 559, 560, 561, 562, 563, 564, 565, 566, 567, 568] rfl
set_option maxRecDepth 100000 in
theorem lwp_13 : ∀ w ∈ wsL_law0_r13, w ∈ lw_tbl := lw_sub [569, 570, 571, 572, 573, 574, 576, 577, 578, 582, 579, 580, 581, 583, 584, 585, 586, 587, 588, 589, 590, 591, 592, 593] rfl
set_option maxRecDepth 100000 in
theorem lwp_14 : ∀ w ∈ wsL_law0_r14, w ∈ lw_tbl := lw_sub [594, 595, 596, 597, 598, 599, 600, 601, 602, 603, 604, 605, 606, 607, 608, 609, 610, 611, 612, 613, 614, 615, 616, 617] rfl
set_option maxRecDepth 100000 in
theorem lwp_15 : ∀ w ∈ wsL_law0_r15, w ∈ lw_tbl := lw_sub [618, 619, 620, 176, 177, 174, 621, 623, 2, 624, 625, 626, 42, 627, 628, 630, 631, 632, 633, 635, 3, 636, 637, 638] rfl
set_option maxRecDepth 100000 in
theorem lwp_16 : ∀ w ∈ wsL_law0_r16, w ∈ lw_tbl := lw_sub [639, 640, 1273, 641, 642, 643, 31, 644, 1274, 645, 646, 647, 648, 649, 1275, 651, 652, 653, 654, 655, 656, 657, 658, 659] rfl
set_option maxRecDepth 100000 in
theorem lwp_17 : ∀ w ∈ wsL_law0_r17, w ∈ lw_tbl := lw_sub [660, 661, 662, 663, 664, 665, 666, 667, 668, 43, 669, 670, 671, 672, 673, 675, 676, 44, 677, 678, 679, 45, 680, 681] rfl
set_option maxRecDepth 100000 in
theorem lwp_18 : ∀ w ∈ wsL_law0_r18, w ∈ lw_tbl := lw_sub [682, 683, 684, 685, 686, 687, 688, 689, 690, 691, 693, 695, 697, 698, 699, 700, 702, 4, 703, 704, 705, 707, 5, 708] rfl
set_option maxRecDepth 100000 in
theorem lwp_19 : ∀ w ∈ wsL_law0_r19, w ∈ lw_tbl := lw_sub [709, 710, 46, 788, 711, 712, 713, 714, 715, 716, 717, 725, 726, 727, 728, 729, 731, 6, 732, 733, 735, 7, 736, 737] rfl
set_option maxRecDepth 100000 in
theorem lwp_20 : ∀ w ∈ wsL_law0_r20, w ∈ lw_tbl := lw_sub [739, 8, 740, 781, 782, 741, 742, 47, 743, 744, 745, 746, 747, 748, 749, 750, 48, 751, 752, 1263, 753, 772, 773, 774] rfl
set_option maxRecDepth 100000 in
theorem lwp_21 : ∀ w ∈ wsL_law0_r21, w ∈ lw_tbl := lw_sub [775, 776, 778, 779, 780, 783, 784, 785, 786, 787, 790, 791, 792, 793, 794, 795, 796, 797, 798, 800, 801, 802, 803, 804] rfl
set_option maxRecDepth 100000 in
theorem lwp_22 : ∀ w ∈ wsL_law0_r22, w ∈ lw_tbl := lw_sub [709, 838, 805, 806, 807, 808, 809, 810, 811, 812, 813, 814, 49, 815, 816, 817, 818, 819, 820, 821, 822, 823, 824, 825] rfl
set_option maxRecDepth 100000 in
theorem lwp_23 : ∀ w ∈ wsL_law0_r23, w ∈ lw_tbl := lw_sub [827, 828, 829, 830, 831, 832, 833, 834, 835, 836, 837, 839, 840, 841, 842, 843, 844, 845, 846, 847, 848, 849, 850, 852] rfl
set_option maxRecDepth 100000 in
theorem lwp_24 : ∀ w ∈ wsL_law0_r24, w ∈ lw_tbl := lw_sub [853, 854, 855, 856, 857, 858, 867, 859, 860, 861, 862, 863, 864, 865, 866, 868, 869, 870, 1014, 1057, 871, 872, 873, 874] rfl
set_option maxRecDepth 100000 in
theorem lwp_25 : ∀ w ∈ wsL_law0_r25, w ∈ lw_tbl := lw_sub [875, 876, 877, 878, 879, 880, 881, 882, 883, 884, 885, 886, 887, 888, 889, 890, 891, 892, 893, 894, 895, 896, 897, 898] rfl
set_option maxRecDepth 100000 in
theorem lwp_26 : ∀ w ∈ wsL_law0_r26, w ∈ lw_tbl := lw_sub [899, 900, 901, 902, 903, 904, 905, 906, 907, 908, 909, 910, 911, 912, 913, 914, 915, 916, 917, 918, 919, 920, 921, 922] rfl
set_option maxRecDepth 100000 in
theorem lwp_27 : ∀ w ∈ wsL_law0_r27, w ∈ lw_tbl := lw_sub [923, 924, 925, 926, 927, 928, 929, 931, 9, 932, 933, 934, 935, 936, 937, 938, 939, 940, 941, 942, 943, 944, 945, 946] rfl
set_option maxRecDepth 100000 in
theorem lwp_28 : ∀ w ∈ wsL_law0_r28, w ∈ lw_tbl := lw_sub [947, 948, 950, 951, 952, 953, 954, 956, 957, 958, 959, 960, 961, 962, 963, 964, 965, 966, 967, 968, 969, 970, 972, 973] rfl
set_option maxRecDepth 100000 in
theorem lwp_29 : ∀ w ∈ wsL_law0_r29, w ∈ lw_tbl := lw_sub [974, 975, 976, 978, 979, 980, 981, 982, 983, 984, 985, 987, 988, 989, 990, 992, 993, 994, 995, 996, 997, 998, 999, 1000] rfl
set_option maxRecDepth 100000 in
theorem lwp_30 : ∀ w ∈ wsL_law0_r30, w ∈ lw_tbl := lw_sub [1001, 1002, 1003, 1004, 1005, 1006, 1007, 1008, 1009, 1010, 1011, 1012, 1013, 1015, 1016, 1017, 1018, 1019, 1020, 1021, 1022, 1023, 1024, 1025] rfl
set_option maxRecDepth 100000 in
theorem lwp_31 : ∀ w ∈ wsL_law0_r31, w ∈ lw_tbl := lw_sub [1026, 1027, 1028, 1029, 1030, 1031, 1032, 1033, 1034, 1035, 1036, 1037, 1038, 1039, 1040, 1041, 1042, 1043, 1044, 1045, 1046, 1047, 1048, 1049] rfl
set_option maxRecDepth 100000 in
theorem lwp_32 : ∀ w ∈ wsL_law0_r32, w ∈ lw_tbl := lw_sub [1050, 1051, 1056, 1052, 1053, 1054, 1055, 1058, 1059, 1060, 1061, 1062, 1063, 1064, 1065, 1066, 1067, 1069, 10, 1070, 1071, 1073, 11, 1074] rfl
set_option maxRecDepth 100000 in
theorem lwp_33 : ∀ w ∈ wsL_law0_r33, w ∈ lw_tbl := lw_sub [1075, 1076, 1077, 1078, 1079, 1080, 1081, 1082, 1083, 1084, 1085, 1086, 1087, 1089, 12, 1090, 1091, 1093, 13, 1094, 1095, 1096, 1097, 1098] rfl
set_option maxRecDepth 100000 in
theorem lwp_34 : ∀ w ∈ wsL_law0_r34, w ∈ lw_tbl := lw_sub [1099, 1100, 1101, 1102, 1103, 1104, 1105, 1106, 1107, 50, 1123, 1124, 1125, 1126, 1127, 1128, 1129, 1130, 1131, 1132, 1133, 1134, 1135, 1136] rfl
set_option maxRecDepth 100000 in
theorem lwp_35 : ∀ w ∈ wsL_law0_r35, w ∈ lw_tbl := lw_sub [1137, 1138, 1139, 1140, 1141, 1142, 1143, 1144, 1145, 1146, 1147, 1148, 1149, 1150, 1151, 1152, 1153, 1154, 1155, 1156, 1157, 1158, 1159, 1160] rfl
set_option maxRecDepth 100000 in
theorem lwp_36 : ∀ w ∈ wsL_law0_r36, w ∈ lw_tbl := lw_sub [1161, 1162, 1163, 1164, 1165, 1166, 1167, 1168, 1169, 1170, 1171, 1172, 1173, 1174, 1175, 1176, 1177, 1178, 1179, 1180, 1181, 1182, 1183, 1184] rfl
set_option maxRecDepth 100000 in
theorem lwp_37 : ∀ w ∈ wsL_law0_r37, w ∈ lw_tbl := lw_sub [1186, 1187, 1188, 1189, 1190, 1192, 14, 1193, 1194, 1195, 1197, 15, 1198, 1199, 1200, 1201, 1202, 1203, 1204, 1205, 1206, 1207, 1208, 1209] rfl
set_option maxRecDepth 100000 in
theorem lwp_38 : ∀ w ∈ wsL_law0_r38, w ∈ lw_tbl := lw_sub [1210, 1211, 1213, 1214, 1215, 1216, 1217, 1218, 1219, 1220, 1221, 1222, 1223, 1224, 1226, 1227, 1228, 1229, 1230, 1231, 1232, 1233, 1234, 1235] rfl
set_option maxRecDepth 100000 in
theorem lwp_39 : ∀ w ∈ wsL_law0_r39, w ∈ lw_tbl := lw_sub [1236, 1237, 1238, 1239, 1240] rfl
set_option maxRecDepth 100000 in
theorem lwp_wsX100 : ∀ w ∈ wsX100, w ∈ lw_tbl := by decide +kernel
set_option maxRecDepth 100000 in
theorem lwp_wsX70 : ∀ w ∈ wsX70, w ∈ lw_tbl := by decide +kernel
set_option maxRecDepth 100000 in
theorem lwp_wsX80 : ∀ w ∈ wsX80, w ∈ lw_tbl := by decide +kernel
set_option maxRecDepth 100000 in
theorem lwp_wsX40 : ∀ w ∈ wsX40, w ∈ lw_tbl := by decide +kernel
set_option maxRecDepth 100000 in
theorem lwp_wsX60 : ∀ w ∈ wsX60, w ∈ lw_tbl := by decide +kernel
set_option maxRecDepth 100000 in
theorem lwp_wsX50 : ∀ w ∈ wsX50, w ∈ lw_tbl := by decide +kernel
set_option maxRecDepth 100000 in
theorem lwp_wsJx4a65c0 : ∀ w ∈ wsJx4a65c0, w ∈ lw_tbl := by decide +kernel
set_option maxRecDepth 100000 in
theorem lwp_wsJ00 : ∀ w ∈ wsJ00, w ∈ lw_tbl := by decide +kernel
set_option maxRecDepth 100000 in
theorem lwp_wsX10 : ∀ w ∈ wsX10, w ∈ lw_tbl := by decide +kernel
theorem wsL_law_in0 : ∀ w ∈ wsL_law0, w ∈ lw_tbl := (List.forall_mem_append.mpr ⟨(List.forall_mem_append.mpr ⟨(List.forall_mem_append.mpr ⟨(List.forall_mem_append.mpr ⟨(List.forall_mem_append.mpr ⟨(List.forall_mem_append.mpr ⟨(List.forall_mem_append.mpr ⟨(List.forall_mem_append.mpr ⟨(List.forall_mem_append.mpr ⟨(List.forall_mem_append.mpr ⟨(List.forall_mem_append.mpr ⟨lwp_1, (List.forall_mem_append.mpr ⟨lwp_2, (List.forall_mem_append.mpr ⟨lwp_3, (List.forall_mem_append.mpr ⟨lwp_4, (List.forall_mem_append.mpr ⟨lwp_5, (List.forall_mem_append.mpr ⟨lwp_6, (List.forall_mem_append.mpr ⟨lwp_7, (List.forall_mem_append.mpr ⟨lwp_8, (List.forall_mem_append.mpr ⟨lwp_9, (List.forall_mem_append.mpr ⟨lwp_10, (List.forall_mem_append.mpr ⟨lwp_11, (List.forall_mem_append.mpr ⟨lwp_12, (List.forall_mem_append.mpr ⟨lwp_13, (List.forall_mem_append.mpr ⟨lwp_14, (List.forall_mem_append.mpr ⟨lwp_15, (List.forall_mem_append.mpr ⟨lwp_16, (List.forall_mem_append.mpr ⟨lwp_17, (List.forall_mem_append.mpr ⟨lwp_18, (List.forall_mem_append.mpr ⟨lwp_19, (List.forall_mem_append.mpr ⟨lwp_20, (List.forall_mem_append.mpr ⟨lwp_21, (List.forall_mem_append.mpr ⟨lwp_22, (List.forall_mem_append.mpr ⟨lwp_23, (List.forall_mem_append.mpr ⟨lwp_24, (List.forall_mem_append.mpr ⟨lwp_25, (List.forall_mem_append.mpr ⟨lwp_26, (List.forall_mem_append.mpr ⟨lwp_27, (List.forall_mem_append.mpr ⟨lwp_28, (List.forall_mem_append.mpr ⟨lwp_29, (List.forall_mem_append.mpr ⟨lwp_30, (List.forall_mem_append.mpr ⟨lwp_31, (List.forall_mem_append.mpr ⟨lwp_32, (List.forall_mem_append.mpr ⟨lwp_33, (List.forall_mem_append.mpr ⟨lwp_34, (List.forall_mem_append.mpr ⟨lwp_35, (List.forall_mem_append.mpr ⟨lwp_36, (List.forall_mem_append.mpr ⟨lwp_37, (List.forall_mem_append.mpr ⟨lwp_38, lwp_39⟩)⟩)⟩)⟩)⟩)⟩)⟩)⟩)⟩)⟩)⟩)⟩)⟩)⟩)⟩)⟩)⟩)⟩)⟩)⟩)⟩)⟩)⟩)⟩)⟩)⟩)⟩)⟩)⟩)⟩)⟩)⟩)⟩)⟩)⟩)⟩)⟩)⟩), lwp_wsX100⟩), lwp_wsX70⟩), lwp_wsX80⟩), lwp_wsX40⟩), lwp_wsX60⟩), lwp_wsX50⟩), lwp_wsJx4a65c0⟩), lwp_wsJ00⟩), lwp_wsX10⟩), fun _ h => nomatch h⟩)
set_option maxRecDepth 100000 in
theorem wsL_law_x0 : ∀ w ∈ (vx_atM "java/lang/ArrayIndexOutOfBoundsException" ["java/lang/IndexOutOfBoundsException", "java/lang/RuntimeException", "java/lang/Exception"]).filter goodWord, w ∈ lw_tbl := by decide +kernel
set_option maxRecDepth 100000 in
theorem wsL_law_x1 : ∀ w ∈ (vx_atM "java/lang/ArithmeticException" ["java/lang/RuntimeException", "java/lang/Exception"]).filter goodWord, w ∈ lw_tbl := by decide +kernel
set_option maxRecDepth 100000 in
theorem wsL_law_x2 : ∀ w ∈ (vx_atS RX10 209 "java/lang/IndexOutOfBoundsException" ["java/lang/RuntimeException", "java/lang/Exception"]).filter goodWord, w ∈ lw_tbl := by decide +kernel
set_option maxRecDepth 100000 in
theorem wsL_law_x3 : ∀ w ∈ (vx_atS RX10 225 "java/lang/IllegalArgumentException" ["java/lang/RuntimeException", "java/lang/Exception"]).filter goodWord, w ∈ lw_tbl := by decide +kernel
set_option maxRecDepth 100000 in
theorem wsL_law_x4 : ∀ w ∈ (vx_atX RX10 196 "java/util/NoSuchElementException" 13 prog_42_method_4_code "java/lang/RuntimeException" ["java/lang/Exception"]).filter goodWord, w ∈ lw_tbl := by decide +kernel
set_option maxRecDepth 100000 in
theorem wsL_law_x5 : ∀ w ∈ (vx_atS RX10 275 "java/lang/IllegalStateException" ["java/lang/RuntimeException", "java/lang/Exception"]).filter goodWord, w ∈ lw_tbl := by decide +kernel
set_option maxRecDepth 100000 in
theorem wsL_law_x6 : ∀ w ∈ (vx_atS RX10 298 "java/lang/UnsupportedOperationException" ["java/lang/RuntimeException", "java/lang/Exception"]).filter goodWord, w ∈ lw_tbl := by decide +kernel
set_option maxRecDepth 100000 in
theorem wsL_law_x7 : ∀ w ∈ (vx_atS RX10 254 "java/lang/ArithmeticException" ["java/lang/RuntimeException", "java/lang/Exception"]).filter goodWord, w ∈ lw_tbl := by decide +kernel
set_option maxRecDepth 100000 in
theorem wsL_law_in : ∀ w ∈ wsL_law, w ∈ lw_tbl := fun w h => (List.mem_append.mp h).elim (fun h => (List.mem_append.mp h).elim (fun h => (List.mem_append.mp h).elim (fun h => (List.mem_append.mp h).elim (fun h => (List.mem_append.mp h).elim (fun h => (List.mem_append.mp h).elim (fun h => (List.mem_append.mp h).elim (fun h => (List.mem_append.mp h).elim (fun h => wsL_law_in0 w h) (fun h => wsL_law_x0 w h)) (fun h => wsL_law_x1 w h)) (fun h => wsL_law_x2 w h)) (fun h => wsL_law_x3 w h)) (fun h => wsL_law_x4 w h)) (fun h => wsL_law_x5 w h)) (fun h => wsL_law_x6 w h)) (fun h => wsL_law_x7 w h)
