/-! ===== what the tables and the Statement say of the start ===== -/
def nwC : List Cond := flatC (Jvm.Cond.and given_1 narrow_1)
theorem nw_sub {ws : List Cond} (ps : List Nat) (hp : ws = ps.filterMap (fun i => nwC[i]?)) : ∀ w ∈ ws, w ∈ nwC := by
  intro w hw
  rw [hp] at hw
  obtain ⟨i, -, hi⟩ := List.mem_filterMap.mp hw
  exact List.mem_of_getElem? hi
def tFa (i : Nat) : Term := .static "TerraceQuarry$Fault" (stF.getD i "") "LTerraceQuarry$Fault;"
def tVe (i : Nat) : Term := .static "TerraceQuarry$Verb" (stV.getD i "") "LTerraceQuarry$Verb;"
def tSt (i : Nat) : Term := .string (stT.getD i ("", 0, "")).1 (stT.getD i ("", 0, "")).2.1
def tSv (i : Nat) : Term := .field (tSt i) "java/lang/String" "value" "[B"
def tAll : Term := (.static "TerraceQuarry$Verb" "ALL" "[LTerraceQuarry$Verb;")
def tSwF : Term := (.static "TerraceQuarry$1" "$SwitchMap$TerraceQuarry$Fault" "[I")
def tSwV : Term := (.static "TerraceQuarry$1" "$SwitchMap$TerraceQuarry$Verb" "[I")
def tEmp : Term := (.static "java/util/ArrayList" "DEFAULTCAPACITY_EMPTY_ELEMENTDATA" "[Ljava/lang/Object;")
set_option maxRecDepth 100000 in
theorem nwF_ex : ∀ w ∈ (List.range 6).map (fun i => Cond.exactly (tFa i) "TerraceQuarry$Fault"), w ∈ nwC := nw_sub [8, 10, 24, 39, 13, 17] (by decide +kernel)
set_option maxRecDepth 100000 in
theorem nwF_or : ∀ w ∈ (List.range 6).map (fun i => Cond.eq (.field (tFa i) "java/lang/Enum" "ordinal" "I") (.int (([0, 1, 2, 3, 4, 5] : List Int32).getD i 0))), w ∈ nwC := nw_sub [9, 11, 25, 40, 14, 18] (by decide +kernel)
def prF : List (Nat × Nat) := [(0, 1), (0, 2), (0, 3), (0, 4), (0, 5), (1, 2), (1, 3), (1, 4), (1, 5), (2, 3), (4, 2), (4, 3), (4, 5), (5, 2), (5, 3)]
set_option maxRecDepth 100000 in
theorem nwF_ne : ∀ w ∈ prF.map (fun p => Cond.not (Cond.eq (tFa p.1) (tFa p.2))), w ∈ nwC := nw_sub [12, 26, 41, 15, 19, 27, 42, 16, 20, 45, 28, 43, 21, 29, 44] (by decide +kernel)
set_option maxRecDepth 100000 in
theorem nwV_ex : ∀ w ∈ (List.range 8).map (fun i => Cond.exactly (tVe i) "TerraceQuarry$Verb"), w ∈ nwC := nw_sub [84, 94, 105, 117, 130, 144, 159, 64] (by decide +kernel)
set_option maxRecDepth 100000 in
theorem nwV_or : ∀ w ∈ (List.range 8).map (fun i => Cond.eq (.field (tVe i) "java/lang/Enum" "ordinal" "I") (.int (([0, 1, 2, 3, 4, 5, 6, 7] : List Int32).getD i 0))), w ∈ nwC := nw_sub [85, 95, 106, 118, 131, 145, 160, 65] (by decide +kernel)
def prV : List (Nat × Nat) := [(0, 1), (0, 2), (0, 3), (0, 4), (0, 5), (0, 6), (1, 2), (1, 3), (1, 4), (1, 5), (1, 6), (2, 3), (2, 4), (2, 5), (2, 6), (3, 4), (3, 5), (3, 6), (4, 5), (4, 6), (5, 6), (7, 0), (7, 1), (7, 2), (7, 3), (7, 4), (7, 5), (7, 6)]
set_option maxRecDepth 100000 in
theorem nwV_ne : ∀ w ∈ prV.map (fun p => Cond.not (Cond.eq (tVe p.1) (tVe p.2))), w ∈ nwC := nw_sub [104, 115, 127, 140, 154, 169, 116, 128, 141, 155, 170, 129, 142, 156, 171, 143, 157, 172, 158, 173, 174, 93, 103, 114, 126, 139, 153, 168] (by decide +kernel)
set_option maxRecDepth 100000 in
theorem nwV_fo : ∀ w ∈ (List.range 8).map (fun i => Cond.eq (.field (tVe i) "TerraceQuarry$Verb" "form" "Ljava/lang/String;") (tSt i)), w ∈ nwC := nw_sub [86, 96, 107, 119, 132, 146, 161, 66] (by decide +kernel)
set_option maxRecDepth 100000 in
theorem nwA : ∀ w ∈ [Cond.arrayOf tAll (.object "TerraceQuarry$Verb"), Cond.eq (.length tAll) (.int (Int32.ofNat 8)), Cond.arrayOf tSwF .int, Cond.eq (.length tSwF) (.int (Int32.ofNat 6)), Cond.arrayOf tSwV .int, Cond.eq (.length tSwV) (.int (Int32.ofNat 8)), Cond.arrayOf tEmp (.object "java/lang/Object"), Cond.eq (.length tEmp) (.int (Int32.ofNat 0)), Cond.eq (.static "java/lang/String" "COMPACT_STRINGS" "Z") (.int 1), Cond.isRef (.static "jdk/internal/util/Preconditions" "SIOOBE_FORMATTER" "Ljava/util/function/BiFunction;"), Cond.isRef (.static Bundle.tN "UNASSIGNED_STACK" Bundle.steD), Cond.isRef (.static Bundle.tN "SUPPRESSED_SENTINEL" Bundle.listD)], w ∈ nwC := nw_sub [48, 49, 31, 32, 74, 75, 5, 7, 59, 60, 22, 23] (by decide +kernel)
set_option maxRecDepth 100000 in
theorem nwA_el : ∀ w ∈ (List.range 8).map (fun j => Cond.eq (.elem tAll (.int (Int32.ofNat j))) (tVe j)), w ∈ nwC := nw_sub [51, 52, 53, 54, 55, 56, 57, 58] (by decide +kernel)
set_option maxRecDepth 100000 in
theorem nwSF_el : ∀ w ∈ (List.range 6).map (fun j => Cond.eq (.elem tSwF (.int (Int32.ofNat j))) (.int (nI j))), w ∈ nwC := nw_sub [33, 34, 35, 36, 37, 38] (by decide +kernel)
set_option maxRecDepth 100000 in
theorem nwSV_el : ∀ w ∈ (List.range 8).map (fun j => Cond.eq (.elem tSwV (.int (Int32.ofNat j))) (.int (if j < 7 then nI (j + 1) else 0))), w ∈ nwC := nw_sub [76, 77, 78, 79, 80, 81, 82, 83] (by decide +kernel)
set_option maxRecDepth 100000 in
theorem nwS_ex : ∀ w ∈ (List.range 28).map (fun i => Cond.exactly (tSt i) "java/lang/String"), w ∈ nwC := nw_sub [920, 933, 943, 954, 966, 977, 993, 907, 859, 466, 490, 516, 561, 590, 612, 639, 668, 687, 719, 751, 775, 812, 837, 296, 330, 357, 388, 424] (by decide +kernel)
set_option maxRecDepth 100000 in
theorem nwS_co : ∀ w ∈ (List.range 28).map (fun i => Cond.eq (.field (tSt i) "java/lang/String" "coder" "B") (.int 0)), w ∈ nwC := nw_sub [921, 934, 944, 955, 967, 978, 994, 908, 860, 467, 491, 517, 562, 591, 613, 640, 669, 688, 720, 752, 776, 813, 838, 297, 331, 358, 389, 425] (by decide +kernel)
set_option maxRecDepth 100000 in
theorem nwS_ar : ∀ w ∈ (List.range 28).map (fun i => Cond.arrayOf (tSv i) .byte), w ∈ nwC := nw_sub [922, 935, 945, 956, 968, 979, 995, 909, 861, 468, 492, 518, 563, 592, 614, 641, 670, 689, 721, 753, 777, 814, 839, 298, 332, 359, 390, 426] (by decide +kernel)
set_option maxRecDepth 100000 in
theorem nwS_le : ∀ w ∈ (List.range 28).map (fun i => Cond.eq (.length (tSv i)) (.int (Int32.ofNat (stLen.getD i 0)))), w ∈ nwC := nw_sub [923, 936, 946, 957, 969, 980, 996, 910, 862, 469, 493, 519, 564, 593, 615, 642, 671, 690, 722, 754, 778, 815, 840, 299, 333, 360, 391, 427] (by decide +kernel)
set_option maxRecDepth 100000 in
theorem nwS_el0 : ∀ w ∈ (List.range (stLen.getD 0 0)).map (fun j => Cond.eq (.elem (tSv 0) (.int (Int32.ofNat j))) (.int ((stByt.getD 0 []).getD j 0))), w ∈ nwC := nw_sub [924, 925, 926, 927, 928, 929, 930, 931, 932] (by decide +kernel)
set_option maxRecDepth 100000 in
theorem nwS_el1 : ∀ w ∈ (List.range (stLen.getD 1 0)).map (fun j => Cond.eq (.elem (tSv 1) (.int (Int32.ofNat j))) (.int ((stByt.getD 1 []).getD j 0))), w ∈ nwC := nw_sub [937, 938, 939, 940, 941, 942] (by decide +kernel)
set_option maxRecDepth 100000 in
theorem nwS_el2 : ∀ w ∈ (List.range (stLen.getD 2 0)).map (fun j => Cond.eq (.elem (tSv 2) (.int (Int32.ofNat j))) (.int ((stByt.getD 2 []).getD j 0))), w ∈ nwC := nw_sub [947, 948, 949, 950, 951, 952, 953] (by decide +kernel)
set_option maxRecDepth 100000 in
theorem nwS_el3 : ∀ w ∈ (List.range (stLen.getD 3 0)).map (fun j => Cond.eq (.elem (tSv 3) (.int (Int32.ofNat j))) (.int ((stByt.getD 3 []).getD j 0))), w ∈ nwC := nw_sub [958, 959, 960, 961, 962, 963, 964, 965] (by decide +kernel)
set_option maxRecDepth 100000 in
theorem nwS_el4 : ∀ w ∈ (List.range (stLen.getD 4 0)).map (fun j => Cond.eq (.elem (tSv 4) (.int (Int32.ofNat j))) (.int ((stByt.getD 4 []).getD j 0))), w ∈ nwC := nw_sub [970, 971, 972, 973, 974, 975, 976] (by decide +kernel)
set_option maxRecDepth 100000 in
theorem nwS_el5 : ∀ w ∈ (List.range (stLen.getD 5 0)).map (fun j => Cond.eq (.elem (tSv 5) (.int (Int32.ofNat j))) (.int ((stByt.getD 5 []).getD j 0))), w ∈ nwC := nw_sub [981, 982, 983, 984, 985, 986, 987, 988, 989, 990, 991, 992] (by decide +kernel)
set_option maxRecDepth 100000 in
theorem nwS_el6 : ∀ w ∈ (List.range (stLen.getD 6 0)).map (fun j => Cond.eq (.elem (tSv 6) (.int (Int32.ofNat j))) (.int ((stByt.getD 6 []).getD j 0))), w ∈ nwC := nw_sub [997, 998, 999, 1000, 1001, 1002, 1003, 1004, 1005] (by decide +kernel)
set_option maxRecDepth 100000 in
theorem nwS_el7 : ∀ w ∈ (List.range (stLen.getD 7 0)).map (fun j => Cond.eq (.elem (tSv 7) (.int (Int32.ofNat j))) (.int ((stByt.getD 7 []).getD j 0))), w ∈ nwC := nw_sub [911, 912, 913, 914, 915, 916, 917, 918, 919] (by decide +kernel)
set_option maxRecDepth 100000 in
theorem nwS_el8 : ∀ w ∈ (List.range (stLen.getD 8 0)).map (fun j => Cond.eq (.elem (tSv 8) (.int (Int32.ofNat j))) (.int ((stByt.getD 8 []).getD j 0))), w ∈ nwC := nw_sub [863, 864, 865, 866, 867, 868, 869, 870, 871, 872, 873, 874, 875, 876, 877, 878, 879, 880, 881, 882, 883, 884, 885, 886, 887, 888, 889, 890, 891, 892, 893, 894, 895, 896, 897, 898, 899, 900, 901, 902, 903, 904, 905, 906] (by decide +kernel)
set_option maxRecDepth 100000 in
theorem nwS_el9 : ∀ w ∈ (List.range (stLen.getD 9 0)).map (fun j => Cond.eq (.elem (tSv 9) (.int (Int32.ofNat j))) (.int ((stByt.getD 9 []).getD j 0))), w ∈ nwC := nw_sub [470, 471, 472, 473, 474, 475, 476, 477, 478, 479, 480, 481, 482, 483, 484, 485, 486, 487, 488, 489] (by decide +kernel)
set_option maxRecDepth 100000 in
theorem nwS_el10 : ∀ w ∈ (List.range (stLen.getD 10 0)).map (fun j => Cond.eq (.elem (tSv 10) (.int (Int32.ofNat j))) (.int ((stByt.getD 10 []).getD j 0))), w ∈ nwC := nw_sub [494, 495, 496, 497, 498, 499, 500, 501, 502, 503, 504, 505, 506, 507, 508, 509, 510, 511, 512, 513, 514, 515] (by decide +kernel)
set_option maxRecDepth 100000 in
theorem nwS_el11 : ∀ w ∈ (List.range (stLen.getD 11 0)).map (fun j => Cond.eq (.elem (tSv 11) (.int (Int32.ofNat j))) (.int ((stByt.getD 11 []).getD j 0))), w ∈ nwC := nw_sub [520, 521, 522, 523, 524, 525, 526, 527, 528, 529, 530, 531, 532, 533, 534, 535, 536, 537, 538, 539, 540, 541, 542, 543, 544, 545, 546, 547, 548, 549, 550, 551, 552, 553, 554, 555, 556, 557, 558, 559, 560] (by decide +kernel)
set_option maxRecDepth 100000 in
theorem nwS_el12 : ∀ w ∈ (List.range (stLen.getD 12 0)).map (fun j => Cond.eq (.elem (tSv 12) (.int (Int32.ofNat j))) (.int ((stByt.getD 12 []).getD j 0))), w ∈ nwC := nw_sub [565, 566, 567, 568, 569, 570, 571, 572, 573, 574, 575, 576, 577, 578, 579, 580, 581, 582, 583, 584, 585, 586, 587, 588, 589] (by decide +kernel)
set_option maxRecDepth 100000 in
theorem nwS_el13 : ∀ w ∈ (List.range (stLen.getD 13 0)).map (fun j => Cond.eq (.elem (tSv 13) (.int (Int32.ofNat j))) (.int ((stByt.getD 13 []).getD j 0))), w ∈ nwC := nw_sub [594, 595, 596, 597, 598, 599, 600, 601, 602, 603, 604, 605, 606, 607, 608, 609, 610, 611] (by decide +kernel)
set_option maxRecDepth 100000 in
theorem nwS_el14 : ∀ w ∈ (List.range (stLen.getD 14 0)).map (fun j => Cond.eq (.elem (tSv 14) (.int (Int32.ofNat j))) (.int ((stByt.getD 14 []).getD j 0))), w ∈ nwC := nw_sub [616, 617, 618, 619, 620, 621, 622, 623, 624, 625, 626, 627, 628, 629, 630, 631, 632, 633, 634, 635, 636, 637, 638] (by decide +kernel)
set_option maxRecDepth 100000 in
theorem nwS_el15 : ∀ w ∈ (List.range (stLen.getD 15 0)).map (fun j => Cond.eq (.elem (tSv 15) (.int (Int32.ofNat j))) (.int ((stByt.getD 15 []).getD j 0))), w ∈ nwC := nw_sub [643, 644, 645, 646, 647, 648, 649, 650, 651, 652, 653, 654, 655, 656, 657, 658, 659, 660, 661, 662, 663, 664, 665, 666, 667] (by decide +kernel)
set_option maxRecDepth 100000 in
theorem nwS_el16 : ∀ w ∈ (List.range (stLen.getD 16 0)).map (fun j => Cond.eq (.elem (tSv 16) (.int (Int32.ofNat j))) (.int ((stByt.getD 16 []).getD j 0))), w ∈ nwC := nw_sub [672, 673, 674, 675, 676, 677, 678, 679, 680, 681, 682, 683, 684, 685, 686] (by decide +kernel)
set_option maxRecDepth 100000 in
theorem nwS_el17 : ∀ w ∈ (List.range (stLen.getD 17 0)).map (fun j => Cond.eq (.elem (tSv 17) (.int (Int32.ofNat j))) (.int ((stByt.getD 17 []).getD j 0))), w ∈ nwC := nw_sub [691, 692, 693, 694, 695, 696, 697, 698, 699, 700, 701, 702, 703, 704, 705, 706, 707, 708, 709, 710, 711, 712, 713, 714, 715, 716, 717, 718] (by decide +kernel)
set_option maxRecDepth 100000 in
theorem nwS_el18 : ∀ w ∈ (List.range (stLen.getD 18 0)).map (fun j => Cond.eq (.elem (tSv 18) (.int (Int32.ofNat j))) (.int ((stByt.getD 18 []).getD j 0))), w ∈ nwC := nw_sub [723, 724, 725, 726, 727, 728, 729, 730, 731, 732, 733, 734, 735, 736, 737, 738, 739, 740, 741, 742, 743, 744, 745, 746, 747, 748, 749, 750] (by decide +kernel)
set_option maxRecDepth 100000 in
theorem nwS_el19 : ∀ w ∈ (List.range (stLen.getD 19 0)).map (fun j => Cond.eq (.elem (tSv 19) (.int (Int32.ofNat j))) (.int ((stByt.getD 19 []).getD j 0))), w ∈ nwC := nw_sub [755, 756, 757, 758, 759, 760, 761, 762, 763, 764, 765, 766, 767, 768, 769, 770, 771, 772, 773, 774] (by decide +kernel)
set_option maxRecDepth 100000 in
theorem nwS_el20 : ∀ w ∈ (List.range (stLen.getD 20 0)).map (fun j => Cond.eq (.elem (tSv 20) (.int (Int32.ofNat j))) (.int ((stByt.getD 20 []).getD j 0))), w ∈ nwC := nw_sub [779, 780, 781, 782, 783, 784, 785, 786, 787, 788, 789, 790, 791, 792, 793, 794, 795, 796, 797, 798, 799, 800, 801, 802, 803, 804, 805, 806, 807, 808, 809, 810, 811] (by decide +kernel)
set_option maxRecDepth 100000 in
theorem nwS_el21 : ∀ w ∈ (List.range (stLen.getD 21 0)).map (fun j => Cond.eq (.elem (tSv 21) (.int (Int32.ofNat j))) (.int ((stByt.getD 21 []).getD j 0))), w ∈ nwC := nw_sub [816, 817, 818, 819, 820, 821, 822, 823, 824, 825, 826, 827, 828, 829, 830, 831, 832, 833, 834, 835, 836] (by decide +kernel)
set_option maxRecDepth 100000 in
theorem nwS_el22 : ∀ w ∈ (List.range (stLen.getD 22 0)).map (fun j => Cond.eq (.elem (tSv 22) (.int (Int32.ofNat j))) (.int ((stByt.getD 22 []).getD j 0))), w ∈ nwC := nw_sub [841, 842, 843, 844, 845, 846, 847, 848, 849, 850, 851, 852, 853, 854, 855, 856, 857, 858] (by decide +kernel)
set_option maxRecDepth 100000 in
theorem nwS_el23 : ∀ w ∈ (List.range (stLen.getD 23 0)).map (fun j => Cond.eq (.elem (tSv 23) (.int (Int32.ofNat j))) (.int ((stByt.getD 23 []).getD j 0))), w ∈ nwC := nw_sub [300, 301, 302, 303, 304, 305, 306, 307, 308, 309, 310, 311, 312, 313, 314, 315, 316, 317, 318, 319, 320, 321, 322, 323, 324, 325, 326, 327, 328, 329] (by decide +kernel)
set_option maxRecDepth 100000 in
theorem nwS_el24 : ∀ w ∈ (List.range (stLen.getD 24 0)).map (fun j => Cond.eq (.elem (tSv 24) (.int (Int32.ofNat j))) (.int ((stByt.getD 24 []).getD j 0))), w ∈ nwC := nw_sub [334, 335, 336, 337, 338, 339, 340, 341, 342, 343, 344, 345, 346, 347, 348, 349, 350, 351, 352, 353, 354, 355, 356] (by decide +kernel)
set_option maxRecDepth 100000 in
theorem nwS_el25 : ∀ w ∈ (List.range (stLen.getD 25 0)).map (fun j => Cond.eq (.elem (tSv 25) (.int (Int32.ofNat j))) (.int ((stByt.getD 25 []).getD j 0))), w ∈ nwC := nw_sub [361, 362, 363, 364, 365, 366, 367, 368, 369, 370, 371, 372, 373, 374, 375, 376, 377, 378, 379, 380, 381, 382, 383, 384, 385, 386, 387] (by decide +kernel)
set_option maxRecDepth 100000 in
theorem nwS_el26 : ∀ w ∈ (List.range (stLen.getD 26 0)).map (fun j => Cond.eq (.elem (tSv 26) (.int (Int32.ofNat j))) (.int ((stByt.getD 26 []).getD j 0))), w ∈ nwC := nw_sub [392, 393, 394, 395, 396, 397, 398, 399, 400, 401, 402, 403, 404, 405, 406, 407, 408, 409, 410, 411, 412, 413, 414, 415, 416, 417, 418, 419, 420, 421, 422, 423] (by decide +kernel)
set_option maxRecDepth 100000 in
theorem nwS_el27 : ∀ w ∈ (List.range (stLen.getD 27 0)).map (fun j => Cond.eq (.elem (tSv 27) (.int (Int32.ofNat j))) (.int ((stByt.getD 27 []).getD j 0))), w ∈ nwC := nw_sub [428, 429, 430, 431, 432, 433, 434, 435, 436, 437, 438, 439, 440, 441, 442, 443, 444, 445, 446, 447, 448, 449, 450, 451, 452, 453, 454, 455, 456, 457, 458, 459, 460, 461, 462, 463, 464, 465] (by decide +kernel)
def prE : List (String × String) := [("java/lang/IndexOutOfBoundsException", "java/lang/IllegalArgumentException"), ("java/lang/IndexOutOfBoundsException", "java/util/NoSuchElementException"), ("java/lang/IndexOutOfBoundsException", "java/lang/IllegalStateException"), ("java/lang/IndexOutOfBoundsException", "java/lang/UnsupportedOperationException"), ("java/lang/IndexOutOfBoundsException", "java/lang/ArithmeticException"), ("java/lang/IllegalArgumentException", "java/lang/IndexOutOfBoundsException"), ("java/lang/IllegalArgumentException", "java/util/NoSuchElementException"), ("java/lang/IllegalArgumentException", "java/lang/IllegalStateException"), ("java/lang/IllegalArgumentException", "java/lang/UnsupportedOperationException"), ("java/lang/IllegalArgumentException", "java/lang/ArithmeticException"), ("java/util/NoSuchElementException", "java/lang/IndexOutOfBoundsException"), ("java/util/NoSuchElementException", "java/lang/IllegalArgumentException"), ("java/util/NoSuchElementException", "java/lang/IllegalStateException"), ("java/util/NoSuchElementException", "java/lang/UnsupportedOperationException"), ("java/util/NoSuchElementException", "java/lang/ArithmeticException"), ("java/lang/IllegalStateException", "java/lang/IndexOutOfBoundsException"), ("java/lang/IllegalStateException", "java/lang/IllegalArgumentException"), ("java/lang/IllegalStateException", "java/util/NoSuchElementException"), ("java/lang/IllegalStateException", "java/lang/UnsupportedOperationException"), ("java/lang/IllegalStateException", "java/lang/ArithmeticException"), ("java/lang/UnsupportedOperationException", "java/lang/IndexOutOfBoundsException"), ("java/lang/UnsupportedOperationException", "java/lang/IllegalArgumentException"), ("java/lang/UnsupportedOperationException", "java/util/NoSuchElementException"), ("java/lang/UnsupportedOperationException", "java/lang/IllegalStateException"), ("java/lang/UnsupportedOperationException", "java/lang/ArithmeticException"), ("java/lang/ArithmeticException", "java/lang/IndexOutOfBoundsException"), ("java/lang/ArithmeticException", "java/lang/IllegalArgumentException"), ("java/lang/ArithmeticException", "java/util/NoSuchElementException"), ("java/lang/ArithmeticException", "java/lang/IllegalStateException"), ("java/lang/ArithmeticException", "java/lang/UnsupportedOperationException")]
set_option maxRecDepth 100000 in
theorem nwE : ∀ w ∈ prE.map (fun p => Cond.not (.castable p.1 p.2)), w ∈ nwC := nw_sub [201, 252, 218, 235, 269, 184, 253, 219, 236, 270, 185, 202, 220, 237, 271, 186, 203, 254, 238, 272, 187, 204, 255, 221, 273, 188, 205, 256, 222, 239] (by decide +kernel)
set_option maxRecDepth 100000 in
theorem twF : ∀ w ∈ (List.range 6).map (fun i => Cond.laysStatic "TerraceQuarry$Fault" (stF.getD i "") "LTerraceQuarry$Fault;"), w ∈ lw_tbl := lw_sub [305, 307, 580, 779, 314, 329] (by decide +kernel)
set_option maxRecDepth 100000 in
theorem twV : ∀ w ∈ (List.range 8).map (fun i => Cond.laysStatic "TerraceQuarry$Verb" (stV.getD i "") "LTerraceQuarry$Verb;"), w ∈ lw_tbl := lw_sub [1846, 1847, 1848, 1849, 1850, 1851, 1852, 1201] (by decide +kernel)
set_option maxRecDepth 100000 in
theorem twS : ∀ w ∈ stT.map (fun q => Cond.stringRef q.1 q.2.1 q.2.2), w ∈ lw_tbl := lw_sub [1854, 1855, 1856, 1857, 1858, 1859, 1860, 1853, 1768, 937, 946, 963, 972, 999, 1012, 1211, 1262, 1274, 1282, 1291, 1321, 1337, 1349, 601, 614, 630, 646, 662] (by decide +kernel)
set_option maxRecDepth 100000 in
theorem twM : ∀ w ∈ [Cond.initialized "TerraceQuarry$Fault", Cond.initialized "TerraceQuarry$Verb", Cond.initialized "TerraceQuarry$1", Cond.initialized "java/util/ArrayList", Cond.initialized "java/lang/String", Cond.initialized "jdk/internal/util/Preconditions", Cond.initialized Bundle.tN, Cond.laysStatic "TerraceQuarry$Verb" "ALL" "[LTerraceQuarry$Verb;", Cond.laysStatic "TerraceQuarry$1" "$SwitchMap$TerraceQuarry$Fault" "[I", Cond.laysStatic "TerraceQuarry$1" "$SwitchMap$TerraceQuarry$Verb" "[I", Cond.laysStatic "java/util/ArrayList" "DEFAULTCAPACITY_EMPTY_ELEMENTDATA" "[Ljava/lang/Object;", Cond.laysStatic "java/lang/String" "COMPACT_STRINGS" "Z", Cond.laysStatic "jdk/internal/util/Preconditions" "SIOOBE_FORMATTER" "Ljava/util/function/BiFunction;", Cond.laysStatic Bundle.tN "UNASSIGNED_STACK" Bundle.steD, Cond.laysStatic Bundle.tN "SUPPRESSED_SENTINEL" Bundle.listD, Cond.castable "TerraceQuarry$Command" "java/lang/Object", Cond.arrayOver (.object "TerraceQuarry$Quarry"), Cond.arrayOver (.object "java/lang/Object"), Cond.arrayClass .int, Cond.arrayClass .boolean, Cond.arrayClass .char, Cond.arrayClass .long, Cond.arrayClass .double], w ∈ lw_tbl := lw_sub [77, 86, 78, 66, 74, 88, 69, 1040, 585, 1237, 215, 1061, 1085, 505, 507, 1827, 185, 1189, 154, 155, 228, 1806, 1807] (by decide +kernel)
set_option maxRecDepth 100000 in
theorem twD : ∀ w ∈ stDc.map Cond.declares, w ∈ lw_tbl := lw_sub [546, 548, 550] (by decide +kernel)
set_option maxRecDepth 100000 in
theorem twX : ∀ w ∈ exN.map (fun X => Cond.castable X X), w ∈ lw_tbl := lw_sub [594, 607, 623, 639, 655, 992] (by decide +kernel)
set_option maxRecDepth 100000 in
theorem twC_J0 : ∀ w ∈ u_ws RJ0 TJ0 2, w ∈ lw_tbl := by decide +kernel
set_option maxRecDepth 100000 in
theorem twC_Jx00060 : ∀ w ∈ u_ws RJx00060 TJx00060 6, w ∈ lw_tbl := by decide +kernel
set_option maxRecDepth 100000 in
theorem twC_Jx4a65c : ∀ w ∈ u_ws RJx4a65c TJx4a65c 3, w ∈ lw_tbl := by decide +kernel
set_option maxRecDepth 100000 in
theorem twC_X1 : ∀ w ∈ u_ws RX1 TX1 3, w ∈ lw_tbl := by decide +kernel
set_option maxRecDepth 100000 in
theorem twC_X4 : ∀ w ∈ u_ws RX4 TX4 3, w ∈ lw_tbl := by decide +kernel
set_option maxRecDepth 100000 in
theorem twC_X5 : ∀ w ∈ u_ws RX5 TX5 2, w ∈ lw_tbl := by decide +kernel
set_option maxRecDepth 100000 in
theorem twC_X6 : ∀ w ∈ u_ws RX6 TX6 3, w ∈ lw_tbl := by decide +kernel
set_option maxRecDepth 100000 in
theorem twC_X7 : ∀ w ∈ u_ws RX7 TX7 15, w ∈ lw_tbl := by decide +kernel
set_option maxRecDepth 100000 in
theorem twC_X8 : ∀ w ∈ u_ws RX8 TX8 5, w ∈ lw_tbl := by decide +kernel
set_option maxRecDepth 100000 in
theorem twC_X10 : ∀ w ∈ u_ws RX10 TX10 9, w ∈ lw_tbl := by decide +kernel
set_option maxRecDepth 100000 in
theorem twC_X11 : ∀ w ∈ u_ws RX11 TX11 19, w ∈ lw_tbl := by decide +kernel
set_option maxRecDepth 100000 in
theorem twI : ∀ w ∈ [Cond.instantiable RJ0 4, Cond.instantiable RJx00060 6, Cond.instantiable RJx4a65c 3, Cond.instantiable RX1 3, Cond.instantiable RX4 3, Cond.instantiable RX5 2, Cond.instantiable RX6 3, Cond.instantiable RX7 15, Cond.instantiable RX8 5, Cond.instantiable RX10 9, Cond.instantiable RX11 19], w ∈ lw_tbl := lw_sub [561, 488, 203, 1121, 179, 240, 197, 103, 157, 95, 1355] (by decide +kernel)
