/-! ===== what the tables and the Statement say of the start ===== -/
def nwC : List Cond := flatC (Jvm.Cond.and given_1 narrow_1)
theorem nw_sub {ws : List Cond} (ps : List Nat) (hp : ws = ps.filterMap (fun i => nwC[i]?)) : ∀ w ∈ ws, w ∈ nwC := by
  intro w hw
  rw [hp] at hw
  obtain ⟨i, -, hi⟩ := List.mem_filterMap.mp hw
  exact List.mem_of_getElem? hi
def tFa (i : Nat) : Term := .static "TerraceQuarry$Fault" (stF.getD i "") "LTerraceQuarry$Fault;"
def tVe (i : Nat) : Term := .static "TerraceQuarry$Verb" (stV.getD i "") "LTerraceQuarry$Verb;"
def tSt (i : Nat) : Term := .string (stT.getD i ("", 0, "")).1 (stT.getD i ("", 0, "")).2.1
def tSv (i : Nat) : Term := .field (tSt i) "java/lang/String" "value" "[B"
def tAll : Term := (.static "TerraceQuarry$Verb" "ALL" "[LTerraceQuarry$Verb;")
def tSwF : Term := (.static "TerraceQuarry$1" "$SwitchMap$TerraceQuarry$Fault" "[I")
def tSwV : Term := (.static "TerraceQuarry$1" "$SwitchMap$TerraceQuarry$Verb" "[I")
def tEmp : Term := (.static "java/util/ArrayList" "DEFAULTCAPACITY_EMPTY_ELEMENTDATA" "[Ljava/lang/Object;")
set_option maxRecDepth 100000 in
theorem nwF_ex : ∀ w ∈ (List.range 6).map (fun i => Cond.exactly (tFa i) "TerraceQuarry$Fault"), w ∈ nwC := nw_sub [10, 12, 14, 29, 25, 27] (by decide +kernel)
set_option maxRecDepth 100000 in
theorem nwF_or : ∀ w ∈ (List.range 6).map (fun i => Cond.eq (.field (tFa i) "java/lang/Enum" "ordinal" "I") (.int (([0, 1, 2, 3, 4, 5] : List Int32).getD i 0))), w ∈ nwC := nw_sub [11, 13, 15, 30, 26, 28] (by decide +kernel)
set_option maxRecDepth 100000 in
theorem nwV_ex : ∀ w ∈ (List.range 8).map (fun i => Cond.exactly (tVe i) "TerraceQuarry$Verb"), w ∈ nwC := nw_sub [63, 67, 71, 75, 79, 83, 87, 49] (by decide +kernel)
set_option maxRecDepth 100000 in
theorem nwV_or : ∀ w ∈ (List.range 8).map (fun i => Cond.eq (.field (tVe i) "java/lang/Enum" "ordinal" "I") (.int (([0, 1, 2, 3, 4, 5, 6, 7] : List Int32).getD i 0))), w ∈ nwC := nw_sub [64, 68, 72, 76, 80, 84, 88, 50] (by decide +kernel)
set_option maxRecDepth 100000 in
theorem nwV_fo : ∀ w ∈ (List.range 8).map (fun i => Cond.eq (.field (tVe i) "TerraceQuarry$Verb" "form" "Ljava/lang/String;") (tSt i)), w ∈ nwC := nw_sub [65, 69, 73, 77, 81, 85, 89, 51] (by decide +kernel)
set_option maxRecDepth 100000 in
theorem nwA : ∀ w ∈ [Cond.arrayOf tAll (.object "TerraceQuarry$Verb"), Cond.eq (.length tAll) (.int (Int32.ofNat 8)), Cond.arrayOf tSwF .int, Cond.eq (.length tSwF) (.int (Int32.ofNat 6)), Cond.arrayOf tSwV .int, Cond.eq (.length tSwV) (.int (Int32.ofNat 8)), Cond.arrayOf tEmp (.object "java/lang/Object"), Cond.eq (.length tEmp) (.int (Int32.ofNat 0)), Cond.eq (.static "java/lang/String" "COMPACT_STRINGS" "Z") (.int 1), Cond.isRef (.static "jdk/internal/util/Preconditions" "SIOOBE_FORMATTER" "Ljava/util/function/BiFunction;"), Cond.isRef (.static Bundle.tN "UNASSIGNED_STACK" Bundle.steD), Cond.isRef (.static Bundle.tN "SUPPRESSED_SENTINEL" Bundle.listD)], w ∈ nwC := nw_sub [33, 34, 17, 18, 53, 54, 5, 7, 44, 45, 8, 9] (by decide +kernel)
set_option maxRecDepth 100000 in
theorem nwA_el : ∀ w ∈ (List.range 8).map (fun j => Cond.eq (.elem tAll (.int (Int32.ofNat j))) (tVe j)), w ∈ nwC := nw_sub [36, 37, 38, 39, 40, 41, 42, 43] (by decide +kernel)
set_option maxRecDepth 100000 in
theorem nwSF_el : ∀ w ∈ (List.range 6).map (fun j => Cond.eq (.elem tSwF (.int (Int32.ofNat j))) (.int (nI j))), w ∈ nwC := nw_sub [19, 20, 21, 22, 23, 24] (by decide +kernel)
set_option maxRecDepth 100000 in
theorem nwSV_el : ∀ w ∈ (List.range 8).map (fun j => Cond.eq (.elem tSwV (.int (Int32.ofNat j))) (.int (if j < 7 then nI (j + 1) else 0))), w ∈ nwC := nw_sub [55, 56, 57, 58, 59, 60, 61, 62] (by decide +kernel)
set_option maxRecDepth 100000 in
theorem nwS_ex : ∀ w ∈ (List.range 25).map (fun i => Cond.exactly (tSt i) "java/lang/String"), w ∈ nwC := nw_sub [712, 725, 735, 746, 758, 769, 785, 699, 406, 430, 456, 501, 594, 358, 387, 530, 562, 616, 640, 677, 188, 222, 249, 280, 316] (by decide +kernel)
set_option maxRecDepth 100000 in
theorem nwS_co : ∀ w ∈ (List.range 25).map (fun i => Cond.eq (.field (tSt i) "java/lang/String" "coder" "B") (.int 0)), w ∈ nwC := nw_sub [713, 726, 736, 747, 759, 770, 786, 700, 407, 431, 457, 502, 595, 359, 388, 531, 563, 617, 641, 678, 189, 223, 250, 281, 317] (by decide +kernel)
set_option maxRecDepth 100000 in
theorem nwS_ar : ∀ w ∈ (List.range 25).map (fun i => Cond.arrayOf (tSv i) .byte), w ∈ nwC := nw_sub [714, 727, 737, 748, 760, 771, 787, 701, 408, 432, 458, 503, 596, 360, 389, 532, 564, 618, 642, 679, 190, 224, 251, 282, 318] (by decide +kernel)
set_option maxRecDepth 100000 in
theorem nwS_le : ∀ w ∈ (List.range 25).map (fun i => Cond.eq (.length (tSv i)) (.int (Int32.ofNat (stLen.getD i 0)))), w ∈ nwC := nw_sub [715, 728, 738, 749, 761, 772, 788, 702, 409, 433, 459, 504, 597, 361, 390, 533, 565, 619, 643, 680, 191, 225, 252, 283, 319] (by decide +kernel)
set_option maxRecDepth 100000 in
theorem nwS_el0 : ∀ w ∈ (List.range (stLen.getD 0 0)).map (fun j => Cond.eq (.elem (tSv 0) (.int (Int32.ofNat j))) (.int ((stByt.getD 0 []).getD j 0))), w ∈ nwC := nw_sub [716, 717, 718, 719, 720, 721, 722, 723, 724] (by decide +kernel)
set_option maxRecDepth 100000 in
theorem nwS_el1 : ∀ w ∈ (List.range (stLen.getD 1 0)).map (fun j => Cond.eq (.elem (tSv 1) (.int (Int32.ofNat j))) (.int ((stByt.getD 1 []).getD j 0))), w ∈ nwC := nw_sub [729, 730, 731, 732, 733, 734] (by decide +kernel)
set_option maxRecDepth 100000 in
theorem nwS_el2 : ∀ w ∈ (List.range (stLen.getD 2 0)).map (fun j => Cond.eq (.elem (tSv 2) (.int (Int32.ofNat j))) (.int ((stByt.getD 2 []).getD j 0))), w ∈ nwC := nw_sub [739, 740, 741, 742, 743, 744, 745] (by decide +kernel)
set_option maxRecDepth 100000 in
theorem nwS_el3 : ∀ w ∈ (List.range (stLen.getD 3 0)).map (fun j => Cond.eq (.elem (tSv 3) (.int (Int32.ofNat j))) (.int ((stByt.getD 3 []).getD j 0))), w ∈ nwC := nw_sub [750, 751, 752, 753, 754, 755, 756, 757] (by decide +kernel)
set_option maxRecDepth 100000 in
theorem nwS_el4 : ∀ w ∈ (List.range (stLen.getD 4 0)).map (fun j => Cond.eq (.elem (tSv 4) (.int (Int32.ofNat j))) (.int ((stByt.getD 4 []).getD j 0))), w ∈ nwC := nw_sub [762, 763, 764, 765, 766, 767, 768] (by decide +kernel)
set_option maxRecDepth 100000 in
theorem nwS_el5 : ∀ w ∈ (List.range (stLen.getD 5 0)).map (fun j => Cond.eq (.elem (tSv 5) (.int (Int32.ofNat j))) (.int ((stByt.getD 5 []).getD j 0))), w ∈ nwC := nw_sub [773, 774, 775, 776, 777, 778, 779, 780, 781, 782, 783, 784] (by decide +kernel)
set_option maxRecDepth 100000 in
theorem nwS_el6 : ∀ w ∈ (List.range (stLen.getD 6 0)).map (fun j => Cond.eq (.elem (tSv 6) (.int (Int32.ofNat j))) (.int ((stByt.getD 6 []).getD j 0))), w ∈ nwC := nw_sub [789, 790, 791, 792, 793, 794, 795, 796, 797] (by decide +kernel)
set_option maxRecDepth 100000 in
theorem nwS_el7 : ∀ w ∈ (List.range (stLen.getD 7 0)).map (fun j => Cond.eq (.elem (tSv 7) (.int (Int32.ofNat j))) (.int ((stByt.getD 7 []).getD j 0))), w ∈ nwC := nw_sub [703, 704, 705, 706, 707, 708, 709, 710, 711] (by decide +kernel)
set_option maxRecDepth 100000 in
theorem nwS_el8 : ∀ w ∈ (List.range (stLen.getD 8 0)).map (fun j => Cond.eq (.elem (tSv 8) (.int (Int32.ofNat j))) (.int ((stByt.getD 8 []).getD j 0))), w ∈ nwC := nw_sub [410, 411, 412, 413, 414, 415, 416, 417, 418, 419, 420, 421, 422, 423, 424, 425, 426, 427, 428, 429] (by decide +kernel)
set_option maxRecDepth 100000 in
theorem nwS_el9 : ∀ w ∈ (List.range (stLen.getD 9 0)).map (fun j => Cond.eq (.elem (tSv 9) (.int (Int32.ofNat j))) (.int ((stByt.getD 9 []).getD j 0))), w ∈ nwC := nw_sub [434, 435, 436, 437, 438, 439, 440, 441, 442, 443, 444, 445, 446, 447, 448, 449, 450, 451, 452, 453, 454, 455] (by decide +kernel)
set_option maxRecDepth 100000 in
theorem nwS_el10 : ∀ w ∈ (List.range (stLen.getD 10 0)).map (fun j => Cond.eq (.elem (tSv 10) (.int (Int32.ofNat j))) (.int ((stByt.getD 10 []).getD j 0))), w ∈ nwC := nw_sub [460, 461, 462, 463, 464, 465, 466, 467, 468, 469, 470, 471, 472, 473, 474, 475, 476, 477, 478, 479, 480, 481, 482, 483, 484, 485, 486, 487, 488, 489, 490, 491, 492, 493, 494, 495, 496, 497, 498, 499, 500] (by decide +kernel)
set_option maxRecDepth 100000 in
theorem nwS_el11 : ∀ w ∈ (List.range (stLen.getD 11 0)).map (fun j => Cond.eq (.elem (tSv 11) (.int (Int32.ofNat j))) (.int ((stByt.getD 11 []).getD j 0))), w ∈ nwC := nw_sub [505, 506, 507, 508, 509, 510, 511, 512, 513, 514, 515, 516, 517, 518, 519, 520, 521, 522, 523, 524, 525, 526, 527, 528, 529] (by decide +kernel)
set_option maxRecDepth 100000 in
theorem nwS_el12 : ∀ w ∈ (List.range (stLen.getD 12 0)).map (fun j => Cond.eq (.elem (tSv 12) (.int (Int32.ofNat j))) (.int ((stByt.getD 12 []).getD j 0))), w ∈ nwC := nw_sub [598, 599, 600, 601, 602, 603, 604, 605, 606, 607, 608, 609, 610, 611, 612, 613, 614, 615] (by decide +kernel)
set_option maxRecDepth 100000 in
theorem nwS_el13 : ∀ w ∈ (List.range (stLen.getD 13 0)).map (fun j => Cond.eq (.elem (tSv 13) (.int (Int32.ofNat j))) (.int ((stByt.getD 13 []).getD j 0))), w ∈ nwC := nw_sub [362, 363, 364, 365, 366, 367, 368, 369, 370, 371, 372, 373, 374, 375, 376, 377, 378, 379, 380, 381, 382, 383, 384, 385, 386] (by decide +kernel)
set_option maxRecDepth 100000 in
theorem nwS_el14 : ∀ w ∈ (List.range (stLen.getD 14 0)).map (fun j => Cond.eq (.elem (tSv 14) (.int (Int32.ofNat j))) (.int ((stByt.getD 14 []).getD j 0))), w ∈ nwC := nw_sub [391, 392, 393, 394, 395, 396, 397, 398, 399, 400, 401, 402, 403, 404, 405] (by decide +kernel)
set_option maxRecDepth 100000 in
theorem nwS_el15 : ∀ w ∈ (List.range (stLen.getD 15 0)).map (fun j => Cond.eq (.elem (tSv 15) (.int (Int32.ofNat j))) (.int ((stByt.getD 15 []).getD j 0))), w ∈ nwC := nw_sub [534, 535, 536, 537, 538, 539, 540, 541, 542, 543, 544, 545, 546, 547, 548, 549, 550, 551, 552, 553, 554, 555, 556, 557, 558, 559, 560, 561] (by decide +kernel)
set_option maxRecDepth 100000 in
theorem nwS_el16 : ∀ w ∈ (List.range (stLen.getD 16 0)).map (fun j => Cond.eq (.elem (tSv 16) (.int (Int32.ofNat j))) (.int ((stByt.getD 16 []).getD j 0))), w ∈ nwC := nw_sub [566, 567, 568, 569, 570, 571, 572, 573, 574, 575, 576, 577, 578, 579, 580, 581, 582, 583, 584, 585, 586, 587, 588, 589, 590, 591, 592, 593] (by decide +kernel)
set_option maxRecDepth 100000 in
theorem nwS_el17 : ∀ w ∈ (List.range (stLen.getD 17 0)).map (fun j => Cond.eq (.elem (tSv 17) (.int (Int32.ofNat j))) (.int ((stByt.getD 17 []).getD j 0))), w ∈ nwC := nw_sub [620, 621, 622, 623, 624, 625, 626, 627, 628, 629, 630, 631, 632, 633, 634, 635, 636, 637, 638, 639] (by decide +kernel)
set_option maxRecDepth 100000 in
theorem nwS_el18 : ∀ w ∈ (List.range (stLen.getD 18 0)).map (fun j => Cond.eq (.elem (tSv 18) (.int (Int32.ofNat j))) (.int ((stByt.getD 18 []).getD j 0))), w ∈ nwC := nw_sub [644, 645, 646, 647, 648, 649, 650, 651, 652, 653, 654, 655, 656, 657, 658, 659, 660, 661, 662, 663, 664, 665, 666, 667, 668, 669, 670, 671, 672, 673, 674, 675, 676] (by decide +kernel)
set_option maxRecDepth 100000 in
theorem nwS_el19 : ∀ w ∈ (List.range (stLen.getD 19 0)).map (fun j => Cond.eq (.elem (tSv 19) (.int (Int32.ofNat j))) (.int ((stByt.getD 19 []).getD j 0))), w ∈ nwC := nw_sub [681, 682, 683, 684, 685, 686, 687, 688, 689, 690, 691, 692, 693, 694, 695, 696, 697, 698] (by decide +kernel)
set_option maxRecDepth 100000 in
theorem nwS_el20 : ∀ w ∈ (List.range (stLen.getD 20 0)).map (fun j => Cond.eq (.elem (tSv 20) (.int (Int32.ofNat j))) (.int ((stByt.getD 20 []).getD j 0))), w ∈ nwC := nw_sub [192, 193, 194, 195, 196, 197, 198, 199, 200, 201, 202, 203, 204, 205, 206, 207, 208, 209, 210, 211, 212, 213, 214, 215, 216, 217, 218, 219, 220, 221] (by decide +kernel)
set_option maxRecDepth 100000 in
theorem nwS_el21 : ∀ w ∈ (List.range (stLen.getD 21 0)).map (fun j => Cond.eq (.elem (tSv 21) (.int (Int32.ofNat j))) (.int ((stByt.getD 21 []).getD j 0))), w ∈ nwC := nw_sub [226, 227, 228, 229, 230, 231, 232, 233, 234, 235, 236, 237, 238, 239, 240, 241, 242, 243, 244, 245, 246, 247, 248] (by decide +kernel)
set_option maxRecDepth 100000 in
theorem nwS_el22 : ∀ w ∈ (List.range (stLen.getD 22 0)).map (fun j => Cond.eq (.elem (tSv 22) (.int (Int32.ofNat j))) (.int ((stByt.getD 22 []).getD j 0))), w ∈ nwC := nw_sub [253, 254, 255, 256, 257, 258, 259, 260, 261, 262, 263, 264, 265, 266, 267, 268, 269, 270, 271, 272, 273, 274, 275, 276, 277, 278, 279] (by decide +kernel)
set_option maxRecDepth 100000 in
theorem nwS_el23 : ∀ w ∈ (List.range (stLen.getD 23 0)).map (fun j => Cond.eq (.elem (tSv 23) (.int (Int32.ofNat j))) (.int ((stByt.getD 23 []).getD j 0))), w ∈ nwC := nw_sub [284, 285, 286, 287, 288, 289, 290, 291, 292, 293, 294, 295, 296, 297, 298, 299, 300, 301, 302, 303, 304, 305, 306, 307, 308, 309, 310, 311, 312, 313, 314, 315] (by decide +kernel)
set_option maxRecDepth 100000 in
theorem nwS_el24 : ∀ w ∈ (List.range (stLen.getD 24 0)).map (fun j => Cond.eq (.elem (tSv 24) (.int (Int32.ofNat j))) (.int ((stByt.getD 24 []).getD j 0))), w ∈ nwC := nw_sub [320, 321, 322, 323, 324, 325, 326, 327, 328, 329, 330, 331, 332, 333, 334, 335, 336, 337, 338, 339, 340, 341, 342, 343, 344, 345, 346, 347, 348, 349, 350, 351, 352, 353, 354, 355, 356, 357] (by decide +kernel)
def prE : List (String × String) := [("java/lang/IndexOutOfBoundsException", "java/lang/IllegalArgumentException"), ("java/lang/IndexOutOfBoundsException", "java/util/NoSuchElementException"), ("java/lang/IndexOutOfBoundsException", "java/lang/IllegalStateException"), ("java/lang/IndexOutOfBoundsException", "java/lang/UnsupportedOperationException"), ("java/lang/IllegalArgumentException", "java/lang/IndexOutOfBoundsException"), ("java/lang/IllegalArgumentException", "java/util/NoSuchElementException"), ("java/lang/IllegalArgumentException", "java/lang/IllegalStateException"), ("java/lang/IllegalArgumentException", "java/lang/UnsupportedOperationException"), ("java/util/NoSuchElementException", "java/lang/IndexOutOfBoundsException"), ("java/util/NoSuchElementException", "java/lang/IllegalArgumentException"), ("java/util/NoSuchElementException", "java/lang/IllegalStateException"), ("java/util/NoSuchElementException", "java/lang/UnsupportedOperationException"), ("java/lang/IllegalStateException", "java/lang/IndexOutOfBoundsException"), ("java/lang/IllegalStateException", "java/lang/IllegalArgumentException"), ("java/lang/IllegalStateException", "java/util/NoSuchElementException"), ("java/lang/IllegalStateException", "java/lang/UnsupportedOperationException"), ("java/lang/UnsupportedOperationException", "java/lang/IndexOutOfBoundsException"), ("java/lang/UnsupportedOperationException", "java/lang/IllegalArgumentException"), ("java/lang/UnsupportedOperationException", "java/util/NoSuchElementException"), ("java/lang/UnsupportedOperationException", "java/lang/IllegalStateException"), ("java/lang/ArithmeticException", "java/lang/IndexOutOfBoundsException"), ("java/lang/ArithmeticException", "java/lang/IllegalArgumentException"), ("java/lang/ArithmeticException", "java/util/NoSuchElementException"), ("java/lang/ArithmeticException", "java/lang/IllegalStateException"), ("java/lang/ArithmeticException", "java/lang/UnsupportedOperationException")]
set_option maxRecDepth 100000 in
theorem nwE : ∀ w ∈ prE.map (fun p => Cond.not (.castable p.1 p.2)), w ∈ nwC := nw_sub [114, 162, 130, 146, 98, 163, 131, 147, 99, 115, 132, 148, 100, 116, 164, 149, 101, 117, 165, 133, 104, 120, 168, 136, 152] (by decide +kernel)
set_option maxRecDepth 100000 in
theorem twF : ∀ w ∈ (List.range 6).map (fun i => Cond.laysStatic "TerraceQuarry$Fault" (stF.getD i "") "LTerraceQuarry$Fault;"), w ∈ lw_tbl := lw_sub [353, 355, 362, 575, 482, 497] (by decide +kernel)
set_option maxRecDepth 100000 in
theorem twV : ∀ w ∈ (List.range 8).map (fun i => Cond.laysStatic "TerraceQuarry$Verb" (stV.getD i "") "LTerraceQuarry$Verb;"), w ∈ lw_tbl := lw_sub [1276, 1277, 1278, 1279, 1280, 1281, 1282, 789] (by decide +kernel)
set_option maxRecDepth 100000 in
theorem twS : ∀ w ∈ stT.map (fun q => Cond.stringRef q.1 q.2.1 q.2.2), w ∈ lw_tbl := lw_sub [1284, 1285, 1286, 1287, 1288, 1289, 1290, 1283, 949, 955, 971, 977, 1116, 799, 851, 986, 991, 1185, 1212, 1225, 383, 396, 412, 428, 444] (by decide +kernel)
set_option maxRecDepth 100000 in
theorem twM : ∀ w ∈ [Cond.initialized "TerraceQuarry$Fault", Cond.initialized "TerraceQuarry$Verb", Cond.initialized "TerraceQuarry$1", Cond.initialized "java/util/ArrayList", Cond.initialized "java/lang/String", Cond.initialized "jdk/internal/util/Preconditions", Cond.initialized Bundle.tN, Cond.laysStatic "TerraceQuarry$Verb" "ALL" "[LTerraceQuarry$Verb;", Cond.laysStatic "TerraceQuarry$1" "$SwitchMap$TerraceQuarry$Fault" "[I", Cond.laysStatic "TerraceQuarry$1" "$SwitchMap$TerraceQuarry$Verb" "[I", Cond.laysStatic "java/util/ArrayList" "DEFAULTCAPACITY_EMPTY_ELEMENTDATA" "[Ljava/lang/Object;", Cond.laysStatic "java/lang/String" "COMPACT_STRINGS" "Z", Cond.laysStatic "jdk/internal/util/Preconditions" "SIOOBE_FORMATTER" "Ljava/util/function/BiFunction;", Cond.laysStatic Bundle.tN "UNASSIGNED_STACK" Bundle.steD, Cond.laysStatic Bundle.tN "SUPPRESSED_SENTINEL" Bundle.listD, Cond.castable "TerraceQuarry$Command" "java/lang/Object", Cond.arrayOver (.object "TerraceQuarry$Quarry"), Cond.arrayOver (.object "java/lang/Object"), Cond.arrayClass .int, Cond.arrayClass .boolean, Cond.arrayClass .char], w ∈ lw_tbl := lw_sub [34, 42, 35, 24, 31, 44, 26, 629, 367, 826, 172, 650, 674, 269, 271, 1258, 142, 777, 111, 112, 185] (by decide +kernel)
set_option maxRecDepth 100000 in
theorem twD : ∀ w ∈ stDc.map Cond.declares, w ∈ lw_tbl := lw_sub [310, 312, 314] (by decide +kernel)
set_option maxRecDepth 100000 in
theorem twX : ∀ w ∈ exN.map (fun X => Cond.castable X X), w ∈ lw_tbl := lw_sub [376, 389, 405, 421, 437, 1109] (by decide +kernel)
set_option maxRecDepth 100000 in
theorem twC_J0 : ∀ w ∈ u_ws RJ0 TJ0 2, w ∈ lw_tbl := by decide +kernel
set_option maxRecDepth 100000 in
theorem twC_Jx00060 : ∀ w ∈ u_ws RJx00060 TJx00060 6, w ∈ lw_tbl := by decide +kernel
set_option maxRecDepth 100000 in
theorem twC_Jx4a65c : ∀ w ∈ u_ws RJx4a65c TJx4a65c 3, w ∈ lw_tbl := by decide +kernel
set_option maxRecDepth 100000 in
theorem twC_X1 : ∀ w ∈ u_ws RX1 TX1 3, w ∈ lw_tbl := by decide +kernel
set_option maxRecDepth 100000 in
theorem twC_X4 : ∀ w ∈ u_ws RX4 TX4 3, w ∈ lw_tbl := by decide +kernel
set_option maxRecDepth 100000 in
theorem twC_X5 : ∀ w ∈ u_ws RX5 TX5 2, w ∈ lw_tbl := by decide +kernel
set_option maxRecDepth 100000 in
theorem twC_X6 : ∀ w ∈ u_ws RX6 TX6 3, w ∈ lw_tbl := by decide +kernel
set_option maxRecDepth 100000 in
theorem twC_X7 : ∀ w ∈ u_ws RX7 TX7 15, w ∈ lw_tbl := by decide +kernel
set_option maxRecDepth 100000 in
theorem twC_X8 : ∀ w ∈ u_ws RX8 TX8 5, w ∈ lw_tbl := by decide +kernel
set_option maxRecDepth 100000 in
theorem twC_X10 : ∀ w ∈ u_ws RX10 TX10 9, w ∈ lw_tbl := by decide +kernel
set_option maxRecDepth 100000 in
theorem twI : ∀ w ∈ [Cond.instantiable RJ0 4, Cond.instantiable RJx00060 6, Cond.instantiable RJx4a65c 3, Cond.instantiable RX1 3, Cond.instantiable RX4 3, Cond.instantiable RX5 2, Cond.instantiable RX6 3, Cond.instantiable RX7 15, Cond.instantiable RX8 5, Cond.instantiable RX10 9], w ∈ lw_tbl := lw_sub [325, 252, 160, 710, 136, 197, 154, 60, 114, 52] (by decide +kernel)
