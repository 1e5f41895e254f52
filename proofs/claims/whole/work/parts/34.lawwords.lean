theorem lw_sub {ws : List Cond} (ps : List Nat) (hp : ws = ps.filterMap (fun i => lw_tbl[i]?)) : ∀ w ∈ ws, w ∈ lw_tbl := by
  intro w hw
  rw [hp] at hw
  obtain ⟨i, -, hi⟩ := List.mem_filterMap.mp hw
  exact List.mem_of_getElem? hi
set_option maxRecDepth 20000 in
theorem lwp_1 : ∀ w ∈ wsL_law0_r1, w ∈ lw_tbl := lw_sub [94, 95, 59, 1354, 1355, 68, 1806, 1807, 96, 97, 98, 99, 100, 101, 102, 103, 60, 252, 253, 156, 157, 61, 254, 178] (by decide +kernel)
set_option maxRecDepth 20000 in
theorem lwp_2 : ∀ w ∈ wsL_law0_r2, w ∈ lw_tbl := lw_sub [179, 62, 255, 196, 197, 63, 256, 239, 240, 67, 257, 258, 259, 260, 104, 105, 106, 107, 154, 108, 109, 155, 110, 111] (by decide +kernel)
set_option maxRecDepth 20000 in
theorem lwp_3 : ∀ w ∈ wsL_law0_r3, w ∈ lw_tbl := lw_sub [112, 113, 114, 115, 116, 118, 119, 158, 159, 160, 161, 162, 163, 164, 165, 166, 180, 181, 182, 183, 184, 186, 187, 188] (by decide +kernel)
set_option maxRecDepth 20000 in
theorem lwp_4 : ∀ w ∈ wsL_law0_r4, w ∈ lw_tbl := lw_sub [198, 199, 200, 201, 228, 229, 202, 203, 66, 230, 231, 204, 205, 206, 214, 216, 207, 208, 65, 209, 218, 210, 211, 64] (by decide +kernel)
set_option maxRecDepth 20000 in
theorem lwp_5 : ∀ w ∈ wsL_law0_r5, w ∈ lw_tbl := lw_sub [212, 213, 241, 242, 243, 244, 245, 246, 1356, 1357, 1358, 1359, 1363, 1364, 1365, 1366, 1369, 1370, 1371, 1372, 1374, 1381, 1360, 1361] (by decide +kernel)
set_option maxRecDepth 20000 in
theorem lwp_6 : ∀ w ∈ wsL_law0_r6, w ∈ lw_tbl := lw_sub [1362, 484, 485, 58, 486, 487, 567, 568, 569, 570, 571, 572, 573, 574, 575, 308, 309, 579, 298, 299, 75, 300, 304, 306] (by decide +kernel)
set_option maxRecDepth 20000 in
theorem lwp_7 : ∀ w ∈ wsL_law0_r7, w ∈ lw_tbl := lw_sub [301, 302, 303, 576, 577, 578, 581, 582, 583, 592, 72, 605, 79, 621, 80, 637, 81, 653, 82, 584, 586, 587, 589, 590] (by decide +kernel)
set_option maxRecDepth 20000 in
theorem lwp_8 : ∀ w ∈ wsL_law0_r8, w ∈ lw_tbl := lw_sub [76, 591, 1842, 669, 670, 671, 672, 675, 676, 84, 677, 673, 674, 478, 479, 480, 481, 483, 482, 83, 117, 120, 121, 122] (by decide +kernel)
set_option maxRecDepth 20000 in
theorem lwp_9 : ∀ w ∈ wsL_law0_r9, w ∈ lw_tbl := lw_sub [678, 679, 680, 681, 310, 311, 312, 1448, 1449, 1450, 1451, 1452, 1454, 18, 1455, 1437, 1438, 1439, 1456, 1458, 19, 1459, 1460, 1461] (by decide +kernel)
set_option maxRecDepth 20000 in
theorem lwp_10 : ∀ w ∈ wsL_law0_r10, w ∈ lw_tbl := lw_sub [1462, 1463, 1464, 1465, 1466, 1467, 1468, 1469, 1471, 20, 1472, 1473, 1474, 1475, 1433, 1435, 17, 1436, 1376, 1476, 1478, 21, 1479, 1480] (by decide +kernel)
set_option maxRecDepth 20000 in
theorem lwp_11 : ∀ w ∈ wsL_law0_r11, w ∈ lw_tbl := lw_sub [1482, 22, 1483, 1368, 1421, 1422, 1423, 1424, 682, 683, 684, 685, 686, 687, 688, 689, 690, 691, 295, 296, 297, 313, 328, 315] (by decide +kernel)
set_option maxRecDepth 20000 in
theorem lwp_12 : ∀ w ∈ wsL_law0_r12, w ∈ lw_tbl := lw_sub [317, 0, 318, 322, 323, 324, 325, 326, 327, 319, 320, 321, 692, 693, 694, 695, 1484, 1485, 1486, 1487, 1488, 1490, 23, 1491] (by decide +kernel)
set_option maxRecDepth 20000 in
theorem lwp_13 : ∀ w ∈ wsL_law0_r13, w ∈ lw_tbl := lw_sub [1492, 1494, 24, 1495, 1496, 1498, 25, 1499, 1503, 1504, 1500, 1501, 1502, 696, 697, 698, 699, 700, 701, 702, 703, 704, 705, 706] (by decide +kernel)
set_option maxRecDepth 20000 in
theorem lwp_14 : ∀ w ∈ wsL_law0_r14, w ∈ lw_tbl := lw_sub [707, 708, 709, 710, 1505, 1506, 1507, 1508, 1509, 1511, 26, 1512, 711, 712, 713, 714, 715, 716, 717, 718, 719, 720, 721, 722] (by decide +kernel)
set_option maxRecDepth 20000 in
theorem lwp_15 : ∀ w ∈ wsL_law0_r15, w ∈ lw_tbl := lw_sub [1513, 1514, 1515, 1516, 1517, 1519, 27, 1520, 1429, 1431, 16, 1432, 723, 724, 725, 726, 727, 728, 729, 730, 731, 732, 733, 734] (by decide +kernel)
set_option maxRecDepth 20000 in
theorem lwp_16 : ∀ w ∈ wsL_law0_r16, w ∈ lw_tbl := lw_sub [439, 440, 441, 735, 736, 737, 738, 1521, 1522, 1523, 1524, 1525, 1527, 28, 1528, 739, 740, 741, 742, 743, 744, 745, 746, 747] (by decide +kernel)
set_option maxRecDepth 20000 in
theorem lwp_17 : ∀ w ∈ wsL_law0_r17, w ∈ lw_tbl := lw_sub [748, 749, 750, 751, 752, 753, 754, 755, 756, 757, 1529, 1530, 1531, 1532, 1533, 1535, 29, 1536, 1537, 1539, 30, 1540, 1541, 1543] (by decide +kernel)
set_option maxRecDepth 20000 in
theorem lwp_18 : ∀ w ∈ wsL_law0_r18, w ∈ lw_tbl := lw_sub [31, 1544, 758, 759, 760, 761, 762, 763, 764, 765, 766, 767, 768, 769, 770, 771, 772, 773, 774, 775, 776, 777, 778, 450] (by decide +kernel)
set_option maxRecDepth 20000 in
theorem lwp_19 : ∀ w ∈ wsL_law0_r19, w ∈ lw_tbl := lw_sub [451, 452, 454, 453, 289, 290, 455, 292, 293, 780, 781, 782, 783, 390, 391, 392, 784, 785, 786, 787, 1545, 1546, 1547, 1548] (by decide +kernel)
set_option maxRecDepth 20000 in
theorem lwp_20 : ∀ w ∈ wsL_law0_r20, w ∈ lw_tbl := lw_sub [1549, 1551, 32, 1552, 1553, 1555, 33, 1556, 1557, 1559, 34, 1560, 1561, 1563, 35, 1564, 1565, 1566, 1567, 1568, 1569, 1570, 788, 789] (by decide +kernel)
set_option maxRecDepth 20000 in
theorem lwp_21 : ∀ w ∈ wsL_law0_r21, w ∈ lw_tbl := lw_sub [790, 791, 792, 793, 794, 795, 796, 797, 798, 799, 800, 801, 802, 1571, 1572, 1573, 1574, 1575, 1577, 36, 1578, 803, 804, 805] (by decide +kernel)
set_option maxRecDepth 20000 in
theorem lwp_22 : ∀ w ∈ wsL_law0_r22, w ∈ lw_tbl := lw_sub [806, 807, 808, 809, 810, 811, 347, 348, 349, 1579, 1580, 1581, 1582, 1583, 1585, 37, 1586, 812, 813, 814, 815, 816, 817, 818] (by decide +kernel)
set_option maxRecDepth 20000 in
theorem lwp_23 : ∀ w ∈ wsL_law0_r23, w ∈ lw_tbl := lw_sub [819, 355, 356, 357, 1587, 1588, 1589, 1590, 820, 821, 822, 823, 824, 825, 826, 827, 828, 829, 830, 1591, 1592, 1593, 1594, 831] (by decide +kernel)
set_option maxRecDepth 20000 in
theorem lwp_24 : ∀ w ∈ wsL_law0_r24, w ∈ lw_tbl := lw_sub [832, 833, 834, 835, 836, 837, 838, 839, 840, 841, 1595, 1596, 1597, 1598, 842, 843, 844, 845, 846, 847, 848, 849, 850, 1599] (by decide +kernel)
set_option maxRecDepth 20000 in
theorem lwp_25 : ∀ w ∈ wsL_law0_r25, w ∈ lw_tbl := lw_sub [1600, 1601, 1602, 851, 852, 853, 854, 855, 856, 857, 858, 859, 860, 861, 1603, 1604, 1605, 1606, 862, 863, 864, 865, 866, 867] (by decide +kernel)
set_option maxRecDepth 20000 in
theorem lwp_26 : ∀ w ∈ wsL_law0_r26, w ∈ lw_tbl := lw_sub [868, 869, 1607, 1608, 1609, 1610, 280, 281, 282, 283, 284, 285, 286, 287, 288, 291, 294, 1611, 1612, 1613, 1614, 870, 871, 872] (by decide +kernel)
set_option maxRecDepth 20000 in
theorem lwp_27 : ∀ w ∈ wsL_law0_r27, w ∈ lw_tbl := lw_sub [873, 874, 875, 876, 877, 878, 879, 880, 367, 368, 369, 1615, 1616, 1617, 1618, 881, 882, 883, 884, 885, 886, 887, 888, 889] (by decide +kernel)
set_option maxRecDepth 20000 in
theorem lwp_28 : ∀ w ∈ wsL_law0_r28, w ∈ lw_tbl := lw_sub [890, 891, 446, 447, 448, 449, 1619, 1620, 1621, 1622, 1623, 1625, 38, 1626, 892, 893, 894, 895, 896, 897, 898, 456, 457, 458] (by decide +kernel)
set_option maxRecDepth 20000 in
theorem lwp_29 : ∀ w ∈ wsL_law0_r29, w ∈ lw_tbl := lw_sub [459, 346, 350, 460, 406, 407, 408, 461, 463, 5, 464, 1627, 1628, 1629, 1630, 899, 900, 901, 902, 903, 904, 905, 906, 907] (by decide +kernel)
set_option maxRecDepth 20000 in
theorem lwp_30 : ∀ w ∈ wsL_law0_r30, w ∈ lw_tbl := lw_sub [908, 909, 338, 340, 1, 341, 342, 344, 2, 345, 351, 352, 353, 354, 1631, 1632, 1633, 1634, 1635, 1637, 39, 1638, 1639, 1641] (by decide +kernel)
set_option maxRecDepth 20000 in
theorem lwp_31 : ∀ w ∈ wsL_law0_r31, w ∈ lw_tbl := lw_sub [40, 1642, 1643, 1645, 41, 1646, 1647, 910, 911, 912, 913, 914, 915, 916, 917, 918, 919, 920, 1648, 1649, 1650, 1651, 330, 331] (by decide +kernel)
set_option maxRecDepth 20000 in
theorem lwp_32 : ∀ w ∈ wsL_law0_r32, w ∈ lw_tbl := lw_sub [332, 333, 334, 335, 336, 337, 1652, 1653, 1654, 1655, 1656, 1658, 42, 1659, 358, 359, 360, 361, 362, 363, 364, 365, 366, 370] (by decide +kernel)
set_option maxRecDepth 20000 in
theorem lwp_33 : ∀ w ∈ wsL_law0_r33, w ∈ lw_tbl := lw_sub [372, 3, 373, 1660, 1661, 1662, 1663, 921, 922, 923, 924, 925, 926, 927, 928, 929, 930, 931, 932, 933, 934, 935, 936, 1664] (by decide +kernel)
set_option maxRecDepth 20000 in
theorem lwp_34 : ∀ w ∈ wsL_law0_r34, w ∈ lw_tbl := lw_sub [1665, 1666, 1667, 1668, 1670, 43, 1671, 1672, 1674, 44, 1675, 1676, 1678, 45, 1679, 374, 375, 376, 377, 378, 379, 380, 381, 1680] (by decide +kernel)
set_option maxRecDepth 20000 in
theorem lwp_35 : ∀ w ∈ wsL_law0_r35, w ∈ lw_tbl := lw_sub [1681, 1682, 1683, 938, 939, 940, 941, 942, 943, 944, 945, 947, 948, 949, 950, 951, 1684, 1685, 1686, 1687, 952, 953, 954, 955] (by decide +kernel)
set_option maxRecDepth 20000 in
theorem lwp_36 : ∀ w ∈ wsL_law0_r36, w ∈ lw_tbl := lw_sub [956, 957, 958, 959, 960, 961, 962, 1688, 1689, 1690, 1691, 964, 965, 966, 967, 968, 969, 970, 971, 973, 974, 975, 976, 1692] (by decide +kernel)
set_option maxRecDepth 20000 in
theorem lwp_37 : ∀ w ∈ wsL_law0_r37, w ∈ lw_tbl := lw_sub [1693, 1694, 1695, 382, 383, 384, 385, 386, 387, 388, 389, 1696, 1697, 1698, 1699, 393, 394, 395, 396, 397, 398, 399, 400, 1700] (by decide +kernel)
set_option maxRecDepth 20000 in
theorem lwp_38 : ∀ w ∈ wsL_law0_r38, w ∈ lw_tbl := lw_sub [1701, 1702, 1703, 401, 402, 403, 404, 405, 1704, 1705, 1706, 1707, 409, 410, 411, 412, 413, 414, 415, 416, 1708, 1709, 1710, 1711] (by decide +kernel)
set_option maxRecDepth 20000 in
theorem lwp_39 : ∀ w ∈ wsL_law0_r39, w ∈ lw_tbl := lw_sub [417, 418, 419, 420, 421, 422, 423, 424, 1712, 1713, 1714, 1715, 425, 426, 427, 428, 433, 429, 430, 431, 432, 1716, 1717, 1718] (by decide +kernel)
set_option maxRecDepth 20000 in
theorem lwp_40 : ∀ w ∈ wsL_law0_r40, w ∈ lw_tbl := lw_sub [1719, 1720, 977, 978, 979, 980, 994, 995, 996, 997, 998, 85, 465, 466, 467, 468, 1721, 1722, 1723, 1724, 434, 435, 436, 437] (by decide +kernel)
set_option maxRecDepth 20000 in
theorem lwp_41 : ∀ w ∈ wsL_law0_r41, w ∈ lw_tbl := lw_sub [438, 442, 444, 4, 445, 469, 470, 471, 472, 1725, 1726, 1727, 1728, 1001, 1002, 1003, 1004, 1005, 1006, 1007, 1008, 1009, 1010, 1011] (by decide +kernel)
set_option maxRecDepth 20000 in
theorem lwp_42 : ∀ w ∈ wsL_law0_r42, w ∈ lw_tbl := lw_sub [1013, 1014, 1015, 1016, 1745, 1746, 1747, 1748, 1373, 1017, 1018, 1019, 1020, 1021, 1022, 1023, 1024, 1025, 1026, 1027, 1028, 1029, 1030, 1031] (by decide +kernel)
set_option maxRecDepth 20000 in
theorem lwp_43 : ∀ w ∈ wsL_law0_r43, w ∈ lw_tbl := lw_sub [219, 220, 217, 1032, 1034, 7, 1035, 1036, 1037, 86, 1038, 1039, 1041, 1042, 1043, 1044, 1046, 8, 1047, 1048, 1049, 1050, 1051, 1843] (by decide +kernel)
set_option maxRecDepth 20000 in
theorem lwp_44 : ∀ w ∈ wsL_law0_r44, w ∈ lw_tbl := lw_sub [1052, 1053, 1054, 74, 1055, 1844, 1056, 1057, 1058, 1059, 1060, 1845, 1062, 1063, 1064, 1065, 1066, 1067, 1068, 1069, 1070, 1071, 1072, 1073] (by decide +kernel)
set_option maxRecDepth 20000 in
theorem lwp_45 : ∀ w ∈ wsL_law0_r45, w ∈ lw_tbl := lw_sub [1074, 1075, 1076, 1077, 1078, 1079, 87, 1080, 1081, 1082, 1083, 1084, 1086, 1087, 88, 1088, 1089, 1090, 89, 1091, 1092, 1093, 1094, 1095] (by decide +kernel)
set_option maxRecDepth 20000 in
theorem lwp_46 : ∀ w ∈ wsL_law0_r46, w ∈ lw_tbl := lw_sub [1096, 1097, 1098, 1099, 1100, 1101, 1102, 1104, 1106, 1108, 1109, 1110, 1111, 1113, 9, 1114, 1115, 1116, 1118, 10, 1119, 1120, 1121, 90] (by decide +kernel)
set_option maxRecDepth 20000 in
theorem lwp_47 : ∀ w ∈ wsL_law0_r47, w ∈ lw_tbl := lw_sub [1200, 1122, 1123, 1124, 1125, 1126, 1127, 1128, 1136, 1137, 1138, 1139, 1140, 1142, 11, 1143, 1144, 1146, 12, 1147, 1148, 1150, 13, 1151] (by decide +kernel)
set_option maxRecDepth 20000 in
theorem lwp_48 : ∀ w ∈ wsL_law0_r48, w ∈ lw_tbl := lw_sub [1193, 1194, 1152, 1153, 91, 1154, 1155, 1156, 1157, 1158, 1159, 1160, 1161, 92, 1162, 1163, 1831, 1164, 1184, 1185, 1186, 1187, 1188, 1190] (by decide +kernel)
set_option maxRecDepth 20000 in
theorem lwp_49 : ∀ w ∈ wsL_law0_r49, w ∈ lw_tbl := lw_sub [1191, 1192, 1195, 1196, 1197, 1198, 1199, 1202, 1203, 1204, 1205, 1206, 1207, 1208, 1209, 1210, 477, 1212, 1213, 1214, 1215, 1120, 1249, 1216] (by decide +kernel)
set_option maxRecDepth 20000 in
theorem lwp_50 : ∀ w ∈ wsL_law0_r50, w ∈ lw_tbl := lw_sub [1217, 1218, 1219, 1220, 1221, 1222, 1223, 1224, 1225, 93, 1226, 1227, 1228, 1229, 1230, 1231, 1232, 1233, 1234, 1235, 1236, 1238, 1239, 1240] (by decide +kernel)
set_option maxRecDepth 20000 in
theorem lwp_51 : ∀ w ∈ wsL_law0_r51, w ∈ lw_tbl := lw_sub [1241, 1242, 1243, 1244, 1245, 1246, 1247, 1248, 1250, 1251, 1252, 1253, 1254, 1255, 1256, 1257, 1258, 1259, 1260, 1261, 1263, 1264, 1265, 1266] (by decide +kernel)
set_option maxRecDepth 20000 in
theorem lwp_52 : ∀ w ∈ wsL_law0_r52, w ∈ lw_tbl := lw_sub [1749, 1750, 1751, 1752, 1379, 1380, 1753, 1755, 48, 1756, 1377, 1378, 1757, 1759, 49, 1760, 1761, 1763, 50, 1764, 1765, 1766, 1767, 1769] (by decide +kernel)
set_option maxRecDepth 20000 in
theorem lwp_53 : ∀ w ∈ wsL_law0_r53, w ∈ lw_tbl := lw_sub [1770, 1772, 51, 1773, 1774, 1776, 52, 1777, 1778, 1780, 53, 1781, 1782, 1784, 54, 1785, 1786, 1788, 55, 1789, 1790, 1792, 56, 1793] (by decide +kernel)
set_option maxRecDepth 20000 in
theorem lwp_54 : ∀ w ∈ wsL_law0_r54, w ∈ lw_tbl := lw_sub [1794, 1796, 57, 1797, 1267, 1268, 1269, 1270, 1271, 1272, 1273, 1798, 1799, 1800, 1801, 1275, 1276, 1277, 1278, 1279, 1280, 1281, 1802, 1803] (by decide +kernel)
set_option maxRecDepth 20000 in
theorem lwp_55 : ∀ w ∈ wsL_law0_r55, w ∈ lw_tbl := lw_sub [1804, 1805, 1283, 1284, 1285, 1286, 1287, 1288, 1289, 1290, 1292, 1293, 1294, 1295, 1296, 1298, 14, 1299, 1300, 1301, 1303, 15, 1304, 1305] (by decide +kernel)
set_option maxRecDepth 20000 in
theorem lwp_56 : ∀ w ∈ wsL_law0_r56, w ∈ lw_tbl := lw_sub [1306, 1307, 1308, 1309, 1729, 1730, 1731, 1732, 1375, 1733, 1735, 46, 1736, 1737, 1739, 47, 1740, 1310, 1311, 1312, 1313, 1314, 1315, 1316] (by decide +kernel)
set_option maxRecDepth 20000 in
theorem lwp_57 : ∀ w ∈ wsL_law0_r57, w ∈ lw_tbl := lw_sub [1317, 1318, 1319, 1320, 1322, 1323, 1324, 1325, 1741, 1742, 1743, 1744, 1326, 1327, 1328, 1329, 1330, 1331, 1332, 1333, 1334, 1335, 1336, 1338] (by decide +kernel)
set_option maxRecDepth 20000 in
theorem lwp_58 : ∀ w ∈ wsL_law0_r58, w ∈ lw_tbl := lw_sub [1339, 1340, 1341, 1425, 1426, 1427, 1428, 473, 474, 475, 476, 1440, 1441, 1442, 1443, 1367, 1342, 1343, 1344, 1345, 1346, 1347, 1348, 1350] (by decide +kernel)
set_option maxRecDepth 20000 in
theorem lwp_59 : ∀ w ∈ wsL_law0_r59, w ∈ lw_tbl := lw_sub [1351, 1352, 1353, 1444, 1445, 1446, 1447] (by decide +kernel)
set_option maxRecDepth 20000 in
theorem lwp_wsX100 : ∀ w ∈ wsX100, w ∈ lw_tbl := by decide +kernel
set_option maxRecDepth 20000 in
theorem lwp_wsX110 : ∀ w ∈ wsX110, w ∈ lw_tbl := by decide +kernel
set_option maxRecDepth 20000 in
theorem lwp_wsX70 : ∀ w ∈ wsX70, w ∈ lw_tbl := by decide +kernel
set_option maxRecDepth 20000 in
theorem lwp_wsX80 : ∀ w ∈ wsX80, w ∈ lw_tbl := by decide +kernel
set_option maxRecDepth 20000 in
theorem lwp_wsX40 : ∀ w ∈ wsX40, w ∈ lw_tbl := by decide +kernel
set_option maxRecDepth 20000 in
theorem lwp_wsX60 : ∀ w ∈ wsX60, w ∈ lw_tbl := by decide +kernel
set_option maxRecDepth 20000 in
theorem lwp_wsX50 : ∀ w ∈ wsX50, w ∈ lw_tbl := by decide +kernel
set_option maxRecDepth 20000 in
theorem lwp_wsJx4a65c0 : ∀ w ∈ wsJx4a65c0, w ∈ lw_tbl := by decide +kernel
set_option maxRecDepth 20000 in
theorem lwp_wsJ00 : ∀ w ∈ wsJ00, w ∈ lw_tbl := by decide +kernel
set_option maxRecDepth 20000 in
theorem lwp_wsX10 : ∀ w ∈ wsX10, w ∈ lw_tbl := by decide +kernel
theorem wsL_law_in0 : ∀ w ∈ wsL_law0, w ∈ lw_tbl := (List.forall_mem_append.mpr ⟨(List.forall_mem_append.mpr ⟨(List.forall_mem_append.mpr ⟨(List.forall_mem_append.mpr ⟨(List.forall_mem_append.mpr ⟨(List.forall_mem_append.mpr ⟨(List.forall_mem_append.mpr ⟨(List.forall_mem_append.mpr ⟨(List.forall_mem_append.mpr ⟨(List.forall_mem_append.mpr ⟨(List.forall_mem_append.mpr ⟨(List.forall_mem_append.mpr ⟨lwp_1, (List.forall_mem_append.mpr ⟨lwp_2, (List.forall_mem_append.mpr ⟨lwp_3, (List.forall_mem_append.mpr ⟨lwp_4, (List.forall_mem_append.mpr ⟨lwp_5, (List.forall_mem_append.mpr ⟨lwp_6, (List.forall_mem_append.mpr ⟨lwp_7, (List.forall_mem_append.mpr ⟨lwp_8, (List.forall_mem_append.mpr ⟨lwp_9, (List.forall_mem_append.mpr ⟨lwp_10, (List.forall_mem_append.mpr ⟨lwp_11, (List.forall_mem_append.mpr ⟨lwp_12, (List.forall_mem_append.mpr ⟨lwp_13, (List.forall_mem_append.mpr ⟨lwp_14, (List.forall_mem_append.mpr ⟨lwp_15, (List.forall_mem_append.mpr ⟨lwp_16, (List.forall_mem_append.mpr ⟨lwp_17, (List.forall_mem_append.mpr ⟨lwp_18, (List.forall_mem_append.mpr ⟨lwp_19, (List.forall_mem_append.mpr ⟨lwp_20, (List.forall_mem_append.mpr ⟨lwp_21, (List.forall_mem_append.mpr ⟨lwp_22, (List.forall_mem_append.mpr ⟨lwp_23, (List.forall_mem_append.mpr ⟨lwp_24, (List.forall_mem_append.mpr ⟨lwp_25, (List.forall_mem_append.mpr ⟨lwp_26, (List.forall_mem_append.mpr ⟨lwp_27, (List.forall_mem_append.mpr ⟨lwp_28, (List.forall_mem_append.mpr ⟨lwp_29, (List.forall_mem_append.mpr ⟨lwp_30, (List.forall_mem_append.mpr ⟨lwp_31, (List.forall_mem_append.mpr ⟨lwp_32, (List.forall_mem_append.mpr ⟨lwp_33, (List.forall_mem_append.mpr ⟨lwp_34, (List.forall_mem_append.mpr ⟨lwp_35, (List.forall_mem_append.mpr ⟨lwp_36, (List.forall_mem_append.mpr ⟨lwp_37, (List.forall_mem_append.mpr ⟨lwp_38, (List.forall_mem_append.mpr ⟨lwp_39, (List.forall_mem_append.mpr ⟨lwp_40, (List.forall_mem_append.mpr ⟨lwp_41, (List.forall_mem_append.mpr ⟨lwp_42, (List.forall_mem_append.mpr ⟨lwp_43, (List.forall_mem_append.mpr ⟨lwp_44, (List.forall_mem_append.mpr ⟨lwp_45, (List.forall_mem_append.mpr ⟨lwp_46, (List.forall_mem_append.mpr ⟨lwp_47, (List.forall_mem_append.mpr ⟨lwp_48, (List.forall_mem_append.mpr ⟨lwp_49, (List.forall_mem_append.mpr ⟨lwp_50, (List.forall_mem_append.mpr ⟨lwp_51, (List.forall_mem_append.mpr ⟨lwp_52, (List.forall_mem_append.mpr ⟨lwp_53, (List.forall_mem_append.mpr ⟨lwp_54, (List.forall_mem_append.mpr ⟨lwp_55, (List.forall_mem_append.mpr ⟨lwp_56, (List.forall_mem_append.mpr ⟨lwp_57, (List.forall_mem_append.mpr ⟨lwp_58, lwp_59⟩)⟩)⟩)⟩)⟩)⟩)⟩)⟩)⟩)⟩)⟩)⟩)⟩)⟩)⟩)⟩)⟩)⟩)⟩)⟩)⟩)⟩)⟩)⟩)⟩)⟩)⟩)⟩)⟩)⟩)⟩)⟩)⟩)⟩)⟩)⟩)⟩)⟩)⟩)⟩)⟩)⟩)⟩)⟩)⟩)⟩)⟩)⟩)⟩)⟩)⟩)⟩)⟩)⟩)⟩)⟩)⟩)⟩), lwp_wsX100⟩), lwp_wsX110⟩), lwp_wsX70⟩), lwp_wsX80⟩), lwp_wsX40⟩), lwp_wsX60⟩), lwp_wsX50⟩), lwp_wsJx4a65c0⟩), lwp_wsJ00⟩), lwp_wsX10⟩), fun _ h => nomatch h⟩)
set_option maxRecDepth 20000 in
theorem wsL_law_x0 : ∀ w ∈ (vx_atM "java/lang/ArrayIndexOutOfBoundsException" ["java/lang/IndexOutOfBoundsException", "java/lang/RuntimeException", "java/lang/Exception"]).filter goodWord, w ∈ lw_tbl := by decide +kernel
set_option maxRecDepth 20000 in
theorem wsL_law_x1 : ∀ w ∈ (vx_atS RX10 209 "java/lang/IndexOutOfBoundsException" ["java/lang/RuntimeException", "java/lang/Exception"]).filter goodWord, w ∈ lw_tbl := by decide +kernel
set_option maxRecDepth 20000 in
theorem wsL_law_x2 : ∀ w ∈ (vx_atS RX10 225 "java/lang/IllegalArgumentException" ["java/lang/RuntimeException", "java/lang/Exception"]).filter goodWord, w ∈ lw_tbl := by decide +kernel
set_option maxRecDepth 20000 in
theorem wsL_law_x3 : ∀ w ∈ (vx_atX RX10 196 "java/util/NoSuchElementException" 13 prog_42_method_4_code "java/lang/RuntimeException" ["java/lang/Exception"]).filter goodWord, w ∈ lw_tbl := by decide +kernel
set_option maxRecDepth 20000 in
theorem wsL_law_x4 : ∀ w ∈ (vx_atS RX10 275 "java/lang/IllegalStateException" ["java/lang/RuntimeException", "java/lang/Exception"]).filter goodWord, w ∈ lw_tbl := by decide +kernel
set_option maxRecDepth 20000 in
theorem wsL_law_x5 : ∀ w ∈ (vx_atS RX10 298 "java/lang/UnsupportedOperationException" ["java/lang/RuntimeException", "java/lang/Exception"]).filter goodWord, w ∈ lw_tbl := by decide +kernel
set_option maxRecDepth 20000 in
theorem wsL_law_x6 : ∀ w ∈ (vx_atS RX10 254 "java/lang/ArithmeticException" ["java/lang/RuntimeException", "java/lang/Exception"]).filter goodWord, w ∈ lw_tbl := by decide +kernel
set_option maxRecDepth 20000 in
theorem wsL_law_in : ∀ w ∈ wsL_law, w ∈ lw_tbl := fun w h => (List.mem_append.mp h).elim (fun h => (List.mem_append.mp h).elim (fun h => (List.mem_append.mp h).elim (fun h => (List.mem_append.mp h).elim (fun h => (List.mem_append.mp h).elim (fun h => (List.mem_append.mp h).elim (fun h => (List.mem_append.mp h).elim (fun h => wsL_law_in0 w h) (fun h => wsL_law_x0 w h)) (fun h => wsL_law_x1 w h)) (fun h => wsL_law_x2 w h)) (fun h => wsL_law_x3 w h)) (fun h => wsL_law_x4 w h)) (fun h => wsL_law_x5 w h)) (fun h => wsL_law_x6 w h)
