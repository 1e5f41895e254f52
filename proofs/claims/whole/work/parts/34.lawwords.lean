theorem lw_sub {ws : List Cond} (ps : List Nat) (hp : ws = ps.filterMap (fun i => lw_tbl[i]?)) : ∀ w ∈ ws, w ∈ lw_tbl := by
  intro w hw
  rw [hp] at hw
  obtain ⟨i, -, hi⟩ := List.mem_filterMap.mp hw
  exact List.mem_of_getElem? hi
set_option maxRecDepth 20000 in
theorem lwp_1 : ∀ w ∈ wsL_law0_r1, w ∈ lw_tbl := lw_sub [94, 95, 59, 1355, 1356, 68, 1807, 1808, 96, 97, 98, 99, 100, 101, 102, 103, 60, 252, 253, 156, 157, 61, 254, 178] (by decide +kernel)
set_option maxRecDepth 20000 in
theorem lwp_2 : ∀ w ∈ wsL_law0_r2, w ∈ lw_tbl := lw_sub [179, 62, 255, 196, 197, 63, 256, 239, 240, 67, 257, 258, 259, 260, 104, 105, 106, 107, 154, 108, 109, 155, 110, 111] (by decide +kernel)
set_option maxRecDepth 20000 in
theorem lwp_3 : ∀ w ∈ wsL_law0_r3, w ∈ lw_tbl := lw_sub [112, 113, 114, 115, 116, 118, 119, 158, 159, 160, 161, 162, 163, 164, 165, 166, 180, 181, 182, 183, 184, 186, 187, 188] (by decide +kernel)
set_option maxRecDepth 20000 in
theorem lwp_4 : ∀ w ∈ wsL_law0_r4, w ∈ lw_tbl := lw_sub [198, 199, 200, 201, 228, 229, 202, 203, 66, 230, 231, 204, 205, 206, 214, 216, 207, 208, 65, 209, 218, 210, 211, 64] (by decide +kernel)
set_option maxRecDepth 20000 in
theorem lwp_5 : ∀ w ∈ wsL_law0_r5, w ∈ lw_tbl := lw_sub [212, 213, 241, 242, 243, 244, 245, 246, 1357, 1358, 1359, 1360, 1364, 1365, 1366, 1367, 1370, 1371, 1372, 1373, 1375, 1382, 1361, 1362] (by decide +kernel)
set_option maxRecDepth 20000 in
theorem lwp_6 : ∀ w ∈ wsL_law0_r6, w ∈ lw_tbl := lw_sub [1363, 488, 489, 58, 490, 491, 571, 572, 573, 574, 575, 576, 577, 578, 579, 308, 309, 583, 298, 299, 75, 300, 304, 306] (by decide +kernel)
set_option maxRecDepth 20000 in
theorem lwp_7 : ∀ w ∈ wsL_law0_r7, w ∈ lw_tbl := lw_sub [301, 302, 303, 580, 581, 582, 585, 586, 587, 596, 72, 609, 79, 625, 80, 641, 81, 657, 82, 588, 590, 591, 593, 594] (by decide +kernel)
set_option maxRecDepth 20000 in
theorem lwp_8 : ∀ w ∈ wsL_law0_r8, w ∈ lw_tbl := lw_sub [76, 595, 1843, 673, 674, 675, 676, 679, 680, 84, 681, 677, 678, 482, 483, 484, 485, 487, 486, 83, 117, 120, 121, 122] (by decide +kernel)
set_option maxRecDepth 20000 in
theorem lwp_9 : ∀ w ∈ wsL_law0_r9, w ∈ lw_tbl := lw_sub [682, 683, 684, 685, 310, 311, 312, 1449, 1450, 1451, 1452, 1453, 1455, 18, 1456, 1438, 1439, 1440, 1457, 1459, 19, 1460, 1461, 1462] (by decide +kernel)
set_option maxRecDepth 20000 in
theorem lwp_10 : ∀ w ∈ wsL_law0_r10, w ∈ lw_tbl := lw_sub [1463, 1464, 1465, 1466, 1467, 1468, 1469, 1470, 1472, 20, 1473, 1474, 1475, 1476, 1434, 1436, 17, 1437, 1377, 1477, 1479, 21, 1480, 1481] (by decide +kernel)
set_option maxRecDepth 20000 in
theorem lwp_11 : ∀ w ∈ wsL_law0_r11, w ∈ lw_tbl := lw_sub [1483, 22, 1484, 1369, 1422, 1423, 1424, 1425, 686, 687, 688, 689, 690, 691, 692, 693, 694, 695, 295, 296, 297, 313, 330, 315] (by decide +kernel)
set_option maxRecDepth 20000 in
theorem lwp_12 : ∀ w ∈ wsL_law0_r12, w ∈ lw_tbl := lw_sub [317, 0, 318, 324, 325, 326, 327, 328, 329, 319, 320, 321, 322, 289, 290, 323, 292, 293, 696, 697, 698, 699, 1485, 1486] (by decide +kernel)
set_option maxRecDepth 20000 in
theorem lwp_13 : ∀ w ∈ wsL_law0_r13, w ∈ lw_tbl := lw_sub [1487, 1488, 1489, 1491, 23, 1492, 1493, 1495, 24, 1496, 1497, 1499, 25, 1500, 1504, 1505, 1501, 1502, 1503, 700, 701, 702, 703, 704] (by decide +kernel)
set_option maxRecDepth 20000 in
theorem lwp_14 : ∀ w ∈ wsL_law0_r14, w ∈ lw_tbl := lw_sub [705, 706, 707, 708, 709, 710, 711, 712, 713, 714, 1506, 1507, 1508, 1509, 1510, 1512, 26, 1513, 715, 716, 717, 718, 719, 720] (by decide +kernel)
set_option maxRecDepth 20000 in
theorem lwp_15 : ∀ w ∈ wsL_law0_r15, w ∈ lw_tbl := lw_sub [721, 722, 723, 724, 725, 726, 1514, 1515, 1516, 1517, 1518, 1520, 27, 1521, 1430, 1432, 16, 1433, 727, 728, 729, 730, 731, 732] (by decide +kernel)
set_option maxRecDepth 20000 in
theorem lwp_16 : ∀ w ∈ wsL_law0_r16, w ∈ lw_tbl := lw_sub [733, 734, 735, 736, 737, 738, 441, 442, 443, 444, 445, 446, 447, 739, 740, 741, 742, 1522, 1523, 1524, 1525, 1526, 1528, 28] (by decide +kernel)
set_option maxRecDepth 20000 in
theorem lwp_17 : ∀ w ∈ wsL_law0_r17, w ∈ lw_tbl := lw_sub [1529, 743, 744, 745, 746, 747, 748, 749, 750, 751, 752, 753, 754, 755, 756, 757, 758, 759, 760, 761, 1530, 1531, 1532, 1533] (by decide +kernel)
set_option maxRecDepth 20000 in
theorem lwp_18 : ∀ w ∈ wsL_law0_r18, w ∈ lw_tbl := lw_sub [1534, 1536, 29, 1537, 1538, 1540, 30, 1541, 1542, 1544, 31, 1545, 762, 763, 764, 765, 766, 767, 768, 769, 770, 771, 772, 773] (by decide +kernel)
set_option maxRecDepth 20000 in
theorem lwp_19 : ∀ w ∈ wsL_law0_r19, w ∈ lw_tbl := lw_sub [774, 775, 776, 777, 778, 779, 780, 781, 782, 456, 457, 458, 459, 784, 785, 786, 787, 392, 393, 394, 788, 789, 790, 791] (by decide +kernel)
set_option maxRecDepth 20000 in
theorem lwp_20 : ∀ w ∈ wsL_law0_r20, w ∈ lw_tbl := lw_sub [1546, 1547, 1548, 1549, 1550, 1552, 32, 1553, 1554, 1556, 33, 1557, 1558, 1560, 34, 1561, 1562, 1564, 35, 1565, 1566, 1567, 1568, 1569] (by decide +kernel)
set_option maxRecDepth 20000 in
theorem lwp_21 : ∀ w ∈ wsL_law0_r21, w ∈ lw_tbl := lw_sub [1570, 1571, 792, 793, 794, 795, 796, 797, 798, 799, 800, 801, 802, 803, 804, 805, 806, 1572, 1573, 1574, 1575, 1576, 1578, 36] (by decide +kernel)
set_option maxRecDepth 20000 in
theorem lwp_22 : ∀ w ∈ wsL_law0_r22, w ∈ lw_tbl := lw_sub [1579, 807, 808, 809, 810, 811, 812, 813, 814, 815, 349, 350, 351, 1580, 1581, 1582, 1583, 1584, 1586, 37, 1587, 816, 817, 818] (by decide +kernel)
set_option maxRecDepth 20000 in
theorem lwp_23 : ∀ w ∈ wsL_law0_r23, w ∈ lw_tbl := lw_sub [819, 820, 821, 822, 823, 357, 358, 359, 1588, 1589, 1590, 1591, 824, 825, 826, 827, 828, 829, 830, 831, 832, 833, 834, 1592] (by decide +kernel)
set_option maxRecDepth 20000 in
theorem lwp_24 : ∀ w ∈ wsL_law0_r24, w ∈ lw_tbl := lw_sub [1593, 1594, 1595, 835, 836, 837, 838, 839, 840, 841, 842, 843, 844, 845, 1596, 1597, 1598, 1599, 846, 847, 848, 849, 850, 851] (by decide +kernel)
set_option maxRecDepth 20000 in
theorem lwp_25 : ∀ w ∈ wsL_law0_r25, w ∈ lw_tbl := lw_sub [852, 853, 854, 1600, 1601, 1602, 1603, 855, 856, 857, 858, 859, 860, 861, 862, 1604, 1605, 1606, 1607, 863, 864, 865, 866, 867] (by decide +kernel)
set_option maxRecDepth 20000 in
theorem lwp_26 : ∀ w ∈ wsL_law0_r26, w ∈ lw_tbl := lw_sub [868, 869, 870, 1608, 1609, 1610, 1611, 280, 281, 282, 283, 284, 285, 286, 287, 288, 291, 294, 1612, 1613, 1614, 1615, 871, 872] (by decide +kernel)
set_option maxRecDepth 20000 in
theorem lwp_27 : ∀ w ∈ wsL_law0_r27, w ∈ lw_tbl := lw_sub [873, 874, 875, 876, 877, 878, 879, 880, 881, 369, 370, 371, 1616, 1617, 1618, 1619, 882, 883, 884, 885, 886, 887, 888, 889] (by decide +kernel)
set_option maxRecDepth 20000 in
theorem lwp_28 : ∀ w ∈ wsL_law0_r28, w ∈ lw_tbl := lw_sub [890, 891, 892, 452, 453, 454, 455, 1620, 1621, 1622, 1623, 1624, 1626, 38, 1627, 893, 894, 895, 896, 897, 898, 899, 460, 461] (by decide +kernel)
set_option maxRecDepth 20000 in
theorem lwp_29 : ∀ w ∈ wsL_law0_r29, w ∈ lw_tbl := lw_sub [462, 463, 348, 352, 464, 408, 409, 410, 465, 467, 5, 468, 1628, 1629, 1630, 1631, 900, 901, 902, 903, 904, 905, 906, 907] (by decide +kernel)
set_option maxRecDepth 20000 in
theorem lwp_30 : ∀ w ∈ wsL_law0_r30, w ∈ lw_tbl := lw_sub [908, 909, 910, 340, 342, 1, 343, 344, 346, 2, 347, 353, 354, 355, 356, 1632, 1633, 1634, 1635, 1636, 1638, 39, 1639, 1640] (by decide +kernel)
set_option maxRecDepth 20000 in
theorem lwp_31 : ∀ w ∈ wsL_law0_r31, w ∈ lw_tbl := lw_sub [1642, 40, 1643, 1644, 1646, 41, 1647, 1648, 911, 912, 913, 914, 915, 916, 917, 918, 919, 920, 921, 1649, 1650, 1651, 1652, 332] (by decide +kernel)
set_option maxRecDepth 20000 in
theorem lwp_32 : ∀ w ∈ wsL_law0_r32, w ∈ lw_tbl := lw_sub [333, 334, 335, 336, 337, 338, 339, 1653, 1654, 1655, 1656, 1657, 1659, 42, 1660, 360, 361, 362, 363, 364, 365, 366, 367, 368] (by decide +kernel)
set_option maxRecDepth 20000 in
theorem lwp_33 : ∀ w ∈ wsL_law0_r33, w ∈ lw_tbl := lw_sub [372, 374, 3, 375, 1661, 1662, 1663, 1664, 922, 923, 924, 925, 926, 927, 928, 929, 930, 931, 932, 933, 934, 935, 936, 937] (by decide +kernel)
set_option maxRecDepth 20000 in
theorem lwp_34 : ∀ w ∈ wsL_law0_r34, w ∈ lw_tbl := lw_sub [1665, 1666, 1667, 1668, 1669, 1671, 43, 1672, 1673, 1675, 44, 1676, 1677, 1679, 45, 1680, 376, 377, 378, 379, 380, 381, 382, 383] (by decide +kernel)
set_option maxRecDepth 20000 in
theorem lwp_35 : ∀ w ∈ wsL_law0_r35, w ∈ lw_tbl := lw_sub [1681, 1682, 1683, 1684, 939, 940, 941, 942, 943, 944, 945, 946, 948, 949, 950, 951, 952, 1685, 1686, 1687, 1688, 953, 954, 955] (by decide +kernel)
set_option maxRecDepth 20000 in
theorem lwp_36 : ∀ w ∈ wsL_law0_r36, w ∈ lw_tbl := lw_sub [956, 957, 958, 959, 960, 961, 962, 963, 1689, 1690, 1691, 1692, 965, 966, 967, 968, 969, 970, 971, 972, 974, 975, 976, 977] (by decide +kernel)
set_option maxRecDepth 20000 in
theorem lwp_37 : ∀ w ∈ wsL_law0_r37, w ∈ lw_tbl := lw_sub [1693, 1694, 1695, 1696, 384, 385, 386, 387, 388, 389, 390, 391, 1697, 1698, 1699, 1700, 395, 396, 397, 398, 399, 400, 401, 402] (by decide +kernel)
set_option maxRecDepth 20000 in
theorem lwp_38 : ∀ w ∈ wsL_law0_r38, w ∈ lw_tbl := lw_sub [1701, 1702, 1703, 1704, 403, 404, 405, 406, 407, 1705, 1706, 1707, 1708, 411, 412, 413, 414, 415, 416, 417, 418, 1709, 1710, 1711] (by decide +kernel)
set_option maxRecDepth 20000 in
theorem lwp_39 : ∀ w ∈ wsL_law0_r39, w ∈ lw_tbl := lw_sub [1712, 419, 420, 421, 422, 423, 424, 425, 426, 1713, 1714, 1715, 1716, 427, 428, 429, 430, 435, 431, 432, 433, 434, 1717, 1718] (by decide +kernel)
set_option maxRecDepth 20000 in
theorem lwp_40 : ∀ w ∈ wsL_law0_r40, w ∈ lw_tbl := lw_sub [1719, 1720, 1721, 978, 979, 980, 981, 995, 996, 997, 998, 999, 85, 469, 470, 471, 472, 1722, 1723, 1724, 1725, 436, 437, 438] (by decide +kernel)
set_option maxRecDepth 20000 in
theorem lwp_41 : ∀ w ∈ wsL_law0_r41, w ∈ lw_tbl := lw_sub [439, 440, 448, 450, 4, 451, 473, 474, 475, 476, 1726, 1727, 1728, 1729, 1002, 1003, 1004, 1005, 1006, 1007, 1008, 1009, 1010, 1011] (by decide +kernel)
set_option maxRecDepth 20000 in
theorem lwp_42 : ∀ w ∈ wsL_law0_r42, w ∈ lw_tbl := lw_sub [1012, 1014, 1015, 1016, 1017, 1746, 1747, 1748, 1749, 1374, 1018, 1019, 1020, 1021, 1022, 1023, 1024, 1025, 1026, 1027, 1028, 1029, 1030, 1031] (by decide +kernel)
set_option maxRecDepth 20000 in
theorem lwp_43 : ∀ w ∈ wsL_law0_r43, w ∈ lw_tbl := lw_sub [1032, 219, 220, 217, 1033, 1035, 7, 1036, 1037, 1038, 86, 1039, 1040, 1042, 1043, 1044, 1045, 1047, 8, 1048, 1049, 1050, 1051, 1052] (by decide +kernel)
set_option maxRecDepth 20000 in
theorem lwp_44 : ∀ w ∈ wsL_law0_r44, w ∈ lw_tbl := lw_sub [1844, 1053, 1054, 1055, 74, 1056, 1845, 1057, 1058, 1059, 1060, 1061, 1846, 1063, 1064, 1065, 1066, 1067, 1068, 1069, 1070, 1071, 1072, 1073] (by decide +kernel)
set_option maxRecDepth 20000 in
theorem lwp_45 : ∀ w ∈ wsL_law0_r45, w ∈ lw_tbl := lw_sub [1074, 1075, 1076, 1077, 1078, 1079, 1080, 87, 1081, 1082, 1083, 1084, 1085, 1087, 1088, 88, 1089, 1090, 1091, 89, 1092, 1093, 1094, 1095] (by decide +kernel)
set_option maxRecDepth 20000 in
theorem lwp_46 : ∀ w ∈ wsL_law0_r46, w ∈ lw_tbl := lw_sub [1096, 1097, 1098, 1099, 1100, 1101, 1102, 1103, 1105, 1107, 1109, 1110, 1111, 1112, 1114, 9, 1115, 1116, 1117, 1119, 10, 1120, 1121, 1122] (by decide +kernel)
set_option maxRecDepth 20000 in
theorem lwp_47 : ∀ w ∈ wsL_law0_r47, w ∈ lw_tbl := lw_sub [90, 1201, 1123, 1124, 1125, 1126, 1127, 1128, 1129, 1137, 1138, 1139, 1140, 1141, 1143, 11, 1144, 1145, 1147, 12, 1148, 1149, 1151, 13] (by decide +kernel)
set_option maxRecDepth 20000 in
theorem lwp_48 : ∀ w ∈ wsL_law0_r48, w ∈ lw_tbl := lw_sub [1152, 1194, 1195, 1153, 1154, 91, 1155, 1156, 1157, 1158, 1159, 1160, 1161, 1162, 92, 1163, 1164, 1832, 1165, 1185, 1186, 1187, 1188, 1189] (by decide +kernel)
set_option maxRecDepth 20000 in
theorem lwp_49 : ∀ w ∈ wsL_law0_r49, w ∈ lw_tbl := lw_sub [1191, 1192, 1193, 1196, 1197, 1198, 1199, 1200, 1203, 1204, 1205, 1206, 1207, 1208, 1209, 1210, 1211, 481, 1213, 1214, 1215, 1216, 1121, 1250] (by decide +kernel)
set_option maxRecDepth 20000 in
theorem lwp_50 : ∀ w ∈ wsL_law0_r50, w ∈ lw_tbl := lw_sub [1217, 1218, 1219, 1220, 1221, 1222, 1223, 1224, 1225, 1226, 93, 1227, 1228, 1229, 1230, 1231, 1232, 1233, 1234, 1235, 1236, 1237, 1239, 1240] (by decide +kernel)
set_option maxRecDepth 20000 in
theorem lwp_51 : ∀ w ∈ wsL_law0_r51, w ∈ lw_tbl := lw_sub [1241, 1242, 1243, 1244, 1245, 1246, 1247, 1248, 1249, 1251, 1252, 1253, 1254, 1255, 1256, 1257, 1258, 1259, 1260, 1261, 1262, 1264, 1265, 1266] (by decide +kernel)
set_option maxRecDepth 20000 in
theorem lwp_52 : ∀ w ∈ wsL_law0_r52, w ∈ lw_tbl := lw_sub [1267, 1750, 1751, 1752, 1753, 1380, 1381, 1754, 1756, 48, 1757, 1378, 1379, 1758, 1760, 49, 1761, 1762, 1764, 50, 1765, 1766, 1767, 1768] (by decide +kernel)
set_option maxRecDepth 20000 in
theorem lwp_53 : ∀ w ∈ wsL_law0_r53, w ∈ lw_tbl := lw_sub [1770, 1771, 1773, 51, 1774, 1775, 1777, 52, 1778, 1779, 1781, 53, 1782, 1783, 1785, 54, 1786, 1787, 1789, 55, 1790, 1791, 1793, 56] (by decide +kernel)
set_option maxRecDepth 20000 in
theorem lwp_54 : ∀ w ∈ wsL_law0_r54, w ∈ lw_tbl := lw_sub [1794, 1795, 1797, 57, 1798, 1268, 1269, 1270, 1271, 1272, 1273, 1274, 1799, 1800, 1801, 1802, 1276, 1277, 1278, 1279, 1280, 1281, 1282, 1803] (by decide +kernel)
set_option maxRecDepth 20000 in
theorem lwp_55 : ∀ w ∈ wsL_law0_r55, w ∈ lw_tbl := lw_sub [1804, 1805, 1806, 1284, 1285, 1286, 1287, 1288, 1289, 1290, 1291, 1293, 1294, 1295, 1296, 1297, 1299, 14, 1300, 1301, 1302, 1304, 15, 1305] (by decide +kernel)
set_option maxRecDepth 20000 in
theorem lwp_56 : ∀ w ∈ wsL_law0_r56, w ∈ lw_tbl := lw_sub [1306, 1307, 1308, 1309, 1310, 1730, 1731, 1732, 1733, 1376, 1734, 1736, 46, 1737, 1738, 1740, 47, 1741, 1311, 1312, 1313, 1314, 1315, 1316] (by decide +kernel)
set_option maxRecDepth 20000 in
theorem lwp_57 : ∀ w ∈ wsL_law0_r57, w ∈ lw_tbl := lw_sub [1317, 1318, 1319, 1320, 1321, 1323, 1324, 1325, 1326, 1742, 1743, 1744, 1745, 1327, 1328, 1329, 1330, 1331, 1332, 1333, 1334, 1335, 1336, 1337] (by decide +kernel)
set_option maxRecDepth 20000 in
theorem lwp_58 : ∀ w ∈ wsL_law0_r58, w ∈ lw_tbl := lw_sub [1339, 1340, 1341, 1342, 1426, 1427, 1428, 1429, 477, 478, 479, 480, 1441, 1442, 1443, 1444, 1368, 1343, 1344, 1345, 1346, 1347, 1348, 1349] (by decide +kernel)
set_option maxRecDepth 20000 in
theorem lwp_59 : ∀ w ∈ wsL_law0_r59, w ∈ lw_tbl := lw_sub [1351, 1352, 1353, 1354, 1445, 1446, 1447, 1448] (by decide +kernel)
set_option maxRecDepth 20000 in
theorem lwp_wsX100 : ∀ w ∈ wsX100, w ∈ lw_tbl := by decide +kernel
set_option maxRecDepth 20000 in
theorem lwp_wsX110 : ∀ w ∈ wsX110, w ∈ lw_tbl := by decide +kernel
set_option maxRecDepth 20000 in
theorem lwp_wsX70 : ∀ w ∈ wsX70, w ∈ lw_tbl := by decide +kernel
set_option maxRecDepth 20000 in
theorem lwp_wsX80 : ∀ w ∈ wsX80, w ∈ lw_tbl := by decide +kernel
set_option maxRecDepth 20000 in
theorem lwp_wsX40 : ∀ w ∈ wsX40, w ∈ lw_tbl := by decide +kernel
set_option maxRecDepth 20000 in
theorem lwp_wsX60 : ∀ w ∈ wsX60, w ∈ lw_tbl := by decide +kernel
set_option maxRecDepth 20000 in
theorem lwp_wsX50 : ∀ w ∈ wsX50, w ∈ lw_tbl := by decide +kernel
set_option maxRecDepth 20000 in
theorem lwp_wsJx4a65c0 : ∀ w ∈ wsJx4a65c0, w ∈ lw_tbl := by decide +kernel
set_option maxRecDepth 20000 in
theorem lwp_wsJ00 : ∀ w ∈ wsJ00, w ∈ lw_tbl := by decide +kernel
set_option maxRecDepth 20000 in
theorem lwp_wsX10 : ∀ w ∈ wsX10, w ∈ lw_tbl := by decide +kernel
theorem wsL_law_in0 : ∀ w ∈ wsL_law0, w ∈ lw_tbl := (List.forall_mem_append.mpr ⟨(List.forall_mem_append.mpr ⟨(List.forall_mem_append.mpr ⟨(List.forall_mem_append.mpr ⟨(List.forall_mem_append.mpr ⟨(List.forall_mem_append.mpr ⟨(List.forall_mem_append.mpr ⟨(List.forall_mem_append.mpr ⟨(List.forall_mem_append.mpr ⟨(List.forall_mem_append.mpr ⟨(List.forall_mem_append.mpr ⟨(List.forall_mem_append.mpr ⟨lwp_1, (List.forall_mem_append.mpr ⟨lwp_2, (List.forall_mem_append.mpr ⟨lwp_3, (List.forall_mem_append.mpr ⟨lwp_4, (List.forall_mem_append.mpr ⟨lwp_5, (List.forall_mem_append.mpr ⟨lwp_6, (List.forall_mem_append.mpr ⟨lwp_7, (List.forall_mem_append.mpr ⟨lwp_8, (List.forall_mem_append.mpr ⟨lwp_9, (List.forall_mem_append.mpr ⟨lwp_10, (List.forall_mem_append.mpr ⟨lwp_11, (List.forall_mem_append.mpr ⟨lwp_12, (List.forall_mem_append.mpr ⟨lwp_13, (List.forall_mem_append.mpr ⟨lwp_14, (List.forall_mem_append.mpr ⟨lwp_15, (List.forall_mem_append.mpr ⟨lwp_16, (List.forall_mem_append.mpr ⟨lwp_17, (List.forall_mem_append.mpr ⟨lwp_18, (List.forall_mem_append.mpr ⟨lwp_19, (List.forall_mem_append.mpr ⟨lwp_20, (List.forall_mem_append.mpr ⟨lwp_21, (List.forall_mem_append.mpr ⟨lwp_22, (List.forall_mem_append.mpr ⟨lwp_23, (List.forall_mem_append.mpr ⟨lwp_24, (List.forall_mem_append.mpr ⟨lwp_25, (List.forall_mem_append.mpr ⟨lwp_26, (List.forall_mem_append.mpr ⟨lwp_27, (List.forall_mem_append.mpr ⟨lwp_28, (List.forall_mem_append.mpr ⟨lwp_29, (List.forall_mem_append.mpr ⟨lwp_30, (List.forall_mem_append.mpr ⟨lwp_31, (List.forall_mem_append.mpr ⟨lwp_32, (List.forall_mem_append.mpr ⟨lwp_33, (List.forall_mem_append.mpr ⟨lwp_34, (List.forall_mem_append.mpr ⟨lwp_35, (List.forall_mem_append.mpr ⟨lwp_36, (List.forall_mem_append.mpr ⟨lwp_37, (List.forall_mem_append.mpr ⟨lwp_38, (List.forall_mem_append.mpr ⟨lwp_39, (List.forall_mem_append.mpr ⟨lwp_40, (List.forall_mem_append.mpr ⟨lwp_41, (List.forall_mem_append.mpr ⟨lwp_42, (List.forall_mem_append.mpr ⟨lwp_43, (List.forall_mem_append.mpr ⟨lwp_44, (List.forall_mem_append.mpr ⟨lwp_45, (List.forall_mem_append.mpr ⟨lwp_46, (List.forall_mem_append.mpr ⟨lwp_47, (List.forall_mem_append.mpr ⟨lwp_48, (List.forall_mem_append.mpr ⟨lwp_49, (List.forall_mem_append.mpr ⟨lwp_50, (List.forall_mem_append.mpr ⟨lwp_51, (List.forall_mem_append.mpr ⟨lwp_52, (List.forall_mem_append.mpr ⟨lwp_53, (List.forall_mem_append.mpr ⟨lwp_54, (List.forall_mem_append.mpr ⟨lwp_55, (List.forall_mem_append.mpr ⟨lwp_56, (List.forall_mem_append.mpr ⟨lwp_57, (List.forall_mem_append.mpr ⟨lwp_58, lwp_59⟩)⟩)⟩)⟩)⟩)⟩)⟩)⟩)⟩)⟩)⟩)⟩)⟩)⟩)⟩)⟩)⟩)⟩)⟩)⟩)⟩)⟩)⟩)⟩)⟩)⟩)⟩)⟩)⟩)⟩)⟩)⟩)⟩)⟩)⟩)⟩)⟩)⟩)⟩)⟩)⟩)⟩)⟩)⟩)⟩)⟩)⟩)⟩)⟩)⟩)⟩)⟩)⟩)⟩)⟩)⟩)⟩)⟩), lwp_wsX100⟩), lwp_wsX110⟩), lwp_wsX70⟩), lwp_wsX80⟩), lwp_wsX40⟩), lwp_wsX60⟩), lwp_wsX50⟩), lwp_wsJx4a65c0⟩), lwp_wsJ00⟩), lwp_wsX10⟩), fun _ h => nomatch h⟩)
set_option maxRecDepth 20000 in
theorem wsL_law_x0 : ∀ w ∈ (vx_atM "java/lang/ArrayIndexOutOfBoundsException" ["java/lang/IndexOutOfBoundsException", "java/lang/RuntimeException", "java/lang/Exception"]).filter goodWord, w ∈ lw_tbl := by decide +kernel
set_option maxRecDepth 20000 in
theorem wsL_law_x1 : ∀ w ∈ (vx_atS RX10 209 "java/lang/IndexOutOfBoundsException" ["java/lang/RuntimeException", "java/lang/Exception"]).filter goodWord, w ∈ lw_tbl := by decide +kernel
set_option maxRecDepth 20000 in
theorem wsL_law_x2 : ∀ w ∈ (vx_atS RX10 225 "java/lang/IllegalArgumentException" ["java/lang/RuntimeException", "java/lang/Exception"]).filter goodWord, w ∈ lw_tbl := by decide +kernel
set_option maxRecDepth 20000 in
theorem wsL_law_x3 : ∀ w ∈ (vx_atX RX10 196 "java/util/NoSuchElementException" 13 prog_42_method_4_code "java/lang/RuntimeException" ["java/lang/Exception"]).filter goodWord, w ∈ lw_tbl := by decide +kernel
set_option maxRecDepth 20000 in
theorem wsL_law_x4 : ∀ w ∈ (vx_atS RX10 275 "java/lang/IllegalStateException" ["java/lang/RuntimeException", "java/lang/Exception"]).filter goodWord, w ∈ lw_tbl := by decide +kernel
set_option maxRecDepth 20000 in
theorem wsL_law_x5 : ∀ w ∈ (vx_atS RX10 298 "java/lang/UnsupportedOperationException" ["java/lang/RuntimeException", "java/lang/Exception"]).filter goodWord, w ∈ lw_tbl := by decide +kernel
set_option maxRecDepth 20000 in
theorem wsL_law_x6 : ∀ w ∈ (vx_atS RX10 254 "java/lang/ArithmeticException" ["java/lang/RuntimeException", "java/lang/Exception"]).filter goodWord, w ∈ lw_tbl := by decide +kernel
set_option maxRecDepth 20000 in
theorem wsL_law_in : ∀ w ∈ wsL_law, w ∈ lw_tbl := fun w h => (List.mem_append.mp h).elim (fun h => (List.mem_append.mp h).elim (fun h => (List.mem_append.mp h).elim (fun h => (List.mem_append.mp h).elim (fun h => (List.mem_append.mp h).elim (fun h => (List.mem_append.mp h).elim (fun h => (List.mem_append.mp h).elim (fun h => wsL_law_in0 w h) (fun h => wsL_law_x0 w h)) (fun h => wsL_law_x1 w h)) (fun h => wsL_law_x2 w h)) (fun h => wsL_law_x3 w h)) (fun h => wsL_law_x4 w h)) (fun h => wsL_law_x5 w h)) (fun h => wsL_law_x6 w h)
