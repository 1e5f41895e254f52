theorem goodIn_cons {big a : List Cond} {c : Cond} (hc : GoodIn big [c]) (ha : GoodIn big a) : GoodIn big (c :: a) := fun w h => (List.mem_cons.mp h).elim (fun e => hc w (List.mem_singleton.mpr e)) (ha w)
set_option maxRecDepth 20000 in
theorem ggL_law_X11_liftedShare : GoodIn wsL_law wsX11_liftedShare := goodIn_ca (goodIn_r _ [955, 108, 344, 345, 346, 5, 347, 230, 231, 232, 233, 234, 1408, 1409, 1410, 1411, 1412, 1413, 1414, 1415, 1416, 1417, 1418, 1419, 1420, 1421, 1422, 1423, 1424, 1425, 1426] (by decide +kernel) (by decide +kernel)) (goodIn_sub (fun _ h => List.mem_append_left _ (List.mem_append_left _ (List.mem_append_left _ (List.mem_append_left _ (List.mem_append_left _ (List.mem_append_left _ (List.mem_append_right _ h))))))) (by decide +kernel))
set_option maxRecDepth 20000 in
theorem gL_law_X11_liftedShare : GoodIn wsL_law (wsV RL 259 RX11 yX11_liftedShare wsX11_liftedShare) := goodIn_app (goodIn_of _ (by decide +kernel)) ggL_law_X11_liftedShare
set_option maxRecDepth 20000 in
theorem ggL_law_X10_isConsistent : GoodIn wsL_law wsX10_isConsistent := goodIn_ca (goodIn_r _ [959, 17, 22, 895, 676, 677, 16, 678, 53, 960, 360, 361, 362, 43, 263, 264, 265, 266, 267, 268, 177, 269, 270, 271, 272, 273, 274, 140, 275, 746, 747, 748, 21, 749, 698, 699, 700, 701, 63, 702, 703, 704, 705, 59, 673, 510, 511, 512, 674, 706, 707, 708, 709, 529, 530, 531, 44, 762, 763, 764, 765, 61, 766, 632, 633, 634, 767, 768, 769, 770, 961, 962, 963, 2, 964, 650, 651, 652, 653, 431, 432, 433, 434, 435, 436, 437, 438, 439, 440, 669, 670, 671, 672, 60, 675, 679, 680, 681, 682, 904, 905, 906, 907, 189, 948, 949, 950, 951, 190, 965, 966, 967, 968, 47, 1399, 1400, 1401, 1402, 1403, 1404, 1405, 1406, 1407, 1427, 1428, 1429, 1430, 1431, 1432, 1433, 1434, 1435, 1436, 1437, 1438, 1439, 1440, 1441, 1442, 1443, 1444, 1445, 1446] (by decide +kernel) (by decide +kernel)) (goodIn_sub (fun _ h => List.mem_append_left _ (List.mem_append_left _ (List.mem_append_left _ (List.mem_append_left _ (List.mem_append_left _ (List.mem_append_left _ (List.mem_append_right _ h))))))) (by decide +kernel))
set_option maxRecDepth 20000 in
theorem gL_law_X10_isConsistent : GoodIn wsL_law (wsV RL 260 RX10 yX10_isConsistent wsX10_isConsistent) := goodIn_app (goodIn_of _ (by decide +kernel)) ggL_law_X10_isConsistent
set_option maxRecDepth 20000 in
theorem ggL_law_X11_isConsistent : GoodIn wsL_law wsX11_isConsistent := goodIn_r _ [972, 234, 1408, 1409, 1410, 1411, 1412, 1413, 1414, 1415, 1416, 1417, 1418, 1419, 1420, 1421, 1422, 1423, 1424, 1425, 1426] (by decide +kernel) (by decide +kernel)
set_option maxRecDepth 20000 in
theorem gL_law_X11_isConsistent : GoodIn wsL_law (wsV RL 264 RX11 yX11_isConsistent wsX11_isConsistent) := goodIn_app (goodIn_of _ (by decide +kernel)) ggL_law_X11_isConsistent
set_option maxRecDepth 20000 in
theorem ggL_law_L_append : GoodIn wsL_law wsL_append := goodIn_ca (goodIn_ca (goodIn_r _ [975, 251, 976, 977, 978, 2, 979, 159, 160, 30, 980, 981, 982, 29, 983, 82, 984, 985, 986, 987, 77, 1399, 1400, 1401, 1402, 1403, 1404, 1405, 1406, 1407, 1450, 1451, 1452] (by decide +kernel) (by decide +kernel)) (goodIn_sub (fun _ h => List.mem_append_left _ (List.mem_append_left _ (List.mem_append_left _ (List.mem_append_left _ (List.mem_append_left _ (List.mem_append_left _ (List.mem_append_right _ h))))))) (by decide +kernel))) (goodIn_sub (fun _ h => List.mem_append_left _ (List.mem_append_left _ (List.mem_append_right _ h))) (by decide +kernel))
set_option maxRecDepth 20000 in
theorem gL_law_L_append : GoodIn wsL_law (va_wsS RL 265 yL_append wsL_append) := goodIn_app (goodIn_of _ (by decide +kernel)) ggL_law_L_append
set_option maxRecDepth 20000 in
theorem ggL_law_X11_append : GoodIn wsL_law wsX11_append := goodIn_ca (goodIn_r _ [991, 992, 115, 344, 345, 346, 5, 347, 230, 231, 232, 233, 234, 1408, 1409, 1410, 1411, 1412, 1413, 1414, 1415, 1416, 1417, 1418, 1419, 1420, 1421, 1422, 1423, 1424, 1425, 1426] (by decide +kernel) (by decide +kernel)) (goodIn_sub (fun _ h => List.mem_append_left _ (List.mem_append_left _ (List.mem_append_left _ (List.mem_append_left _ (List.mem_append_left _ (List.mem_append_left _ (List.mem_append_right _ h))))))) (by decide +kernel))
set_option maxRecDepth 20000 in
theorem gL_law_X11_append : GoodIn wsL_law (wsV RL 268 RX11 yX11_append wsX11_append) := goodIn_app (goodIn_of _ (by decide +kernel)) ggL_law_X11_append
set_option maxRecDepth 20000 in
theorem gk_L_run_0 : GoodIn wsL_law [.codeWith yL_run cL_run 3 (some .int) [(0, 8, 11, 15), (0, 8, 14, 23)]] := goodIn_r _ [995] (by decide +kernel) (by decide +kernel)
set_option maxRecDepth 20000 in
theorem gk_L_run_1 : GoodIn wsL_law wsL_run_r1 := goodIn_r _ [126, 252, 996, 997, 998, 2, 999, 155, 156, 161, 162, 30, 36, 18, 17, 37, 26, 1000, 1001, 1002, 29, 1003, 81, 82] (by decide +kernel) (by decide +kernel)
set_option maxRecDepth 20000 in
theorem gk_L_run_2 : GoodIn wsL_law wsL_run_r2 := goodIn_r _ [77, 1004, 1005, 1006, 80, 1007, 1008, 1009, 87, 1010, 1011, 1012, 1013, 1014, 1015, 1016, 1017, 1018, 1019, 1020, 1021, 1022, 1023, 1024] (by decide +kernel) (by decide +kernel)
set_option maxRecDepth 20000 in
theorem gk_L_run_3 : GoodIn wsL_law wsL_run_r3 := goodIn_r _ [1025, 1026, 1027, 1028, 1029, 1030, 1031, 1032, 1033, 1034, 1035, 1036, 1037, 1038, 1039, 1040, 1041, 1042, 1043, 1044, 1045, 1046, 1047, 1048] (by decide +kernel) (by decide +kernel)
set_option maxRecDepth 20000 in
theorem gk_L_run_4 : GoodIn wsL_law wsL_run_r4 := goodIn_r _ [1049, 1050, 1051, 1052, 1053, 1054, 1055, 1056, 1057, 1058, 1059, 1060, 1061, 1062, 1063, 1064, 1065, 1066, 1067, 1068, 1069, 1070, 1071, 1072] (by decide +kernel) (by decide +kernel)
set_option maxRecDepth 20000 in
theorem gk_L_run_5 : GoodIn wsL_law wsL_run_r5 := goodIn_r _ [1073, 1074, 1075, 1076, 1077, 1078, 1079, 1080, 1081, 1082, 1083, 1084, 1085, 1086, 1087, 1088, 1089, 1090, 1091, 1092, 1093, 1094, 1095, 1096] (by decide +kernel) (by decide +kernel)
set_option maxRecDepth 20000 in
theorem gk_L_run_6 : GoodIn wsL_law wsL_run_r6 := goodIn_r _ [271, 177, 272, 1097, 1098, 1099, 1100, 1101, 1102, 1103, 1104, 1105, 1106, 1107, 1108, 12, 13, 1109, 42, 1110, 1111, 1112, 1113, 1114] (by decide +kernel) (by decide +kernel)
set_option maxRecDepth 20000 in
theorem gk_L_run_7 : GoodIn wsL_law wsL_run_r7 := goodIn_r _ [1115, 1116, 1117, 1118, 1119, 1120, 1121, 1122, 1123, 1124, 1125, 1126, 1127, 86, 1128, 1129, 1130, 1131, 1132, 1133, 1134, 1135, 1136, 1137] (by decide +kernel) (by decide +kernel)
set_option maxRecDepth 20000 in
theorem gk_L_run_8 : GoodIn wsL_law wsL_run_r8 := goodIn_r _ [1138, 1139, 1140, 1141, 1142, 1143, 1144, 1145, 1146, 1147, 1148, 1149, 1150, 1151, 1152, 176, 178, 1153, 185, 186, 187, 1154, 1155, 1156] (by decide +kernel) (by decide +kernel)
set_option maxRecDepth 20000 in
theorem gk_L_run_9 : GoodIn wsL_law wsL_run_r9 := goodIn_r _ [1157, 1158, 1159, 1160, 1161, 1162, 1163, 1164, 1165, 1166, 1167, 1168, 181, 182, 16, 183, 43, 184, 44, 47, 48, 49, 50, 51] (by decide +kernel) (by decide +kernel)
set_option maxRecDepth 20000 in
theorem gk_L_run_10 : GoodIn wsL_law wsL_run_r10 := goodIn_r _ [52, 46, 188, 53, 54, 189, 190, 191, 1169, 1170, 1171, 1172, 1173, 1174, 1175, 1176, 1177, 1178, 1179, 1180, 1181, 1182, 1183, 1184] (by decide +kernel) (by decide +kernel)
set_option maxRecDepth 20000 in
theorem gk_L_run_11 : GoodIn wsL_law wsL_run_r11 := goodIn_r _ [1185, 1186, 1187, 1188, 1189, 1190, 1191, 1192, 1193, 1194, 1195, 1196, 1197, 1198, 1199, 167, 168, 169, 170, 1200, 132, 133, 134, 135] (by decide +kernel) (by decide +kernel)
set_option maxRecDepth 20000 in
theorem gk_L_run_12 : GoodIn wsL_law wsL_run_r12 := goodIn_r _ [136, 137, 138, 139, 140, 141, 142, 143, 144, 145, 146, 147, 148, 149, 1201, 258, 259, 260, 261, 262, 196, 197, 198, 263] (by decide +kernel) (by decide +kernel)
set_option maxRecDepth 20000 in
theorem gk_L_run_13 : GoodIn wsL_law wsL_run_r13 := goodIn_r _ [264, 265, 266, 267, 268, 269, 270, 273, 274, 275, 1202, 309, 310, 311, 1203, 1204, 356, 357, 358, 359, 360, 361, 362, 1205] (by decide +kernel) (by decide +kernel)
set_option maxRecDepth 20000 in
theorem gk_L_run_14 : GoodIn wsL_law wsL_run_r14 := goodIn_r _ [383, 384, 385, 386, 387, 388, 389, 1206, 419, 420, 421, 422, 423, 424, 425, 426, 427, 428, 429, 430, 431, 432, 433, 434] (by decide +kernel) (by decide +kernel)
set_option maxRecDepth 20000 in
theorem gk_L_run_15 : GoodIn wsL_law wsL_run_r15 := goodIn_r _ [435, 436, 437, 438, 439, 440, 441, 442, 443, 444, 445, 446, 447, 1207, 486, 487, 488, 1208, 1209, 1210, 1211, 1212, 193, 194] (by decide +kernel) (by decide +kernel)
set_option maxRecDepth 20000 in
theorem gk_L_run_16 : GoodIn wsL_law wsL_run_r16 := goodIn_r _ [195, 1213, 277, 278, 279, 1214, 313, 314, 315, 1215, 333, 334, 335, 1216, 364, 365, 366, 1217, 391, 392, 393, 1218, 449, 450] (by decide +kernel) (by decide +kernel)
set_option maxRecDepth 20000 in
theorem gk_L_run_17 : GoodIn wsL_law wsL_run_r17 := goodIn_r _ [451, 1219, 490, 491, 492, 171, 172, 173, 25, 174, 69, 70, 68, 15, 71, 175, 179, 39, 40, 41, 45, 180, 1220, 1221] (by decide +kernel) (by decide +kernel)
set_option maxRecDepth 20000 in
theorem gk_L_run_18 : GoodIn wsL_law wsL_run_r18 := goodIn_r _ [1222, 1223] (by decide +kernel) (by decide +kernel)
set_option maxRecDepth 20000 in
theorem gk_L_run_wsX100 : GoodIn wsL_law wsX100 := goodIn_r _ [1399, 1400, 1401, 1402, 1403, 1404, 1405, 1406, 1407] (by decide +kernel) (by decide +kernel)
set_option maxRecDepth 20000 in
theorem gk_L_run_wsX60 : GoodIn wsL_law wsX60 := goodIn_r _ [1450, 1451, 1452] (by decide +kernel) (by decide +kernel)
set_option maxRecDepth 20000 in
theorem gk_L_run_wsJx4a65c0 : GoodIn wsL_law wsJx4a65c0 := goodIn_r _ [1455, 1456, 1457] (by decide +kernel) (by decide +kernel)
set_option maxRecDepth 20000 in
theorem gk_L_run_wsJ00 : GoodIn wsL_law wsJ00 := goodIn_r _ [1458, 1459] (by decide +kernel) (by decide +kernel)
set_option maxRecDepth 20000 in
theorem gk_L_run_wsX10 : GoodIn wsL_law wsX10 := goodIn_r _ [1460, 1461, 1462] (by decide +kernel) (by decide +kernel)
set_option maxRecDepth 20000 in
theorem gk_L_run_wsX70 : GoodIn wsL_law wsX70 := goodIn_r _ [1427, 1428, 1429, 1430, 1431, 1432, 1433, 1434, 1435, 1436, 1437, 1438, 1439, 1440, 1441] (by decide +kernel) (by decide +kernel)
set_option maxRecDepth 20000 in
theorem gk_L_run_wsX40 : GoodIn wsL_law wsX40 := goodIn_r _ [1447, 1448, 1449] (by decide +kernel) (by decide +kernel)
set_option maxRecDepth 20000 in
theorem ggL_law_L_run : GoodIn wsL_law wsL_run := goodIn_ca (goodIn_ca (goodIn_ca (goodIn_cons gk_L_run_0 (goodIn_app (goodIn_app (goodIn_app (goodIn_app (goodIn_app (goodIn_app (goodIn_app (goodIn_app gk_L_run_1 (goodIn_app gk_L_run_2 (goodIn_app gk_L_run_3 (goodIn_app gk_L_run_4 (goodIn_app gk_L_run_5 (goodIn_app gk_L_run_6 (goodIn_app gk_L_run_7 (goodIn_app gk_L_run_8 (goodIn_app gk_L_run_9 (goodIn_app gk_L_run_10 (goodIn_app gk_L_run_11 (goodIn_app gk_L_run_12 (goodIn_app gk_L_run_13 (goodIn_app gk_L_run_14 (goodIn_app gk_L_run_15 (goodIn_app gk_L_run_16 (goodIn_app gk_L_run_17 gk_L_run_18))))))))))))))))) gk_L_run_wsX100) gk_L_run_wsX60) gk_L_run_wsJx4a65c0) gk_L_run_wsJ00) gk_L_run_wsX10) gk_L_run_wsX70) gk_L_run_wsX40)) (goodIn_sub (fun _ h => List.mem_append_left _ (List.mem_append_left _ (List.mem_append_left _ (List.mem_append_left _ (List.mem_append_left _ (List.mem_append_left _ (List.mem_append_right _ h))))))) (by decide +kernel))) (goodIn_sub (fun _ h => List.mem_append_left _ (List.mem_append_left _ (List.mem_append_left _ (List.mem_append_left _ (List.mem_append_right _ h))))) (by decide +kernel))) (goodIn_sub (fun _ h => List.mem_append_left _ (List.mem_append_right _ h)) (by decide +kernel))
set_option maxRecDepth 20000 in
theorem gL_law_L_run : GoodIn wsL_law (va_wsS RL 269 yL_run wsL_run) := goodIn_app (goodIn_of _ (by decide +kernel)) ggL_law_L_run
set_option maxRecDepth 20000 in
theorem gk_X11_run_0 : GoodIn wsL_law [.code yX11_run cX11_run 3 (some .int)] := goodIn_r _ [1227] (by decide +kernel) (by decide +kernel)
set_option maxRecDepth 20000 in
theorem gk_X11_run_1 : GoodIn wsL_law wsX11_run_r1 := goodIn_r _ [1228, 112, 234, 1229, 113, 109, 108, 1230, 1231, 1232, 5, 1233, 992, 1234, 1235, 1236, 1237, 1238, 1239, 117, 1240, 1241, 1242, 1243] (by decide +kernel) (by decide +kernel)
set_option maxRecDepth 20000 in
theorem gk_X11_run_2 : GoodIn wsL_law wsX11_run_r2 := goodIn_r _ [115, 297, 271, 177, 272, 1244, 1245, 1246, 1247, 1053, 1054, 1035, 1055, 1037, 1056, 1057, 1058, 1059, 1042, 1043, 1060, 1061, 1062, 1063] (by decide +kernel) (by decide +kernel)
set_option maxRecDepth 20000 in
theorem gk_X11_run_3 : GoodIn wsL_law wsX11_run_r3 := goodIn_r _ [1064, 1065, 1066, 1067, 1068, 1069, 1070, 1071, 1072, 1073, 1074, 1075, 1076, 1077, 1078, 1079, 1080, 1081, 1082, 1083, 1084, 1085, 1086, 1087] (by decide +kernel) (by decide +kernel)
set_option maxRecDepth 20000 in
theorem gk_X11_run_4 : GoodIn wsL_law wsX11_run_r4 := goodIn_r _ [1088, 1248, 1249, 1250, 1251, 1252, 1253, 1254, 1255, 1256, 1257, 1258, 1259, 220, 221, 222, 1260, 1261, 1262, 1263, 1264, 1265, 1266, 1267] (by decide +kernel) (by decide +kernel)
set_option maxRecDepth 20000 in
theorem gk_X11_run_5 : GoodIn wsL_law wsX11_run_r5 := goodIn_r _ [1268, 1269, 1270, 1271, 203, 204, 205, 206, 207, 208, 209, 1272, 1273, 1274, 1275, 210, 211, 212, 213, 214, 215, 216, 217, 218] (by decide +kernel) (by decide +kernel)
set_option maxRecDepth 20000 in
theorem gk_X11_run_6 : GoodIn wsL_law wsX11_run_r6 := goodIn_r _ [219, 223, 224, 225, 226, 118, 119, 120, 227, 228, 229, 230, 231, 232, 233, 284, 285, 286, 287, 288, 289, 290, 291, 292] (by decide +kernel) (by decide +kernel)
set_option maxRecDepth 20000 in
theorem gk_X11_run_7 : GoodIn wsL_law wsX11_run_r7 := goodIn_r _ [293, 294, 295, 296, 268, 269, 298, 299, 300, 320, 321, 322, 323, 340, 341, 342, 343, 344, 345, 346, 347, 371, 372, 373] (by decide +kernel) (by decide +kernel)
set_option maxRecDepth 20000 in
theorem gk_X11_run_8 : GoodIn wsL_law wsX11_run_r8 := goodIn_r _ [374, 398, 399, 400, 401, 402, 403, 404, 405, 406, 407, 408, 409, 456, 457, 458, 459, 460, 461, 462, 463, 464, 465, 466] (by decide +kernel) (by decide +kernel)
set_option maxRecDepth 20000 in
theorem gk_X11_run_9 : GoodIn wsL_law wsX11_run_r9 := goodIn_r _ [467, 468, 469, 470, 471, 472, 473, 474, 475, 476, 477, 497, 498, 499, 500, 235, 236, 237, 238, 239, 240, 241, 242, 243] (by decide +kernel) (by decide +kernel)
set_option maxRecDepth 20000 in
theorem gk_X11_run_10 : GoodIn wsL_law wsX11_run_r10 := goodIn_r _ [111] (by decide +kernel) (by decide +kernel)
set_option maxRecDepth 20000 in
theorem gk_X11_run_wsX110 : GoodIn wsL_law wsX110 := goodIn_r _ [1408, 1409, 1410, 1411, 1412, 1413, 1414, 1415, 1416, 1417, 1418, 1419, 1420, 1421, 1422, 1423, 1424, 1425, 1426] (by decide +kernel) (by decide +kernel)
set_option maxRecDepth 20000 in
theorem gk_X11_run_wsJ00 : GoodIn wsL_law wsJ00 := goodIn_r _ [1458, 1459] (by decide +kernel) (by decide +kernel)
set_option maxRecDepth 20000 in
theorem ggL_law_X11_run : GoodIn wsL_law wsX11_run := goodIn_ca (goodIn_cons gk_X11_run_0 (goodIn_app (goodIn_app (goodIn_app gk_X11_run_1 (goodIn_app gk_X11_run_2 (goodIn_app gk_X11_run_3 (goodIn_app gk_X11_run_4 (goodIn_app gk_X11_run_5 (goodIn_app gk_X11_run_6 (goodIn_app gk_X11_run_7 (goodIn_app gk_X11_run_8 (goodIn_app gk_X11_run_9 gk_X11_run_10))))))))) gk_X11_run_wsX110) gk_X11_run_wsJ00)) (goodIn_sub (fun _ h => List.mem_append_left _ (List.mem_append_left _ (List.mem_append_left _ (List.mem_append_left _ (List.mem_append_left _ (List.mem_append_left _ (List.mem_append_right _ h))))))) (by decide +kernel))
set_option maxRecDepth 20000 in
theorem gL_law_X11_run : GoodIn wsL_law (wsV RL 272 RX11 yX11_run wsX11_run) := goodIn_app (goodIn_of _ (by decide +kernel)) ggL_law_X11_run
set_option maxRecDepth 20000 in
theorem ggL_law_L_errorPosition : GoodIn wsL_law wsL_errorPosition := goodIn_ca (goodIn_ca (goodIn_r _ [1278, 413, 1279, 1280, 1281, 2, 1282, 157, 158, 36, 1399, 1400, 1401, 1402, 1403, 1404, 1405, 1406, 1407] (by decide +kernel) (by decide +kernel)) (goodIn_sub (fun _ h => List.mem_append_left _ (List.mem_append_left _ (List.mem_append_left _ (List.mem_append_left _ (List.mem_append_left _ (List.mem_append_left _ (List.mem_append_right _ h))))))) (by decide +kernel))) (goodIn_sub (fun _ h => List.mem_append_left _ (List.mem_append_left _ (List.mem_append_left _ (List.mem_append_right _ h)))) (by decide +kernel))
set_option maxRecDepth 20000 in
theorem gL_law_L_errorPosition : GoodIn wsL_law (va_wsS RL 273 yL_errorPosition wsL_errorPosition) := goodIn_app (goodIn_of _ (by decide +kernel)) ggL_law_L_errorPosition
set_option maxRecDepth 20000 in
theorem ggL_law_X11_errorPosition : GoodIn wsL_law wsX11_errorPosition := goodIn_r _ [1286, 112, 344, 345, 346, 5, 347, 230, 231, 232, 233, 234, 1408, 1409, 1410, 1411, 1412, 1413, 1414, 1415, 1416, 1417, 1418, 1419, 1420, 1421, 1422, 1423, 1424, 1425, 1426] (by decide +kernel) (by decide +kernel)
set_option maxRecDepth 20000 in
theorem gL_law_X11_errorPosition : GoodIn wsL_law (wsV RL 275 RX11 yX11_errorPosition wsX11_errorPosition) := goodIn_app (goodIn_of _ (by decide +kernel)) ggL_law_X11_errorPosition
set_option maxRecDepth 20000 in
theorem ggL_law_L_failedCommand : GoodIn wsL_law wsL_failedCommand := goodIn_ca (goodIn_ca (goodIn_r _ [1289, 413, 1290, 1291, 1292, 2, 1293, 157, 158, 37, 1399, 1400, 1401, 1402, 1403, 1404, 1405, 1406, 1407] (by decide +kernel) (by decide +kernel)) (goodIn_sub (fun _ h => List.mem_append_left _ (List.mem_append_left _ (List.mem_append_left _ (List.mem_append_left _ (List.mem_append_left _ (List.mem_append_left _ (List.mem_append_right _ h))))))) (by decide +kernel))) (goodIn_sub (fun _ h => List.mem_append_left _ (List.mem_append_left _ (List.mem_append_left _ (List.mem_append_right _ h)))) (by decide +kernel))
set_option maxRecDepth 20000 in
theorem gL_law_L_failedCommand : GoodIn wsL_law (va_wsS RL 276 yL_failedCommand wsL_failedCommand) := goodIn_app (goodIn_of _ (by decide +kernel)) ggL_law_L_failedCommand
set_option maxRecDepth 20000 in
theorem ggL_law_X11_failedCommand : GoodIn wsL_law wsX11_failedCommand := goodIn_r _ [1297, 113, 344, 345, 346, 5, 347, 230, 231, 232, 233, 234, 1408, 1409, 1410, 1411, 1412, 1413, 1414, 1415, 1416, 1417, 1418, 1419, 1420, 1421, 1422, 1423, 1424, 1425, 1426] (by decide +kernel) (by decide +kernel)
set_option maxRecDepth 20000 in
theorem gL_law_X11_failedCommand : GoodIn wsL_law (wsV RL 278 RX11 yX11_failedCommand wsX11_failedCommand) := goodIn_app (goodIn_of _ (by decide +kernel)) ggL_law_X11_failedCommand
set_option maxRecDepth 20000 in
theorem ggL_law_L_writeRow : GoodIn wsL_law wsL_writeRow := goodIn_ca (goodIn_ca (goodIn_r _ [1300, 125, 1301, 1302, 1303, 2, 1304, 153, 154, 34, 17, 1305, 145, 140, 146, 1306, 1307, 1308, 33, 1309, 103, 1310, 1311, 1312, 1313, 102, 1314, 197, 198, 1315, 1316, 1317, 1318, 1319, 510, 511, 16, 512, 43, 1320, 529, 530, 531, 44, 1321, 544, 545, 546, 46, 1322, 387, 388, 389, 188, 49, 1323, 559, 560, 561, 47, 1399, 1400, 1401, 1402, 1403, 1404, 1405, 1406, 1407, 1453, 1454, 1427, 1428, 1429, 1430, 1431, 1432, 1433, 1434, 1435, 1436, 1437, 1438, 1439, 1440, 1441] (by decide +kernel) (by decide +kernel)) (goodIn_sub (fun _ h => List.mem_append_left _ (List.mem_append_left _ (List.mem_append_left _ (List.mem_append_left _ (List.mem_append_left _ (List.mem_append_left _ (List.mem_append_right _ h))))))) (by decide +kernel))) (goodIn_sub (fun _ h => List.mem_append_left _ (List.mem_append_left _ (List.mem_append_left _ (List.mem_append_left _ (List.mem_append_left _ (List.mem_append_right _ h)))))) (by decide +kernel))
set_option maxRecDepth 20000 in
theorem gL_law_L_writeRow : GoodIn wsL_law (va_wsS RL 279 yL_writeRow wsL_writeRow) := goodIn_app (goodIn_of _ (by decide +kernel)) ggL_law_L_writeRow
