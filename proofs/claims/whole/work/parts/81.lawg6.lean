set_option maxRecDepth 20000 in
theorem ggL_law_X11_yardWeight : GoodIn wsL_law wsX11_yardWeight := goodIn_ca (goodIn_r _ [878, 234, 108, 475, 476, 5, 477, 1408, 1409, 1410, 1411, 1412, 1413, 1414, 1415, 1416, 1417, 1418, 1419, 1420, 1421, 1422, 1423, 1424, 1425, 1426] (by decide +kernel) (by decide +kernel)) (goodIn_sub (fun _ h => List.mem_append_left _ (List.mem_append_left _ (List.mem_append_left _ (List.mem_append_left _ (List.mem_append_left _ (List.mem_append_left _ (List.mem_append_right _ h))))))) (by decide +kernel))
set_option maxRecDepth 20000 in
theorem gL_law_X11_yardWeight : GoodIn wsL_law (wsV RL 233 RX11 yX11_yardWeight wsX11_yardWeight) := goodIn_app (goodIn_of _ (by decide +kernel)) ggL_law_X11_yardWeight
set_option maxRecDepth 20000 in
theorem ggL_law_X10_rubble : GoodIn wsL_law wsX10_rubble := goodIn_r _ [882, 17, 883, 884, 885, 16, 886, 54, 1399, 1400, 1401, 1402, 1403, 1404, 1405, 1406, 1407, 1427, 1428, 1429, 1430, 1431, 1432, 1433, 1434, 1435, 1436, 1437, 1438, 1439, 1440, 1441] (by decide +kernel) (by decide +kernel)
set_option maxRecDepth 20000 in
theorem gL_law_X10_rubble : GoodIn wsL_law (wsV RL 234 RX10 yX10_rubble wsX10_rubble) := goodIn_app (goodIn_of _ (by decide +kernel)) ggL_law_X10_rubble
set_option maxRecDepth 20000 in
theorem ggL_law_X11_rubble : GoodIn wsL_law wsX11_rubble := goodIn_ca (goodIn_r _ [890, 234, 108, 1408, 1409, 1410, 1411, 1412, 1413, 1414, 1415, 1416, 1417, 1418, 1419, 1420, 1421, 1422, 1423, 1424, 1425, 1426] (by decide +kernel) (by decide +kernel)) (goodIn_sub (fun _ h => List.mem_append_left _ (List.mem_append_left _ (List.mem_append_left _ (List.mem_append_left _ (List.mem_append_left _ (List.mem_append_left _ (List.mem_append_right _ h))))))) (by decide +kernel))
set_option maxRecDepth 20000 in
theorem gL_law_X11_rubble : GoodIn wsL_law (wsV RL 237 RX11 yX11_rubble wsX11_rubble) := goodIn_app (goodIn_of _ (by decide +kernel)) ggL_law_X11_rubble
set_option maxRecDepth 20000 in
theorem ggL_law_X10_stepLimit : GoodIn wsL_law wsX10_stepLimit := goodIn_r _ [894, 17, 895, 676, 677, 16, 678, 53, 1399, 1400, 1401, 1402, 1403, 1404, 1405, 1406, 1407, 1427, 1428, 1429, 1430, 1431, 1432, 1433, 1434, 1435, 1436, 1437, 1438, 1439, 1440, 1441] (by decide +kernel) (by decide +kernel)
set_option maxRecDepth 20000 in
theorem gL_law_X10_stepLimit : GoodIn wsL_law (wsV RL 238 RX10 yX10_stepLimit wsX10_stepLimit) := goodIn_app (goodIn_of _ (by decide +kernel)) ggL_law_X10_stepLimit
set_option maxRecDepth 20000 in
theorem ggL_law_X11_stepLimit : GoodIn wsL_law wsX11_stepLimit := goodIn_ca (goodIn_r _ [899, 234, 108, 1408, 1409, 1410, 1411, 1412, 1413, 1414, 1415, 1416, 1417, 1418, 1419, 1420, 1421, 1422, 1423, 1424, 1425, 1426] (by decide +kernel) (by decide +kernel)) (goodIn_sub (fun _ h => List.mem_append_left _ (List.mem_append_left _ (List.mem_append_left _ (List.mem_append_left _ (List.mem_append_left _ (List.mem_append_left _ (List.mem_append_right _ h))))))) (by decide +kernel))
set_option maxRecDepth 20000 in
theorem gL_law_X11_stepLimit : GoodIn wsL_law (wsV RL 241 RX11 yX11_stepLimit wsX11_stepLimit) := goodIn_app (goodIn_of _ (by decide +kernel)) ggL_law_X11_stepLimit
set_option maxRecDepth 20000 in
theorem ggL_law_X10_cutTotal : GoodIn wsL_law wsX10_cutTotal := goodIn_r _ [903, 17, 904, 905, 906, 16, 907, 189, 1399, 1400, 1401, 1402, 1403, 1404, 1405, 1406, 1407, 1427, 1428, 1429, 1430, 1431, 1432, 1433, 1434, 1435, 1436, 1437, 1438, 1439, 1440, 1441] (by decide +kernel) (by decide +kernel)
set_option maxRecDepth 20000 in
theorem gL_law_X10_cutTotal : GoodIn wsL_law (wsV RL 242 RX10 yX10_cutTotal wsX10_cutTotal) := goodIn_app (goodIn_of _ (by decide +kernel)) ggL_law_X10_cutTotal
set_option maxRecDepth 20000 in
theorem ggL_law_X11_cutTotal : GoodIn wsL_law wsX11_cutTotal := goodIn_ca (goodIn_r _ [911, 234, 108, 1408, 1409, 1410, 1411, 1412, 1413, 1414, 1415, 1416, 1417, 1418, 1419, 1420, 1421, 1422, 1423, 1424, 1425, 1426] (by decide +kernel) (by decide +kernel)) (goodIn_sub (fun _ h => List.mem_append_left _ (List.mem_append_left _ (List.mem_append_left _ (List.mem_append_left _ (List.mem_append_left _ (List.mem_append_left _ (List.mem_append_right _ h))))))) (by decide +kernel))
set_option maxRecDepth 20000 in
theorem gL_law_X11_cutTotal : GoodIn wsL_law (wsV RL 245 RX11 yX11_cutTotal wsX11_cutTotal) := goodIn_app (goodIn_of _ (by decide +kernel)) ggL_law_X11_cutTotal
set_option maxRecDepth 20000 in
theorem ggL_law_X10_workTotal : GoodIn wsL_law wsX10_workTotal := goodIn_r _ [915, 17, 916, 917, 918, 16, 919, 191, 1399, 1400, 1401, 1402, 1403, 1404, 1405, 1406, 1407, 1427, 1428, 1429, 1430, 1431, 1432, 1433, 1434, 1435, 1436, 1437, 1438, 1439, 1440, 1441] (by decide +kernel) (by decide +kernel)
set_option maxRecDepth 20000 in
theorem gL_law_X10_workTotal : GoodIn wsL_law (wsV RL 246 RX10 yX10_workTotal wsX10_workTotal) := goodIn_app (goodIn_of _ (by decide +kernel)) ggL_law_X10_workTotal
set_option maxRecDepth 20000 in
theorem ggL_law_X11_workTotal : GoodIn wsL_law wsX11_workTotal := goodIn_ca (goodIn_r _ [923, 234, 108, 1408, 1409, 1410, 1411, 1412, 1413, 1414, 1415, 1416, 1417, 1418, 1419, 1420, 1421, 1422, 1423, 1424, 1425, 1426] (by decide +kernel) (by decide +kernel)) (goodIn_sub (fun _ h => List.mem_append_left _ (List.mem_append_left _ (List.mem_append_left _ (List.mem_append_left _ (List.mem_append_left _ (List.mem_append_left _ (List.mem_append_right _ h))))))) (by decide +kernel))
set_option maxRecDepth 20000 in
theorem gL_law_X11_workTotal : GoodIn wsL_law (wsV RL 250 RX11 yX11_workTotal wsX11_workTotal) := goodIn_app (goodIn_of _ (by decide +kernel)) ggL_law_X11_workTotal
set_option maxRecDepth 20000 in
theorem ggL_law_X10_meanHeight : GoodIn wsL_law wsX10_meanHeight := goodIn_ca (goodIn_r _ [927, 17, 928, 929, 930, 931, 16, 932, 43, 1399, 1400, 1401, 1402, 1403, 1404, 1405, 1406, 1407, 1427, 1428, 1429, 1430, 1431, 1432, 1433, 1434, 1435, 1436, 1437, 1438, 1439, 1440, 1441] (by decide +kernel) (by decide +kernel)) (goodIn_sub (fun _ h => List.mem_append_left _ (List.mem_append_left _ (List.mem_append_left _ (List.mem_append_left _ (List.mem_append_left _ (List.mem_append_left _ (List.mem_append_right _ h))))))) (by decide +kernel))
set_option maxRecDepth 20000 in
theorem gL_law_X10_meanHeight : GoodIn wsL_law (wsV RL 251 RX10 yX10_meanHeight wsX10_meanHeight) := goodIn_app (goodIn_of _ (by decide +kernel)) ggL_law_X10_meanHeight
set_option maxRecDepth 20000 in
theorem ggL_law_X11_meanHeight : GoodIn wsL_law wsX11_meanHeight := goodIn_ca (goodIn_r _ [936, 234, 937, 223, 224, 225, 5, 226, 108, 118, 119, 120, 1408, 1409, 1410, 1411, 1412, 1413, 1414, 1415, 1416, 1417, 1418, 1419, 1420, 1421, 1422, 1423, 1424, 1425, 1426] (by decide +kernel) (by decide +kernel)) (goodIn_sub (fun _ h => List.mem_append_left _ (List.mem_append_left _ (List.mem_append_left _ (List.mem_append_left _ (List.mem_append_left _ (List.mem_append_left _ (List.mem_append_right _ h))))))) (by decide +kernel))
set_option maxRecDepth 20000 in
theorem gL_law_X11_meanHeight : GoodIn wsL_law (wsV RL 255 RX11 yX11_meanHeight wsX11_meanHeight) := goodIn_app (goodIn_of _ (by decide +kernel)) ggL_law_X11_meanHeight
set_option maxRecDepth 20000 in
theorem ggL_law_L_liftedShare : GoodIn wsL_law wsL_liftedShare := goodIn_ca (goodIn_ca (goodIn_r _ [940, 941, 942, 943, 944, 2, 945, 946, 947, 17, 904, 905, 906, 16, 907, 189, 948, 949, 950, 951, 190, 1399, 1400, 1401, 1402, 1403, 1404, 1405, 1406, 1407, 1427, 1428, 1429, 1430, 1431, 1432, 1433, 1434, 1435, 1436, 1437, 1438, 1439, 1440, 1441] (by decide +kernel) (by decide +kernel)) (goodIn_sub (fun _ h => List.mem_append_left _ (List.mem_append_left _ (List.mem_append_left _ (List.mem_append_left _ (List.mem_append_left _ (List.mem_append_left _ (List.mem_append_right _ h))))))) (by decide +kernel))) (goodIn_sub (fun _ h => List.mem_append_right _ h) (by decide +kernel))
set_option maxRecDepth 20000 in
theorem gL_law_L_liftedShare : GoodIn wsL_law (va_wsS RL 256 yL_liftedShare wsL_liftedShare) := goodIn_app (goodIn_of _ (by decide +kernel)) ggL_law_L_liftedShare
