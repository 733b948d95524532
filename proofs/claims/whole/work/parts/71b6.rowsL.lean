set_option maxRecDepth 20000 in
theorem ggL_law_X10_syntaxErrorOffset : GoodIn wsL_law wsX10_syntaxErrorOffset := goodIn_r _ [1437, 97, 552, 553, 554, 5, 555, 215, 1549, 1550, 1551, 1552, 1553, 1554, 1555, 1556, 1557, 1558, 1559, 1560, 1561, 1562, 1563, 1564, 1565, 1566] (by decide +kernel) (by decide +kernel)
set_option maxRecDepth 20000 in
theorem gL_law_X10_syntaxErrorOffset : GoodIn wsL_law (wsV RL 379 RX10 yX10_syntaxErrorOffset wsX10_syntaxErrorOffset) := goodIn_app (goodIn_of _ (by decide +kernel)) ggL_law_X10_syntaxErrorOffset
set_option maxRecDepth 20000 in
theorem ggL_law_L_rejectionReason : GoodIn wsL_law wsL_rejectionReason := goodIn_ca (goodIn_ca (goodIn_r _ [1440, 654, 1441, 1442, 1443, 2, 1444, 38, 1445, 1446, 1447, 1448, 667, 668, 1539, 1540, 1541, 1542, 1543, 1544, 1545, 1546, 1547, 1548, 1604, 1605, 1606] (by decide +kernel) (by decide +kernel)) (goodIn_sub (fun _ h => List.mem_append_left _ (List.mem_append_left _ (List.mem_append_left _ (List.mem_append_left _ (List.mem_append_left _ (List.mem_append_left _ (List.mem_append_right _ h))))))) (by decide +kernel))) (goodIn_sub (fun _ h => List.mem_append_left _ (List.mem_append_left _ (List.mem_append_right _ h))) (by decide +kernel))
set_option maxRecDepth 20000 in
theorem gL_law_L_rejectionReason : GoodIn wsL_law (va_wsS RL 380 yL_rejectionReason wsL_rejectionReason) := goodIn_app (goodIn_of _ (by decide +kernel)) ggL_law_L_rejectionReason
set_option maxRecDepth 20000 in
theorem ggL_law_X10_rejectionReason : GoodIn wsL_law wsX10_rejectionReason := goodIn_r _ [1452, 208, 552, 553, 554, 5, 555, 215, 1549, 1550, 1551, 1552, 1553, 1554, 1555, 1556, 1557, 1558, 1559, 1560, 1561, 1562, 1563, 1564, 1565, 1566] (by decide +kernel) (by decide +kernel)
set_option maxRecDepth 20000 in
theorem gL_law_X10_rejectionReason : GoodIn wsL_law (wsV RL 382 RX10 yX10_rejectionReason wsX10_rejectionReason) := goodIn_app (goodIn_of _ (by decide +kernel)) ggL_law_X10_rejectionReason
set_option maxRecDepth 20000 in
theorem ggL_law_L_rejectionDetail : GoodIn wsL_law wsL_rejectionDetail := goodIn_ca (goodIn_ca (goodIn_r _ [1455, 654, 1456, 1457, 1458, 2, 1459, 38, 1460, 1446, 1447, 1448, 667, 668, 1539, 1540, 1541, 1542, 1543, 1544, 1545, 1546, 1547, 1548, 1604, 1605, 1606] (by decide +kernel) (by decide +kernel)) (goodIn_sub (fun _ h => List.mem_append_left _ (List.mem_append_left _ (List.mem_append_left _ (List.mem_append_left _ (List.mem_append_left _ (List.mem_append_left _ (List.mem_append_right _ h))))))) (by decide +kernel))) (goodIn_sub (fun _ h => List.mem_append_left _ (List.mem_append_left _ (List.mem_append_right _ h))) (by decide +kernel))
set_option maxRecDepth 20000 in
theorem gL_law_L_rejectionDetail : GoodIn wsL_law (va_wsS RL 383 yL_rejectionDetail wsL_rejectionDetail) := goodIn_app (goodIn_of _ (by decide +kernel)) ggL_law_L_rejectionDetail
set_option maxRecDepth 20000 in
theorem ggL_law_X10_rejectionDetail : GoodIn wsL_law wsX10_rejectionDetail := goodIn_r _ [1464, 208, 209, 552, 553, 554, 5, 555, 215, 1549, 1550, 1551, 1552, 1553, 1554, 1555, 1556, 1557, 1558, 1559, 1560, 1561, 1562, 1563, 1564, 1565, 1566] (by decide +kernel) (by decide +kernel)
set_option maxRecDepth 20000 in
theorem gL_law_X10_rejectionDetail : GoodIn wsL_law (wsV RL 385 RX10 yX10_rejectionDetail wsX10_rejectionDetail) := goodIn_app (goodIn_of _ (by decide +kernel)) ggL_law_X10_rejectionDetail
set_option maxRecDepth 20000 in
theorem ggL_law_L_causeReason : GoodIn wsL_law wsL_causeReason := goodIn_ca (goodIn_ca (goodIn_r _ [1467, 654, 1468, 1469, 1470, 2, 1471, 38, 1472, 1445, 1446, 1447, 1448, 667, 668, 1539, 1540, 1541, 1542, 1543, 1544, 1545, 1546, 1547, 1548, 1604, 1605, 1606] (by decide +kernel) (by decide +kernel)) (goodIn_sub (fun _ h => List.mem_append_left _ (List.mem_append_left _ (List.mem_append_left _ (List.mem_append_left _ (List.mem_append_left _ (List.mem_append_left _ (List.mem_append_right _ h))))))) (by decide +kernel))) (goodIn_sub (fun _ h => List.mem_append_left _ (List.mem_append_left _ (List.mem_append_right _ h))) (by decide +kernel))
set_option maxRecDepth 20000 in
theorem gL_law_L_causeReason : GoodIn wsL_law (va_wsS RL 386 yL_causeReason wsL_causeReason) := goodIn_app (goodIn_of _ (by decide +kernel)) ggL_law_L_causeReason
set_option maxRecDepth 20000 in
theorem ggL_law_X10_causeReason : GoodIn wsL_law wsX10_causeReason := goodIn_r _ [1476, 210, 552, 553, 554, 5, 555, 215, 1549, 1550, 1551, 1552, 1553, 1554, 1555, 1556, 1557, 1558, 1559, 1560, 1561, 1562, 1563, 1564, 1565, 1566] (by decide +kernel) (by decide +kernel)
set_option maxRecDepth 20000 in
theorem gL_law_X10_causeReason : GoodIn wsL_law (wsV RL 388 RX10 yX10_causeReason wsX10_causeReason) := goodIn_app (goodIn_of _ (by decide +kernel)) ggL_law_X10_causeReason
set_option maxRecDepth 20000 in
theorem ggL_law_L_causeDetail : GoodIn wsL_law wsL_causeDetail := goodIn_ca (goodIn_ca (goodIn_r _ [1479, 654, 1480, 1481, 1482, 2, 1483, 38, 1472, 1460, 1446, 1447, 1448, 667, 668, 1539, 1540, 1541, 1542, 1543, 1544, 1545, 1546, 1547, 1548, 1604, 1605, 1606] (by decide +kernel) (by decide +kernel)) (goodIn_sub (fun _ h => List.mem_append_left _ (List.mem_append_left _ (List.mem_append_left _ (List.mem_append_left _ (List.mem_append_left _ (List.mem_append_left _ (List.mem_append_right _ h))))))) (by decide +kernel))) (goodIn_sub (fun _ h => List.mem_append_left _ (List.mem_append_left _ (List.mem_append_right _ h))) (by decide +kernel))
set_option maxRecDepth 20000 in
theorem gL_law_L_causeDetail : GoodIn wsL_law (va_wsS RL 389 yL_causeDetail wsL_causeDetail) := goodIn_app (goodIn_of _ (by decide +kernel)) ggL_law_L_causeDetail
set_option maxRecDepth 20000 in
theorem ggL_law_X10_causeDetail : GoodIn wsL_law wsX10_causeDetail := goodIn_r _ [1487, 210, 1393, 552, 553, 554, 5, 555, 215, 1549, 1550, 1551, 1552, 1553, 1554, 1555, 1556, 1557, 1558, 1559, 1560, 1561, 1562, 1563, 1564, 1565, 1566] (by decide +kernel) (by decide +kernel)
set_option maxRecDepth 20000 in
theorem gL_law_X10_causeDetail : GoodIn wsL_law (wsV RL 391 RX10 yX10_causeDetail wsX10_causeDetail) := goodIn_app (goodIn_of _ (by decide +kernel)) ggL_law_X10_causeDetail
set_option maxRecDepth 20000 in
theorem ggL_law_L_undo : GoodIn wsL_law wsL_undo := goodIn_ca (goodIn_ca (goodIn_r _ [1490, 1227, 1491, 1492, 1493, 2, 1494, 1232, 1233, 25, 1495, 17, 1496, 1497, 1498, 24, 1499, 68, 143, 1500, 1501, 146, 1502, 148, 149, 150, 16, 151, 45, 49, 152, 153, 154, 155, 156, 157, 158, 159, 47, 160, 161, 162, 163, 164, 165, 166, 51, 167, 168, 169, 170, 171, 172, 173, 174, 175, 176, 177, 1539, 1540, 1541, 1542, 1543, 1544, 1545, 1546, 1547, 1548, 1575, 1576, 1567, 1568, 1569, 1570, 1571, 1572, 1573, 1584, 1585, 1586, 1587, 1588, 1589, 1590, 1591, 1592, 1593, 1594, 1595, 1596] (by decide +kernel) (by decide +kernel)) (goodIn_sub (fun _ h => List.mem_append_left _ (List.mem_append_left _ (List.mem_append_left _ (List.mem_append_left _ (List.mem_append_left _ (List.mem_append_left _ (List.mem_append_right _ h))))))) (by decide +kernel))) (goodIn_sub (fun _ h => List.mem_append_right _ h) (by decide +kernel))
set_option maxRecDepth 20000 in
theorem gL_law_L_undo : GoodIn wsL_law (va_wsS RL 392 yL_undo wsL_undo) := goodIn_app (goodIn_of _ (by decide +kernel)) ggL_law_L_undo
set_option maxRecDepth 20000 in
theorem ggL_law_X10_undo : GoodIn wsL_law wsX10_undo := goodIn_ca (goodIn_r _ [1506, 216, 552, 553, 554, 5, 555, 215, 192, 193, 194, 195, 94, 1549, 1550, 1551, 1552, 1553, 1554, 1555, 1556, 1557, 1558, 1559, 1560, 1561, 1562, 1563, 1564, 1565, 1566] (by decide +kernel) (by decide +kernel)) (goodIn_sub (fun _ h => List.mem_append_left _ (List.mem_append_left _ (List.mem_append_left _ (List.mem_append_left _ (List.mem_append_left _ (List.mem_append_left _ (List.mem_append_right _ h))))))) (by decide +kernel))
set_option maxRecDepth 20000 in
theorem gL_law_X10_undo : GoodIn wsL_law (wsV RL 394 RX10 yX10_undo wsX10_undo) := goodIn_app (goodIn_of _ (by decide +kernel)) ggL_law_X10_undo
set_option maxRecDepth 20000 in
theorem ggL_law_X9_undoCount : GoodIn wsL_law wsX9_undoCount := goodIn_r _ [1510, 25, 1495, 1539, 1540, 1541, 1542, 1543, 1544, 1545, 1546, 1547, 1548, 1575, 1576] (by decide +kernel) (by decide +kernel)
set_option maxRecDepth 20000 in
theorem gL_law_X9_undoCount : GoodIn wsL_law (wsV RL 395 RX9 yX9_undoCount wsX9_undoCount) := goodIn_app (goodIn_of _ (by decide +kernel)) ggL_law_X9_undoCount
set_option maxRecDepth 20000 in
theorem ggL_law_X10_undoCount : GoodIn wsL_law wsX10_undoCount := goodIn_r _ [1514, 215, 216, 1549, 1550, 1551, 1552, 1553, 1554, 1555, 1556, 1557, 1558, 1559, 1560, 1561, 1562, 1563, 1564, 1565, 1566] (by decide +kernel) (by decide +kernel)
set_option maxRecDepth 20000 in
theorem gL_law_X10_undoCount : GoodIn wsL_law (wsV RL 398 RX10 yX10_undoCount wsX10_undoCount) := goodIn_app (goodIn_of _ (by decide +kernel)) ggL_law_X10_undoCount
set_option maxRecDepth 20000 in
theorem ggL_law_X9_saveSnapshot : GoodIn wsL_law wsX9_saveSnapshot := goodIn_r _ [1518, 27, 17, 28, 1341, 149, 150, 16, 151, 45, 49, 152, 153, 154, 155, 156, 157, 158, 159, 47, 160, 161, 162, 163, 164, 165, 166, 51, 167, 168, 169, 170, 171, 172, 173, 174, 175, 176, 177, 1085, 304, 305, 306, 307, 308, 309, 310, 243, 311, 1539, 1540, 1541, 1542, 1543, 1544, 1545, 1546, 1547, 1548, 1567, 1568, 1569, 1570, 1571, 1572, 1573, 1584, 1585, 1586, 1587, 1588, 1589, 1590, 1591, 1592, 1593, 1594, 1595, 1596] (by decide +kernel) (by decide +kernel)
set_option maxRecDepth 20000 in
theorem gL_law_X9_saveSnapshot : GoodIn wsL_law (wsV RL 399 RX9 yX9_saveSnapshot wsX9_saveSnapshot) := goodIn_app (goodIn_of _ (by decide +kernel)) ggL_law_X9_saveSnapshot
set_option maxRecDepth 20000 in
theorem ggL_law_X10_saveSnapshot : GoodIn wsL_law wsX10_saveSnapshot := goodIn_ca (goodIn_r _ [1522, 215, 1523, 94, 192, 193, 194, 5, 195, 1549, 1550, 1551, 1552, 1553, 1554, 1555, 1556, 1557, 1558, 1559, 1560, 1561, 1562, 1563, 1564, 1565, 1566] (by decide +kernel) (by decide +kernel)) (goodIn_sub (fun _ h => List.mem_append_left _ (List.mem_append_left _ (List.mem_append_left _ (List.mem_append_left _ (List.mem_append_left _ (List.mem_append_left _ (List.mem_append_right _ h))))))) (by decide +kernel))
set_option maxRecDepth 20000 in
theorem gL_law_X10_saveSnapshot : GoodIn wsL_law (wsV RL 402 RX10 yX10_saveSnapshot wsX10_saveSnapshot) := goodIn_app (goodIn_of _ (by decide +kernel)) ggL_law_X10_saveSnapshot
set_option maxRecDepth 20000 in
theorem ggL_law_L_restoreSnapshot : GoodIn wsL_law wsL_restoreSnapshot := goodIn_ca (goodIn_ca (goodIn_r _ [1526, 1227, 1527, 1528, 1529, 2, 1530, 1232, 1233, 28, 17, 27, 25, 1341, 149, 150, 16, 151, 45, 49, 152, 153, 154, 155, 156, 157, 158, 159, 47, 160, 161, 162, 163, 164, 165, 166, 51, 167, 168, 169, 170, 171, 172, 173, 174, 175, 176, 177, 1531, 1532, 1533, 24, 1534, 143, 1085, 304, 305, 306, 307, 308, 309, 310, 243, 311, 1539, 1540, 1541, 1542, 1543, 1544, 1545, 1546, 1547, 1548, 1567, 1568, 1569, 1570, 1571, 1572, 1573, 1584, 1585, 1586, 1587, 1588, 1589, 1590, 1591, 1592, 1593, 1594, 1595, 1596, 1575, 1576] (by decide +kernel) (by decide +kernel)) (goodIn_sub (fun _ h => List.mem_append_left _ (List.mem_append_left _ (List.mem_append_left _ (List.mem_append_left _ (List.mem_append_left _ (List.mem_append_left _ (List.mem_append_right _ h))))))) (by decide +kernel))) (goodIn_sub (fun _ h => List.mem_append_right _ h) (by decide +kernel))
set_option maxRecDepth 20000 in
theorem gL_law_L_restoreSnapshot : GoodIn wsL_law (va_wsS RL 403 yL_restoreSnapshot wsL_restoreSnapshot) := goodIn_app (goodIn_of _ (by decide +kernel)) ggL_law_L_restoreSnapshot
set_option maxRecDepth 20000 in
theorem ggL_law_X10_restoreSnapshot : GoodIn wsL_law wsX10_restoreSnapshot := goodIn_ca (goodIn_r _ [1538, 1523, 216, 94, 552, 553, 554, 5, 555, 215, 192, 193, 194, 195, 1549, 1550, 1551, 1552, 1553, 1554, 1555, 1556, 1557, 1558, 1559, 1560, 1561, 1562, 1563, 1564, 1565, 1566] (by decide +kernel) (by decide +kernel)) (goodIn_sub (fun _ h => List.mem_append_left _ (List.mem_append_left _ (List.mem_append_left _ (List.mem_append_left _ (List.mem_append_left _ (List.mem_append_left _ (List.mem_append_right _ h))))))) (by decide +kernel))
set_option maxRecDepth 20000 in
theorem gL_law_X10_restoreSnapshot : GoodIn wsL_law (wsV RL 405 RX10 yX10_restoreSnapshot wsX10_restoreSnapshot) := goodIn_app (goodIn_of _ (by decide +kernel)) ggL_law_X10_restoreSnapshot
