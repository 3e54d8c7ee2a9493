set_option maxRecDepth 20000 in
theorem gL_law_X11_years : GoodIn wsL_law (wsV RL 163 RX11 yX11_years wsX11_years) := goodIn_app (goodIn_of _ (by decide +kernel)) ggL_law_X11_years
set_option maxRecDepth 20000 in
theorem gk_X12_years_0 : GoodIn wsL_law [.code yX12_years cX12_years 3 (some .int)] := goodIn_r _ [1314] (by decide +kernel) (by decide +kernel)
set_option maxRecDepth 20000 in
theorem gk_wsX12_years_r1 : GoodIn wsL_law wsX12_years_r1 := goodIn_r _ [228, 138, 139, 140, 5, 141, 94, 135, 136, 137, 1315, 1316, 1317, 1318, 88, 1319, 1320, 1321, 1322, 101, 1323, 805, 806, 807] (by decide +kernel) (by decide +kernel)
set_option maxRecDepth 20000 in
theorem gk_wsX12_years_r2 : GoodIn wsL_law wsX12_years_r2 := goodIn_r _ [808, 97, 91, 809, 124, 125, 126, 85, 86, 90, 810, 710, 711, 811, 812, 813, 814, 314, 315, 316, 317, 87, 471, 472] (by decide +kernel) (by decide +kernel)
set_option maxRecDepth 20000 in
theorem gk_wsX12_years_r3 : GoodIn wsL_law wsX12_years_r3 := goodIn_r _ [473, 474, 524, 525, 526, 527, 513, 514, 515, 815, 816, 817, 818, 89, 1252, 1253, 1254, 1255] (by decide +kernel) (by decide +kernel)
set_option maxRecDepth 20000 in
theorem ggL_law_X12_years : GoodIn wsL_law wsX12_years := goodIn_app gk_X12_years_0 (goodIn_app (goodIn_app gk_wsX12_years_r1 (goodIn_app gk_wsX12_years_r2 gk_wsX12_years_r3)) gku_X12)
set_option maxRecDepth 20000 in
theorem gL_law_X12_years : GoodIn wsL_law (wsV RL 166 RX12 yX12_years wsX12_years) := goodIn_app (goodIn_of _ (by decide +kernel)) ggL_law_X12_years
set_option maxRecDepth 20000 in
theorem ggL_law_X11_seed : GoodIn wsL_law wsX11_seed := goodIn_r _ [1327, 24, 1328, 1495, 1496, 1497, 1498, 1499, 1500, 1501, 1502, 1503, 1504, 1505, 1506, 1507, 1508, 1538, 1539, 1540, 1541, 1542, 1543] (by decide +kernel) (by decide +kernel)
set_option maxRecDepth 20000 in
theorem gL_law_X11_seed : GoodIn wsL_law (wsV RL 167 RX11 yX11_seed wsX11_seed) := goodIn_app (goodIn_of _ (by decide +kernel)) ggL_law_X11_seed
set_option maxRecDepth 20000 in
theorem ggL_law_X12_seed : GoodIn wsL_law wsX12_seed := goodIn_r _ [1332, 101, 1509, 1510, 1511, 1512, 1513, 1514, 1515, 1516, 1517, 1518, 1519, 1520, 1521, 1522, 1523, 1524, 1525, 1526, 1527, 1528, 1529, 1530, 1531, 1532, 1533, 1534, 1535] (by decide +kernel) (by decide +kernel)
set_option maxRecDepth 20000 in
theorem gL_law_X12_seed : GoodIn wsL_law (wsV RL 170 RX12 yX12_seed wsX12_seed) := goodIn_app (goodIn_of _ (by decide +kernel)) ggL_law_X12_seed
theorem gku_X9 : GoodIn wsL_law wsX90 := goodIn_sub inlX9 (by decide +kernel)
set_option maxRecDepth 20000 in
theorem gk_X11_act_0 : GoodIn wsL_law [.code yX11_act cX11_act 5 (some .int)] := goodIn_r _ [1336] (by decide +kernel) (by decide +kernel)
set_option maxRecDepth 20000 in
theorem gk_wsX11_act_r1 : GoodIn wsL_law wsX11_act_r1 := goodIn_r _ [20, 24, 1337, 1338, 1339, 19, 1340, 45, 216, 217, 218, 23, 219, 53, 51, 1341, 1342, 1343, 1344, 1345, 265, 1346, 1347, 1348] (by decide +kernel) (by decide +kernel)
set_option maxRecDepth 20000 in
theorem gk_wsX11_act_r2 : GoodIn wsL_law wsX11_act_r2 := goodIn_r _ [1349, 1350, 1351, 1352, 1353, 1354, 44, 1355, 268, 1356, 270, 1357, 363, 362, 1358, 1359, 1360, 275, 1361, 1362, 1363, 1364, 1365, 1366] (by decide +kernel) (by decide +kernel)
set_option maxRecDepth 20000 in
theorem gk_wsX11_act_r3 : GoodIn wsL_law wsX11_act_r3 := goodIn_r _ [281, 1367, 283, 1368, 1369, 1370, 1371, 1372, 1373, 1374, 286, 1375, 1376, 1377, 1378, 1379, 1380, 1381, 1382, 1383, 1384, 1385, 1386, 1387] (by decide +kernel) (by decide +kernel)
set_option maxRecDepth 20000 in
theorem gk_wsX11_act_r4 : GoodIn wsL_law wsX11_act_r4 := goodIn_r _ [1388, 1389, 1390, 1391, 277, 278, 1392, 1393, 289, 1394, 1395, 1396, 1397, 1398, 292, 1399, 1400, 1401, 1402, 1403, 1404, 299, 1405, 1406] (by decide +kernel) (by decide +kernel)
set_option maxRecDepth 20000 in
theorem gk_wsX11_act_r5 : GoodIn wsL_law wsX11_act_r5 := goodIn_r _ [1407, 1408, 1409, 1410, 303, 1411, 1412, 1413, 1414, 1415, 257, 1416, 1417, 1418, 1419, 1420, 1421, 263, 1422, 1423, 1424, 1425, 1426, 359] (by decide +kernel) (by decide +kernel)
set_option maxRecDepth 20000 in
theorem gk_wsX11_act_r6 : GoodIn wsL_law wsX11_act_r6 := goodIn_r _ [1427, 1428, 1429, 1430, 1431, 1432, 1433, 1434, 1435] (by decide +kernel) (by decide +kernel)
set_option maxRecDepth 20000 in
theorem ggL_law_X11_act : GoodIn wsL_law wsX11_act := goodIn_app gk_X11_act_0 (goodIn_app (goodIn_app (goodIn_app (goodIn_app (goodIn_app (goodIn_app (goodIn_app (goodIn_app (goodIn_app (goodIn_app (goodIn_app gk_wsX11_act_r1 (goodIn_app gk_wsX11_act_r2 (goodIn_app gk_wsX11_act_r3 (goodIn_app gk_wsX11_act_r4 (goodIn_app gk_wsX11_act_r5 gk_wsX11_act_r6))))) gku_X11) gku_X9) gku_X4) gku_X0) gku_X1) gku_X2) gku_X3) gku_X5) gku_X8) gku_X10)
set_option maxRecDepth 20000 in
theorem gL_law_X11_act : GoodIn wsL_law (wsV RL 171 RX11 yX11_act wsX11_act) := goodIn_app (goodIn_of _ (by decide +kernel)) ggL_law_X11_act
set_option maxRecDepth 20000 in
theorem ggL_law_X12_act : GoodIn wsL_law wsX12_act := goodIn_r _ [1439, 1440, 224, 225, 226, 5, 227, 228, 135, 136, 137, 1441, 1442, 1443, 1444, 85, 86, 1445, 1446, 1447, 1448, 93, 1449, 1450, 1451, 1452, 1453, 1454, 1455, 1456, 1509, 1510, 1511, 1512, 1513, 1514, 1515, 1516, 1517, 1518, 1519, 1520, 1521, 1522, 1523, 1524, 1525, 1526, 1527, 1528, 1529, 1530, 1531, 1532, 1533, 1534, 1535] (by decide +kernel) (by decide +kernel)
set_option maxRecDepth 20000 in
theorem gL_law_X12_act : GoodIn wsL_law (wsV RL 174 RX12 yX12_act wsX12_act) := goodIn_app (goodIn_of _ (by decide +kernel)) ggL_law_X12_act
set_option maxRecDepth 20000 in
theorem ggL_law_X11_trace : GoodIn wsL_law wsX11_trace := goodIn_r _ [1460, 20, 1461, 1462, 1463, 19, 1464, 45, 44, 1495, 1496, 1497, 1498, 1499, 1500, 1501, 1502, 1503, 1504, 1505, 1506, 1507, 1508, 1536, 1537] (by decide +kernel) (by decide +kernel)
set_option maxRecDepth 20000 in
theorem gL_law_X11_trace : GoodIn wsL_law (wsV RL 175 RX11 yX11_trace wsX11_trace) := goodIn_app (goodIn_of _ (by decide +kernel)) ggL_law_X11_trace
set_option maxRecDepth 20000 in
theorem ggL_law_X12_trace : GoodIn wsL_law wsX12_trace := goodIn_r _ [1468, 1440, 93, 1509, 1510, 1511, 1512, 1513, 1514, 1515, 1516, 1517, 1518, 1519, 1520, 1521, 1522, 1523, 1524, 1525, 1526, 1527, 1528, 1529, 1530, 1531, 1532, 1533, 1534, 1535] (by decide +kernel) (by decide +kernel)
set_option maxRecDepth 20000 in
theorem gL_law_X12_trace : GoodIn wsL_law (wsV RL 178 RX12 yX12_trace wsX12_trace) := goodIn_app (goodIn_of _ (by decide +kernel)) ggL_law_X12_trace
set_option maxRecDepth 20000 in
theorem gk_X11_image_0 : GoodIn wsL_law [.code yX11_image cX11_image 1 (some .int)] := goodIn_r _ [1472] (by decide +kernel) (by decide +kernel)
set_option maxRecDepth 20000 in
theorem gk_wsX11_image_r1 : GoodIn wsL_law wsX11_image_r1 := goodIn_r _ [26, 24, 37, 1119, 564, 565, 566, 23, 567, 54, 55, 53, 335, 568, 217, 218, 219, 51, 331, 332, 333, 334, 336, 337] (by decide +kernel) (by decide +kernel)
set_option maxRecDepth 20000 in
theorem gk_wsX11_image_r2 : GoodIn wsL_law wsX11_image_r2 := goodIn_r _ [283, 56, 338, 339, 289, 340, 341, 299, 342, 343, 265, 344, 345, 257, 346, 347, 275, 50, 348, 270, 349, 350, 351, 352] (by decide +kernel) (by decide +kernel)
set_option maxRecDepth 20000 in
theorem gk_wsX11_image_r3 : GoodIn wsL_law wsX11_image_r3 := goodIn_r _ [353, 354, 355, 11, 12, 15, 356, 357, 358, 359, 272, 360, 361, 362, 363, 364, 365, 366, 367, 368, 369, 370, 371, 372] (by decide +kernel) (by decide +kernel)
set_option maxRecDepth 20000 in
theorem gk_wsX11_image_r4 : GoodIn wsL_law wsX11_image_r4 := goodIn_r _ [373, 374, 375, 376, 377, 378, 379, 380, 381, 382, 383, 384, 569, 570, 571, 572, 573, 574, 185, 186, 187, 575, 576, 577] (by decide +kernel) (by decide +kernel)
set_option maxRecDepth 20000 in
theorem gk_wsX11_image_r5 : GoodIn wsL_law wsX11_image_r5 := goodIn_r _ [578, 579, 580, 581] (by decide +kernel) (by decide +kernel)
set_option maxRecDepth 20000 in
theorem ggL_law_X11_image : GoodIn wsL_law wsX11_image := goodIn_app gk_X11_image_0 (goodIn_app (goodIn_app (goodIn_app (goodIn_app (goodIn_app (goodIn_app (goodIn_app (goodIn_app (goodIn_app (goodIn_app gk_wsX11_image_r1 (goodIn_app gk_wsX11_image_r2 (goodIn_app gk_wsX11_image_r3 (goodIn_app gk_wsX11_image_r4 gk_wsX11_image_r5)))) gku_X11) gku_X4) gku_X0) gku_X1) gku_X2) gku_X3) gku_X5) gku_X8) gku_X10)
set_option maxRecDepth 20000 in
theorem gL_law_X11_image : GoodIn wsL_law (wsV RL 179 RX11 yX11_image wsX11_image) := goodIn_app (goodIn_of _ (by decide +kernel)) ggL_law_X11_image
set_option maxRecDepth 20000 in
theorem ggL_law_X12_image : GoodIn wsL_law wsX12_image := goodIn_r _ [1476, 1477, 95, 228, 767, 768, 769, 5, 770, 85, 86, 87, 88, 89, 90, 91, 100, 101, 1509, 1510, 1511, 1512, 1513, 1514, 1515, 1516, 1517, 1518, 1519, 1520, 1521, 1522, 1523, 1524, 1525, 1526, 1527, 1528, 1529, 1530, 1531, 1532, 1533, 1534, 1535] (by decide +kernel) (by decide +kernel)
set_option maxRecDepth 20000 in
theorem gL_law_X12_image : GoodIn wsL_law (wsV RL 182 RX12 yX12_image wsX12_image) := goodIn_app (goodIn_of _ (by decide +kernel)) ggL_law_X12_image
set_option maxRecDepth 20000 in
theorem gk_X11_restore_0 : GoodIn wsL_law [.code yX11_restore cX11_restore 3 (some .int)] := goodIn_r _ [1481] (by decide +kernel) (by decide +kernel)
set_option maxRecDepth 20000 in
theorem gk_wsX11_restore_r1 : GoodIn wsL_law wsX11_restore_r1 := goodIn_r _ [37, 24, 26, 191, 1119, 111, 112, 113, 2, 114, 115, 116, 117, 118, 16, 564, 565, 566, 23, 567, 54, 55, 53, 335] (by decide +kernel) (by decide +kernel)
set_option maxRecDepth 20000 in
theorem gk_wsX11_restore_r2 : GoodIn wsL_law wsX11_restore_r2 := goodIn_r _ [568, 217, 218, 219, 51, 331, 332, 333, 334, 336, 337, 283, 56, 338, 339, 289, 340, 341, 299, 342, 343, 265, 344, 345] (by decide +kernel) (by decide +kernel)
set_option maxRecDepth 20000 in
theorem gk_wsX11_restore_r3 : GoodIn wsL_law wsX11_restore_r3 := goodIn_r _ [257, 346, 347, 275, 50, 348, 270, 349, 350, 351, 352, 353, 354, 355, 11, 12, 15, 356, 357, 358, 359, 272, 360, 361] (by decide +kernel) (by decide +kernel)
set_option maxRecDepth 20000 in
theorem gk_wsX11_restore_r4 : GoodIn wsL_law wsX11_restore_r4 := goodIn_r _ [362, 363, 364, 365, 366, 367, 368, 369, 370, 371, 372, 373, 374, 375, 376, 377, 378, 379, 380, 381, 382, 383, 384, 569] (by decide +kernel) (by decide +kernel)
set_option maxRecDepth 20000 in
theorem gk_wsX11_restore_r5 : GoodIn wsL_law wsX11_restore_r5 := goodIn_r _ [570, 571, 572, 573, 574, 185, 186, 187, 575, 576, 577, 578, 579, 580, 581, 107, 108, 109, 110, 14, 153, 154, 155, 40] (by decide +kernel) (by decide +kernel)
set_option maxRecDepth 20000 in
theorem gk_wsX11_restore_r6 : GoodIn wsL_law wsX11_restore_r6 := goodIn_r _ [156, 76, 216] (by decide +kernel) (by decide +kernel)
set_option maxRecDepth 20000 in
theorem ggL_law_X11_restore : GoodIn wsL_law wsX11_restore := goodIn_app gk_X11_restore_0 (goodIn_app (goodIn_app (goodIn_app (goodIn_app (goodIn_app (goodIn_app (goodIn_app (goodIn_app (goodIn_app (goodIn_app (goodIn_app gk_wsX11_restore_r1 (goodIn_app gk_wsX11_restore_r2 (goodIn_app gk_wsX11_restore_r3 (goodIn_app gk_wsX11_restore_r4 (goodIn_app gk_wsX11_restore_r5 gk_wsX11_restore_r6))))) gku_X11) gku_X7) gku_X4) gku_X0) gku_X1) gku_X2) gku_X3) gku_X5) gku_X8) gku_X10)
set_option maxRecDepth 20000 in
theorem gL_law_X11_restore : GoodIn wsL_law (wsV RL 183 RX11 yX11_restore wsX11_restore) := goodIn_app (goodIn_of _ (by decide +kernel)) ggL_law_X11_restore
set_option maxRecDepth 20000 in
theorem ggL_law_X12_restore : GoodIn wsL_law wsX12_restore := goodIn_r _ [1485, 1477, 95, 82, 228, 138, 139, 140, 5, 141, 94, 819, 820, 821, 822, 85, 86, 87, 88, 89, 90, 91, 100, 101, 175, 176, 177, 178, 1509, 1510, 1511, 1512, 1513, 1514, 1515, 1516, 1517, 1518, 1519, 1520, 1521, 1522, 1523, 1524, 1525, 1526, 1527, 1528, 1529, 1530, 1531, 1532, 1533, 1534, 1535] (by decide +kernel) (by decide +kernel)
set_option maxRecDepth 20000 in
theorem gL_law_X12_restore : GoodIn wsL_law (wsV RL 186 RX12 yX12_restore wsX12_restore) := goodIn_app (goodIn_of _ (by decide +kernel)) ggL_law_X12_restore
set_option maxRecDepth 20000 in
theorem gk_X11_status_0 : GoodIn wsL_law [.code yX11_status cX11_status 2 (some .int)] := goodIn_r _ [1489] (by decide +kernel) (by decide +kernel)
set_option maxRecDepth 20000 in
theorem gk_wsX11_status_r1 : GoodIn wsL_law wsX11_status_r1 := goodIn_r _ [24, 1119, 412, 1328, 20, 1490, 16, 1234, 1235, 1236, 23, 1237, 53, 1189, 568, 217, 218, 219, 51, 1218, 1219, 1220, 1221, 1222] (by decide +kernel) (by decide +kernel)
set_option maxRecDepth 20000 in
theorem gk_wsX11_status_r2 : GoodIn wsL_law wsX11_status_r2 := goodIn_r _ [1223, 1224, 1225, 270, 1226, 356, 1227, 1228, 1229, 1230, 1231, 1232, 1233, 1238, 1239, 1240, 1241, 1242, 452, 453, 454, 455, 357, 456] (by decide +kernel) (by decide +kernel)
set_option maxRecDepth 20000 in
theorem gk_wsX11_status_r3 : GoodIn wsL_law wsX11_status_r3 := goodIn_r _ [457, 458, 1243, 460, 461, 462] (by decide +kernel) (by decide +kernel)
set_option maxRecDepth 20000 in
theorem ggL_law_X11_status : GoodIn wsL_law wsX11_status := goodIn_app gk_X11_status_0 (goodIn_app (goodIn_app (goodIn_app (goodIn_app (goodIn_app (goodIn_app (goodIn_app (goodIn_app (goodIn_app (goodIn_app (goodIn_app gk_wsX11_status_r1 (goodIn_app gk_wsX11_status_r2 gk_wsX11_status_r3)) gku_X11) gku_X4) gku_X9) gku_X0) gku_X1) gku_X2) gku_X3) gku_X5) gku_X8) gku_X10)
set_option maxRecDepth 20000 in
theorem gL_law_X11_status : GoodIn wsL_law (wsV RL 187 RX11 yX11_status wsX11_status) := goodIn_app (goodIn_of _ (by decide +kernel)) ggL_law_X11_status
set_option maxRecDepth 20000 in
theorem ggL_law_X12_status : GoodIn wsL_law wsX12_status := goodIn_r _ [1494, 228, 100, 101, 1440, 94, 1252, 1253, 1254, 5, 1255, 88, 1248, 1249, 1250, 1251, 91, 1256, 1257, 1258, 1259, 475, 476, 477, 478, 89, 135, 136, 137, 1509, 1510, 1511, 1512, 1513, 1514, 1515, 1516, 1517, 1518, 1519, 1520, 1521, 1522, 1523, 1524, 1525, 1526, 1527, 1528, 1529, 1530, 1531, 1532, 1533, 1534, 1535] (by decide +kernel) (by decide +kernel)
set_option maxRecDepth 20000 in
theorem gL_law_X12_status : GoodIn wsL_law (wsV RL 190 RX12 yX12_status wsX12_status) := goodIn_app (goodIn_of _ (by decide +kernel)) ggL_law_X12_status
