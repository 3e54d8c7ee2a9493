set_option maxRecDepth 20000 in
theorem ggL_law_X11_init : GoodIn wsL_law wsX11_init := goodIn_r _ [9, 10, 11, 12, 13, 14, 15, 16, 17, 18, 19, 20, 21, 22, 23, 24, 25, 26, 27, 28, 29, 30, 31, 32, 33, 34, 35, 36, 37, 38, 39, 40, 41, 42, 43, 44, 45, 46, 47, 48, 49, 50, 51, 52, 53, 54, 55, 56, 57, 58, 59, 60, 61, 62, 63, 64, 65, 66, 67, 68, 69, 70, 71, 72, 73, 74, 75, 76, 77, 1495, 1496, 1497, 1498, 1499, 1500, 1501, 1502, 1503, 1504, 1505, 1506, 1507, 1508, 1536, 1537, 1538, 1539, 1540, 1541, 1542, 1543, 1544, 1545, 1546, 1547, 1548, 1549, 1550, 1551, 1552, 1553, 1554, 1555, 1556] (by decide +kernel) (by decide +kernel)
set_option maxRecDepth 20000 in
theorem gL_law_X11_init : GoodIn wsL_law (wsX11_init) := ggL_law_X11_init
set_option maxRecDepth 20000 in
theorem ggL_law_X12_init : GoodIn wsL_law wsX12_init := goodIn_r _ [80, 81, 11, 12, 15, 82, 83, 74, 84, 85, 86, 87, 88, 89, 90, 91, 92, 93, 94, 95, 96, 97, 98, 99, 100, 101, 102, 1509, 1510, 1511, 1512, 1513, 1514, 1515, 1516, 1517, 1518, 1519, 1520, 1521, 1522, 1523, 1524, 1525, 1526, 1527, 1528, 1529, 1530, 1531, 1532, 1533, 1534, 1535] (by decide +kernel) (by decide +kernel)
set_option maxRecDepth 20000 in
theorem gL_law_X12_init : GoodIn wsL_law (wsX12_init) := ggL_law_X12_init
set_option maxRecDepth 20000 in
theorem ggL_law_X11_row : GoodIn wsL_law wsX11_row := goodIn_r _ [106, 107, 108, 109, 2, 110, 14, 111, 112, 113, 114, 115, 116, 117, 118, 16, 119, 120, 121, 40, 122, 76, 123, 124, 125, 126, 77, 75, 127, 128, 129, 130, 1495, 1496, 1497, 1498, 1499, 1500, 1501, 1502, 1503, 1504, 1505, 1506, 1507, 1508, 1554, 1555, 1556] (by decide +kernel) (by decide +kernel)
set_option maxRecDepth 20000 in
theorem gL_law_X11_row : GoodIn wsL_law (wsV RL 13 RX11 yX11_row wsX11_row) := goodIn_app (goodIn_of _ (by decide +kernel)) ggL_law_X11_row
set_option maxRecDepth 20000 in
theorem ggL_law_X12_row : GoodIn wsL_law wsX12_row := goodIn_r _ [134, 82, 83, 84, 135, 136, 5, 137, 138, 139, 140, 141, 94, 1509, 1510, 1511, 1512, 1513, 1514, 1515, 1516, 1517, 1518, 1519, 1520, 1521, 1522, 1523, 1524, 1525, 1526, 1527, 1528, 1529, 1530, 1531, 1532, 1533, 1534, 1535] (by decide +kernel) (by decide +kernel)
set_option maxRecDepth 20000 in
theorem gL_law_X12_row : GoodIn wsL_law (wsV RL 17 RX12 yX12_row wsX12_row) := goodIn_app (goodIn_of _ (by decide +kernel)) ggL_law_X12_row
set_option maxRecDepth 20000 in
theorem ggL_law_X11_set : GoodIn wsL_law wsX11_set := goodIn_r _ [145, 107, 108, 109, 2, 110, 14, 146, 147, 148, 40, 149, 76, 150, 151, 152, 153, 154, 155, 156, 111, 112, 113, 114, 115, 116, 117, 118, 16, 157, 158, 159, 160, 77, 161, 162, 163, 164, 165, 75, 166, 1495, 1496, 1497, 1498, 1499, 1500, 1501, 1502, 1503, 1504, 1505, 1506, 1507, 1508, 1554, 1555, 1556] (by decide +kernel) (by decide +kernel)
set_option maxRecDepth 20000 in
theorem gL_law_X11_set : GoodIn wsL_law (wsV RL 20 RX11 yX11_set wsX11_set) := goodIn_app (goodIn_of _ (by decide +kernel)) ggL_law_X11_set
set_option maxRecDepth 20000 in
theorem ggL_law_X12_set : GoodIn wsL_law wsX12_set := goodIn_r _ [170, 83, 82, 84, 171, 172, 173, 5, 174, 135, 136, 137, 175, 176, 177, 178, 138, 139, 140, 141, 94, 1509, 1510, 1511, 1512, 1513, 1514, 1515, 1516, 1517, 1518, 1519, 1520, 1521, 1522, 1523, 1524, 1525, 1526, 1527, 1528, 1529, 1530, 1531, 1532, 1533, 1534, 1535] (by decide +kernel) (by decide +kernel)
set_option maxRecDepth 20000 in
theorem gL_law_X12_set : GoodIn wsL_law (wsV RL 24 RX12 yX12_set wsX12_set) := goodIn_app (goodIn_of _ (by decide +kernel)) ggL_law_X12_set
set_option maxRecDepth 20000 in
theorem ggL_law_X11_copy : GoodIn wsL_law wsX11_copy := goodIn_r _ [182, 183, 184, 185, 186, 187, 107, 108, 109, 2, 110, 14, 188, 189, 190, 191, 153, 154, 155, 40, 156, 76, 146, 147, 148, 149, 111, 112, 113, 114, 115, 116, 117, 118, 16, 192, 193, 194, 195, 77, 161, 1554, 1555, 1556, 1495, 1496, 1497, 1498, 1499, 1500, 1501, 1502, 1503, 1504, 1505, 1506, 1507, 1508] (by decide +kernel) (by decide +kernel)
set_option maxRecDepth 20000 in
theorem gL_law_X11_copy : GoodIn wsL_law (wsV RL 25 RX11 yX11_copy wsX11_copy) := goodIn_app (goodIn_of _ (by decide +kernel)) ggL_law_X11_copy
set_option maxRecDepth 20000 in
theorem ggL_law_X12_copy : GoodIn wsL_law wsX12_copy := goodIn_r _ [199, 82, 83, 84, 135, 136, 5, 137, 138, 139, 140, 141, 94, 175, 176, 177, 178, 1509, 1510, 1511, 1512, 1513, 1514, 1515, 1516, 1517, 1518, 1519, 1520, 1521, 1522, 1523, 1524, 1525, 1526, 1527, 1528, 1529, 1530, 1531, 1532, 1533, 1534, 1535] (by decide +kernel) (by decide +kernel)
set_option maxRecDepth 20000 in
theorem gL_law_X12_copy : GoodIn wsL_law (wsV RL 29 RX12 yX12_copy wsX12_copy) := goodIn_app (goodIn_of _ (by decide +kernel)) ggL_law_X12_copy
set_option maxRecDepth 20000 in
theorem ggL_law_X11_element : GoodIn wsL_law wsX11_element := goodIn_r _ [203, 107, 108, 109, 2, 110, 14, 204, 205, 206, 40, 207, 75, 166, 158, 159, 160, 77, 161, 147, 148, 149, 76, 1495, 1496, 1497, 1498, 1499, 1500, 1501, 1502, 1503, 1504, 1505, 1506, 1507, 1508, 1554, 1555, 1556] (by decide +kernel) (by decide +kernel)
set_option maxRecDepth 20000 in
theorem gL_law_X11_element : GoodIn wsL_law (wsV RL 30 RX11 yX11_element wsX11_element) := goodIn_app (goodIn_of _ (by decide +kernel)) ggL_law_X11_element
set_option maxRecDepth 20000 in
theorem ggL_law_X12_element : GoodIn wsL_law wsX12_element := goodIn_r _ [211, 83, 84, 135, 136, 5, 137, 175, 176, 177, 178, 82, 1509, 1510, 1511, 1512, 1513, 1514, 1515, 1516, 1517, 1518, 1519, 1520, 1521, 1522, 1523, 1524, 1525, 1526, 1527, 1528, 1529, 1530, 1531, 1532, 1533, 1534, 1535] (by decide +kernel) (by decide +kernel)
set_option maxRecDepth 20000 in
theorem gL_law_X12_element : GoodIn wsL_law (wsV RL 34 RX12 yX12_element wsX12_element) := goodIn_app (goodIn_of _ (by decide +kernel)) ggL_law_X12_element
set_option maxRecDepth 20000 in
theorem ggL_law_X11_show : GoodIn wsL_law wsX11_show := goodIn_r _ [215, 24, 191, 107, 108, 109, 2, 110, 14, 216, 217, 218, 23, 219, 53, 51, 111, 112, 113, 114, 115, 116, 117, 118, 16, 1495, 1496, 1497, 1498, 1499, 1500, 1501, 1502, 1503, 1504, 1505, 1506, 1507, 1508, 1554, 1555, 1556, 1538, 1539, 1540, 1541, 1542, 1543] (by decide +kernel) (by decide +kernel)
set_option maxRecDepth 20000 in
theorem gL_law_X11_show : GoodIn wsL_law (wsV RL 35 RX11 yX11_show wsX11_show) := goodIn_app (goodIn_of _ (by decide +kernel)) ggL_law_X11_show
set_option maxRecDepth 20000 in
theorem ggL_law_X12_show : GoodIn wsL_law wsX12_show := goodIn_r _ [223, 82, 135, 136, 5, 137, 224, 225, 226, 227, 228, 138, 139, 140, 141, 94, 1509, 1510, 1511, 1512, 1513, 1514, 1515, 1516, 1517, 1518, 1519, 1520, 1521, 1522, 1523, 1524, 1525, 1526, 1527, 1528, 1529, 1530, 1531, 1532, 1533, 1534, 1535] (by decide +kernel) (by decide +kernel)
set_option maxRecDepth 20000 in
theorem gL_law_X12_show : GoodIn wsL_law (wsV RL 39 RX12 yX12_show wsX12_show) := goodIn_app (goodIn_of _ (by decide +kernel)) ggL_law_X12_show
set_option maxRecDepth 20000 in
theorem ggL_law_X11_holds : GoodIn wsL_law wsX11_holds := goodIn_r _ [232, 191, 107, 108, 109, 2, 110, 14, 1554, 1555, 1556, 1495, 1496, 1497, 1498, 1499, 1500, 1501, 1502, 1503, 1504, 1505, 1506, 1507, 1508] (by decide +kernel) (by decide +kernel)
set_option maxRecDepth 20000 in
theorem gL_law_X11_holds : GoodIn wsL_law (wsV RL 40 RX11 yX11_holds wsX11_holds) := goodIn_app (goodIn_of _ (by decide +kernel)) ggL_law_X11_holds
set_option maxRecDepth 20000 in
theorem ggL_law_X12_holds : GoodIn wsL_law wsX12_holds := goodIn_r _ [236, 82, 135, 136, 5, 137, 1509, 1510, 1511, 1512, 1513, 1514, 1515, 1516, 1517, 1518, 1519, 1520, 1521, 1522, 1523, 1524, 1525, 1526, 1527, 1528, 1529, 1530, 1531, 1532, 1533, 1534, 1535] (by decide +kernel) (by decide +kernel)
set_option maxRecDepth 20000 in
theorem gL_law_X12_holds : GoodIn wsL_law (wsV RL 44 RX12 yX12_holds wsX12_holds) := goodIn_app (goodIn_of _ (by decide +kernel)) ggL_law_X12_holds
set_option maxRecDepth 20000 in
theorem ggL_law_X11_says : GoodIn wsL_law wsX11_says := goodIn_r _ [240, 24, 191, 241, 242, 107, 108, 109, 2, 110, 14, 111, 112, 113, 114, 115, 116, 117, 118, 16, 146, 147, 148, 40, 149, 76, 216, 217, 218, 23, 219, 53, 51, 243, 244, 245, 246, 247, 248, 249, 250, 251, 252, 253, 254, 255, 256, 257, 258, 259, 260, 261, 262, 263, 264, 265, 266, 267, 268, 269, 270, 271, 272, 273, 274, 275, 276, 277, 278, 279, 280, 281, 282, 283, 284, 285, 286, 287, 288, 289, 290, 291, 292, 293, 294, 295, 296, 297, 298, 299, 300, 301, 302, 303, 1495, 1496, 1497, 1498, 1499, 1500, 1501, 1502, 1503, 1504, 1505, 1506, 1507, 1508, 1554, 1555, 1556, 1557, 1558, 1559, 1560, 1561, 1562, 1563, 1564, 1565, 1566, 1567, 1568, 1569, 1570, 1571, 1572, 1573, 1574, 1575, 1576, 1577, 1578, 1579, 1580, 1581, 1582, 1583, 1584, 1585, 1586, 1587, 1588, 1589, 1590, 1591, 1592, 1593, 1594, 1595, 1596, 1597, 1598, 1599, 1600, 1601, 1602, 1603, 1604, 1605, 1606, 1607, 1608, 1609, 1610, 1611, 1612, 1613, 1614, 1615, 1616, 1617, 1618, 1619, 1538, 1539, 1540, 1541, 1542, 1543] (by decide +kernel) (by decide +kernel)
set_option maxRecDepth 20000 in
theorem gL_law_X11_says : GoodIn wsL_law (wsV RL 45 RX11 yX11_says wsX11_says) := goodIn_app (goodIn_of _ (by decide +kernel)) ggL_law_X11_says
set_option maxRecDepth 20000 in
theorem ggL_law_X12_says : GoodIn wsL_law wsX12_says := goodIn_r _ [307, 82, 85, 87, 88, 135, 136, 5, 137, 138, 139, 140, 141, 94, 175, 176, 177, 178, 308, 309, 310, 311, 312, 313, 314, 315, 316, 317, 86, 1509, 1510, 1511, 1512, 1513, 1514, 1515, 1516, 1517, 1518, 1519, 1520, 1521, 1522, 1523, 1524, 1525, 1526, 1527, 1528, 1529, 1530, 1531, 1532, 1533, 1534, 1535] (by decide +kernel) (by decide +kernel)
set_option maxRecDepth 20000 in
theorem gL_law_X12_says : GoodIn wsL_law (wsV RL 48 RX12 yX12_says wsX12_says) := goodIn_app (goodIn_of _ (by decide +kernel)) ggL_law_X12_says
set_option maxRecDepth 20000 in
theorem ggL_law_X11_person : GoodIn wsL_law wsX11_person := goodIn_r _ [321, 24, 111, 112, 113, 2, 114, 115, 116, 117, 118, 16, 322, 323, 324, 23, 325, 53, 326, 327, 328, 329, 330, 331, 332, 333, 334, 51, 335, 336, 337, 283, 56, 338, 339, 289, 340, 341, 299, 342, 343, 265, 344, 345, 257, 346, 347, 275, 50, 348, 270, 349, 350, 351, 352, 353, 354, 355, 11, 12, 15, 356, 357, 358, 359, 272, 360, 361, 362, 363, 364, 365, 366, 367, 368, 369, 370, 371, 372, 373, 374, 375, 376, 377, 378, 379, 380, 381, 382, 383, 384, 385, 386, 387, 388, 389, 390, 391, 129, 392, 393, 394, 395, 396, 397, 398, 399, 1495, 1496, 1497, 1498, 1499, 1500, 1501, 1502, 1503, 1504, 1505, 1506, 1507, 1508, 1538, 1539, 1540, 1541, 1542, 1543, 1557, 1558, 1559, 1560, 1561, 1562, 1563, 1564, 1565, 1566, 1567, 1568, 1569, 1570, 1571, 1572, 1573, 1574, 1575, 1576, 1577, 1578, 1579, 1580, 1581, 1582, 1583, 1584, 1585, 1586, 1587, 1588, 1589, 1590, 1591, 1592, 1593, 1594, 1595, 1596, 1597, 1598, 1599, 1600, 1601, 1602, 1603, 1604, 1605, 1606, 1607, 1608, 1609, 1610, 1611, 1612, 1613, 1614, 1615, 1616, 1617, 1618, 1619] (by decide +kernel) (by decide +kernel)
set_option maxRecDepth 20000 in
theorem gL_law_X11_person : GoodIn wsL_law (wsV RL 49 RX11 yX11_person wsX11_person) := goodIn_app (goodIn_of _ (by decide +kernel)) ggL_law_X11_person
set_option maxRecDepth 20000 in
theorem ggL_law_X12_person : GoodIn wsL_law wsX12_person := goodIn_r _ [403, 228, 135, 136, 5, 137, 138, 139, 140, 141, 94, 404, 405, 406, 407, 85, 86, 87, 88, 89, 90, 91, 1509, 1510, 1511, 1512, 1513, 1514, 1515, 1516, 1517, 1518, 1519, 1520, 1521, 1522, 1523, 1524, 1525, 1526, 1527, 1528, 1529, 1530, 1531, 1532, 1533, 1534, 1535] (by decide +kernel) (by decide +kernel)
set_option maxRecDepth 20000 in
theorem gL_law_X12_person : GoodIn wsL_law (wsV RL 52 RX12 yX12_person wsX12_person) := goodIn_app (goodIn_of _ (by decide +kernel)) ggL_law_X12_person
set_option maxRecDepth 20000 in
theorem ggL_law_X11_ask : GoodIn wsL_law wsX11_ask := goodIn_r _ [411, 24, 412, 111, 112, 113, 2, 114, 115, 116, 117, 118, 16, 1495, 1496, 1497, 1498, 1499, 1500, 1501, 1502, 1503, 1504, 1505, 1506, 1507, 1508, 1538, 1539, 1540, 1541, 1542, 1543] (by decide +kernel) (by decide +kernel)
set_option maxRecDepth 20000 in
theorem gL_law_X11_ask : GoodIn wsL_law (wsV RL 53 RX11 yX11_ask wsX11_ask) := goodIn_app (goodIn_of _ (by decide +kernel)) ggL_law_X11_ask
set_option maxRecDepth 20000 in
theorem ggL_law_X12_ask : GoodIn wsL_law wsX12_ask := goodIn_r _ [416, 100, 135, 136, 5, 137, 138, 139, 140, 141, 94, 1509, 1510, 1511, 1512, 1513, 1514, 1515, 1516, 1517, 1518, 1519, 1520, 1521, 1522, 1523, 1524, 1525, 1526, 1527, 1528, 1529, 1530, 1531, 1532, 1533, 1534, 1535] (by decide +kernel) (by decide +kernel)
set_option maxRecDepth 20000 in
theorem gL_law_X12_ask : GoodIn wsL_law (wsV RL 56 RX12 yX12_ask wsX12_ask) := goodIn_app (goodIn_of _ (by decide +kernel)) ggL_law_X12_ask
set_option maxRecDepth 20000 in
theorem ggL_law_X11_personOf : GoodIn wsL_law wsX11_personOf := goodIn_r _ [420, 24, 421, 422, 241, 242, 216, 217, 218, 23, 219, 53, 51, 111, 112, 113, 2, 114, 115, 116, 117, 118, 16, 423, 424, 425, 426, 270, 427, 428, 429, 430, 431, 432, 356, 433, 434, 435, 436, 437, 438, 439, 440, 441, 442, 443, 444, 445, 446, 447, 448, 449, 450, 451, 452, 453, 454, 455, 357, 456, 457, 458, 459, 460, 461, 462, 1495, 1496, 1497, 1498, 1499, 1500, 1501, 1502, 1503, 1504, 1505, 1506, 1507, 1508, 1557, 1558, 1559, 1560, 1561, 1562, 1563, 1564, 1565, 1566, 1567, 1568, 1569, 1570, 1571, 1572, 1573, 1574, 1575, 1576, 1577, 1578, 1579, 1580, 1581, 1582, 1583, 1584, 1585, 1586, 1587, 1588, 1589, 1590, 1591, 1592, 1593, 1594, 1595, 1596, 1597, 1598, 1599, 1600, 1601, 1602, 1603, 1604, 1605, 1606, 1607, 1608, 1609, 1610, 1611, 1612, 1613, 1614, 1615, 1616, 1617, 1618, 1619, 1538, 1539, 1540, 1541, 1542, 1543] (by decide +kernel) (by decide +kernel)
set_option maxRecDepth 20000 in
theorem gL_law_X11_personOf : GoodIn wsL_law (wsV RL 57 RX11 yX11_personOf wsX11_personOf) := goodIn_app (goodIn_of _ (by decide +kernel)) ggL_law_X11_personOf
set_option maxRecDepth 20000 in
theorem ggL_law_X12_personOf : GoodIn wsL_law wsX12_personOf := goodIn_r _ [466, 85, 86, 87, 88, 224, 225, 226, 5, 227, 228, 135, 136, 137, 138, 139, 140, 141, 94, 467, 468, 469, 470, 471, 472, 473, 474, 91, 475, 476, 477, 478, 89, 1509, 1510, 1511, 1512, 1513, 1514, 1515, 1516, 1517, 1518, 1519, 1520, 1521, 1522, 1523, 1524, 1525, 1526, 1527, 1528, 1529, 1530, 1531, 1532, 1533, 1534, 1535] (by decide +kernel) (by decide +kernel)
set_option maxRecDepth 20000 in
theorem gL_law_X12_personOf : GoodIn wsL_law (wsV RL 60 RX12 yX12_personOf wsX12_personOf) := goodIn_app (goodIn_of _ (by decide +kernel)) ggL_law_X12_personOf
set_option maxRecDepth 20000 in
theorem ggL_law_X11_copyOf : GoodIn wsL_law wsX11_copyOf := goodIn_r _ [482, 24, 483, 412, 216, 217, 218, 23, 219, 53, 51, 484, 433, 2, 434, 111, 112, 113, 114, 115, 116, 117, 118, 16, 485, 486, 487, 488, 270, 489, 428, 429, 430, 431, 432, 356, 435, 436, 437, 438, 439, 440, 441, 442, 443, 490, 491, 492, 493, 494, 495, 496, 497, 498, 499, 500, 501, 360, 502, 503, 504, 505, 506, 507, 508, 1495, 1496, 1497, 1498, 1499, 1500, 1501, 1502, 1503, 1504, 1505, 1506, 1507, 1508, 1557, 1558, 1559, 1560, 1561, 1562, 1563, 1564, 1565, 1566, 1567, 1568, 1569, 1570, 1571, 1572, 1573, 1574, 1575, 1576, 1577, 1578, 1579, 1580, 1581, 1582, 1583, 1584, 1585, 1586, 1587, 1588, 1589, 1590, 1591, 1592, 1593, 1594, 1595, 1596, 1597, 1598, 1599, 1600, 1601, 1602, 1603, 1604, 1605, 1606, 1607, 1608, 1609, 1610, 1611, 1612, 1613, 1614, 1615, 1616, 1617, 1618, 1619, 1538, 1539, 1540, 1541, 1542, 1543] (by decide +kernel) (by decide +kernel)
set_option maxRecDepth 20000 in
theorem gL_law_X11_copyOf : GoodIn wsL_law (wsV RL 61 RX11 yX11_copyOf wsX11_copyOf) := goodIn_app (goodIn_of _ (by decide +kernel)) ggL_law_X11_copyOf
set_option maxRecDepth 20000 in
theorem ggL_law_X12_copyOf : GoodIn wsL_law wsX12_copyOf := goodIn_r _ [512, 89, 224, 225, 226, 5, 227, 228, 135, 136, 137, 513, 514, 515, 138, 139, 140, 141, 94, 516, 517, 518, 519, 520, 521, 522, 523, 100, 471, 472, 473, 474, 91, 524, 525, 526, 527, 88, 1509, 1510, 1511, 1512, 1513, 1514, 1515, 1516, 1517, 1518, 1519, 1520, 1521, 1522, 1523, 1524, 1525, 1526, 1527, 1528, 1529, 1530, 1531, 1532, 1533, 1534, 1535] (by decide +kernel) (by decide +kernel)
set_option maxRecDepth 20000 in
theorem gL_law_X12_copyOf : GoodIn wsL_law (wsV RL 64 RX12 yX12_copyOf wsX12_copyOf) := goodIn_app (goodIn_of _ (by decide +kernel)) ggL_law_X12_copyOf
set_option maxRecDepth 20000 in
theorem ggL_law_X11_strength : GoodIn wsL_law wsX11_strength := goodIn_r _ [531, 24, 216, 217, 218, 23, 219, 53, 51, 484, 433, 2, 434, 532, 435, 436, 111, 112, 113, 114, 115, 116, 117, 118, 16, 533, 429, 430, 431, 270, 432, 356, 437, 438, 439, 534, 441, 442, 443, 1495, 1496, 1497, 1498, 1499, 1500, 1501, 1502, 1503, 1504, 1505, 1506, 1507, 1508, 1538, 1539, 1540, 1541, 1542, 1543, 1557, 1558, 1559, 1560, 1561, 1562, 1563, 1564, 1565, 1566, 1567, 1568, 1569, 1570, 1571, 1572, 1573, 1574, 1575, 1576, 1577, 1578, 1579, 1580, 1581, 1582, 1583, 1584, 1585, 1586, 1587, 1588, 1589, 1590, 1591, 1592, 1593, 1594, 1595, 1596, 1597, 1598, 1599, 1600, 1601, 1602, 1603, 1604, 1605, 1606, 1607, 1608, 1609, 1610, 1611, 1612, 1613, 1614, 1615, 1616, 1617, 1618, 1619] (by decide +kernel) (by decide +kernel)
set_option maxRecDepth 20000 in
theorem gL_law_X11_strength : GoodIn wsL_law (wsV RL 65 RX11 yX11_strength wsX11_strength) := goodIn_app (goodIn_of _ (by decide +kernel)) ggL_law_X11_strength
set_option maxRecDepth 20000 in
theorem ggL_law_X12_strength : GoodIn wsL_law wsX12_strength := goodIn_r _ [538, 224, 225, 226, 5, 227, 228, 135, 136, 137, 513, 514, 515, 539, 540, 541, 471, 472, 473, 474, 91, 138, 139, 140, 141, 94, 1509, 1510, 1511, 1512, 1513, 1514, 1515, 1516, 1517, 1518, 1519, 1520, 1521, 1522, 1523, 1524, 1525, 1526, 1527, 1528, 1529, 1530, 1531, 1532, 1533, 1534, 1535] (by decide +kernel) (by decide +kernel)
set_option maxRecDepth 20000 in
theorem gL_law_X12_strength : GoodIn wsL_law (wsV RL 68 RX12 yX12_strength wsX12_strength) := goodIn_app (goodIn_of _ (by decide +kernel)) ggL_law_X12_strength
set_option maxRecDepth 20000 in
theorem ggL_law_X11_drift : GoodIn wsL_law wsX11_drift := goodIn_r _ [545, 24, 546, 216, 217, 218, 23, 219, 53, 51, 484, 433, 2, 434, 115, 116, 117, 118, 16, 1495, 1496, 1497, 1498, 1499, 1500, 1501, 1502, 1503, 1504, 1505, 1506, 1507, 1508, 1557, 1558, 1559, 1560, 1561, 1562, 1563, 1564, 1565, 1566, 1567, 1568, 1569, 1570, 1571, 1572, 1573, 1574, 1575, 1576, 1577, 1578, 1579, 1580, 1581, 1582, 1583, 1584, 1585, 1586, 1587, 1588, 1589, 1590, 1591, 1592, 1593, 1594, 1595, 1596, 1597, 1598, 1599, 1600, 1601, 1602, 1603, 1604, 1605, 1606, 1607, 1608, 1609, 1610, 1611, 1612, 1613, 1614, 1615, 1616, 1617, 1618, 1619, 1538, 1539, 1540, 1541, 1542, 1543] (by decide +kernel) (by decide +kernel)
set_option maxRecDepth 20000 in
theorem gL_law_X11_drift : GoodIn wsL_law (wsV RL 69 RX11 yX11_drift wsX11_drift) := goodIn_app (goodIn_of _ (by decide +kernel)) ggL_law_X11_drift
set_option maxRecDepth 20000 in
theorem ggL_law_X12_drift : GoodIn wsL_law wsX12_drift := goodIn_r _ [550, 90, 224, 225, 226, 5, 227, 228, 135, 136, 137, 513, 514, 515, 138, 139, 140, 141, 94, 1509, 1510, 1511, 1512, 1513, 1514, 1515, 1516, 1517, 1518, 1519, 1520, 1521, 1522, 1523, 1524, 1525, 1526, 1527, 1528, 1529, 1530, 1531, 1532, 1533, 1534, 1535] (by decide +kernel) (by decide +kernel)
set_option maxRecDepth 20000 in
theorem gL_law_X12_drift : GoodIn wsL_law (wsV RL 72 RX12 yX12_drift wsX12_drift) := goodIn_app (goodIn_of _ (by decide +kernel)) ggL_law_X12_drift
set_option maxRecDepth 20000 in
theorem ggL_law_X11_loss : GoodIn wsL_law wsX11_loss := goodIn_r _ [554, 24, 216, 217, 218, 23, 219, 53, 51, 111, 112, 113, 2, 114, 115, 116, 117, 118, 16, 252, 253, 254, 255, 256, 257, 258, 259, 260, 261, 262, 263, 264, 265, 266, 267, 268, 269, 270, 271, 272, 273, 274, 275, 276, 277, 278, 279, 280, 281, 282, 283, 284, 285, 286, 287, 288, 289, 290, 291, 292, 293, 294, 295, 296, 297, 298, 299, 300, 301, 302, 303, 1495, 1496, 1497, 1498, 1499, 1500, 1501, 1502, 1503, 1504, 1505, 1506, 1507, 1508, 1538, 1539, 1540, 1541, 1542, 1543, 1557, 1558, 1559, 1560, 1561, 1562, 1563, 1564, 1565, 1566, 1567, 1568, 1569, 1570, 1571, 1572, 1573, 1574, 1575, 1576, 1577, 1578, 1579, 1580, 1581, 1582, 1583, 1584, 1585, 1586, 1587, 1588, 1589, 1590, 1591, 1592, 1593, 1594, 1595, 1596, 1597, 1598, 1599, 1600, 1601, 1602, 1603, 1604, 1605, 1606, 1607, 1608, 1609, 1610, 1611, 1612, 1613, 1614, 1615, 1616, 1617, 1618, 1619] (by decide +kernel) (by decide +kernel)
set_option maxRecDepth 20000 in
theorem gL_law_X11_loss : GoodIn wsL_law (wsV RL 73 RX11 yX11_loss wsX11_loss) := goodIn_app (goodIn_of _ (by decide +kernel)) ggL_law_X11_loss
set_option maxRecDepth 20000 in
theorem ggL_law_X12_loss : GoodIn wsL_law wsX12_loss := goodIn_r _ [558, 224, 225, 226, 5, 227, 228, 135, 136, 137, 138, 139, 140, 141, 94, 314, 315, 316, 317, 85, 87, 86, 1509, 1510, 1511, 1512, 1513, 1514, 1515, 1516, 1517, 1518, 1519, 1520, 1521, 1522, 1523, 1524, 1525, 1526, 1527, 1528, 1529, 1530, 1531, 1532, 1533, 1534, 1535] (by decide +kernel) (by decide +kernel)
set_option maxRecDepth 20000 in
theorem gL_law_X12_loss : GoodIn wsL_law (wsV RL 76 RX12 yX12_loss wsX12_loss) := goodIn_app (goodIn_of _ (by decide +kernel)) ggL_law_X12_loss
