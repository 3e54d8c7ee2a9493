set_option maxRecDepth 20000 in
theorem gL_law_X11_mend : GoodIn wsL_law (wsV RL 119 RX11 yX11_mend wsX11_mend) := goodIn_app (goodIn_of _ (by decide +kernel)) ggL_law_X11_mend
set_option maxRecDepth 20000 in
theorem gk_X12_mend_0 : GoodIn wsL_law [.code yX12_mend cX12_mend 5 (some .int)] := goodIn_r _ [1053] (by decide +kernel) (by decide +kernel)
set_option maxRecDepth 20000 in
theorem gk_wsX12_mend_r1 : GoodIn wsL_law wsX12_mend_r1 := goodIn_r _ [224, 225, 226, 5, 227, 228, 135, 136, 137, 138, 139, 140, 141, 94, 1054, 1055, 1056, 1057, 88, 851, 852, 853, 854, 520] (by decide +kernel) (by decide +kernel)
set_option maxRecDepth 20000 in
theorem gk_wsX12_mend_r2 : GoodIn wsL_law wsX12_mend_r2 := goodIn_r _ [521, 522, 523, 100, 471, 472, 473, 474, 91, 1006, 988, 989, 990, 991, 992, 993] (by decide +kernel) (by decide +kernel)
set_option maxRecDepth 20000 in
theorem ggL_law_X12_mend : GoodIn wsL_law wsX12_mend := goodIn_app gk_X12_mend_0 (goodIn_app (goodIn_app gk_wsX12_mend_r1 gk_wsX12_mend_r2) gku_X12)
set_option maxRecDepth 20000 in
theorem gL_law_X12_mend : GoodIn wsL_law (wsV RL 122 RX12 yX12_mend wsX12_mend) := goodIn_app (goodIn_of _ (by decide +kernel)) ggL_law_X12_mend
set_option maxRecDepth 20000 in
theorem gk_X11_paired_0 : GoodIn wsL_law [.code yX11_paired cX11_paired 9 (some .int)] := goodIn_r _ [1061] (by decide +kernel) (by decide +kernel)
set_option maxRecDepth 20000 in
theorem gk_wsX11_paired_r1 : GoodIn wsL_law wsX11_paired_r1 := goodIn_r _ [24, 242, 34, 216, 217, 218, 23, 219, 53, 51, 115, 116, 117, 2, 118, 16, 1062, 1063, 1064, 1065, 32, 412, 33, 36] (by decide +kernel) (by decide +kernel)
set_option maxRecDepth 20000 in
theorem gk_wsX11_paired_r2 : GoodIn wsL_law wsX11_paired_r2 := goodIn_r _ [485, 486, 487, 488, 270, 489, 428, 429, 430, 431, 432, 356, 433, 434, 435, 436, 437, 438, 439, 440, 441, 442, 443, 490] (by decide +kernel) (by decide +kernel)
set_option maxRecDepth 20000 in
theorem gk_wsX11_paired_r3 : GoodIn wsL_law wsX11_paired_r3 := goodIn_r _ [491, 492, 493, 494, 495, 496, 1066, 391, 129, 392, 497, 498, 499, 500, 501, 360, 502, 503, 504, 505, 506, 507, 508, 1067] (by decide +kernel) (by decide +kernel)
set_option maxRecDepth 20000 in
theorem gk_wsX11_paired_r4 : GoodIn wsL_law wsX11_paired_r4 := goodIn_r _ [1068, 1069, 1070, 966, 710, 125, 711, 1071, 1072, 1073, 1074, 987, 988, 989, 990, 991, 992, 993, 1075, 1076, 1077, 1078, 484] (by decide +kernel) (by decide +kernel)
set_option maxRecDepth 20000 in
theorem ggL_law_X11_paired : GoodIn wsL_law wsX11_paired := goodIn_app gk_X11_paired_0 (goodIn_app (goodIn_app (goodIn_app (goodIn_app (goodIn_app (goodIn_app (goodIn_app (goodIn_app (goodIn_app (goodIn_app gk_wsX11_paired_r1 (goodIn_app gk_wsX11_paired_r2 (goodIn_app gk_wsX11_paired_r3 gk_wsX11_paired_r4))) gku_X11) gku_X0) gku_X1) gku_X2) gku_X3) gku_X5) gku_X8) gku_X10) gku_X4)
set_option maxRecDepth 20000 in
theorem gL_law_X11_paired : GoodIn wsL_law (wsV RL 123 RX11 yX11_paired wsX11_paired) := goodIn_app (goodIn_of _ (by decide +kernel)) ggL_law_X11_paired
set_option maxRecDepth 20000 in
theorem gk_X12_paired_0 : GoodIn wsL_law [.code yX12_paired cX12_paired 4 (some .int)] := goodIn_r _ [1082] (by decide +kernel) (by decide +kernel)
set_option maxRecDepth 20000 in
theorem gk_wsX12_paired_r1 : GoodIn wsL_law wsX12_paired_r1 := goodIn_r _ [88, 1083, 99, 224, 225, 226, 5, 227, 228, 135, 136, 137, 901, 902, 903, 904, 138, 139, 140, 141, 94, 1084, 1085, 1086] (by decide +kernel) (by decide +kernel)
set_option maxRecDepth 20000 in
theorem gk_wsX12_paired_r2 : GoodIn wsL_law wsX12_paired_r2 := goodIn_r _ [1087, 98, 1088, 1089, 1090, 516, 517, 518, 519, 520, 521, 522, 523, 100, 471, 472, 473, 474, 91, 1006, 988, 989, 990, 991] (by decide +kernel) (by decide +kernel)
set_option maxRecDepth 20000 in
theorem gk_wsX12_paired_r3 : GoodIn wsL_law wsX12_paired_r3 := goodIn_r _ [992, 993] (by decide +kernel) (by decide +kernel)
set_option maxRecDepth 20000 in
theorem ggL_law_X12_paired : GoodIn wsL_law wsX12_paired := goodIn_app gk_X12_paired_0 (goodIn_app (goodIn_app gk_wsX12_paired_r1 (goodIn_app gk_wsX12_paired_r2 gk_wsX12_paired_r3)) gku_X12)
set_option maxRecDepth 20000 in
theorem gL_law_X12_paired : GoodIn wsL_law (wsV RL 126 RX12 yX12_paired wsX12_paired) := goodIn_app (goodIn_of _ (by decide +kernel)) ggL_law_X12_paired
set_option maxRecDepth 20000 in
theorem gk_X11_bear_0 : GoodIn wsL_law [.code yX11_bear cX11_bear 4 (some .int)] := goodIn_r _ [1094] (by decide +kernel) (by decide +kernel)
set_option maxRecDepth 20000 in
theorem gk_wsX11_bear_r1 : GoodIn wsL_law wsX11_bear_r1 := goodIn_r _ [24, 412, 216, 217, 218, 23, 219, 53, 51, 111, 112, 113, 2, 114, 115, 116, 117, 118, 16, 532, 435, 436, 1095, 1096] (by decide +kernel) (by decide +kernel)
set_option maxRecDepth 20000 in
theorem gk_wsX11_bear_r2 : GoodIn wsL_law wsX11_bear_r2 := goodIn_r _ [1097, 1098, 270, 1099, 360, 428, 429, 430, 431, 432, 356, 433, 434, 437, 438, 439, 440, 441, 442, 443, 1100, 1101, 1102, 1103] (by decide +kernel) (by decide +kernel)
set_option maxRecDepth 20000 in
theorem gk_wsX11_bear_r3 : GoodIn wsL_law wsX11_bear_r3 := goodIn_r _ [1104, 1105, 1106] (by decide +kernel) (by decide +kernel)
set_option maxRecDepth 20000 in
theorem ggL_law_X11_bear : GoodIn wsL_law wsX11_bear := goodIn_app gk_X11_bear_0 (goodIn_app (goodIn_app (goodIn_app (goodIn_app (goodIn_app (goodIn_app (goodIn_app (goodIn_app (goodIn_app (goodIn_app gk_wsX11_bear_r1 (goodIn_app gk_wsX11_bear_r2 gk_wsX11_bear_r3)) gku_X11) gku_X4) gku_X0) gku_X1) gku_X2) gku_X3) gku_X5) gku_X8) gku_X10)
set_option maxRecDepth 20000 in
theorem gL_law_X11_bear : GoodIn wsL_law (wsV RL 127 RX11 yX11_bear wsX11_bear) := goodIn_app (goodIn_of _ (by decide +kernel)) ggL_law_X11_bear
set_option maxRecDepth 20000 in
theorem ggL_law_X12_bear : GoodIn wsL_law wsX12_bear := goodIn_r _ [1110, 224, 225, 226, 5, 227, 228, 135, 136, 137, 138, 139, 140, 141, 94, 539, 540, 541, 1111, 1112, 1113, 1114, 88, 520, 521, 522, 523, 100, 471, 472, 473, 474, 91, 1509, 1510, 1511, 1512, 1513, 1514, 1515, 1516, 1517, 1518, 1519, 1520, 1521, 1522, 1523, 1524, 1525, 1526, 1527, 1528, 1529, 1530, 1531, 1532, 1533, 1534, 1535] (by decide +kernel) (by decide +kernel)
set_option maxRecDepth 20000 in
theorem gL_law_X12_bear : GoodIn wsL_law (wsV RL 130 RX12 yX12_bear wsX12_bear) := goodIn_app (goodIn_of _ (by decide +kernel)) ggL_law_X12_bear
set_option maxRecDepth 20000 in
theorem gk_X11_heir_0 : GoodIn wsL_law [.code yX11_heir cX11_heir 2 (some .int)] := goodIn_r _ [1118] (by decide +kernel) (by decide +kernel)
set_option maxRecDepth 20000 in
theorem gk_wsX11_heir_r1 : GoodIn wsL_law wsX11_heir_r1 := goodIn_r _ [24, 1119, 111, 112, 113, 2, 114, 115, 116, 117, 118, 16, 532, 435, 436, 1120, 1121, 1122, 23, 1123, 53, 54, 568, 217] (by decide +kernel) (by decide +kernel)
set_option maxRecDepth 20000 in
theorem gk_wsX11_heir_r2 : GoodIn wsL_law wsX11_heir_r2 := goodIn_r _ [218, 219, 51, 1124, 1096, 1097, 1098, 270, 1099, 360, 428, 429, 430, 431, 432, 356, 433, 434, 437, 438, 439, 440, 441, 442] (by decide +kernel) (by decide +kernel)
set_option maxRecDepth 20000 in
theorem gk_wsX11_heir_r3 : GoodIn wsL_law wsX11_heir_r3 := goodIn_r _ [443, 1100, 1101, 1102, 1125, 1104, 1105, 1106] (by decide +kernel) (by decide +kernel)
set_option maxRecDepth 20000 in
theorem ggL_law_X11_heir : GoodIn wsL_law wsX11_heir := goodIn_app gk_X11_heir_0 (goodIn_app (goodIn_app (goodIn_app (goodIn_app (goodIn_app (goodIn_app (goodIn_app (goodIn_app (goodIn_app (goodIn_app gk_wsX11_heir_r1 (goodIn_app gk_wsX11_heir_r2 gk_wsX11_heir_r3)) gku_X11) gku_X4) gku_X0) gku_X1) gku_X2) gku_X3) gku_X5) gku_X8) gku_X10)
set_option maxRecDepth 20000 in
theorem gL_law_X11_heir : GoodIn wsL_law (wsV RL 131 RX11 yX11_heir wsX11_heir) := goodIn_app (goodIn_of _ (by decide +kernel)) ggL_law_X11_heir
set_option maxRecDepth 20000 in
theorem ggL_law_X12_heir : GoodIn wsL_law wsX12_heir := goodIn_r _ [1129, 228, 138, 139, 140, 5, 141, 94, 539, 540, 541, 135, 136, 137, 1111, 1112, 1113, 1114, 88, 520, 521, 522, 523, 100, 471, 472, 473, 474, 91, 1509, 1510, 1511, 1512, 1513, 1514, 1515, 1516, 1517, 1518, 1519, 1520, 1521, 1522, 1523, 1524, 1525, 1526, 1527, 1528, 1529, 1530, 1531, 1532, 1533, 1534, 1535] (by decide +kernel) (by decide +kernel)
set_option maxRecDepth 20000 in
theorem gL_law_X12_heir : GoodIn wsL_law (wsV RL 134 RX12 yX12_heir wsX12_heir) := goodIn_app (goodIn_of _ (by decide +kernel)) ggL_law_X12_heir
set_option maxRecDepth 20000 in
theorem gk_X11_straight_0 : GoodIn wsL_law [.code yX11_straight cX11_straight 4 (some .int)] := goodIn_r _ [1133] (by decide +kernel) (by decide +kernel)
set_option maxRecDepth 20000 in
theorem gk_wsX11_straight_r1 : GoodIn wsL_law wsX11_straight_r1 := goodIn_r _ [24, 216, 217, 218, 23, 219, 53, 51, 115, 116, 117, 2, 118, 16, 1134, 1135, 1136, 1137, 270, 1138, 358, 1139, 1140, 1141] (by decide +kernel) (by decide +kernel)
set_option maxRecDepth 20000 in
theorem gk_wsX11_straight_r2 : GoodIn wsL_law wsX11_straight_r2 := goodIn_r _ [1142, 1143, 1144, 1145, 1146, 1147, 1148, 1149, 1150, 1151, 1152, 125, 1153, 1154, 1155, 1156, 1157, 1158, 1159, 1160, 1161, 1162, 1163, 1164] (by decide +kernel) (by decide +kernel)
set_option maxRecDepth 20000 in
theorem gk_wsX11_straight_r3 : GoodIn wsL_law wsX11_straight_r3 := goodIn_r _ [1165, 1166, 1167, 1168, 1169, 1170, 1171, 1172] (by decide +kernel) (by decide +kernel)
set_option maxRecDepth 20000 in
theorem ggL_law_X11_straight : GoodIn wsL_law wsX11_straight := goodIn_app gk_X11_straight_0 (goodIn_app (goodIn_app (goodIn_app (goodIn_app (goodIn_app (goodIn_app (goodIn_app (goodIn_app (goodIn_app (goodIn_app gk_wsX11_straight_r1 (goodIn_app gk_wsX11_straight_r2 gk_wsX11_straight_r3)) gku_X11) gku_X4) gku_X0) gku_X1) gku_X2) gku_X3) gku_X5) gku_X8) gku_X10)
set_option maxRecDepth 20000 in
theorem gL_law_X11_straight : GoodIn wsL_law (wsV RL 135 RX11 yX11_straight wsX11_straight) := goodIn_app (goodIn_of _ (by decide +kernel)) ggL_law_X11_straight
set_option maxRecDepth 20000 in
theorem ggL_law_X12_straight : GoodIn wsL_law wsX12_straight := goodIn_r _ [1176, 90, 1177, 1152, 125, 1153, 224, 225, 226, 5, 227, 228, 135, 136, 137, 901, 902, 903, 904, 138, 139, 140, 141, 94, 1509, 1510, 1511, 1512, 1513, 1514, 1515, 1516, 1517, 1518, 1519, 1520, 1521, 1522, 1523, 1524, 1525, 1526, 1527, 1528, 1529, 1530, 1531, 1532, 1533, 1534, 1535] (by decide +kernel) (by decide +kernel)
set_option maxRecDepth 20000 in
theorem gL_law_X12_straight : GoodIn wsL_law (wsV RL 138 RX12 yX12_straight wsX12_straight) := goodIn_app (goodIn_of _ (by decide +kernel)) ggL_law_X12_straight
set_option maxRecDepth 20000 in
theorem gk_X11_judge_0 : GoodIn wsL_law [.code yX11_judge cX11_judge 5 (some .int)] := goodIn_r _ [1181] (by decide +kernel) (by decide +kernel)
set_option maxRecDepth 20000 in
theorem gk_wsX11_judge_r1 : GoodIn wsL_law wsX11_judge_r1 := goodIn_r _ [24, 107, 108, 109, 2, 110, 14, 1182, 1183, 1184, 926, 146, 147, 148, 40, 149, 76, 150, 151, 152, 153, 154, 155, 156] (by decide +kernel) (by decide +kernel)
set_option maxRecDepth 20000 in
theorem gk_wsX11_judge_r2 : GoodIn wsL_law wsX11_judge_r2 := goodIn_r _ [115, 116, 117, 118, 16, 1185, 1186, 1187, 23, 1188, 52, 1189, 568, 217, 218, 219, 53, 51, 938, 589, 590, 591, 592, 205] (by decide +kernel) (by decide +kernel)
set_option maxRecDepth 20000 in
theorem gk_wsX11_judge_r3 : GoodIn wsL_law wsX11_judge_r3 := goodIn_r _ [206, 207, 75, 166, 158, 159, 160, 77, 161, 1190, 1191, 1192, 1193, 435, 436, 433, 434] (by decide +kernel) (by decide +kernel)
set_option maxRecDepth 20000 in
theorem ggL_law_X11_judge : GoodIn wsL_law wsX11_judge := goodIn_app gk_X11_judge_0 (goodIn_app (goodIn_app (goodIn_app (goodIn_app (goodIn_app (goodIn_app (goodIn_app (goodIn_app (goodIn_app (goodIn_app (goodIn_app gk_wsX11_judge_r1 (goodIn_app gk_wsX11_judge_r2 gk_wsX11_judge_r3)) gku_X11) gku_X7) gku_X4) gku_X0) gku_X1) gku_X2) gku_X3) gku_X5) gku_X8) gku_X10)
set_option maxRecDepth 20000 in
theorem gL_law_X11_judge : GoodIn wsL_law (wsV RL 139 RX11 yX11_judge wsX11_judge) := goodIn_app (goodIn_of _ (by decide +kernel)) ggL_law_X11_judge
set_option maxRecDepth 20000 in
theorem gk_X12_judge_0 : GoodIn wsL_law [.code yX12_judge cX12_judge 5 (some .int)] := goodIn_r _ [1197] (by decide +kernel) (by decide +kernel)
set_option maxRecDepth 20000 in
theorem gk_wsX12_judge_r1 : GoodIn wsL_law wsX12_judge_r1 := goodIn_r _ [96, 943, 944, 945, 5, 946, 83, 171, 172, 173, 174, 82, 135, 136, 137, 175, 176, 177, 178, 901, 902, 903, 904, 138] (by decide +kernel) (by decide +kernel)
set_option maxRecDepth 20000 in
theorem gk_wsX12_judge_r2 : GoodIn wsL_law wsX12_judge_r2 := goodIn_r _ [139, 140, 141, 94, 767, 768, 769, 770, 85, 86, 87, 88, 89, 90, 91, 228, 100, 101, 1198, 1199, 1200, 1201, 954, 955] (by decide +kernel) (by decide +kernel)
set_option maxRecDepth 20000 in
theorem gk_wsX12_judge_r3 : GoodIn wsL_law wsX12_judge_r3 := goodIn_r _ [956, 957, 84, 1202, 1203, 1204, 1205, 224, 225, 226, 227, 524, 525, 526, 527, 513, 514, 515, 805, 806, 807, 808, 97, 809] (by decide +kernel) (by decide +kernel)
set_option maxRecDepth 20000 in
theorem gk_wsX12_judge_r4 : GoodIn wsL_law wsX12_judge_r4 := goodIn_r _ [124, 125, 126, 810, 710, 711, 811, 812, 813, 814, 314, 315, 316, 317, 471, 472, 473, 474, 815, 816, 817, 818, 819, 820] (by decide +kernel) (by decide +kernel)
set_option maxRecDepth 20000 in
theorem gk_wsX12_judge_r5 : GoodIn wsL_law wsX12_judge_r5 := goodIn_r _ [821, 822] (by decide +kernel) (by decide +kernel)
set_option maxRecDepth 20000 in
theorem ggL_law_X12_judge : GoodIn wsL_law wsX12_judge := goodIn_app gk_X12_judge_0 (goodIn_app (goodIn_app gk_wsX12_judge_r1 (goodIn_app gk_wsX12_judge_r2 (goodIn_app gk_wsX12_judge_r3 (goodIn_app gk_wsX12_judge_r4 gk_wsX12_judge_r5)))) gku_X12)
set_option maxRecDepth 20000 in
theorem gL_law_X12_judge : GoodIn wsL_law (wsV RL 142 RX12 yX12_judge wsX12_judge) := goodIn_app (goodIn_of _ (by decide +kernel)) ggL_law_X12_judge
set_option maxRecDepth 20000 in
theorem gk_X11_behind_0 : GoodIn wsL_law [.code yX11_behind cX11_behind 6 (some .int)] := goodIn_r _ [1209] (by decide +kernel) (by decide +kernel)
set_option maxRecDepth 20000 in
theorem gk_wsX11_behind_r1 : GoodIn wsL_law wsX11_behind_r1 := goodIn_r _ [24, 25, 107, 108, 109, 2, 110, 14, 1182, 1183, 1184, 926, 146, 147, 148, 40, 149, 76, 150, 151, 152, 153, 154, 155] (by decide +kernel) (by decide +kernel)
set_option maxRecDepth 20000 in
theorem gk_wsX11_behind_r2 : GoodIn wsL_law wsX11_behind_r2 := goodIn_r _ [156, 111, 112, 113, 114, 115, 116, 117, 118, 16, 1185, 1186, 1187, 23, 1188, 52, 1189, 568, 217, 218, 219, 53, 51, 938] (by decide +kernel) (by decide +kernel)
set_option maxRecDepth 20000 in
theorem gk_wsX11_behind_r3 : GoodIn wsL_law wsX11_behind_r3 := goodIn_r _ [589, 590, 591, 592, 205, 206, 207, 75, 166, 158, 159, 160, 77, 161, 1190, 1191, 1192, 1193, 435, 436, 433, 434, 564, 565] (by decide +kernel) (by decide +kernel)
set_option maxRecDepth 20000 in
theorem gk_wsX11_behind_r4 : GoodIn wsL_law wsX11_behind_r4 := goodIn_r _ [566, 567, 54, 55, 335, 331, 332, 333, 334, 336, 337, 283, 56, 338, 339, 289, 340, 341, 299, 342, 343, 265, 344, 345] (by decide +kernel) (by decide +kernel)
set_option maxRecDepth 20000 in
theorem gk_wsX11_behind_r5 : GoodIn wsL_law wsX11_behind_r5 := goodIn_r _ [257, 346, 347, 275, 50, 348, 270, 349, 350, 351, 352, 353, 354, 355, 11, 12, 15, 356, 357, 358, 359, 272, 360, 361] (by decide +kernel) (by decide +kernel)
set_option maxRecDepth 20000 in
theorem gk_wsX11_behind_r6 : GoodIn wsL_law wsX11_behind_r6 := goodIn_r _ [362, 363, 364, 365, 366, 367, 368, 369, 370, 371, 372, 373, 374, 375, 376, 377, 378, 379, 380, 381, 382, 383, 384, 569] (by decide +kernel) (by decide +kernel)
set_option maxRecDepth 20000 in
theorem gk_wsX11_behind_r7 : GoodIn wsL_law wsX11_behind_r7 := goodIn_r _ [570, 571, 572, 573, 574, 185, 186, 187, 575, 576, 577, 578, 579, 580, 581, 1210, 1211, 1212, 1213, 1214, 750, 751, 752, 753] (by decide +kernel) (by decide +kernel)
set_option maxRecDepth 20000 in
theorem gk_wsX11_behind_r8 : GoodIn wsL_law wsX11_behind_r8 := goodIn_r _ [712, 124, 125, 126, 754, 755, 756, 1215, 758, 759, 760, 1216, 705, 706, 707, 708, 709, 710, 711, 713, 714, 715, 716, 717] (by decide +kernel) (by decide +kernel)
set_option maxRecDepth 20000 in
theorem gk_wsX11_behind_r9 : GoodIn wsL_law wsX11_behind_r9 := goodIn_r _ [718, 253, 254, 255, 256, 258, 259, 260, 261, 262, 263, 264, 266, 267, 268, 269, 271, 273, 274, 276, 277, 278, 279, 280] (by decide +kernel) (by decide +kernel)
set_option maxRecDepth 20000 in
theorem gk_wsX11_behind_r10 : GoodIn wsL_law wsX11_behind_r10 := goodIn_r _ [281, 282, 284, 285, 286, 287, 288, 290, 291, 292, 293, 719, 295, 296, 297, 298, 300, 301, 302, 303, 720, 721, 722, 723] (by decide +kernel) (by decide +kernel)
set_option maxRecDepth 20000 in
theorem gk_wsX11_behind_r11 : GoodIn wsL_law wsX11_behind_r11 := goodIn_r _ [724, 725, 726, 727, 728, 729, 730, 731, 732, 733, 734, 735, 736, 737, 738, 739, 740, 741, 742, 743, 744, 1217, 746, 747] (by decide +kernel) (by decide +kernel)
set_option maxRecDepth 20000 in
theorem gk_wsX11_behind_r12 : GoodIn wsL_law wsX11_behind_r12 := goodIn_r _ [748, 1218, 1219, 1220, 1221, 1222, 1223, 1224, 1225, 1226, 1227, 1228, 1229, 1230, 1231, 1232, 1233, 1234, 1235, 1236, 1237, 1238, 1239, 1240] (by decide +kernel) (by decide +kernel)
set_option maxRecDepth 20000 in
theorem gk_wsX11_behind_r13 : GoodIn wsL_law wsX11_behind_r13 := goodIn_r _ [1241, 1242, 452, 453, 454, 455, 456, 457, 458, 1243, 460, 461, 462] (by decide +kernel) (by decide +kernel)
set_option maxRecDepth 20000 in
theorem ggL_law_X11_behind : GoodIn wsL_law wsX11_behind := goodIn_app gk_X11_behind_0 (goodIn_app (goodIn_app (goodIn_app (goodIn_app (goodIn_app (goodIn_app (goodIn_app (goodIn_app (goodIn_app (goodIn_app (goodIn_app gk_wsX11_behind_r1 (goodIn_app gk_wsX11_behind_r2 (goodIn_app gk_wsX11_behind_r3 (goodIn_app gk_wsX11_behind_r4 (goodIn_app gk_wsX11_behind_r5 (goodIn_app gk_wsX11_behind_r6 (goodIn_app gk_wsX11_behind_r7 (goodIn_app gk_wsX11_behind_r8 (goodIn_app gk_wsX11_behind_r9 (goodIn_app gk_wsX11_behind_r10 (goodIn_app gk_wsX11_behind_r11 (goodIn_app gk_wsX11_behind_r12 gk_wsX11_behind_r13)))))))))))) gku_X11) gku_X7) gku_X4) gku_X0) gku_X1) gku_X2) gku_X3) gku_X5) gku_X8) gku_X10)
