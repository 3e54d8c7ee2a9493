set_option maxRecDepth 20000 in
theorem gL_law_X11_behind : GoodIn wsL_law (wsV RL 143 RX11 yX11_behind wsX11_behind) := goodIn_app (goodIn_of _ (by decide +kernel)) ggL_law_X11_behind
set_option maxRecDepth 20000 in
theorem gk_X12_behind_0 : GoodIn wsL_law [.code yX12_behind cX12_behind 7 (some .int)] := goodIn_r _ [1247] (by decide +kernel) (by decide +kernel)
set_option maxRecDepth 20000 in
theorem gk_wsX12_behind_r1 : GoodIn wsL_law wsX12_behind_r1 := goodIn_r _ [96, 943, 944, 945, 5, 946, 83, 171, 172, 173, 174, 82, 135, 136, 137, 175, 176, 177, 178, 138, 139, 140, 141, 94] (by decide +kernel) (by decide +kernel)
set_option maxRecDepth 20000 in
theorem gk_wsX12_behind_r2 : GoodIn wsL_law wsX12_behind_r2 := goodIn_r _ [767, 768, 769, 770, 85, 86, 87, 88, 89, 90, 91, 228, 100, 101, 1198, 1199, 1200, 1201, 954, 955, 956, 957, 84, 1202] (by decide +kernel) (by decide +kernel)
set_option maxRecDepth 20000 in
theorem gk_wsX12_behind_r3 : GoodIn wsL_law wsX12_behind_r3 := goodIn_r _ [1203, 1204, 1205, 224, 225, 226, 227, 524, 525, 526, 527, 513, 514, 515, 805, 806, 807, 808, 97, 809, 124, 125, 126, 810] (by decide +kernel) (by decide +kernel)
set_option maxRecDepth 20000 in
theorem gk_wsX12_behind_r4 : GoodIn wsL_law wsX12_behind_r4 := goodIn_r _ [710, 711, 811, 812, 813, 814, 314, 315, 316, 317, 471, 472, 473, 474, 815, 816, 817, 818, 1248, 1249, 1250, 1251, 1252, 1253] (by decide +kernel) (by decide +kernel)
set_option maxRecDepth 20000 in
theorem gk_wsX12_behind_r5 : GoodIn wsL_law wsX12_behind_r5 := goodIn_r _ [1254, 1255, 1256, 1257, 1258, 1259, 475, 476, 477, 478, 819, 820, 821, 822] (by decide +kernel) (by decide +kernel)
set_option maxRecDepth 20000 in
theorem ggL_law_X12_behind : GoodIn wsL_law wsX12_behind := goodIn_app gk_X12_behind_0 (goodIn_app (goodIn_app gk_wsX12_behind_r1 (goodIn_app gk_wsX12_behind_r2 (goodIn_app gk_wsX12_behind_r3 (goodIn_app gk_wsX12_behind_r4 gk_wsX12_behind_r5)))) gku_X12)
set_option maxRecDepth 20000 in
theorem gL_law_X12_behind : GoodIn wsL_law (wsV RL 146 RX12 yX12_behind wsX12_behind) := goodIn_app (goodIn_of _ (by decide +kernel)) ggL_law_X12_behind
set_option maxRecDepth 20000 in
theorem gk_X11_done_0 : GoodIn wsL_law [.code yX11_done cX11_done 5 (some .int)] := goodIn_r _ [1263] (by decide +kernel) (by decide +kernel)
set_option maxRecDepth 20000 in
theorem gk_wsX11_done_r1 : GoodIn wsL_law wsX11_done_r1 := goodIn_r _ [24, 107, 108, 109, 2, 110, 14, 1182, 1183, 1184, 926, 146, 147, 148, 40, 149, 76, 150, 151, 152, 153, 154, 155, 156] (by decide +kernel) (by decide +kernel)
set_option maxRecDepth 20000 in
theorem gk_wsX11_done_r2 : GoodIn wsL_law wsX11_done_r2 := goodIn_r _ [111, 112, 113, 114, 115, 116, 117, 118, 16, 1185, 1186, 1187, 23, 1188, 52, 1189, 568, 217, 218, 219, 53, 51, 938, 589] (by decide +kernel) (by decide +kernel)
set_option maxRecDepth 20000 in
theorem gk_wsX11_done_r3 : GoodIn wsL_law wsX11_done_r3 := goodIn_r _ [590, 591, 592, 205, 206, 207, 75, 166, 158, 159, 160, 77, 161, 1190, 1191, 1192, 1193, 435, 436, 433, 434, 1210, 1211, 1212] (by decide +kernel) (by decide +kernel)
set_option maxRecDepth 20000 in
theorem gk_wsX11_done_r4 : GoodIn wsL_law wsX11_done_r4 := goodIn_r _ [1213, 1214, 750, 751, 752, 270, 753, 356, 357, 712, 124, 125, 126, 754, 755, 756, 1215, 758, 759, 760, 1216, 705, 706, 707] (by decide +kernel) (by decide +kernel)
set_option maxRecDepth 20000 in
theorem gk_wsX11_done_r5 : GoodIn wsL_law wsX11_done_r5 := goodIn_r _ [708, 360, 709, 710, 711, 358, 713, 714, 715, 716, 717, 718, 253, 254, 255, 256, 257, 258, 259, 260, 261, 262, 263, 264] (by decide +kernel) (by decide +kernel)
set_option maxRecDepth 20000 in
theorem gk_wsX11_done_r6 : GoodIn wsL_law wsX11_done_r6 := goodIn_r _ [265, 266, 267, 268, 269, 271, 272, 273, 274, 275, 276, 277, 278, 279, 280, 281, 282, 283, 284, 285, 286, 287, 288, 289] (by decide +kernel) (by decide +kernel)
set_option maxRecDepth 20000 in
theorem gk_wsX11_done_r7 : GoodIn wsL_law wsX11_done_r7 := goodIn_r _ [290, 291, 292, 293, 719, 295, 296, 297, 298, 299, 300, 301, 302, 303, 720, 721, 722, 723, 724, 725, 726, 727, 728, 729] (by decide +kernel) (by decide +kernel)
set_option maxRecDepth 20000 in
theorem gk_wsX11_done_r8 : GoodIn wsL_law wsX11_done_r8 := goodIn_r _ [730, 731, 732, 733, 734, 735, 736, 737, 738, 739, 740, 741, 742, 743, 744, 1217, 746, 747, 748, 1234, 1235, 1236, 1237] (by decide +kernel) (by decide +kernel)
set_option maxRecDepth 20000 in
theorem ggL_law_X11_done : GoodIn wsL_law wsX11_done := goodIn_app gk_X11_done_0 (goodIn_app (goodIn_app (goodIn_app (goodIn_app (goodIn_app (goodIn_app (goodIn_app (goodIn_app (goodIn_app (goodIn_app (goodIn_app gk_wsX11_done_r1 (goodIn_app gk_wsX11_done_r2 (goodIn_app gk_wsX11_done_r3 (goodIn_app gk_wsX11_done_r4 (goodIn_app gk_wsX11_done_r5 (goodIn_app gk_wsX11_done_r6 (goodIn_app gk_wsX11_done_r7 gk_wsX11_done_r8))))))) gku_X11) gku_X7) gku_X4) gku_X0) gku_X1) gku_X2) gku_X3) gku_X5) gku_X8) gku_X10)
set_option maxRecDepth 20000 in
theorem gL_law_X11_done : GoodIn wsL_law (wsV RL 147 RX11 yX11_done wsX11_done) := goodIn_app (goodIn_of _ (by decide +kernel)) ggL_law_X11_done
set_option maxRecDepth 20000 in
theorem gk_X12_done_0 : GoodIn wsL_law [.code yX12_done cX12_done 4 (some .int)] := goodIn_r _ [1267] (by decide +kernel) (by decide +kernel)
set_option maxRecDepth 20000 in
theorem gk_wsX12_done_r1 : GoodIn wsL_law wsX12_done_r1 := goodIn_r _ [96, 943, 944, 945, 5, 946, 83, 171, 172, 173, 174, 82, 135, 136, 137, 175, 176, 177, 178, 138, 139, 140, 141, 94] (by decide +kernel) (by decide +kernel)
set_option maxRecDepth 20000 in
theorem gk_wsX12_done_r2 : GoodIn wsL_law wsX12_done_r2 := goodIn_r _ [767, 768, 769, 770, 85, 86, 87, 88, 89, 90, 91, 228, 100, 101, 1198, 1199, 1200, 1201, 954, 955, 956, 957, 84, 1202] (by decide +kernel) (by decide +kernel)
set_option maxRecDepth 20000 in
theorem gk_wsX12_done_r3 : GoodIn wsL_law wsX12_done_r3 := goodIn_r _ [1203, 1204, 1205, 224, 225, 226, 227, 524, 525, 526, 527, 513, 514, 515, 805, 806, 807, 808, 97, 809, 124, 125, 126, 810] (by decide +kernel) (by decide +kernel)
set_option maxRecDepth 20000 in
theorem gk_wsX12_done_r4 : GoodIn wsL_law wsX12_done_r4 := goodIn_r _ [710, 711, 811, 812, 813, 814, 314, 315, 316, 317, 471, 472, 473, 474, 815, 816, 817, 818, 1252, 1253, 1254, 1255, 819, 820] (by decide +kernel) (by decide +kernel)
set_option maxRecDepth 20000 in
theorem gk_wsX12_done_r5 : GoodIn wsL_law wsX12_done_r5 := goodIn_r _ [821, 822] (by decide +kernel) (by decide +kernel)
set_option maxRecDepth 20000 in
theorem ggL_law_X12_done : GoodIn wsL_law wsX12_done := goodIn_app gk_X12_done_0 (goodIn_app (goodIn_app gk_wsX12_done_r1 (goodIn_app gk_wsX12_done_r2 (goodIn_app gk_wsX12_done_r3 (goodIn_app gk_wsX12_done_r4 gk_wsX12_done_r5)))) gku_X12)
set_option maxRecDepth 20000 in
theorem gL_law_X12_done : GoodIn wsL_law (wsV RL 150 RX12 yX12_done wsX12_done) := goodIn_app (goodIn_of _ (by decide +kernel)) ggL_law_X12_done
set_option maxRecDepth 20000 in
theorem gk_X11_press_0 : GoodIn wsL_law [.code yX11_press cX11_press 5 (some .int)] := goodIn_r _ [1271] (by decide +kernel) (by decide +kernel)
set_option maxRecDepth 20000 in
theorem gk_wsX11_press_r1 : GoodIn wsL_law wsX11_press_r1 := goodIn_r _ [24, 216, 217, 218, 23, 219, 53, 51, 111, 112, 113, 2, 114, 115, 116, 117, 118, 16, 532, 435, 436, 1011, 1012, 1013] (by decide +kernel) (by decide +kernel)
set_option maxRecDepth 20000 in
theorem gk_wsX11_press_r2 : GoodIn wsL_law wsX11_press_r2 := goodIn_r _ [1014, 270, 1015, 360, 1016, 1017, 1018, 1019, 1020, 1021, 1022, 1272, 705, 706, 707, 708, 709, 710, 125, 711, 356, 712, 124, 126] (by decide +kernel) (by decide +kernel)
set_option maxRecDepth 20000 in
theorem gk_wsX11_press_r3 : GoodIn wsL_law wsX11_press_r3 := goodIn_r _ [358, 713, 714, 715, 716, 717, 718, 253, 254, 255, 256, 257, 258, 259, 260, 261, 262, 263, 264, 265, 266, 267, 268, 269] (by decide +kernel) (by decide +kernel)
set_option maxRecDepth 20000 in
theorem gk_wsX11_press_r4 : GoodIn wsL_law wsX11_press_r4 := goodIn_r _ [271, 272, 273, 274, 275, 276, 277, 278, 279, 280, 281, 282, 283, 284, 285, 286, 287, 288, 289, 290, 291, 292, 293, 719] (by decide +kernel) (by decide +kernel)
set_option maxRecDepth 20000 in
theorem gk_wsX11_press_r5 : GoodIn wsL_law wsX11_press_r5 := goodIn_r _ [295, 296, 297, 298, 299, 300, 301, 302, 303, 720, 721, 722, 723, 724, 725, 726, 727, 728, 729, 730, 731, 732, 733, 734] (by decide +kernel) (by decide +kernel)
set_option maxRecDepth 20000 in
theorem gk_wsX11_press_r6 : GoodIn wsL_law wsX11_press_r6 := goodIn_r _ [735, 736, 737, 738, 739, 740, 741, 742, 743, 744, 1273, 746, 747, 748] (by decide +kernel) (by decide +kernel)
set_option maxRecDepth 20000 in
theorem ggL_law_X11_press : GoodIn wsL_law wsX11_press := goodIn_app gk_X11_press_0 (goodIn_app (goodIn_app (goodIn_app (goodIn_app (goodIn_app (goodIn_app (goodIn_app (goodIn_app (goodIn_app (goodIn_app gk_wsX11_press_r1 (goodIn_app gk_wsX11_press_r2 (goodIn_app gk_wsX11_press_r3 (goodIn_app gk_wsX11_press_r4 (goodIn_app gk_wsX11_press_r5 gk_wsX11_press_r6))))) gku_X11) gku_X4) gku_X0) gku_X1) gku_X2) gku_X3) gku_X5) gku_X8) gku_X10)
set_option maxRecDepth 20000 in
theorem gL_law_X11_press : GoodIn wsL_law (wsV RL 151 RX11 yX11_press wsX11_press) := goodIn_app (goodIn_of _ (by decide +kernel)) ggL_law_X11_press
set_option maxRecDepth 20000 in
theorem gk_X12_press_0 : GoodIn wsL_law [.code yX12_press cX12_press 4 (some .int)] := goodIn_r _ [1277] (by decide +kernel) (by decide +kernel)
set_option maxRecDepth 20000 in
theorem gk_wsX12_press_r1 : GoodIn wsL_law wsX12_press_r1 := goodIn_r _ [88, 224, 225, 226, 5, 227, 228, 135, 136, 137, 138, 139, 140, 141, 94, 539, 540, 541, 805, 806, 807, 808, 97, 91] (by decide +kernel) (by decide +kernel)
set_option maxRecDepth 20000 in
theorem gk_wsX12_press_r2 : GoodIn wsL_law wsX12_press_r2 := goodIn_r _ [809, 124, 125, 126, 85, 86, 90, 810, 710, 711, 811, 812, 813, 814, 314, 315, 316, 317, 87, 471, 472, 473, 474] (by decide +kernel) (by decide +kernel)
set_option maxRecDepth 20000 in
theorem ggL_law_X12_press : GoodIn wsL_law wsX12_press := goodIn_app gk_X12_press_0 (goodIn_app (goodIn_app gk_wsX12_press_r1 gk_wsX12_press_r2) gku_X12)
set_option maxRecDepth 20000 in
theorem gL_law_X12_press : GoodIn wsL_law (wsV RL 154 RX12 yX12_press wsX12_press) := goodIn_app (goodIn_of _ (by decide +kernel)) ggL_law_X12_press
set_option maxRecDepth 20000 in
theorem gk_X11_rub_0 : GoodIn wsL_law [.code yX11_rub cX11_rub 5 (some .int)] := goodIn_r _ [1281] (by decide +kernel) (by decide +kernel)
set_option maxRecDepth 20000 in
theorem gk_wsX11_rub_r1 : GoodIn wsL_law wsX11_rub_r1 := goodIn_r _ [24, 216, 217, 218, 23, 219, 53, 51, 111, 112, 113, 2, 114, 115, 116, 117, 118, 16, 497, 498, 499, 500, 270, 501] (by decide +kernel) (by decide +kernel)
set_option maxRecDepth 20000 in
theorem gk_wsX11_rub_r2 : GoodIn wsL_law wsX11_rub_r2 := goodIn_r _ [360, 433, 434, 502, 503, 504, 505, 506, 507, 508, 532, 435, 436, 1282, 750, 751, 752, 753, 356, 357, 712, 124, 125, 126] (by decide +kernel) (by decide +kernel)
set_option maxRecDepth 20000 in
theorem gk_wsX11_rub_r3 : GoodIn wsL_law wsX11_rub_r3 := goodIn_r _ [754, 755, 756, 1283, 758, 759, 760] (by decide +kernel) (by decide +kernel)
set_option maxRecDepth 20000 in
theorem ggL_law_X11_rub : GoodIn wsL_law wsX11_rub := goodIn_app gk_X11_rub_0 (goodIn_app (goodIn_app (goodIn_app (goodIn_app (goodIn_app (goodIn_app (goodIn_app (goodIn_app (goodIn_app (goodIn_app gk_wsX11_rub_r1 (goodIn_app gk_wsX11_rub_r2 gk_wsX11_rub_r3)) gku_X11) gku_X4) gku_X0) gku_X1) gku_X2) gku_X3) gku_X5) gku_X8) gku_X10)
set_option maxRecDepth 20000 in
theorem gL_law_X11_rub : GoodIn wsL_law (wsV RL 155 RX11 yX11_rub wsX11_rub) := goodIn_app (goodIn_of _ (by decide +kernel)) ggL_law_X11_rub
set_option maxRecDepth 20000 in
theorem gk_X12_rub_0 : GoodIn wsL_law [.code yX12_rub cX12_rub 4 (some .int)] := goodIn_r _ [1287] (by decide +kernel) (by decide +kernel)
set_option maxRecDepth 20000 in
theorem gk_wsX12_rub_r1 : GoodIn wsL_law wsX12_rub_r1 := goodIn_r _ [224, 225, 226, 5, 227, 228, 135, 136, 137, 138, 139, 140, 141, 94, 524, 525, 526, 527, 88, 513, 514, 515, 539, 540] (by decide +kernel) (by decide +kernel)
set_option maxRecDepth 20000 in
theorem gk_wsX12_rub_r2 : GoodIn wsL_law wsX12_rub_r2 := goodIn_r _ [541, 815, 816, 817, 818, 91, 89, 809, 124, 125, 126, 471, 472, 473, 474] (by decide +kernel) (by decide +kernel)
set_option maxRecDepth 20000 in
theorem ggL_law_X12_rub : GoodIn wsL_law wsX12_rub := goodIn_app gk_X12_rub_0 (goodIn_app (goodIn_app gk_wsX12_rub_r1 gk_wsX12_rub_r2) gku_X12)
set_option maxRecDepth 20000 in
theorem gL_law_X12_rub : GoodIn wsL_law (wsV RL 158 RX12 yX12_rub wsX12_rub) := goodIn_app (goodIn_of _ (by decide +kernel)) ggL_law_X12_rub
set_option maxRecDepth 20000 in
theorem gk_X11_dies_0 : GoodIn wsL_law [.code yX11_dies cX11_dies 3 (some .int)] := goodIn_r _ [1291] (by decide +kernel) (by decide +kernel)
set_option maxRecDepth 20000 in
theorem gk_wsX11_dies_r1 : GoodIn wsL_law wsX11_dies_r1 := goodIn_r _ [24, 242, 216, 217, 218, 23, 219, 53, 51, 111, 112, 113, 2, 114, 115, 116, 117, 118, 16, 1011, 1012, 1013, 1014, 270] (by decide +kernel) (by decide +kernel)
set_option maxRecDepth 20000 in
theorem gk_wsX11_dies_r2 : GoodIn wsL_law wsX11_dies_r2 := goodIn_r _ [1015, 360, 1016, 1017, 1018, 1019, 1020, 1021, 1022] (by decide +kernel) (by decide +kernel)
set_option maxRecDepth 20000 in
theorem ggL_law_X11_dies : GoodIn wsL_law wsX11_dies := goodIn_app gk_X11_dies_0 (goodIn_app (goodIn_app (goodIn_app (goodIn_app (goodIn_app (goodIn_app (goodIn_app (goodIn_app (goodIn_app (goodIn_app gk_wsX11_dies_r1 gk_wsX11_dies_r2) gku_X11) gku_X0) gku_X1) gku_X2) gku_X3) gku_X5) gku_X8) gku_X10) gku_X4)
set_option maxRecDepth 20000 in
theorem gL_law_X11_dies : GoodIn wsL_law (wsV RL 159 RX11 yX11_dies wsX11_dies) := goodIn_app (goodIn_of _ (by decide +kernel)) ggL_law_X11_dies
set_option maxRecDepth 20000 in
theorem ggL_law_X12_dies : GoodIn wsL_law wsX12_dies := goodIn_r _ [1295, 88, 224, 225, 226, 5, 227, 228, 135, 136, 137, 138, 139, 140, 141, 94, 1509, 1510, 1511, 1512, 1513, 1514, 1515, 1516, 1517, 1518, 1519, 1520, 1521, 1522, 1523, 1524, 1525, 1526, 1527, 1528, 1529, 1530, 1531, 1532, 1533, 1534, 1535] (by decide +kernel) (by decide +kernel)
set_option maxRecDepth 20000 in
theorem gL_law_X12_dies : GoodIn wsL_law (wsV RL 162 RX12 yX12_dies wsX12_dies) := goodIn_app (goodIn_of _ (by decide +kernel)) ggL_law_X12_dies
set_option maxRecDepth 20000 in
theorem gk_X11_years_0 : GoodIn wsL_law [.code yX11_years cX11_years 3 (some .int)] := goodIn_r _ [1299] (by decide +kernel) (by decide +kernel)
set_option maxRecDepth 20000 in
theorem gk_wsX11_years_r1 : GoodIn wsL_law wsX11_years_r1 := goodIn_r _ [24, 1119, 111, 112, 113, 2, 114, 115, 116, 117, 118, 16, 1300, 1301, 1302, 23, 1303, 53, 1189, 1304, 1305, 1306, 1307, 55] (by decide +kernel) (by decide +kernel)
set_option maxRecDepth 20000 in
theorem gk_wsX11_years_r2 : GoodIn wsL_law wsX11_years_r2 := goodIn_r _ [1308, 568, 217, 218, 219, 51, 1309, 1012, 1013, 1014, 270, 1015, 360, 1016, 1017, 1018, 1310, 1020, 1021, 1022, 1216, 705, 706, 707] (by decide +kernel) (by decide +kernel)
set_option maxRecDepth 20000 in
theorem gk_wsX11_years_r3 : GoodIn wsL_law wsX11_years_r3 := goodIn_r _ [708, 709, 710, 125, 711, 356, 712, 124, 126, 358, 435, 436, 713, 714, 715, 716, 717, 718, 253, 254, 255, 256, 257, 258] (by decide +kernel) (by decide +kernel)
set_option maxRecDepth 20000 in
theorem gk_wsX11_years_r4 : GoodIn wsL_law wsX11_years_r4 := goodIn_r _ [259, 260, 261, 262, 263, 264, 265, 266, 267, 268, 269, 271, 272, 273, 274, 275, 276, 277, 278, 279, 280, 281, 282, 283] (by decide +kernel) (by decide +kernel)
set_option maxRecDepth 20000 in
theorem gk_wsX11_years_r5 : GoodIn wsL_law wsX11_years_r5 := goodIn_r _ [284, 285, 286, 287, 288, 289, 290, 291, 292, 293, 719, 295, 296, 297, 298, 299, 300, 301, 302, 303, 720, 721, 722, 723] (by decide +kernel) (by decide +kernel)
set_option maxRecDepth 20000 in
theorem gk_wsX11_years_r6 : GoodIn wsL_law wsX11_years_r6 := goodIn_r _ [724, 725, 726, 727, 728, 729, 730, 731, 732, 733, 734, 735, 736, 737, 738, 739, 740, 741, 742, 743, 744, 1217, 746, 747] (by decide +kernel) (by decide +kernel)
set_option maxRecDepth 20000 in
theorem gk_wsX11_years_r7 : GoodIn wsL_law wsX11_years_r7 := goodIn_r _ [748, 931, 498, 499, 500, 501, 433, 434, 502, 503, 504, 932, 506, 507, 508, 1214, 750, 751, 752, 753, 357, 754, 755, 756] (by decide +kernel) (by decide +kernel)
set_option maxRecDepth 20000 in
theorem gk_wsX11_years_r8 : GoodIn wsL_law wsX11_years_r8 := goodIn_r _ [1215, 758, 759, 760, 1234, 1235, 1236, 1237] (by decide +kernel) (by decide +kernel)
set_option maxRecDepth 20000 in
theorem ggL_law_X11_years : GoodIn wsL_law wsX11_years := goodIn_app gk_X11_years_0 (goodIn_app (goodIn_app (goodIn_app (goodIn_app (goodIn_app (goodIn_app (goodIn_app (goodIn_app (goodIn_app (goodIn_app gk_wsX11_years_r1 (goodIn_app gk_wsX11_years_r2 (goodIn_app gk_wsX11_years_r3 (goodIn_app gk_wsX11_years_r4 (goodIn_app gk_wsX11_years_r5 (goodIn_app gk_wsX11_years_r6 (goodIn_app gk_wsX11_years_r7 gk_wsX11_years_r8))))))) gku_X11) gku_X4) gku_X0) gku_X1) gku_X2) gku_X3) gku_X5) gku_X8) gku_X10)
