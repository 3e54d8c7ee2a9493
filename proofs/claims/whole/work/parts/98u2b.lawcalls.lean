set_option maxRecDepth 20000 in
theorem gL_law_X12_force : GoodIn wsL_law (wsV RL 98 RX12 yX12_force wsX12_force) := goodIn_app (goodIn_of _ (by decide +kernel)) ggL_law_X12_force
set_option maxRecDepth 20000 in
theorem gk_X11_got_0 : GoodIn wsL_law [.code yX11_got cX11_got 5 (some .int)] := goodIn_r _ [912] (by decide +kernel) (by decide +kernel)
set_option maxRecDepth 20000 in
theorem gk_wsX11_got_r1 : GoodIn wsL_law wsX11_got_r1 := goodIn_r _ [24, 216, 217, 218, 23, 219, 53, 51, 111, 112, 113, 2, 114, 115, 116, 117, 118, 16, 497, 498, 499, 500, 270, 501] (by decide +kernel) (by decide +kernel)
set_option maxRecDepth 20000 in
theorem gk_wsX11_got_r2 : GoodIn wsL_law wsX11_got_r2 := goodIn_r _ [360, 433, 434, 502, 503, 504, 505, 506, 507, 508, 913, 714, 715, 716, 717, 709, 710, 125, 711, 718, 253, 254, 255, 256] (by decide +kernel) (by decide +kernel)
set_option maxRecDepth 20000 in
theorem gk_wsX11_got_r3 : GoodIn wsL_law wsX11_got_r3 := goodIn_r _ [257, 258, 259, 260, 261, 262, 263, 264, 265, 266, 267, 268, 269, 271, 272, 273, 274, 275, 276, 277, 278, 279, 280, 281] (by decide +kernel) (by decide +kernel)
set_option maxRecDepth 20000 in
theorem gk_wsX11_got_r4 : GoodIn wsL_law wsX11_got_r4 := goodIn_r _ [282, 283, 284, 285, 286, 287, 288, 289, 290, 291, 292, 293, 719, 295, 296, 297, 298, 299, 300, 301, 302, 303, 720, 721] (by decide +kernel) (by decide +kernel)
set_option maxRecDepth 20000 in
theorem gk_wsX11_got_r5 : GoodIn wsL_law wsX11_got_r5 := goodIn_r _ [722, 914, 724, 725, 726] (by decide +kernel) (by decide +kernel)
set_option maxRecDepth 20000 in
theorem ggL_law_X11_got : GoodIn wsL_law wsX11_got := goodIn_app gk_X11_got_0 (goodIn_app (goodIn_app (goodIn_app (goodIn_app (goodIn_app (goodIn_app (goodIn_app (goodIn_app (goodIn_app (goodIn_app gk_wsX11_got_r1 (goodIn_app gk_wsX11_got_r2 (goodIn_app gk_wsX11_got_r3 (goodIn_app gk_wsX11_got_r4 gk_wsX11_got_r5)))) gku_X11) gku_X4) gku_X0) gku_X1) gku_X2) gku_X3) gku_X5) gku_X8) gku_X10)
set_option maxRecDepth 20000 in
theorem gL_law_X11_got : GoodIn wsL_law (wsV RL 99 RX11 yX11_got wsX11_got) := goodIn_app (goodIn_of _ (by decide +kernel)) ggL_law_X11_got
set_option maxRecDepth 20000 in
theorem gk_X12_got_0 : GoodIn wsL_law [.code yX12_got cX12_got 4 (some .int)] := goodIn_r _ [918] (by decide +kernel) (by decide +kernel)
set_option maxRecDepth 20000 in
theorem gk_wsX12_got_r1 : GoodIn wsL_law wsX12_got_r1 := goodIn_r _ [97, 224, 225, 226, 5, 227, 228, 135, 136, 137, 138, 139, 140, 141, 94, 524, 525, 526, 527, 88, 513, 514, 515, 811] (by decide +kernel) (by decide +kernel)
set_option maxRecDepth 20000 in
theorem gk_wsX12_got_r2 : GoodIn wsL_law wsX12_got_r2 := goodIn_r _ [812, 813, 814, 810, 710, 125, 711, 314, 315, 316, 317, 85, 87, 86] (by decide +kernel) (by decide +kernel)
set_option maxRecDepth 20000 in
theorem ggL_law_X12_got : GoodIn wsL_law wsX12_got := goodIn_app gk_X12_got_0 (goodIn_app (goodIn_app gk_wsX12_got_r1 gk_wsX12_got_r2) gku_X12)
set_option maxRecDepth 20000 in
theorem gL_law_X12_got : GoodIn wsL_law (wsV RL 102 RX12 yX12_got wsX12_got) := goodIn_app (goodIn_of _ (by decide +kernel)) ggL_law_X12_got
set_option maxRecDepth 20000 in
theorem gk_X11_which_0 : GoodIn wsL_law [.code yX11_which cX11_which 8 (some .int)] := goodIn_r _ [922] (by decide +kernel) (by decide +kernel)
set_option maxRecDepth 20000 in
theorem gk_wsX11_which_r1 : GoodIn wsL_law wsX11_which_r1 := goodIn_r _ [24, 31, 107, 108, 109, 2, 110, 14, 923, 924, 925, 926, 146, 147, 148, 40, 149, 76, 150, 151, 152, 153, 154, 155] (by decide +kernel) (by decide +kernel)
set_option maxRecDepth 20000 in
theorem gk_wsX11_which_r2 : GoodIn wsL_law wsX11_which_r2 := goodIn_r _ [156, 111, 112, 113, 114, 115, 116, 117, 118, 16, 927, 928, 929, 23, 930, 53, 568, 217, 218, 219, 51, 931, 498, 499] (by decide +kernel) (by decide +kernel)
set_option maxRecDepth 20000 in
theorem gk_wsX11_which_r3 : GoodIn wsL_law wsX11_which_r3 := goodIn_r _ [500, 270, 501, 360, 433, 434, 502, 503, 504, 932, 506, 507, 508, 933, 934, 935, 936, 429, 430, 431, 432, 356, 435, 436] (by decide +kernel) (by decide +kernel)
set_option maxRecDepth 20000 in
theorem gk_wsX11_which_r4 : GoodIn wsL_law wsX11_which_r4 := goodIn_r _ [437, 438, 439, 937, 441, 442, 443, 938, 589, 590, 591, 592, 205, 206, 207, 75, 166, 158, 159, 160, 77, 161] (by decide +kernel) (by decide +kernel)
set_option maxRecDepth 20000 in
theorem ggL_law_X11_which : GoodIn wsL_law wsX11_which := goodIn_app gk_X11_which_0 (goodIn_app (goodIn_app (goodIn_app (goodIn_app (goodIn_app (goodIn_app (goodIn_app (goodIn_app (goodIn_app (goodIn_app (goodIn_app gk_wsX11_which_r1 (goodIn_app gk_wsX11_which_r2 (goodIn_app gk_wsX11_which_r3 gk_wsX11_which_r4))) gku_X11) gku_X7) gku_X4) gku_X0) gku_X1) gku_X2) gku_X3) gku_X5) gku_X8) gku_X10)
set_option maxRecDepth 20000 in
theorem gL_law_X11_which : GoodIn wsL_law (wsV RL 103 RX11 yX11_which wsX11_which) := goodIn_app (goodIn_of _ (by decide +kernel)) ggL_law_X11_which
set_option maxRecDepth 20000 in
theorem gk_X12_which_0 : GoodIn wsL_law [.code yX12_which cX12_which 10 (some .int)] := goodIn_r _ [942] (by decide +kernel) (by decide +kernel)
set_option maxRecDepth 20000 in
theorem gk_wsX12_which_r1 : GoodIn wsL_law wsX12_which_r1 := goodIn_r _ [228, 943, 944, 945, 5, 946, 83, 171, 172, 173, 174, 82, 135, 136, 137, 175, 176, 177, 178, 138, 139, 140, 141, 94] (by decide +kernel) (by decide +kernel)
set_option maxRecDepth 20000 in
theorem gk_wsX12_which_r2 : GoodIn wsL_law wsX12_which_r2 := goodIn_r _ [947, 948, 949, 950, 951, 952, 125, 953, 524, 525, 526, 527, 88, 513, 514, 515, 954, 955, 956, 957, 84, 471, 472, 473] (by decide +kernel) (by decide +kernel)
set_option maxRecDepth 20000 in
theorem gk_wsX12_which_r3 : GoodIn wsL_law wsX12_which_r3 := goodIn_r _ [474, 91] (by decide +kernel) (by decide +kernel)
set_option maxRecDepth 20000 in
theorem ggL_law_X12_which : GoodIn wsL_law wsX12_which := goodIn_app gk_X12_which_0 (goodIn_app (goodIn_app gk_wsX12_which_r1 (goodIn_app gk_wsX12_which_r2 gk_wsX12_which_r3)) gku_X12)
set_option maxRecDepth 20000 in
theorem gL_law_X12_which : GoodIn wsL_law (wsV RL 106 RX12 yX12_which wsX12_which) := goodIn_app (goodIn_of _ (by decide +kernel)) ggL_law_X12_which
set_option maxRecDepth 20000 in
theorem gk_X11_next_0 : GoodIn wsL_law [.code yX11_next cX11_next 7 (some .int)] := goodIn_r _ [961] (by decide +kernel) (by decide +kernel)
set_option maxRecDepth 20000 in
theorem gk_wsX11_next_r1 : GoodIn wsL_law wsX11_next_r1 := goodIn_r _ [24, 31, 107, 108, 109, 2, 110, 14, 923, 924, 925, 926, 146, 147, 148, 40, 149, 76, 150, 151, 152, 153, 154, 155] (by decide +kernel) (by decide +kernel)
set_option maxRecDepth 20000 in
theorem gk_wsX11_next_r2 : GoodIn wsL_law wsX11_next_r2 := goodIn_r _ [156, 115, 116, 117, 118, 16, 927, 928, 929, 23, 930, 53, 568, 217, 218, 219, 51, 931, 498, 499, 500, 270, 501, 360] (by decide +kernel) (by decide +kernel)
set_option maxRecDepth 20000 in
theorem gk_wsX11_next_r3 : GoodIn wsL_law wsX11_next_r3 := goodIn_r _ [433, 434, 502, 503, 504, 932, 506, 507, 508, 933, 934, 935, 936, 429, 430, 431, 432, 356, 435, 436, 437, 438, 439, 937] (by decide +kernel) (by decide +kernel)
set_option maxRecDepth 20000 in
theorem gk_wsX11_next_r4 : GoodIn wsL_law wsX11_next_r4 := goodIn_r _ [441, 442, 443, 938, 589, 590, 591, 592, 205, 206, 207, 75, 166, 158, 159, 160, 77, 161, 962, 963, 964, 965, 966, 710] (by decide +kernel) (by decide +kernel)
set_option maxRecDepth 20000 in
theorem gk_wsX11_next_r5 : GoodIn wsL_law wsX11_next_r5 := goodIn_r _ [125, 711, 967, 968, 969, 970, 412, 216, 484, 485, 486, 487, 488, 489, 428, 440, 490, 491, 492, 493, 494, 495, 496] (by decide +kernel) (by decide +kernel)
set_option maxRecDepth 20000 in
theorem ggL_law_X11_next : GoodIn wsL_law wsX11_next := goodIn_app gk_X11_next_0 (goodIn_app (goodIn_app (goodIn_app (goodIn_app (goodIn_app (goodIn_app (goodIn_app (goodIn_app (goodIn_app (goodIn_app (goodIn_app gk_wsX11_next_r1 (goodIn_app gk_wsX11_next_r2 (goodIn_app gk_wsX11_next_r3 (goodIn_app gk_wsX11_next_r4 gk_wsX11_next_r5)))) gku_X11) gku_X7) gku_X4) gku_X0) gku_X1) gku_X2) gku_X3) gku_X5) gku_X8) gku_X10)
set_option maxRecDepth 20000 in
theorem gL_law_X11_next : GoodIn wsL_law (wsV RL 107 RX11 yX11_next wsX11_next) := goodIn_app (goodIn_of _ (by decide +kernel)) ggL_law_X11_next
set_option maxRecDepth 20000 in
theorem gk_X12_next_0 : GoodIn wsL_law [.code yX12_next cX12_next 7 (some .int)] := goodIn_r _ [974] (by decide +kernel) (by decide +kernel)
set_option maxRecDepth 20000 in
theorem gk_wsX12_next_r1 : GoodIn wsL_law wsX12_next_r1 := goodIn_r _ [943, 944, 945, 5, 946, 83, 171, 172, 173, 174, 82, 135, 136, 137, 175, 176, 177, 178, 901, 902, 903, 904, 138, 139] (by decide +kernel) (by decide +kernel)
set_option maxRecDepth 20000 in
theorem gk_wsX12_next_r2 : GoodIn wsL_law wsX12_next_r2 := goodIn_r _ [140, 141, 94, 975, 976, 977, 978, 228, 947, 948, 949, 950, 951, 952, 125, 953, 524, 525, 526, 527, 88, 513, 514, 515] (by decide +kernel) (by decide +kernel)
set_option maxRecDepth 20000 in
theorem gk_wsX12_next_r3 : GoodIn wsL_law wsX12_next_r3 := goodIn_r _ [954, 955, 956, 957, 84, 471, 472, 473, 474, 91, 979, 980, 981, 982, 810, 710, 711, 520, 521, 522, 523, 100] (by decide +kernel) (by decide +kernel)
set_option maxRecDepth 20000 in
theorem ggL_law_X12_next : GoodIn wsL_law wsX12_next := goodIn_app gk_X12_next_0 (goodIn_app (goodIn_app gk_wsX12_next_r1 (goodIn_app gk_wsX12_next_r2 gk_wsX12_next_r3)) gku_X12)
set_option maxRecDepth 20000 in
theorem gL_law_X12_next : GoodIn wsL_law (wsV RL 110 RX12 yX12_next wsX12_next) := goodIn_app (goodIn_of _ (by decide +kernel)) ggL_law_X12_next
set_option maxRecDepth 20000 in
theorem gk_X11_unlike_0 : GoodIn wsL_law [.code yX11_unlike cX11_unlike 5 (some .int)] := goodIn_r _ [986] (by decide +kernel) (by decide +kernel)
set_option maxRecDepth 20000 in
theorem gk_wsX11_unlike_r1 : GoodIn wsL_law wsX11_unlike_r1 := goodIn_r _ [967, 968, 969, 2, 970, 24, 412, 216, 217, 218, 23, 219, 53, 51, 484, 433, 434, 485, 486, 487, 488, 270, 489, 428] (by decide +kernel) (by decide +kernel)
set_option maxRecDepth 20000 in
theorem gk_wsX11_unlike_r2 : GoodIn wsL_law wsX11_unlike_r2 := goodIn_r _ [429, 430, 431, 432, 356, 435, 436, 437, 438, 439, 440, 441, 442, 443, 490, 491, 492, 493, 494, 495, 496, 111, 112, 113] (by decide +kernel) (by decide +kernel)
set_option maxRecDepth 20000 in
theorem gk_wsX11_unlike_r3 : GoodIn wsL_law wsX11_unlike_r3 := goodIn_r _ [114, 115, 116, 117, 118, 16, 987, 988, 989, 990, 991, 992, 993] (by decide +kernel) (by decide +kernel)
set_option maxRecDepth 20000 in
theorem ggL_law_X11_unlike : GoodIn wsL_law wsX11_unlike := goodIn_app gk_X11_unlike_0 (goodIn_app (goodIn_app (goodIn_app (goodIn_app (goodIn_app (goodIn_app (goodIn_app (goodIn_app (goodIn_app (goodIn_app gk_wsX11_unlike_r1 (goodIn_app gk_wsX11_unlike_r2 gk_wsX11_unlike_r3)) gku_X11) gku_X4) gku_X0) gku_X1) gku_X2) gku_X3) gku_X5) gku_X8) gku_X10)
set_option maxRecDepth 20000 in
theorem gL_law_X11_unlike : GoodIn wsL_law (wsV RL 111 RX11 yX11_unlike wsX11_unlike) := goodIn_app (goodIn_of _ (by decide +kernel)) ggL_law_X11_unlike
set_option maxRecDepth 20000 in
theorem gk_X12_unlike_0 : GoodIn wsL_law [.code yX12_unlike cX12_unlike 3 (some .int)] := goodIn_r _ [997] (by decide +kernel) (by decide +kernel)
set_option maxRecDepth 20000 in
theorem gk_wsX12_unlike_r1 : GoodIn wsL_law wsX12_unlike_r1 := goodIn_r _ [998, 999, 1000, 5, 1001, 224, 225, 226, 227, 228, 135, 136, 137, 513, 514, 515, 1002, 1003, 1004, 1005, 516, 517, 518, 519] (by decide +kernel) (by decide +kernel)
set_option maxRecDepth 20000 in
theorem gk_wsX12_unlike_r2 : GoodIn wsL_law wsX12_unlike_r2 := goodIn_r _ [520, 521, 522, 523, 100, 471, 472, 473, 474, 91, 1006, 988, 989, 990, 991, 992, 993, 138, 139, 140, 141, 94] (by decide +kernel) (by decide +kernel)
set_option maxRecDepth 20000 in
theorem ggL_law_X12_unlike : GoodIn wsL_law wsX12_unlike := goodIn_app gk_X12_unlike_0 (goodIn_app (goodIn_app gk_wsX12_unlike_r1 gk_wsX12_unlike_r2) gku_X12)
set_option maxRecDepth 20000 in
theorem gL_law_X12_unlike : GoodIn wsL_law (wsV RL 114 RX12 yX12_unlike wsX12_unlike) := goodIn_app (goodIn_of _ (by decide +kernel)) ggL_law_X12_unlike
set_option maxRecDepth 20000 in
theorem gk_X11_odd_0 : GoodIn wsL_law [.code yX11_odd cX11_odd 3 (some .int)] := goodIn_r _ [1010] (by decide +kernel) (by decide +kernel)
set_option maxRecDepth 20000 in
theorem gk_wsX11_odd_r1 : GoodIn wsL_law wsX11_odd_r1 := goodIn_r _ [24, 216, 217, 218, 23, 219, 53, 51, 111, 112, 113, 2, 114, 115, 116, 117, 118, 16, 1011, 1012, 1013, 1014, 270, 1015] (by decide +kernel) (by decide +kernel)
set_option maxRecDepth 20000 in
theorem gk_wsX11_odd_r2 : GoodIn wsL_law wsX11_odd_r2 := goodIn_r _ [360, 1016, 1017, 1018, 1019, 1020, 1021, 1022, 1023, 1024, 1025, 1026, 242, 412, 485, 486, 487, 488, 489, 428, 429, 430, 431, 432] (by decide +kernel) (by decide +kernel)
set_option maxRecDepth 20000 in
theorem gk_wsX11_odd_r3 : GoodIn wsL_law wsX11_odd_r3 := goodIn_r _ [356, 433, 434, 435, 436, 437, 438, 439, 440, 441, 442, 443, 490, 491, 492, 493, 494, 495, 496, 987, 988, 989, 990, 991] (by decide +kernel) (by decide +kernel)
set_option maxRecDepth 20000 in
theorem gk_wsX11_odd_r4 : GoodIn wsL_law wsX11_odd_r4 := goodIn_r _ [992, 993] (by decide +kernel) (by decide +kernel)
set_option maxRecDepth 20000 in
theorem ggL_law_X11_odd : GoodIn wsL_law wsX11_odd := goodIn_app gk_X11_odd_0 (goodIn_app (goodIn_app (goodIn_app (goodIn_app (goodIn_app (goodIn_app (goodIn_app (goodIn_app (goodIn_app (goodIn_app gk_wsX11_odd_r1 (goodIn_app gk_wsX11_odd_r2 (goodIn_app gk_wsX11_odd_r3 gk_wsX11_odd_r4))) gku_X11) gku_X4) gku_X0) gku_X1) gku_X2) gku_X3) gku_X5) gku_X8) gku_X10)
set_option maxRecDepth 20000 in
theorem gL_law_X11_odd : GoodIn wsL_law (wsV RL 115 RX11 yX11_odd wsX11_odd) := goodIn_app (goodIn_of _ (by decide +kernel)) ggL_law_X11_odd
set_option maxRecDepth 20000 in
theorem gk_X12_odd_0 : GoodIn wsL_law [.code yX12_odd cX12_odd 7 (some .int)] := goodIn_r _ [1030] (by decide +kernel) (by decide +kernel)
set_option maxRecDepth 20000 in
theorem gk_wsX12_odd_r1 : GoodIn wsL_law wsX12_odd_r1 := goodIn_r _ [88, 224, 225, 226, 5, 227, 228, 135, 136, 137, 138, 139, 140, 141, 94, 1002, 1003, 1004, 1005, 516, 517, 518, 519, 520] (by decide +kernel) (by decide +kernel)
set_option maxRecDepth 20000 in
theorem gk_wsX12_odd_r2 : GoodIn wsL_law wsX12_odd_r2 := goodIn_r _ [521, 522, 523, 100, 471, 472, 473, 474, 91, 1006, 988, 989, 990, 991, 992, 993] (by decide +kernel) (by decide +kernel)
set_option maxRecDepth 20000 in
theorem ggL_law_X12_odd : GoodIn wsL_law wsX12_odd := goodIn_app gk_X12_odd_0 (goodIn_app (goodIn_app gk_wsX12_odd_r1 gk_wsX12_odd_r2) gku_X12)
set_option maxRecDepth 20000 in
theorem gL_law_X12_odd : GoodIn wsL_law (wsV RL 118 RX12 yX12_odd wsX12_odd) := goodIn_app (goodIn_of _ (by decide +kernel)) ggL_law_X12_odd
set_option maxRecDepth 20000 in
theorem gk_X11_mend_0 : GoodIn wsL_law [.code yX11_mend cX11_mend 6 (some .int)] := goodIn_r _ [1034] (by decide +kernel) (by decide +kernel)
set_option maxRecDepth 20000 in
theorem gk_wsX11_mend_r1 : GoodIn wsL_law wsX11_mend_r1 := goodIn_r _ [24, 412, 216, 217, 218, 23, 219, 53, 51, 111, 112, 113, 2, 114, 115, 116, 117, 118, 16, 1035, 1036, 1037, 1038, 270] (by decide +kernel) (by decide +kernel)
set_option maxRecDepth 20000 in
theorem gk_wsX11_mend_r2 : GoodIn wsL_law wsX11_mend_r2 := goodIn_r _ [1039, 360, 1040, 836, 837, 838, 839, 428, 429, 430, 431, 432, 356, 433, 434, 435, 436, 437, 438, 439, 440, 441, 442, 443] (by decide +kernel) (by decide +kernel)
set_option maxRecDepth 20000 in
theorem gk_wsX11_mend_r3 : GoodIn wsL_law wsX11_mend_r3 := goodIn_r _ [840, 841, 842, 1041, 844, 845, 846, 1042, 988, 989, 990, 991, 992, 993, 1043, 1044, 1045, 1046, 1047, 1048, 1049, 532] (by decide +kernel) (by decide +kernel)
set_option maxRecDepth 20000 in
theorem ggL_law_X11_mend : GoodIn wsL_law wsX11_mend := goodIn_app gk_X11_mend_0 (goodIn_app (goodIn_app (goodIn_app (goodIn_app (goodIn_app (goodIn_app (goodIn_app (goodIn_app (goodIn_app (goodIn_app gk_wsX11_mend_r1 (goodIn_app gk_wsX11_mend_r2 gk_wsX11_mend_r3)) gku_X11) gku_X4) gku_X0) gku_X1) gku_X2) gku_X3) gku_X5) gku_X8) gku_X10)
