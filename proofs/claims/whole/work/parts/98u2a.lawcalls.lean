theorem gku_X11 : GoodIn wsL_law wsX110 := goodIn_sub inlX11 (by decide +kernel)
theorem gku_X6 : GoodIn wsL_law wsX60 := goodIn_sub inlX6 (by decide +kernel)
theorem gku_X7 : GoodIn wsL_law wsX70 := goodIn_sub inlX7 (by decide +kernel)
theorem gku_X4 : GoodIn wsL_law wsX40 := goodIn_sub inlX4 (by decide +kernel)
theorem gku_X0 : GoodIn wsL_law wsX00 := goodIn_sub inlX0 (by decide +kernel)
theorem gku_X1 : GoodIn wsL_law wsX10 := goodIn_sub inlX1 (by decide +kernel)
theorem gku_X2 : GoodIn wsL_law wsX20 := goodIn_sub inlX2 (by decide +kernel)
theorem gku_X3 : GoodIn wsL_law wsX30 := goodIn_sub inlX3 (by decide +kernel)
theorem gku_X5 : GoodIn wsL_law wsX50 := goodIn_sub inlX5 (by decide +kernel)
theorem gku_X8 : GoodIn wsL_law wsX80 := goodIn_sub inlX8 (by decide +kernel)
theorem gku_X10 : GoodIn wsL_law wsX100 := goodIn_sub inlX10 (by decide +kernel)
set_option maxRecDepth 20000 in
theorem gk_X11_land_0 : GoodIn wsL_law [.code yX11_land cX11_land 4 (some .int)] := goodIn_r _ [562] (by decide +kernel) (by decide +kernel)
set_option maxRecDepth 20000 in
theorem gk_wsX11_land_r1 : GoodIn wsL_law wsX11_land_r1 := goodIn_r _ [25, 24, 30, 563, 38, 107, 108, 109, 2, 110, 14, 146, 147, 148, 40, 149, 76, 150, 151, 152, 153, 154, 155, 156] (by decide +kernel) (by decide +kernel)
set_option maxRecDepth 20000 in
theorem gk_wsX11_land_r2 : GoodIn wsL_law wsX11_land_r2 := goodIn_r _ [111, 112, 113, 114, 115, 116, 117, 118, 16, 564, 565, 566, 23, 567, 54, 55, 53, 335, 568, 217, 218, 219, 51, 331] (by decide +kernel) (by decide +kernel)
set_option maxRecDepth 20000 in
theorem gk_wsX11_land_r3 : GoodIn wsL_law wsX11_land_r3 := goodIn_r _ [332, 333, 334, 336, 337, 283, 56, 338, 339, 289, 340, 341, 299, 342, 343, 265, 344, 345, 257, 346, 347, 275, 50, 348] (by decide +kernel) (by decide +kernel)
set_option maxRecDepth 20000 in
theorem gk_wsX11_land_r4 : GoodIn wsL_law wsX11_land_r4 := goodIn_r _ [270, 349, 350, 351, 352, 353, 354, 355, 11, 12, 15, 356, 357, 358, 359, 272, 360, 361, 362, 363, 364, 365, 366, 367] (by decide +kernel) (by decide +kernel)
set_option maxRecDepth 20000 in
theorem gk_wsX11_land_r5 : GoodIn wsL_law wsX11_land_r5 := goodIn_r _ [368, 369, 370, 371, 372, 373, 374, 375, 376, 377, 378, 379, 380, 381, 382, 383, 384, 569, 570, 571, 572, 573, 574, 185] (by decide +kernel) (by decide +kernel)
set_option maxRecDepth 20000 in
theorem gk_wsX11_land_r6 : GoodIn wsL_law wsX11_land_r6 := goodIn_r _ [186, 187, 575, 576, 577, 578, 579, 580, 581, 582, 583, 584, 29, 585, 586, 587, 124, 125, 126, 62, 61, 63, 64, 588] (by decide +kernel) (by decide +kernel)
set_option maxRecDepth 20000 in
theorem gk_wsX11_land_r7 : GoodIn wsL_law wsX11_land_r7 := goodIn_r _ [589, 590, 591, 592, 205, 206, 207, 75, 166, 158, 159, 160, 77, 161, 593, 594, 595, 596, 597, 598, 599, 600, 601, 602] (by decide +kernel) (by decide +kernel)
set_option maxRecDepth 20000 in
theorem gk_wsX11_land_r8 : GoodIn wsL_law wsX11_land_r8 := goodIn_r _ [603, 604, 66, 70, 605, 67, 65, 68, 69, 606, 607, 608, 609, 610, 611, 612, 613, 614, 615, 616, 617, 618, 619, 620] (by decide +kernel) (by decide +kernel)
set_option maxRecDepth 20000 in
theorem gk_wsX11_land_r9 : GoodIn wsL_law wsX11_land_r9 := goodIn_r _ [621, 622, 623, 624, 625, 626, 627, 628, 629, 630, 631, 632, 633, 634, 635, 636, 637, 638, 639, 640, 641, 642, 643, 644] (by decide +kernel) (by decide +kernel)
set_option maxRecDepth 20000 in
theorem gk_wsX11_land_r10 : GoodIn wsL_law wsX11_land_r10 := goodIn_r _ [645, 646, 647, 648, 649, 650, 651, 652, 653, 654, 655, 656, 657, 658, 659, 660, 661, 662, 663, 664, 665, 666, 667, 668] (by decide +kernel) (by decide +kernel)
set_option maxRecDepth 20000 in
theorem gk_wsX11_land_r11 : GoodIn wsL_law wsX11_land_r11 := goodIn_r _ [669, 670, 671, 672, 673, 674, 675, 676, 677, 678, 679, 680, 681, 682, 683, 684, 685, 323, 324, 325, 686, 687, 688, 689] (by decide +kernel) (by decide +kernel)
set_option maxRecDepth 20000 in
theorem gk_wsX11_land_r12 : GoodIn wsL_law wsX11_land_r12 := goodIn_r _ [690, 691, 692, 693, 694, 695, 696, 697, 698, 699, 700, 701, 702, 703, 327, 328, 329, 330, 385, 386, 387, 388, 389, 390] (by decide +kernel) (by decide +kernel)
set_option maxRecDepth 20000 in
theorem gk_wsX11_land_r13 : GoodIn wsL_law wsX11_land_r13 := goodIn_r _ [391, 129, 392, 393, 394, 395, 396, 397, 398, 399, 704, 705, 706, 707, 708, 709, 710, 711, 712, 435, 436, 713, 714, 715] (by decide +kernel) (by decide +kernel)
set_option maxRecDepth 20000 in
theorem gk_wsX11_land_r14 : GoodIn wsL_law wsX11_land_r14 := goodIn_r _ [716, 717, 718, 253, 254, 255, 256, 258, 259, 260, 261, 262, 263, 264, 266, 267, 268, 269, 271, 273, 274, 276, 277, 278] (by decide +kernel) (by decide +kernel)
set_option maxRecDepth 20000 in
theorem gk_wsX11_land_r15 : GoodIn wsL_law wsX11_land_r15 := goodIn_r _ [279, 280, 281, 282, 284, 285, 286, 287, 288, 290, 291, 292, 293, 719, 295, 296, 297, 298, 300, 301, 302, 303, 720, 721] (by decide +kernel) (by decide +kernel)
set_option maxRecDepth 20000 in
theorem gk_wsX11_land_r16 : GoodIn wsL_law wsX11_land_r16 := goodIn_r _ [722, 723, 724, 725, 726, 727, 728, 729, 730, 731, 732, 733, 734, 735, 736, 737, 738, 739, 740, 741, 742, 743, 744, 745] (by decide +kernel) (by decide +kernel)
set_option maxRecDepth 20000 in
theorem gk_wsX11_land_r17 : GoodIn wsL_law wsX11_land_r17 := goodIn_r _ [746, 747, 748, 749, 750, 751, 752, 753, 433, 434, 754, 755, 756, 757, 758, 759, 760] (by decide +kernel) (by decide +kernel)
set_option maxRecDepth 20000 in
theorem ggL_law_X11_land : GoodIn wsL_law wsX11_land := goodIn_app gk_X11_land_0 (goodIn_app (goodIn_app (goodIn_app (goodIn_app (goodIn_app (goodIn_app (goodIn_app (goodIn_app (goodIn_app (goodIn_app (goodIn_app (goodIn_app gk_wsX11_land_r1 (goodIn_app gk_wsX11_land_r2 (goodIn_app gk_wsX11_land_r3 (goodIn_app gk_wsX11_land_r4 (goodIn_app gk_wsX11_land_r5 (goodIn_app gk_wsX11_land_r6 (goodIn_app gk_wsX11_land_r7 (goodIn_app gk_wsX11_land_r8 (goodIn_app gk_wsX11_land_r9 (goodIn_app gk_wsX11_land_r10 (goodIn_app gk_wsX11_land_r11 (goodIn_app gk_wsX11_land_r12 (goodIn_app gk_wsX11_land_r13 (goodIn_app gk_wsX11_land_r14 (goodIn_app gk_wsX11_land_r15 (goodIn_app gk_wsX11_land_r16 gk_wsX11_land_r17)))))))))))))))) gku_X11) gku_X6) gku_X7) gku_X4) gku_X0) gku_X1) gku_X2) gku_X3) gku_X5) gku_X8) gku_X10)
set_option maxRecDepth 20000 in
theorem gL_law_X11_land : GoodIn wsL_law (wsV RL 77 RX11 yX11_land wsX11_land) := goodIn_app (goodIn_of _ (by decide +kernel)) ggL_law_X11_land
theorem gku_X12 : GoodIn wsL_law wsX120 := goodIn_sub inlX12 (by decide +kernel)
set_option maxRecDepth 20000 in
theorem gk_X12_land_0 : GoodIn wsL_law [.code yX12_land cX12_land 5 (some .int)] := goodIn_r _ [764] (by decide +kernel) (by decide +kernel)
set_option maxRecDepth 20000 in
theorem gk_wsX12_land_r1 : GoodIn wsL_law wsX12_land_r1 := goodIn_r _ [96, 765, 766, 83, 102, 171, 172, 173, 5, 174, 82, 135, 136, 137, 175, 176, 177, 178, 138, 139, 140, 141, 94, 767] (by decide +kernel) (by decide +kernel)
set_option maxRecDepth 20000 in
theorem gk_wsX12_land_r2 : GoodIn wsL_law wsX12_land_r2 := goodIn_r _ [768, 769, 770, 85, 86, 87, 88, 89, 90, 91, 228, 100, 101, 771, 772, 773, 774, 92, 775, 776, 777, 778, 84, 779] (by decide +kernel) (by decide +kernel)
set_option maxRecDepth 20000 in
theorem gk_wsX12_land_r3 : GoodIn wsL_law wsX12_land_r3 := goodIn_r _ [780, 781, 782, 783, 784, 785, 786, 787, 788, 789, 790, 791, 611, 612, 613, 614, 615, 616, 617, 618, 619, 620, 621, 792] (by decide +kernel) (by decide +kernel)
set_option maxRecDepth 20000 in
theorem gk_wsX12_land_r4 : GoodIn wsL_law wsX12_land_r4 := goodIn_r _ [623, 624, 625, 626, 627, 628, 629, 630, 631, 632, 633, 634, 635, 636, 637, 638, 639, 640, 641, 642, 643, 644, 645, 646] (by decide +kernel) (by decide +kernel)
set_option maxRecDepth 20000 in
theorem gk_wsX12_land_r5 : GoodIn wsL_law wsX12_land_r5 := goodIn_r _ [647, 648, 649, 650, 651, 652, 653, 654, 655, 656, 657, 658, 793, 794, 795, 796, 797, 798, 799, 800, 404, 405, 406, 407] (by decide +kernel) (by decide +kernel)
set_option maxRecDepth 20000 in
theorem gk_wsX12_land_r6 : GoodIn wsL_law wsX12_land_r6 := goodIn_r _ [801, 802, 803, 804, 805, 806, 807, 808, 97, 809, 124, 125, 126, 810, 710, 711, 811, 812, 813, 814, 314, 315, 316, 317] (by decide +kernel) (by decide +kernel)
set_option maxRecDepth 20000 in
theorem gk_wsX12_land_r7 : GoodIn wsL_law wsX12_land_r7 := goodIn_r _ [471, 472, 473, 474, 524, 525, 526, 527, 513, 514, 515, 815, 816, 817, 818, 819, 820, 821, 822] (by decide +kernel) (by decide +kernel)
set_option maxRecDepth 20000 in
theorem ggL_law_X12_land : GoodIn wsL_law wsX12_land := goodIn_app gk_X12_land_0 (goodIn_app (goodIn_app gk_wsX12_land_r1 (goodIn_app gk_wsX12_land_r2 (goodIn_app gk_wsX12_land_r3 (goodIn_app gk_wsX12_land_r4 (goodIn_app gk_wsX12_land_r5 (goodIn_app gk_wsX12_land_r6 gk_wsX12_land_r7)))))) gku_X12)
set_option maxRecDepth 20000 in
theorem gL_law_X12_land : GoodIn wsL_law (wsV RL 80 RX12 yX12_land wsX12_land) := goodIn_app (goodIn_of _ (by decide +kernel)) ggL_law_X12_land
set_option maxRecDepth 20000 in
theorem ggL_law_X11_fault : GoodIn wsL_law wsX11_fault := goodIn_r _ [826, 38, 1495, 1496, 1497, 1498, 1499, 1500, 1501, 1502, 1503, 1504, 1505, 1506, 1507, 1508] (by decide +kernel) (by decide +kernel)
set_option maxRecDepth 20000 in
theorem gL_law_X11_fault : GoodIn wsL_law (wsV RL 81 RX11 yX11_fault wsX11_fault) := goodIn_app (goodIn_of _ (by decide +kernel)) ggL_law_X11_fault
set_option maxRecDepth 20000 in
theorem ggL_law_X12_fault : GoodIn wsL_law wsX12_fault := goodIn_r _ [830, 102, 1509, 1510, 1511, 1512, 1513, 1514, 1515, 1516, 1517, 1518, 1519, 1520, 1521, 1522, 1523, 1524, 1525, 1526, 1527, 1528, 1529, 1530, 1531, 1532, 1533, 1534, 1535] (by decide +kernel) (by decide +kernel)
set_option maxRecDepth 20000 in
theorem gL_law_X12_fault : GoodIn wsL_law (wsV RL 85 RX12 yX12_fault wsX12_fault) := goodIn_app (goodIn_of _ (by decide +kernel)) ggL_law_X12_fault
set_option maxRecDepth 20000 in
theorem gk_X11_have_0 : GoodIn wsL_law [.code yX11_have cX11_have 4 (some .int)] := goodIn_r _ [834] (by decide +kernel) (by decide +kernel)
set_option maxRecDepth 20000 in
theorem gk_wsX11_have_r1 : GoodIn wsL_law wsX11_have_r1 := goodIn_r _ [24, 412, 216, 217, 218, 23, 219, 53, 51, 111, 112, 113, 2, 114, 115, 116, 117, 118, 16, 532, 435, 436, 835, 836] (by decide +kernel) (by decide +kernel)
set_option maxRecDepth 20000 in
theorem gk_wsX11_have_r2 : GoodIn wsL_law wsX11_have_r2 := goodIn_r _ [837, 838, 270, 839, 360, 428, 429, 430, 431, 432, 356, 433, 434, 437, 438, 439, 440, 441, 442, 443, 840, 841, 842, 843] (by decide +kernel) (by decide +kernel)
set_option maxRecDepth 20000 in
theorem gk_wsX11_have_r3 : GoodIn wsL_law wsX11_have_r3 := goodIn_r _ [844, 845, 846] (by decide +kernel) (by decide +kernel)
set_option maxRecDepth 20000 in
theorem ggL_law_X11_have : GoodIn wsL_law wsX11_have := goodIn_app gk_X11_have_0 (goodIn_app (goodIn_app (goodIn_app (goodIn_app (goodIn_app (goodIn_app (goodIn_app (goodIn_app (goodIn_app (goodIn_app gk_wsX11_have_r1 (goodIn_app gk_wsX11_have_r2 gk_wsX11_have_r3)) gku_X11) gku_X4) gku_X0) gku_X1) gku_X2) gku_X3) gku_X5) gku_X8) gku_X10)
set_option maxRecDepth 20000 in
theorem gL_law_X11_have : GoodIn wsL_law (wsV RL 86 RX11 yX11_have wsX11_have) := goodIn_app (goodIn_of _ (by decide +kernel)) ggL_law_X11_have
set_option maxRecDepth 20000 in
theorem ggL_law_X12_have : GoodIn wsL_law wsX12_have := goodIn_r _ [850, 224, 225, 226, 5, 227, 228, 135, 136, 137, 138, 139, 140, 141, 94, 539, 540, 541, 851, 852, 853, 854, 88, 520, 521, 522, 523, 100, 471, 472, 473, 474, 91, 1509, 1510, 1511, 1512, 1513, 1514, 1515, 1516, 1517, 1518, 1519, 1520, 1521, 1522, 1523, 1524, 1525, 1526, 1527, 1528, 1529, 1530, 1531, 1532, 1533, 1534, 1535] (by decide +kernel) (by decide +kernel)
set_option maxRecDepth 20000 in
theorem gL_law_X12_have : GoodIn wsL_law (wsV RL 89 RX12 yX12_have wsX12_have) := goodIn_app (goodIn_of _ (by decide +kernel)) ggL_law_X12_have
set_option maxRecDepth 20000 in
theorem gk_X11_all_0 : GoodIn wsL_law [.code yX11_all cX11_all 3 (some .int)] := goodIn_r _ [858] (by decide +kernel) (by decide +kernel)
set_option maxRecDepth 20000 in
theorem gk_wsX11_all_r1 : GoodIn wsL_law wsX11_all_r1 := goodIn_r _ [24, 412, 216, 217, 218, 23, 219, 53, 51, 111, 112, 113, 2, 114, 115, 116, 117, 118, 16, 859, 860, 861, 862, 270] (by decide +kernel) (by decide +kernel)
set_option maxRecDepth 20000 in
theorem gk_wsX11_all_r2 : GoodIn wsL_law wsX11_all_r2 := goodIn_r _ [863, 360, 864, 486, 487, 488, 489, 428, 429, 430, 431, 432, 356, 433, 434, 435, 436, 437, 438, 439, 440, 441, 442, 443] (by decide +kernel) (by decide +kernel)
set_option maxRecDepth 20000 in
theorem gk_wsX11_all_r3 : GoodIn wsL_law wsX11_all_r3 := goodIn_r _ [490, 491, 492, 865, 494, 495, 496, 866, 867, 868, 869, 870, 871, 872] (by decide +kernel) (by decide +kernel)
set_option maxRecDepth 20000 in
theorem ggL_law_X11_all : GoodIn wsL_law wsX11_all := goodIn_app gk_X11_all_0 (goodIn_app (goodIn_app (goodIn_app (goodIn_app (goodIn_app (goodIn_app (goodIn_app (goodIn_app (goodIn_app (goodIn_app gk_wsX11_all_r1 (goodIn_app gk_wsX11_all_r2 gk_wsX11_all_r3)) gku_X11) gku_X4) gku_X0) gku_X1) gku_X2) gku_X3) gku_X5) gku_X8) gku_X10)
set_option maxRecDepth 20000 in
theorem gL_law_X11_all : GoodIn wsL_law (wsV RL 90 RX11 yX11_all wsX11_all) := goodIn_app (goodIn_of _ (by decide +kernel)) ggL_law_X11_all
set_option maxRecDepth 20000 in
theorem ggL_law_X12_all : GoodIn wsL_law wsX12_all := goodIn_r _ [876, 88, 224, 225, 226, 5, 227, 228, 135, 136, 137, 138, 139, 140, 141, 94, 516, 517, 518, 519, 520, 521, 522, 523, 100, 471, 472, 473, 474, 91, 1509, 1510, 1511, 1512, 1513, 1514, 1515, 1516, 1517, 1518, 1519, 1520, 1521, 1522, 1523, 1524, 1525, 1526, 1527, 1528, 1529, 1530, 1531, 1532, 1533, 1534, 1535] (by decide +kernel) (by decide +kernel)
set_option maxRecDepth 20000 in
theorem gL_law_X12_all : GoodIn wsL_law (wsV RL 93 RX12 yX12_all wsX12_all) := goodIn_app (goodIn_of _ (by decide +kernel)) ggL_law_X12_all
set_option maxRecDepth 20000 in
theorem gk_X11_force_0 : GoodIn wsL_law [.code yX11_force cX11_force 6 (some .int)] := goodIn_r _ [880] (by decide +kernel) (by decide +kernel)
set_option maxRecDepth 20000 in
theorem gk_wsX11_force_r1 : GoodIn wsL_law wsX11_force_r1 := goodIn_r _ [24, 216, 217, 218, 23, 219, 53, 51, 115, 116, 117, 2, 118, 16, 532, 435, 436, 497, 498, 499, 500, 270, 501, 360] (by decide +kernel) (by decide +kernel)
set_option maxRecDepth 20000 in
theorem gk_wsX11_force_r2 : GoodIn wsL_law wsX11_force_r2 := goodIn_r _ [433, 434, 502, 503, 504, 505, 506, 507, 508, 881, 882, 883, 884, 242, 412, 885, 886, 887, 888, 889, 428, 429, 430, 431] (by decide +kernel) (by decide +kernel)
set_option maxRecDepth 20000 in
theorem gk_wsX11_force_r3 : GoodIn wsL_law wsX11_force_r3 := goodIn_r _ [432, 356, 437, 438, 439, 440, 441, 442, 443, 713, 714, 715, 716, 717, 709, 710, 125, 711, 718, 253, 254, 255, 256, 257] (by decide +kernel) (by decide +kernel)
set_option maxRecDepth 20000 in
theorem gk_wsX11_force_r4 : GoodIn wsL_law wsX11_force_r4 := goodIn_r _ [258, 259, 260, 261, 262, 263, 264, 265, 266, 267, 268, 269, 271, 272, 273, 274, 275, 276, 277, 278, 279, 280, 281, 282] (by decide +kernel) (by decide +kernel)
set_option maxRecDepth 20000 in
theorem gk_wsX11_force_r5 : GoodIn wsL_law wsX11_force_r5 := goodIn_r _ [283, 284, 285, 286, 287, 288, 289, 290, 291, 292, 293, 719, 295, 296, 297, 298, 299, 300, 301, 302, 303, 720, 721, 722] (by decide +kernel) (by decide +kernel)
set_option maxRecDepth 20000 in
theorem gk_wsX11_force_r6 : GoodIn wsL_law wsX11_force_r6 := goodIn_r _ [723, 724, 725, 726, 890, 891, 892, 893, 894, 895, 896] (by decide +kernel) (by decide +kernel)
set_option maxRecDepth 20000 in
theorem ggL_law_X11_force : GoodIn wsL_law wsX11_force := goodIn_app gk_X11_force_0 (goodIn_app (goodIn_app (goodIn_app (goodIn_app (goodIn_app (goodIn_app (goodIn_app (goodIn_app (goodIn_app (goodIn_app gk_wsX11_force_r1 (goodIn_app gk_wsX11_force_r2 (goodIn_app gk_wsX11_force_r3 (goodIn_app gk_wsX11_force_r4 (goodIn_app gk_wsX11_force_r5 gk_wsX11_force_r6))))) gku_X11) gku_X4) gku_X0) gku_X1) gku_X2) gku_X3) gku_X5) gku_X8) gku_X10)
set_option maxRecDepth 20000 in
theorem gL_law_X11_force : GoodIn wsL_law (wsV RL 94 RX11 yX11_force wsX11_force) := goodIn_app (goodIn_of _ (by decide +kernel)) ggL_law_X11_force
set_option maxRecDepth 20000 in
theorem gk_X12_force_0 : GoodIn wsL_law [.code yX12_force cX12_force 6 (some .int)] := goodIn_r _ [900] (by decide +kernel) (by decide +kernel)
set_option maxRecDepth 20000 in
theorem gk_wsX12_force_r1 : GoodIn wsL_law wsX12_force_r1 := goodIn_r _ [224, 225, 226, 5, 227, 228, 135, 136, 137, 901, 902, 903, 904, 138, 139, 140, 141, 94, 539, 540, 541, 524, 525, 526] (by decide +kernel) (by decide +kernel)
set_option maxRecDepth 20000 in
theorem gk_wsX12_force_r2 : GoodIn wsL_law wsX12_force_r2 := goodIn_r _ [527, 88, 513, 514, 515, 905, 906, 907, 908, 97, 809, 124, 125, 126, 100, 811, 812, 813, 814, 810, 710, 711, 314, 315] (by decide +kernel) (by decide +kernel)
set_option maxRecDepth 20000 in
theorem gk_wsX12_force_r3 : GoodIn wsL_law wsX12_force_r3 := goodIn_r _ [316, 317, 85, 87, 86, 471, 472, 473, 474, 91] (by decide +kernel) (by decide +kernel)
set_option maxRecDepth 20000 in
theorem ggL_law_X12_force : GoodIn wsL_law wsX12_force := goodIn_app gk_X12_force_0 (goodIn_app (goodIn_app gk_wsX12_force_r1 (goodIn_app gk_wsX12_force_r2 gk_wsX12_force_r3)) gku_X12)
