set_option maxRecDepth 20000 in
theorem ggX0_init_X3_init : GoodIn wsX0_init wsX3_init := goodIn_r _ [4, 5, 6, 7, 8, 9, 10, 11, 12, 13, 14, 15, 16, 17, 18, 19, 20, 21, 22, 23, 24, 25, 26, 27, 28, 29, 30, 31, 32, 33, 34, 35, 36, 37, 38, 39, 40, 41, 42, 43, 44, 45, 46, 47, 48, 49, 50, 51, 52, 53, 54, 55, 56, 57, 58, 59, 60, 61, 62, 63, 64, 65, 66, 67, 68, 69, 70, 71, 72, 73, 74, 75, 76, 77, 78, 79, 80, 81, 82, 83, 84] (by decide +kernel) (by decide +kernel)
set_option maxRecDepth 20000 in
theorem gX0_init_X3_init : GoodIn wsX0_init (wsX3_init) := ggX0_init_X3_init
theorem dX0_init_0 : decode cX0_init 0 = .ok (.aload_n 0, 1) := by decide +kernel
theorem dX0_init_1 : decode cX0_init 1 = .ok (.iload_n 1, 1) := by decide +kernel
theorem dX0_init_2 : decode cX0_init 2 = .ok (.iload_n 2, 1) := by decide +kernel
theorem dX0_init_3 : decode cX0_init 3 = .ok (.aload_n 3, 1) := by decide +kernel
theorem dX0_init_4 : decode cX0_init 4 = .ok (.invokespecial 1, 3) := by decide +kernel
theorem dX0_init_7 : decode cX0_init 7 = .ok (.return_, 1) := by decide +kernel
set_option maxRecDepth 20000 in
theorem ggX0_lossAt_X3_lossAt : GoodIn wsX0_lossAt wsX3_lossAt := goodIn_r _ [8, 9, 10, 11, 12, 13, 14, 15, 16, 17, 18, 19, 20, 21, 22, 23, 24, 25, 26, 27, 28, 29, 30, 31, 32, 33, 34, 35, 36, 37, 38, 39, 40, 41, 42, 43, 44, 45, 46, 47, 48, 49, 50, 51, 52, 53, 54, 55, 56, 57, 58, 59, 60, 61, 62, 63, 64, 65, 66, 67, 68, 69, 70, 71, 72, 73, 74, 75, 76, 77, 78] (by decide +kernel) (by decide +kernel)
set_option maxRecDepth 20000 in
theorem gX0_lossAt_X3_lossAt_s7 : GoodIn wsX0_lossAt (va_wsSU RX0 7 yX3_lossAt wsX3_lossAt) := goodIn_app (goodIn_of _ (by decide +kernel)) ggX0_lossAt_X3_lossAt
theorem dX0_lossAt_0 : decode cX0_lossAt 0 = .ok (.aload_n 0, 1) := by decide +kernel
theorem dX0_lossAt_1 : decode cX0_lossAt 1 = .ok (.iload_n 1, 1) := by decide +kernel
theorem dX0_lossAt_2 : decode cX0_lossAt 2 = .ok (.invokespecial 7, 3) := by decide +kernel
theorem dX0_lossAt_5 : decode cX0_lossAt 5 = .ok (.aload_n 0, 1) := by decide +kernel
theorem dX0_lossAt_6 : decode cX0_lossAt 6 = .ok (.getfield 11, 3) := by decide +kernel
theorem dX0_lossAt_9 : decode cX0_lossAt 9 = .ok (.iconst 1, 1) := by decide +kernel
theorem dX0_lossAt_10 : decode cX0_lossAt 10 = .ok (.iand, 1) := by decide +kernel
theorem dX0_lossAt_11 : decode cX0_lossAt 11 = .ok (.iadd, 1) := by decide +kernel
theorem dX0_lossAt_12 : decode cX0_lossAt 12 = .ok (.ireturn, 1) := by decide +kernel
set_option maxRecDepth 20000 in
theorem ggX0_looks_X9_began : GoodIn wsX0_looks wsX9_began := goodIn_r _ [7, 8, 9, 163, 164] (by decide +kernel) (by decide +kernel)
set_option maxRecDepth 20000 in
theorem gX0_looks_X9_began : GoodIn wsX0_looks (wsV RX0 21 RX9 yX9_began wsX9_began) := goodIn_app (goodIn_of _ (by decide +kernel)) ggX0_looks_X9_began
set_option maxRecDepth 20000 in
theorem ggX0_looks_X3_looks : GoodIn wsX0_looks wsX3_looks := goodIn_r _ [15, 16, 17, 18, 4, 5, 6, 7, 8, 9, 19, 20, 21, 22, 23, 24, 25, 26, 27, 28, 29, 30, 31, 32, 33, 34, 35, 36, 37, 14, 38, 39, 40, 41, 42, 43, 44, 45, 46, 47, 48, 49, 50, 51, 52, 53, 54, 55, 56, 57, 58, 59, 60, 61, 62, 63, 64, 65, 66, 67, 68, 69, 70, 71, 72, 73, 74, 75, 76, 77, 78, 79, 80, 81, 82, 83, 84, 85, 86, 87, 88, 89, 90, 91, 92, 93, 94, 95, 96, 97, 98, 99, 100, 101, 102, 103, 104, 105, 106, 107, 108, 109, 110, 111, 112, 113, 114, 115, 116, 117, 118, 119, 120, 121, 122, 123, 124, 125, 126, 127, 128, 129, 130, 131, 132, 133, 134, 135, 136, 137, 138, 139, 140, 141, 142, 143, 144, 145, 146, 147, 148, 149, 150, 151, 152, 153, 154, 155, 156, 157, 158, 159, 160, 161, 162, 163, 164] (by decide +kernel) (by decide +kernel)
set_option maxRecDepth 20000 in
theorem gX0_looks_X3_looks_s27 : GoodIn wsX0_looks (va_wsSU RX0 27 yX3_looks wsX3_looks) := goodIn_app (goodIn_of _ (by decide +kernel)) ggX0_looks_X3_looks
theorem dX0_looks_0 : decode cX0_looks 0 = .ok (.aload_n 0, 1) := by decide +kernel
theorem dX0_looks_1 : decode cX0_looks 1 = .ok (.getfield 17, 3) := by decide +kernel
theorem dX0_looks_4 : decode cX0_looks 4 = .ok (.bipush 60, 2) := by decide +kernel
theorem dX0_looks_6 : decode cX0_looks 6 = .ok (.invokevirtual 21, 3) := by decide +kernel
theorem dX0_looks_9 : decode cX0_looks 9 = .ok (.aload_n 0, 1) := by decide +kernel
theorem dX0_looks_10 : decode cX0_looks 10 = .ok (.iload_n 1, 1) := by decide +kernel
theorem dX0_looks_11 : decode cX0_looks 11 = .ok (.invokespecial 27, 3) := by decide +kernel
theorem dX0_looks_14 : decode cX0_looks 14 = .ok (.iconst 5, 1) := by decide +kernel
theorem dX0_looks_15 : decode cX0_looks 15 = .ok (.ixor, 1) := by decide +kernel
theorem dX0_looks_16 : decode cX0_looks 16 = .ok (.ireturn, 1) := by decide +kernel
set_option maxRecDepth 20000 in
theorem ggX1_init_X8_init : GoodIn wsX1_init wsX8_init := goodIn_r _ [4, 5, 6, 7, 8, 9, 10, 11, 12, 13, 14, 15, 16, 17, 18, 19, 20, 21, 22, 23, 24, 25, 26, 27, 28, 29, 30, 31, 32, 33, 34, 35, 36, 37, 38, 39, 40, 41, 42, 43, 44, 45, 46, 47, 48, 49, 50, 51, 52, 53, 54, 55, 56, 57, 58, 59, 60, 61, 62, 63, 64, 65, 66, 67, 68, 69, 70, 71, 72, 73, 74, 75, 76, 77, 78, 79, 80, 81, 82, 83, 84] (by decide +kernel) (by decide +kernel)
set_option maxRecDepth 20000 in
theorem gX1_init_X8_init : GoodIn wsX1_init (wsX8_init) := ggX1_init_X8_init
theorem dX1_init_0 : decode cX1_init 0 = .ok (.aload_n 0, 1) := by decide +kernel
theorem dX1_init_1 : decode cX1_init 1 = .ok (.iload_n 1, 1) := by decide +kernel
theorem dX1_init_2 : decode cX1_init 2 = .ok (.iload_n 2, 1) := by decide +kernel
theorem dX1_init_3 : decode cX1_init 3 = .ok (.aload_n 3, 1) := by decide +kernel
theorem dX1_init_4 : decode cX1_init 4 = .ok (.invokespecial 1, 3) := by decide +kernel
theorem dX1_init_7 : decode cX1_init 7 = .ok (.return_, 1) := by decide +kernel
set_option maxRecDepth 20000 in
theorem ggX1_lossAt_X8_lossAt : GoodIn wsX1_lossAt wsX8_lossAt := goodIn_r _ [8, 9, 10, 11, 12, 13, 14, 15, 16, 17, 18, 19, 20, 21, 22, 23, 24, 25, 26, 27, 28, 29, 30, 31, 32, 33, 34, 35, 36, 37, 38, 39, 40, 41, 42, 43, 44, 45, 46, 47, 48, 49, 50, 51, 52, 53, 54, 55, 56, 57, 58, 59, 60, 61, 62, 63, 64, 65, 66, 67, 68, 69, 70, 71, 72, 73, 74, 75, 76, 77, 78] (by decide +kernel) (by decide +kernel)
set_option maxRecDepth 20000 in
theorem gX1_lossAt_X8_lossAt_s7 : GoodIn wsX1_lossAt (va_wsSU RX1 7 yX8_lossAt wsX8_lossAt) := goodIn_app (goodIn_of _ (by decide +kernel)) ggX1_lossAt_X8_lossAt
theorem dX1_lossAt_0 : decode cX1_lossAt 0 = .ok (.aload_n 0, 1) := by decide +kernel
theorem dX1_lossAt_1 : decode cX1_lossAt 1 = .ok (.iload_n 1, 1) := by decide +kernel
theorem dX1_lossAt_2 : decode cX1_lossAt 2 = .ok (.invokespecial 7, 3) := by decide +kernel
theorem dX1_lossAt_5 : decode cX1_lossAt 5 = .ok (.iload_n 1, 1) := by decide +kernel
theorem dX1_lossAt_6 : decode cX1_lossAt 6 = .ok (.iconst 3, 1) := by decide +kernel
theorem dX1_lossAt_7 : decode cX1_lossAt 7 = .ok (.if_icmp .ne 10, 3) := by decide +kernel
theorem dX1_lossAt_10 : decode cX1_lossAt 10 = .ok (.aload_n 0, 1) := by decide +kernel
theorem dX1_lossAt_11 : decode cX1_lossAt 11 = .ok (.getfield 11, 3) := by decide +kernel
theorem dX1_lossAt_14 : decode cX1_lossAt 14 = .ok (.goto 4, 3) := by decide +kernel
theorem dX1_lossAt_17 : decode cX1_lossAt 17 = .ok (.iconst 0, 1) := by decide +kernel
theorem dX1_lossAt_18 : decode cX1_lossAt 18 = .ok (.iadd, 1) := by decide +kernel
theorem dX1_lossAt_19 : decode cX1_lossAt 19 = .ok (.ireturn, 1) := by decide +kernel
theorem dX1_driftOver_0 : decode cX1_driftOver 0 = .ok (.aload_n 0, 1) := by decide +kernel
theorem dX1_driftOver_1 : decode cX1_driftOver 1 = .ok (.getfield 11, 3) := by decide +kernel
theorem dX1_driftOver_4 : decode cX1_driftOver 4 = .ok (.iload_n 1, 1) := by decide +kernel
theorem dX1_driftOver_5 : decode cX1_driftOver 5 = .ok (.imul, 1) := by decide +kernel
theorem dX1_driftOver_6 : decode cX1_driftOver 6 = .ok (.iload_n 1, 1) := by decide +kernel
theorem dX1_driftOver_7 : decode cX1_driftOver 7 = .ok (.iconst 3, 1) := by decide +kernel
theorem dX1_driftOver_8 : decode cX1_driftOver 8 = .ok (.if_icmp .lt 7, 3) := by decide +kernel
theorem dX1_driftOver_11 : decode cX1_driftOver 11 = .ok (.iconst 1, 1) := by decide +kernel
theorem dX1_driftOver_12 : decode cX1_driftOver 12 = .ok (.goto 4, 3) := by decide +kernel
theorem dX1_driftOver_15 : decode cX1_driftOver 15 = .ok (.iconst 0, 1) := by decide +kernel
theorem dX1_driftOver_16 : decode cX1_driftOver 16 = .ok (.iadd, 1) := by decide +kernel
theorem dX1_driftOver_17 : decode cX1_driftOver 17 = .ok (.ireturn, 1) := by decide +kernel
set_option maxRecDepth 20000 in
theorem ggX1_lives_X9_began : GoodIn wsX1_lives wsX9_began := goodIn_r _ [7, 8, 9, 93, 94] (by decide +kernel) (by decide +kernel)
set_option maxRecDepth 20000 in
theorem gX1_lives_X9_began : GoodIn wsX1_lives (wsV RX1 21 RX9 yX9_began wsX9_began) := goodIn_app (goodIn_of _ (by decide +kernel)) ggX1_lives_X9_began
set_option maxRecDepth 20000 in
theorem ggX1_lives_X8_lives : GoodIn wsX1_lives wsX8_lives := goodIn_r _ [15, 16, 17, 18, 19, 20, 4, 5, 6, 7, 8, 9, 21, 22, 23, 24, 25, 26, 27, 28, 29, 30, 31, 32, 33, 34, 35, 36, 37, 38, 39, 40, 41, 42, 43, 44, 45, 46, 47, 48, 49, 50, 51, 52, 53, 54, 55, 56, 57, 58, 59, 60, 61, 62, 63, 64, 65, 66, 67, 68, 69, 70, 71, 72, 73, 74, 75, 76, 77, 78, 79, 80, 81, 82, 83, 84, 85, 86, 87, 88, 89, 90, 91, 92, 93, 94] (by decide +kernel) (by decide +kernel)
set_option maxRecDepth 20000 in
theorem gX1_lives_X8_lives_s27 : GoodIn wsX1_lives (va_wsSU RX1 27 yX8_lives wsX8_lives) := goodIn_app (goodIn_of _ (by decide +kernel)) ggX1_lives_X8_lives
theorem dX1_lives_0 : decode cX1_lives 0 = .ok (.aload_n 0, 1) := by decide +kernel
theorem dX1_lives_1 : decode cX1_lives 1 = .ok (.getfield 17, 3) := by decide +kernel
theorem dX1_lives_4 : decode cX1_lives 4 = .ok (.bipush 70, 2) := by decide +kernel
theorem dX1_lives_6 : decode cX1_lives 6 = .ok (.invokevirtual 21, 3) := by decide +kernel
theorem dX1_lives_9 : decode cX1_lives 9 = .ok (.aload_n 0, 1) := by decide +kernel
theorem dX1_lives_10 : decode cX1_lives 10 = .ok (.iload_n 1, 1) := by decide +kernel
theorem dX1_lives_11 : decode cX1_lives 11 = .ok (.invokespecial 27, 3) := by decide +kernel
theorem dX1_lives_14 : decode cX1_lives 14 = .ok (.iconst 2, 1) := by decide +kernel
theorem dX1_lives_15 : decode cX1_lives 15 = .ok (.imul, 1) := by decide +kernel
theorem dX1_lives_16 : decode cX1_lives 16 = .ok (.ireturn, 1) := by decide +kernel
set_option maxRecDepth 20000 in
theorem ggX1_goes_X9_began : GoodIn wsX1_goes wsX9_began := goodIn_r _ [9, 10, 11, 75, 76] (by decide +kernel) (by decide +kernel)
set_option maxRecDepth 20000 in
theorem gX1_goes_X9_began : GoodIn wsX1_goes (wsV RX1 21 RX9 yX9_began wsX9_began) := goodIn_app (goodIn_of _ (by decide +kernel)) ggX1_goes_X9_began
theorem dX1_goes_0 : decode cX1_goes 0 = .ok (.aload_n 0, 1) := by decide +kernel
theorem dX1_goes_1 : decode cX1_goes 1 = .ok (.getfield 17, 3) := by decide +kernel
theorem dX1_goes_4 : decode cX1_goes 4 = .ok (.bipush 71, 2) := by decide +kernel
theorem dX1_goes_6 : decode cX1_goes 6 = .ok (.invokevirtual 21, 3) := by decide +kernel
theorem dX1_goes_9 : decode cX1_goes 9 = .ok (.aload_n 0, 1) := by decide +kernel
theorem dX1_goes_10 : decode cX1_goes 10 = .ok (.iload_n 1, 1) := by decide +kernel
theorem dX1_goes_11 : decode cX1_goes 11 = .ok (.aload_n 0, 1) := by decide +kernel
theorem dX1_goes_12 : decode cX1_goes 12 = .ok (.getfield 11, 3) := by decide +kernel
theorem dX1_goes_15 : decode cX1_goes 15 = .ok (.isub, 1) := by decide +kernel
theorem dX1_goes_16 : decode cX1_goes 16 = .ok (.invokespecial 30, 3) := by decide +kernel
theorem dX1_goes_19 : decode cX1_goes 19 = .ok (.ireturn, 1) := by decide +kernel
set_option maxRecDepth 20000 in
theorem ggX2_init_X5_init : GoodIn wsX2_init wsX5_init := goodIn_r _ [4, 5, 6, 7, 8, 9, 10, 11, 12, 13, 14, 15, 16, 17, 18, 19, 20, 21, 22, 23, 24, 25, 26, 27, 28, 29, 30, 31, 32, 33, 34, 35, 36, 37, 38, 39, 40, 41, 42, 43, 44, 45, 46, 47, 48, 49, 50, 51, 52, 53, 54, 55, 56, 57, 58, 59, 60, 61, 62, 63, 64, 65, 66, 67, 68, 69, 70, 71, 72, 73, 74, 75, 76, 77, 78, 79, 80] (by decide +kernel) (by decide +kernel)
set_option maxRecDepth 20000 in
theorem gX2_init_X5_init : GoodIn wsX2_init (wsX5_init) := ggX2_init_X5_init
theorem dX2_init_0 : decode cX2_init 0 = .ok (.aload_n 0, 1) := by decide +kernel
theorem dX2_init_1 : decode cX2_init 1 = .ok (.iload_n 1, 1) := by decide +kernel
theorem dX2_init_2 : decode cX2_init 2 = .ok (.iload_n 2, 1) := by decide +kernel
theorem dX2_init_3 : decode cX2_init 3 = .ok (.aload_n 3, 1) := by decide +kernel
theorem dX2_init_4 : decode cX2_init 4 = .ok (.invokespecial 1, 3) := by decide +kernel
theorem dX2_init_7 : decode cX2_init 7 = .ok (.return_, 1) := by decide +kernel
set_option maxRecDepth 20000 in
theorem ggX2_lossAt_X5_lossAt : GoodIn wsX2_lossAt wsX5_lossAt := goodIn_r _ [6, 7, 8, 9, 10, 11, 12, 13, 14, 15, 16, 17, 18, 19, 20, 21, 22, 23, 24, 25, 26, 27, 28, 29, 30, 31, 32, 33, 34, 35, 36, 37, 38, 39, 40, 41, 42, 43, 44, 45, 46, 47, 48, 49, 50, 51, 52, 53, 54, 55, 56, 57, 58, 59, 60, 61, 62, 63, 64, 65, 66, 67, 68, 69, 70] (by decide +kernel) (by decide +kernel)
set_option maxRecDepth 20000 in
theorem gX2_lossAt_X5_lossAt_s7 : GoodIn wsX2_lossAt (va_wsSU RX2 7 yX5_lossAt wsX5_lossAt) := goodIn_app (goodIn_of _ (by decide +kernel)) ggX2_lossAt_X5_lossAt
theorem dX2_lossAt_0 : decode cX2_lossAt 0 = .ok (.aload_n 0, 1) := by decide +kernel
theorem dX2_lossAt_1 : decode cX2_lossAt 1 = .ok (.iload_n 1, 1) := by decide +kernel
theorem dX2_lossAt_2 : decode cX2_lossAt 2 = .ok (.invokespecial 7, 3) := by decide +kernel
theorem dX2_lossAt_5 : decode cX2_lossAt 5 = .ok (.iconst 2, 1) := by decide +kernel
theorem dX2_lossAt_6 : decode cX2_lossAt 6 = .ok (.iadd, 1) := by decide +kernel
theorem dX2_lossAt_7 : decode cX2_lossAt 7 = .ok (.ireturn, 1) := by decide +kernel
set_option maxRecDepth 20000 in
theorem ggX2_goes_X9_began : GoodIn wsX2_goes wsX9_began := goodIn_r _ [7, 8, 9, 124, 125] (by decide +kernel) (by decide +kernel)
set_option maxRecDepth 20000 in
theorem gX2_goes_X9_began : GoodIn wsX2_goes (wsV RX2 17 RX9 yX9_began wsX9_began) := goodIn_app (goodIn_of _ (by decide +kernel)) ggX2_goes_X9_began
set_option maxRecDepth 20000 in
theorem ggX2_goes_X5_goes : GoodIn wsX2_goes wsX5_goes := goodIn_r _ [15, 16, 17, 4, 5, 6, 7, 8, 9, 18, 19, 20, 21, 22, 23, 24, 25, 26, 27, 28, 29, 30, 31, 32, 14, 33, 34, 35, 36, 37, 38, 39, 40, 41, 42, 43, 44, 45, 46, 47, 48, 49, 50, 51, 52, 53, 54, 55, 56, 57, 58, 59, 60, 61, 62, 63, 64, 65, 66, 67, 68, 69, 70, 71, 72, 73, 74, 75, 76, 77, 78, 79, 80, 81, 82, 83, 84, 85, 86, 87, 88, 89, 90, 91, 92, 93, 94, 95, 96, 97, 98, 99, 100, 101, 102, 103, 104, 105, 106, 107, 108, 109, 110, 111, 112, 113, 114, 115, 116, 117, 118, 119, 120, 121, 122, 123, 124, 125] (by decide +kernel) (by decide +kernel)
set_option maxRecDepth 20000 in
theorem gX2_goes_X5_goes_s23 : GoodIn wsX2_goes (va_wsSU RX2 23 yX5_goes wsX5_goes) := goodIn_app (goodIn_of _ (by decide +kernel)) ggX2_goes_X5_goes
theorem dX2_goes_0 : decode cX2_goes 0 = .ok (.aload_n 0, 1) := by decide +kernel
theorem dX2_goes_1 : decode cX2_goes 1 = .ok (.getfield 11, 3) := by decide +kernel
theorem dX2_goes_4 : decode cX2_goes 4 = .ok (.bipush 30, 2) := by decide +kernel
theorem dX2_goes_6 : decode cX2_goes 6 = .ok (.invokevirtual 17, 3) := by decide +kernel
theorem dX2_goes_9 : decode cX2_goes 9 = .ok (.aload_n 0, 1) := by decide +kernel
theorem dX2_goes_10 : decode cX2_goes 10 = .ok (.iload_n 1, 1) := by decide +kernel
theorem dX2_goes_11 : decode cX2_goes 11 = .ok (.invokespecial 23, 3) := by decide +kernel
theorem dX2_goes_14 : decode cX2_goes 14 = .ok (.iconst 3, 1) := by decide +kernel
theorem dX2_goes_15 : decode cX2_goes 15 = .ok (.imul, 1) := by decide +kernel
theorem dX2_goes_16 : decode cX2_goes 16 = .ok (.ireturn, 1) := by decide +kernel
set_option maxRecDepth 20000 in
theorem ggX3_init_X5_init : GoodIn wsX3_init wsX5_init := goodIn_r _ [4, 5, 6, 7, 8, 9, 10, 11, 12, 13, 14, 15, 16, 17, 18, 19, 20, 21, 22, 23, 24, 25, 26, 27, 28, 29, 30, 31, 32, 33, 34, 35, 36, 37, 38, 39, 40, 41, 42, 43, 44, 45, 46, 47, 48, 49, 50, 51, 52, 53, 54, 55, 56, 57, 58, 59, 60, 61, 62, 63, 64, 65, 66, 67, 68, 69, 70, 71, 72, 73, 74, 75, 76, 77, 78, 79, 80] (by decide +kernel) (by decide +kernel)
set_option maxRecDepth 20000 in
theorem gX3_init_X5_init : GoodIn wsX3_init (wsX5_init) := ggX3_init_X5_init
theorem dX3_init_0 : decode cX3_init 0 = .ok (.aload_n 0, 1) := by decide +kernel
theorem dX3_init_1 : decode cX3_init 1 = .ok (.iload_n 1, 1) := by decide +kernel
theorem dX3_init_2 : decode cX3_init 2 = .ok (.iload_n 2, 1) := by decide +kernel
theorem dX3_init_3 : decode cX3_init 3 = .ok (.aload_n 3, 1) := by decide +kernel
theorem dX3_init_4 : decode cX3_init 4 = .ok (.invokespecial 1, 3) := by decide +kernel
theorem dX3_init_7 : decode cX3_init 7 = .ok (.return_, 1) := by decide +kernel
set_option maxRecDepth 20000 in
theorem ggX3_lossAt_X5_lossAt : GoodIn wsX3_lossAt wsX5_lossAt := goodIn_r _ [6, 7, 8, 9, 10, 11, 12, 13, 14, 15, 16, 17, 18, 19, 20, 21, 22, 23, 24, 25, 26, 27, 28, 29, 30, 31, 32, 33, 34, 35, 36, 37, 38, 39, 40, 41, 42, 43, 44, 45, 46, 47, 48, 49, 50, 51, 52, 53, 54, 55, 56, 57, 58, 59, 60, 61, 62, 63, 64, 65, 66, 67, 68, 69, 70] (by decide +kernel) (by decide +kernel)
set_option maxRecDepth 20000 in
theorem gX3_lossAt_X5_lossAt_s7 : GoodIn wsX3_lossAt (va_wsSU RX3 7 yX5_lossAt wsX5_lossAt) := goodIn_app (goodIn_of _ (by decide +kernel)) ggX3_lossAt_X5_lossAt
theorem dX3_lossAt_0 : decode cX3_lossAt 0 = .ok (.aload_n 0, 1) := by decide +kernel
theorem dX3_lossAt_1 : decode cX3_lossAt 1 = .ok (.iload_n 1, 1) := by decide +kernel
theorem dX3_lossAt_2 : decode cX3_lossAt 2 = .ok (.invokespecial 7, 3) := by decide +kernel
theorem dX3_lossAt_5 : decode cX3_lossAt 5 = .ok (.iconst 2, 1) := by decide +kernel
theorem dX3_lossAt_6 : decode cX3_lossAt 6 = .ok (.idiv, 1) := by decide +kernel
theorem dX3_lossAt_7 : decode cX3_lossAt 7 = .ok (.ireturn, 1) := by decide +kernel
set_option maxRecDepth 20000 in
theorem ggX3_looks_X9_began : GoodIn wsX3_looks wsX9_began := goodIn_r _ [7, 8, 9, 155, 156] (by decide +kernel) (by decide +kernel)
set_option maxRecDepth 20000 in
theorem gX3_looks_X9_began : GoodIn wsX3_looks (wsV RX3 17 RX9 yX9_began wsX9_began) := goodIn_app (goodIn_of _ (by decide +kernel)) ggX3_looks_X9_began
set_option maxRecDepth 20000 in
theorem ggX3_looks_X5_looks : GoodIn wsX3_looks wsX5_looks := goodIn_r _ [15, 16, 17, 18, 4, 5, 6, 7, 8, 9, 19, 20, 21, 22, 14, 23, 24, 25, 26, 27, 28, 29, 30, 1, 2, 31, 32, 3, 33, 12, 34, 35, 36, 37, 38, 39, 40, 41, 42, 43, 44, 45, 46, 47, 48, 49, 50, 51, 52, 53, 54, 55, 56, 57, 58, 59, 60, 61, 62, 63, 64, 65, 66, 67, 68, 69, 70, 71, 72, 73, 74, 75, 76, 77, 78, 79, 80, 81, 82, 83, 84, 85, 86, 87, 88, 89, 90, 91, 92, 93, 94, 95, 96, 97, 98, 99, 100, 101, 102, 103, 104, 105, 106, 107, 108, 109, 110, 111, 112, 113, 114, 115, 116, 117, 118, 119, 120, 121, 122, 123, 124, 125, 126, 127, 128, 129, 130, 131, 132, 133, 134, 135, 136, 137, 138, 139, 140, 141, 142, 143, 144, 145, 146, 147, 148, 149, 150, 151, 152, 153, 154, 155, 156] (by decide +kernel) (by decide +kernel)
set_option maxRecDepth 20000 in
theorem gX3_looks_X5_looks_s23 : GoodIn wsX3_looks (va_wsSU RX3 23 yX5_looks wsX5_looks) := goodIn_app (goodIn_of _ (by decide +kernel)) ggX3_looks_X5_looks
theorem dX3_looks_0 : decode cX3_looks 0 = .ok (.aload_n 0, 1) := by decide +kernel
theorem dX3_looks_1 : decode cX3_looks 1 = .ok (.getfield 11, 3) := by decide +kernel
theorem dX3_looks_4 : decode cX3_looks 4 = .ok (.bipush 50, 2) := by decide +kernel
theorem dX3_looks_6 : decode cX3_looks 6 = .ok (.invokevirtual 17, 3) := by decide +kernel
theorem dX3_looks_9 : decode cX3_looks 9 = .ok (.aload_n 0, 1) := by decide +kernel
theorem dX3_looks_10 : decode cX3_looks 10 = .ok (.iload_n 1, 1) := by decide +kernel
theorem dX3_looks_11 : decode cX3_looks 11 = .ok (.invokespecial 23, 3) := by decide +kernel
theorem dX3_looks_14 : decode cX3_looks 14 = .ok (.ineg, 1) := by decide +kernel
theorem dX3_looks_15 : decode cX3_looks 15 = .ok (.ireturn, 1) := by decide +kernel
set_option maxRecDepth 20000 in
theorem ggX3_lives_X9_began : GoodIn wsX3_lives wsX9_began := goodIn_r _ [9, 10, 11, 84, 85] (by decide +kernel) (by decide +kernel)
set_option maxRecDepth 20000 in
theorem gX3_lives_X9_began : GoodIn wsX3_lives (wsV RX3 17 RX9 yX9_began wsX9_began) := goodIn_app (goodIn_of _ (by decide +kernel)) ggX3_lives_X9_began
set_option maxRecDepth 20000 in
theorem ggX3_lives_X5_lives : GoodIn wsX3_lives wsX5_lives := goodIn_r _ [17, 18, 19, 20, 6, 7, 8, 9, 10, 11, 21, 22, 23, 24, 25, 26, 27, 28, 29, 30, 31, 32, 33, 34, 35, 36, 37, 38, 39, 40, 41, 42, 43, 44, 45, 46, 47, 48, 49, 50, 51, 52, 53, 54, 55, 56, 57, 58, 59, 60, 61, 62, 63, 64, 65, 66, 67, 68, 69, 70, 71, 72, 73, 74, 75, 76, 77, 78, 79, 80, 81, 82, 83, 84, 85] (by decide +kernel) (by decide +kernel)
set_option maxRecDepth 20000 in
theorem gX3_lives_X5_lives_s26 : GoodIn wsX3_lives (va_wsSU RX3 26 yX5_lives wsX5_lives) := goodIn_app (goodIn_of _ (by decide +kernel)) ggX3_lives_X5_lives
theorem dX3_lives_0 : decode cX3_lives 0 = .ok (.aload_n 0, 1) := by decide +kernel
theorem dX3_lives_1 : decode cX3_lives 1 = .ok (.getfield 11, 3) := by decide +kernel
theorem dX3_lives_4 : decode cX3_lives 4 = .ok (.bipush 51, 2) := by decide +kernel
theorem dX3_lives_6 : decode cX3_lives 6 = .ok (.invokevirtual 17, 3) := by decide +kernel
theorem dX3_lives_9 : decode cX3_lives 9 = .ok (.aload_n 0, 1) := by decide +kernel
theorem dX3_lives_10 : decode cX3_lives 10 = .ok (.iload_n 1, 1) := by decide +kernel
theorem dX3_lives_11 : decode cX3_lives 11 = .ok (.invokespecial 26, 3) := by decide +kernel
theorem dX3_lives_14 : decode cX3_lives 14 = .ok (.aload_n 0, 1) := by decide +kernel
theorem dX3_lives_15 : decode cX3_lives 15 = .ok (.getfield 29, 3) := by decide +kernel
theorem dX3_lives_18 : decode cX3_lives 18 = .ok (.isub, 1) := by decide +kernel
theorem dX3_lives_19 : decode cX3_lives 19 = .ok (.ireturn, 1) := by decide +kernel
theorem dX4_init_0 : decode cX4_init 0 = .ok (.aload_n 0, 1) := by decide +kernel
theorem dX4_init_1 : decode cX4_init 1 = .ok (.invokespecial 3, 3) := by decide +kernel
theorem dX4_init_4 : decode cX4_init 4 = .ok (.aload_n 0, 1) := by decide +kernel
theorem dX4_init_5 : decode cX4_init 5 = .ok (.bipush 6, 2) := by decide +kernel
theorem dX4_init_7 : decode cX4_init 7 = .ok (.anewarray 9, 3) := by decide +kernel
theorem dX4_init_10 : decode cX4_init 10 = .ok (.putfield 11, 3) := by decide +kernel
theorem dX4_init_13 : decode cX4_init 13 = .ok (.aload_n 0, 1) := by decide +kernel
theorem dX4_init_14 : decode cX4_init 14 = .ok (.bipush 6, 2) := by decide +kernel
theorem dX4_init_16 : decode cX4_init 16 = .ok (.newarray .int, 2) := by decide +kernel
theorem dX4_init_18 : decode cX4_init 18 = .ok (.putfield 17, 3) := by decide +kernel
theorem dX4_init_21 : decode cX4_init 21 = .ok (.aload_n 0, 1) := by decide +kernel
theorem dX4_init_22 : decode cX4_init 22 = .ok (.iconst 0, 1) := by decide +kernel
theorem dX4_init_23 : decode cX4_init 23 = .ok (.putfield 21, 3) := by decide +kernel
theorem dX4_init_26 : decode cX4_init 26 = .ok (.aload_n 0, 1) := by decide +kernel
theorem dX4_init_27 : decode cX4_init 27 = .ok (.bipush 10, 2) := by decide +kernel
theorem dX4_init_29 : decode cX4_init 29 = .ok (.putfield 25, 3) := by decide +kernel
theorem dX4_init_32 : decode cX4_init 32 = .ok (.aload_n 0, 1) := by decide +kernel
theorem dX4_init_33 : decode cX4_init 33 = .ok (.iconst 1, 1) := by decide +kernel
theorem dX4_init_34 : decode cX4_init 34 = .ok (.putfield 28, 3) := by decide +kernel
theorem dX4_init_37 : decode cX4_init 37 = .ok (.aload_n 0, 1) := by decide +kernel
theorem dX4_init_38 : decode cX4_init 38 = .ok (.aload_n 1, 1) := by decide +kernel
theorem dX4_init_39 : decode cX4_init 39 = .ok (.putfield 31, 3) := by decide +kernel
theorem dX4_init_42 : decode cX4_init 42 = .ok (.return_, 1) := by decide +kernel
theorem dX4_hasRoom_0 : decode cX4_hasRoom 0 = .ok (.aload_n 0, 1) := by decide +kernel
theorem dX4_hasRoom_1 : decode cX4_hasRoom 1 = .ok (.getfield 21, 3) := by decide +kernel
theorem dX4_hasRoom_4 : decode cX4_hasRoom 4 = .ok (.bipush 6, 2) := by decide +kernel
theorem dX4_hasRoom_6 : decode cX4_hasRoom 6 = .ok (.if_icmp .ge 7, 3) := by decide +kernel
theorem dX4_hasRoom_9 : decode cX4_hasRoom 9 = .ok (.iconst 1, 1) := by decide +kernel
theorem dX4_hasRoom_10 : decode cX4_hasRoom 10 = .ok (.goto 4, 3) := by decide +kernel
theorem dX4_hasRoom_13 : decode cX4_hasRoom 13 = .ok (.iconst 0, 1) := by decide +kernel
theorem dX4_hasRoom_14 : decode cX4_hasRoom 14 = .ok (.ireturn, 1) := by decide +kernel
theorem dX4_personAt_0 : decode cX4_personAt 0 = .ok (.iload_n 1, 1) := by decide +kernel
theorem dX4_personAt_1 : decode cX4_personAt 1 = .ok (.ifCond .lt 17, 3) := by decide +kernel
theorem dX4_personAt_4 : decode cX4_personAt 4 = .ok (.iload_n 1, 1) := by decide +kernel
theorem dX4_personAt_5 : decode cX4_personAt 5 = .ok (.aload_n 0, 1) := by decide +kernel
theorem dX4_personAt_6 : decode cX4_personAt 6 = .ok (.getfield 21, 3) := by decide +kernel
theorem dX4_personAt_9 : decode cX4_personAt 9 = .ok (.if_icmp .ge 9, 3) := by decide +kernel
theorem dX4_personAt_12 : decode cX4_personAt 12 = .ok (.iload_n 1, 1) := by decide +kernel
theorem dX4_personAt_13 : decode cX4_personAt 13 = .ok (.bipush 6, 2) := by decide +kernel
theorem dX4_personAt_15 : decode cX4_personAt 15 = .ok (.if_icmp .lt 7, 3) := by decide +kernel
theorem dX4_personAt_18 : decode cX4_personAt 18 = .ok (.aconst_null, 1) := by decide +kernel
theorem dX4_personAt_19 : decode cX4_personAt 19 = .ok (.goto 9, 3) := by decide +kernel
theorem dX4_personAt_22 : decode cX4_personAt 22 = .ok (.aload_n 0, 1) := by decide +kernel
theorem dX4_personAt_23 : decode cX4_personAt 23 = .ok (.getfield 11, 3) := by decide +kernel
theorem dX4_personAt_26 : decode cX4_personAt 26 = .ok (.iload_n 1, 1) := by decide +kernel
theorem dX4_personAt_27 : decode cX4_personAt 27 = .ok (.aaload, 1) := by decide +kernel
theorem dX4_personAt_28 : decode cX4_personAt 28 = .ok (.areturn, 1) := by decide +kernel
set_option maxRecDepth 20000 in
theorem ggX4_placeFor_X8_init : GoodIn wsX4_placeFor wsX8_init := goodIn_r _ [27, 28, 29, 24, 30, 31, 32, 33, 34, 35, 36, 37, 38, 39, 40, 41, 42, 43, 71, 72, 73, 74, 75, 76, 77, 78, 79, 80, 81, 82, 83, 84, 85, 86, 87, 88, 89, 90, 91, 92, 93, 94, 95, 96, 97, 98, 99, 100, 101, 102, 103, 104, 105, 106, 107, 108, 109, 110, 111, 112, 113, 114, 115, 116, 117, 118, 119, 120, 121, 122, 123, 124, 125, 126, 127, 128, 129, 130, 131, 132, 133] (by decide +kernel) (by decide +kernel)
set_option maxRecDepth 20000 in
theorem gX4_placeFor_X8_init : GoodIn wsX4_placeFor (wsX8_init) := ggX4_placeFor_X8_init
set_option maxRecDepth 20000 in
theorem ggX4_placeFor_X2_init : GoodIn wsX4_placeFor wsX2_init := goodIn_r _ [46, 47, 29, 24, 30, 31, 32, 33, 34, 35, 36, 37, 38, 39, 40, 41, 42, 43, 71, 72, 73, 74, 75, 76, 77, 78, 79, 80, 81, 82, 83, 84, 85, 86, 87, 88, 89, 90, 91, 92, 93, 94, 95, 96, 97, 98, 99, 100, 101, 102, 103, 104, 105, 106, 107, 108, 109, 110, 111, 112, 113, 114, 115, 116, 117, 118, 119, 120, 121, 122, 123, 124, 125, 126, 127, 128, 129, 130, 131, 132, 133] (by decide +kernel) (by decide +kernel)
set_option maxRecDepth 20000 in
theorem gX4_placeFor_X2_init : GoodIn wsX4_placeFor (wsX2_init) := ggX4_placeFor_X2_init
set_option maxRecDepth 20000 in
theorem ggX4_placeFor_X10_init : GoodIn wsX4_placeFor wsX10_init := goodIn_r _ [50, 51, 45, 9, 46, 47, 29, 24, 30, 31, 32, 33, 34, 35, 36, 37, 38, 39, 40, 41, 42, 43, 71, 72, 73, 74, 75, 76, 77, 78, 79, 80, 81, 82, 83, 84, 85, 86, 87, 88, 89, 90, 91, 92, 93, 94, 95, 96, 97, 98, 99, 100, 101, 102, 103, 104, 105, 106, 107, 108, 109, 110, 111, 112, 113, 114, 115, 116, 117, 118, 119, 120, 121, 122, 123, 124, 125, 126, 127, 128, 129, 130, 131, 132, 133] (by decide +kernel) (by decide +kernel)
set_option maxRecDepth 20000 in
theorem gX4_placeFor_X10_init : GoodIn wsX4_placeFor (wsX10_init) := ggX4_placeFor_X10_init
set_option maxRecDepth 20000 in
theorem ggX4_placeFor_X3_init : GoodIn wsX4_placeFor wsX3_init := goodIn_r _ [54, 55, 29, 24, 30, 31, 32, 33, 34, 35, 36, 37, 38, 39, 40, 41, 42, 43, 71, 72, 73, 74, 75, 76, 77, 78, 79, 80, 81, 82, 83, 84, 85, 86, 87, 88, 89, 90, 91, 92, 93, 94, 95, 96, 97, 98, 99, 100, 101, 102, 103, 104, 105, 106, 107, 108, 109, 110, 111, 112, 113, 114, 115, 116, 117, 118, 119, 120, 121, 122, 123, 124, 125, 126, 127, 128, 129, 130, 131, 132, 133] (by decide +kernel) (by decide +kernel)
set_option maxRecDepth 20000 in
theorem gX4_placeFor_X3_init : GoodIn wsX4_placeFor (wsX3_init) := ggX4_placeFor_X3_init
set_option maxRecDepth 20000 in
theorem ggX4_placeFor_X0_init : GoodIn wsX4_placeFor wsX0_init := goodIn_r _ [58, 59, 53, 15, 54, 55, 29, 24, 30, 31, 32, 33, 34, 35, 36, 37, 38, 39, 40, 41, 42, 43, 71, 72, 73, 74, 75, 76, 77, 78, 79, 80, 81, 82, 83, 84, 85, 86, 87, 88, 89, 90, 91, 92, 93, 94, 95, 96, 97, 98, 99, 100, 101, 102, 103, 104, 105, 106, 107, 108, 109, 110, 111, 112, 113, 114, 115, 116, 117, 118, 119, 120, 121, 122, 123, 124, 125, 126, 127, 128, 129, 130, 131, 132, 133] (by decide +kernel) (by decide +kernel)
set_option maxRecDepth 20000 in
theorem gX4_placeFor_X0_init : GoodIn wsX4_placeFor (wsX0_init) := ggX4_placeFor_X0_init
set_option maxRecDepth 20000 in
theorem ggX4_placeFor_X1_init : GoodIn wsX4_placeFor wsX1_init := goodIn_r _ [62, 63, 26, 5, 27, 28, 29, 24, 30, 31, 32, 33, 34, 35, 36, 37, 38, 39, 40, 41, 42, 43, 71, 72, 73, 74, 75, 76, 77, 78, 79, 80, 81, 82, 83, 84, 85, 86, 87, 88, 89, 90, 91, 92, 93, 94, 95, 96, 97, 98, 99, 100, 101, 102, 103, 104, 105, 106, 107, 108, 109, 110, 111, 112, 113, 114, 115, 116, 117, 118, 119, 120, 121, 122, 123, 124, 125, 126, 127, 128, 129, 130, 131, 132, 133] (by decide +kernel) (by decide +kernel)
set_option maxRecDepth 20000 in
theorem gX4_placeFor_X1_init : GoodIn wsX4_placeFor (wsX1_init) := ggX4_placeFor_X1_init
set_option maxRecDepth 20000 in
theorem ggX4_placeFor_X5_init : GoodIn wsX4_placeFor wsX5_init := goodIn_r _ [30, 31, 32, 33, 34, 35, 36, 37, 38, 39, 40, 41, 42, 43, 71, 72, 73, 74, 75, 76, 77, 78, 79, 80, 81, 82, 83, 84, 85, 86, 87, 88, 89, 90, 91, 92, 93, 94, 95, 96, 97, 98, 99, 100, 101, 102, 103, 104, 105, 106, 107, 108, 109, 110, 111, 112, 113, 114, 115, 116, 117, 118, 119, 120, 121, 122, 123, 124, 125, 126, 127, 128, 129, 130, 131, 132, 133] (by decide +kernel) (by decide +kernel)
set_option maxRecDepth 20000 in
theorem gX4_placeFor_X5_init : GoodIn wsX4_placeFor (wsX5_init) := ggX4_placeFor_X5_init
theorem dX4_placeFor_0 : decode cX4_placeFor 0 = .ok (.iload_n 1, 1) := by decide +kernel
theorem dX4_placeFor_1 : decode cX4_placeFor 1 = .ok (.ifCond .lt 9, 3) := by decide +kernel
theorem dX4_placeFor_4 : decode cX4_placeFor 4 = .ok (.iload_n 1, 1) := by decide +kernel
theorem dX4_placeFor_5 : decode cX4_placeFor 5 = .ok (.bipush 6, 2) := by decide +kernel
theorem dX4_placeFor_7 : decode cX4_placeFor 7 = .ok (.if_icmp .lt 5, 3) := by decide +kernel
theorem dX4_placeFor_10 : decode cX4_placeFor 10 = .ok (.aconst_null, 1) := by decide +kernel
theorem dX4_placeFor_11 : decode cX4_placeFor 11 = .ok (.areturn, 1) := by decide +kernel
theorem dX4_placeFor_12 : decode cX4_placeFor 12 = .ok (.aload_n 0, 1) := by decide +kernel
theorem dX4_placeFor_13 : decode cX4_placeFor 13 = .ok (.getfield 11, 3) := by decide +kernel
theorem dX4_placeFor_16 : decode cX4_placeFor 16 = .ok (.iload_n 1, 1) := by decide +kernel
theorem dX4_placeFor_17 : decode cX4_placeFor 17 = .ok (.aaload, 1) := by decide +kernel
theorem dX4_placeFor_18 : decode cX4_placeFor 18 = .ok (.astore_n 3, 1) := by decide +kernel
theorem dX4_placeFor_19 : decode cX4_placeFor 19 = .ok (.aload_n 3, 1) := by decide +kernel
theorem dX4_placeFor_20 : decode cX4_placeFor 20 = .ok (.ifnull 13, 3) := by decide +kernel
theorem dX4_placeFor_23 : decode cX4_placeFor 23 = .ok (.aload_n 3, 1) := by decide +kernel
theorem dX4_placeFor_24 : decode cX4_placeFor 24 = .ok (.getfield 35, 3) := by decide +kernel
theorem dX4_placeFor_27 : decode cX4_placeFor 27 = .ok (.iload_n 2, 1) := by decide +kernel
theorem dX4_placeFor_28 : decode cX4_placeFor 28 = .ok (.if_icmp .ne 5, 3) := by decide +kernel
theorem dX4_placeFor_31 : decode cX4_placeFor 31 = .ok (.aload_n 3, 1) := by decide +kernel
theorem dX4_placeFor_32 : decode cX4_placeFor 32 = .ok (.areturn, 1) := by decide +kernel
theorem dX4_placeFor_33 : decode cX4_placeFor 33 = .ok (.iload_n 2, 1) := by decide +kernel
theorem dX4_placeFor_34 : decode cX4_placeFor 34 = .ok (.tableswitch 140 1 6 #[38, 55, 72, 89, 106, 123], 38) := by decide +kernel
theorem dX4_placeFor_72 : decode cX4_placeFor 72 = .ok (.new 38, 3) := by decide +kernel
theorem dX4_placeFor_75 : decode cX4_placeFor 75 = .ok (.dup, 1) := by decide +kernel
theorem dX4_placeFor_76 : decode cX4_placeFor 76 = .ok (.iload_n 2, 1) := by decide +kernel
theorem dX4_placeFor_77 : decode cX4_placeFor 77 = .ok (.iload_n 1, 1) := by decide +kernel
theorem dX4_placeFor_78 : decode cX4_placeFor 78 = .ok (.aload_n 0, 1) := by decide +kernel
theorem dX4_placeFor_79 : decode cX4_placeFor 79 = .ok (.getfield 31, 3) := by decide +kernel
theorem dX4_placeFor_82 : decode cX4_placeFor 82 = .ok (.invokespecial 40, 3) := by decide +kernel
theorem dX4_placeFor_85 : decode cX4_placeFor 85 = .ok (.astore_n 3, 1) := by decide +kernel
theorem dX4_placeFor_86 : decode cX4_placeFor 86 = .ok (.goto 102, 3) := by decide +kernel
theorem dX4_placeFor_89 : decode cX4_placeFor 89 = .ok (.new 43, 3) := by decide +kernel
theorem dX4_placeFor_92 : decode cX4_placeFor 92 = .ok (.dup, 1) := by decide +kernel
theorem dX4_placeFor_93 : decode cX4_placeFor 93 = .ok (.iload_n 2, 1) := by decide +kernel
theorem dX4_placeFor_94 : decode cX4_placeFor 94 = .ok (.iload_n 1, 1) := by decide +kernel
theorem dX4_placeFor_95 : decode cX4_placeFor 95 = .ok (.aload_n 0, 1) := by decide +kernel
theorem dX4_placeFor_96 : decode cX4_placeFor 96 = .ok (.getfield 31, 3) := by decide +kernel
theorem dX4_placeFor_99 : decode cX4_placeFor 99 = .ok (.invokespecial 45, 3) := by decide +kernel
theorem dX4_placeFor_102 : decode cX4_placeFor 102 = .ok (.astore_n 3, 1) := by decide +kernel
theorem dX4_placeFor_103 : decode cX4_placeFor 103 = .ok (.goto 85, 3) := by decide +kernel
theorem dX4_placeFor_106 : decode cX4_placeFor 106 = .ok (.new 46, 3) := by decide +kernel
theorem dX4_placeFor_109 : decode cX4_placeFor 109 = .ok (.dup, 1) := by decide +kernel
theorem dX4_placeFor_110 : decode cX4_placeFor 110 = .ok (.iload_n 2, 1) := by decide +kernel
theorem dX4_placeFor_111 : decode cX4_placeFor 111 = .ok (.iload_n 1, 1) := by decide +kernel
theorem dX4_placeFor_112 : decode cX4_placeFor 112 = .ok (.aload_n 0, 1) := by decide +kernel
theorem dX4_placeFor_113 : decode cX4_placeFor 113 = .ok (.getfield 31, 3) := by decide +kernel
theorem dX4_placeFor_116 : decode cX4_placeFor 116 = .ok (.invokespecial 48, 3) := by decide +kernel
theorem dX4_placeFor_119 : decode cX4_placeFor 119 = .ok (.astore_n 3, 1) := by decide +kernel
theorem dX4_placeFor_120 : decode cX4_placeFor 120 = .ok (.goto 68, 3) := by decide +kernel
theorem dX4_placeFor_123 : decode cX4_placeFor 123 = .ok (.new 49, 3) := by decide +kernel
theorem dX4_placeFor_126 : decode cX4_placeFor 126 = .ok (.dup, 1) := by decide +kernel
theorem dX4_placeFor_127 : decode cX4_placeFor 127 = .ok (.iload_n 2, 1) := by decide +kernel
theorem dX4_placeFor_128 : decode cX4_placeFor 128 = .ok (.iload_n 1, 1) := by decide +kernel
theorem dX4_placeFor_129 : decode cX4_placeFor 129 = .ok (.aload_n 0, 1) := by decide +kernel
theorem dX4_placeFor_130 : decode cX4_placeFor 130 = .ok (.getfield 31, 3) := by decide +kernel
theorem dX4_placeFor_133 : decode cX4_placeFor 133 = .ok (.invokespecial 51, 3) := by decide +kernel
theorem dX4_placeFor_136 : decode cX4_placeFor 136 = .ok (.astore_n 3, 1) := by decide +kernel
theorem dX4_placeFor_137 : decode cX4_placeFor 137 = .ok (.goto 51, 3) := by decide +kernel
theorem dX4_placeFor_140 : decode cX4_placeFor 140 = .ok (.new 52, 3) := by decide +kernel
theorem dX4_placeFor_143 : decode cX4_placeFor 143 = .ok (.dup, 1) := by decide +kernel
theorem dX4_placeFor_144 : decode cX4_placeFor 144 = .ok (.iload_n 2, 1) := by decide +kernel
theorem dX4_placeFor_145 : decode cX4_placeFor 145 = .ok (.iload_n 1, 1) := by decide +kernel
theorem dX4_placeFor_146 : decode cX4_placeFor 146 = .ok (.aload_n 0, 1) := by decide +kernel
theorem dX4_placeFor_147 : decode cX4_placeFor 147 = .ok (.getfield 31, 3) := by decide +kernel
theorem dX4_placeFor_150 : decode cX4_placeFor 150 = .ok (.invokespecial 54, 3) := by decide +kernel
theorem dX4_placeFor_153 : decode cX4_placeFor 153 = .ok (.astore_n 3, 1) := by decide +kernel
theorem dX4_placeFor_154 : decode cX4_placeFor 154 = .ok (.goto 34, 3) := by decide +kernel
theorem dX4_placeFor_157 : decode cX4_placeFor 157 = .ok (.new 55, 3) := by decide +kernel
theorem dX4_placeFor_160 : decode cX4_placeFor 160 = .ok (.dup, 1) := by decide +kernel
theorem dX4_placeFor_161 : decode cX4_placeFor 161 = .ok (.iload_n 2, 1) := by decide +kernel
theorem dX4_placeFor_162 : decode cX4_placeFor 162 = .ok (.iload_n 1, 1) := by decide +kernel
theorem dX4_placeFor_163 : decode cX4_placeFor 163 = .ok (.aload_n 0, 1) := by decide +kernel
theorem dX4_placeFor_164 : decode cX4_placeFor 164 = .ok (.getfield 31, 3) := by decide +kernel
theorem dX4_placeFor_167 : decode cX4_placeFor 167 = .ok (.invokespecial 57, 3) := by decide +kernel
theorem dX4_placeFor_170 : decode cX4_placeFor 170 = .ok (.astore_n 3, 1) := by decide +kernel
theorem dX4_placeFor_171 : decode cX4_placeFor 171 = .ok (.goto 17, 3) := by decide +kernel
theorem dX4_placeFor_174 : decode cX4_placeFor 174 = .ok (.new 9, 3) := by decide +kernel
theorem dX4_placeFor_177 : decode cX4_placeFor 177 = .ok (.dup, 1) := by decide +kernel
theorem dX4_placeFor_178 : decode cX4_placeFor 178 = .ok (.iload_n 2, 1) := by decide +kernel
theorem dX4_placeFor_179 : decode cX4_placeFor 179 = .ok (.iload_n 1, 1) := by decide +kernel
theorem dX4_placeFor_180 : decode cX4_placeFor 180 = .ok (.aload_n 0, 1) := by decide +kernel
theorem dX4_placeFor_181 : decode cX4_placeFor 181 = .ok (.getfield 31, 3) := by decide +kernel
theorem dX4_placeFor_184 : decode cX4_placeFor 184 = .ok (.invokespecial 58, 3) := by decide +kernel
theorem dX4_placeFor_187 : decode cX4_placeFor 187 = .ok (.astore_n 3, 1) := by decide +kernel
theorem dX4_placeFor_188 : decode cX4_placeFor 188 = .ok (.aload_n 0, 1) := by decide +kernel
theorem dX4_placeFor_189 : decode cX4_placeFor 189 = .ok (.getfield 11, 3) := by decide +kernel
theorem dX4_placeFor_192 : decode cX4_placeFor 192 = .ok (.iload_n 1, 1) := by decide +kernel
theorem dX4_placeFor_193 : decode cX4_placeFor 193 = .ok (.aload_n 3, 1) := by decide +kernel
theorem dX4_placeFor_194 : decode cX4_placeFor 194 = .ok (.aastore, 1) := by decide +kernel
theorem dX4_placeFor_195 : decode cX4_placeFor 195 = .ok (.aload_n 3, 1) := by decide +kernel
theorem dX4_placeFor_196 : decode cX4_placeFor 196 = .ok (.areturn, 1) := by decide +kernel
set_option maxRecDepth 20000 in
theorem ggX4_add_X4_placeFor : GoodIn wsX4_add wsX4_placeFor := goodIn_r _ [7, 8, 9, 10, 11, 12, 13, 14, 15, 16, 17, 18, 19, 20, 21, 22, 23, 24, 25, 26, 27, 28, 29, 30, 31, 32, 33, 34, 35, 36, 37, 38, 39, 40, 41, 42, 43, 44, 45, 46, 47, 48, 49, 50, 51, 52, 53, 54, 55, 56, 57, 58, 59, 60, 61, 62, 63, 64, 65, 66, 67, 68, 69, 70, 71, 88, 89, 90, 91, 92, 93, 94, 95, 96, 97, 98, 99, 100, 101, 102, 103, 104, 105, 106, 107, 108, 109, 110, 111, 112, 113, 114, 115, 116, 117, 118, 119, 120, 121, 122, 123, 124, 125, 126, 127, 128, 129, 130, 131, 132, 133, 134, 135, 136, 137, 138, 139, 140, 141, 142, 143, 144, 145, 146, 147, 148, 149, 150, 151, 152, 153, 154, 155, 156] (by decide +kernel) (by decide +kernel)
set_option maxRecDepth 20000 in
theorem gX4_add_X4_placeFor : GoodIn wsX4_add (wsV RX4 59 RX4 yX4_placeFor wsX4_placeFor) := goodIn_app (goodIn_of _ (by decide +kernel)) ggX4_add_X4_placeFor
set_option maxRecDepth 20000 in
theorem ggX4_add_X5_begin : GoodIn wsX4_add wsX5_begin := goodIn_r _ [76, 45, 46, 47, 42, 43, 44, 77, 78, 79, 80, 94, 95, 96, 97, 98, 99, 100, 101, 102, 103, 104, 105, 106, 107, 108, 109, 110, 111, 112, 113, 114, 115, 116, 117, 118, 119, 120, 121, 122, 123, 124, 125, 126, 127, 128, 129, 130, 131, 132, 133, 134, 135, 136, 137, 138, 139, 140, 141, 142, 143, 144, 145, 146, 147, 148, 149, 150, 151, 152, 153, 154, 155, 156] (by decide +kernel) (by decide +kernel)
set_option maxRecDepth 20000 in
theorem gX4_add_X5_begin_u63X0 : GoodIn wsX4_add (va_wsU RX4 63 RX0 "CarbonCopies$Person" ⟨"CarbonCopies$Person", "begin", "(II)V"⟩ yX5_begin wsX5_begin) := goodIn_app (goodIn_of _ (by decide +kernel)) ggX4_add_X5_begin
set_option maxRecDepth 20000 in
theorem gX4_add_X5_begin_u63X1 : GoodIn wsX4_add (va_wsU RX4 63 RX1 "CarbonCopies$Person" ⟨"CarbonCopies$Person", "begin", "(II)V"⟩ yX5_begin wsX5_begin) := goodIn_app (goodIn_of _ (by decide +kernel)) ggX4_add_X5_begin
set_option maxRecDepth 20000 in
theorem gX4_add_X5_begin_u63X2 : GoodIn wsX4_add (va_wsU RX4 63 RX2 "CarbonCopies$Person" ⟨"CarbonCopies$Person", "begin", "(II)V"⟩ yX5_begin wsX5_begin) := goodIn_app (goodIn_of _ (by decide +kernel)) ggX4_add_X5_begin
set_option maxRecDepth 20000 in
theorem gX4_add_X5_begin_u63X3 : GoodIn wsX4_add (va_wsU RX4 63 RX3 "CarbonCopies$Person" ⟨"CarbonCopies$Person", "begin", "(II)V"⟩ yX5_begin wsX5_begin) := goodIn_app (goodIn_of _ (by decide +kernel)) ggX4_add_X5_begin
set_option maxRecDepth 20000 in
theorem gX4_add_X5_begin : GoodIn wsX4_add (wsV RX4 63 RX5 yX5_begin wsX5_begin) := goodIn_app (goodIn_of _ (by decide +kernel)) ggX4_add_X5_begin
set_option maxRecDepth 20000 in
theorem gX4_add_X5_begin_u63X8 : GoodIn wsX4_add (va_wsU RX4 63 RX8 "CarbonCopies$Person" ⟨"CarbonCopies$Person", "begin", "(II)V"⟩ yX5_begin wsX5_begin) := goodIn_app (goodIn_of _ (by decide +kernel)) ggX4_add_X5_begin
set_option maxRecDepth 20000 in
theorem gX4_add_X5_begin_u63X10 : GoodIn wsX4_add (va_wsU RX4 63 RX10 "CarbonCopies$Person" ⟨"CarbonCopies$Person", "begin", "(II)V"⟩ yX5_begin wsX5_begin) := goodIn_app (goodIn_of _ (by decide +kernel)) ggX4_add_X5_begin
theorem dX4_add_0 : decode cX4_add 0 = .ok (.aload_n 0, 1) := by decide +kernel
theorem dX4_add_1 : decode cX4_add 1 = .ok (.aload_n 0, 1) := by decide +kernel
theorem dX4_add_2 : decode cX4_add 2 = .ok (.getfield 21, 3) := by decide +kernel
theorem dX4_add_5 : decode cX4_add 5 = .ok (.iload_n 1, 1) := by decide +kernel
theorem dX4_add_6 : decode cX4_add 6 = .ok (.invokevirtual 59, 3) := by decide +kernel
theorem dX4_add_9 : decode cX4_add 9 = .ok (.astore 4, 2) := by decide +kernel
theorem dX4_add_11 : decode cX4_add 11 = .ok (.aload 4, 2) := by decide +kernel
theorem dX4_add_13 : decode cX4_add 13 = .ok (.ifnonnull 5, 3) := by decide +kernel
theorem dX4_add_16 : decode cX4_add 16 = .ok (.iconst (-1), 1) := by decide +kernel
theorem dX4_add_17 : decode cX4_add 17 = .ok (.ireturn, 1) := by decide +kernel
theorem dX4_add_18 : decode cX4_add 18 = .ok (.aload 4, 2) := by decide +kernel
theorem dX4_add_20 : decode cX4_add 20 = .ok (.iload_n 2, 1) := by decide +kernel
theorem dX4_add_21 : decode cX4_add 21 = .ok (.iload_n 3, 1) := by decide +kernel
theorem dX4_add_22 : decode cX4_add 22 = .ok (.invokevirtual 63, 3) := by decide +kernel
theorem dX4_add_25 : decode cX4_add 25 = .ok (.aload_n 0, 1) := by decide +kernel
theorem dX4_add_26 : decode cX4_add 26 = .ok (.dup, 1) := by decide +kernel
theorem dX4_add_27 : decode cX4_add 27 = .ok (.getfield 21, 3) := by decide +kernel
theorem dX4_add_30 : decode cX4_add 30 = .ok (.iconst 1, 1) := by decide +kernel
theorem dX4_add_31 : decode cX4_add 31 = .ok (.iadd, 1) := by decide +kernel
theorem dX4_add_32 : decode cX4_add 32 = .ok (.putfield 21, 3) := by decide +kernel
theorem dX4_add_35 : decode cX4_add 35 = .ok (.aload 4, 2) := by decide +kernel
theorem dX4_add_37 : decode cX4_add 37 = .ok (.getfield 67, 3) := by decide +kernel
theorem dX4_add_40 : decode cX4_add 40 = .ok (.ireturn, 1) := by decide +kernel
set_option maxRecDepth 20000 in
theorem ggX4_takeFrom_X4_personAt : GoodIn wsX4_takeFrom wsX4_personAt := goodIn_r _ [9, 3, 10, 93, 94, 95, 96, 97, 98] (by decide +kernel) (by decide +kernel)
set_option maxRecDepth 20000 in
theorem gX4_takeFrom_X4_personAt : GoodIn wsX4_takeFrom (wsV RX4 70 RX4 yX4_personAt wsX4_personAt) := goodIn_app (goodIn_of _ (by decide +kernel)) ggX4_takeFrom_X4_personAt
set_option maxRecDepth 20000 in
theorem ggX4_takeFrom_X4_placeFor : GoodIn wsX4_takeFrom wsX4_placeFor := goodIn_r _ [14, 10, 4, 15, 16, 17, 18, 19, 20, 21, 22, 23, 24, 25, 26, 27, 28, 29, 30, 31, 32, 33, 34, 35, 36, 37, 38, 39, 40, 41, 42, 43, 44, 45, 46, 47, 48, 49, 50, 51, 52, 53, 54, 55, 56, 57, 58, 59, 60, 61, 62, 63, 64, 65, 66, 67, 68, 69, 70, 71, 72, 73, 74, 75, 76, 93, 94, 95, 96, 97, 98, 99, 100, 101, 102, 103, 104, 105, 106, 107, 108, 109, 110, 111, 112, 113, 114, 115, 116, 117, 118, 119, 120, 121, 122, 123, 124, 125, 126, 127, 128, 129, 130, 131, 132, 133, 134, 135, 136, 137, 138, 139, 140, 141, 142, 143, 144, 145, 146, 147, 148, 149, 150, 151, 152, 153, 154, 155, 156, 157, 158, 159, 160, 161] (by decide +kernel) (by decide +kernel)
set_option maxRecDepth 20000 in
theorem gX4_takeFrom_X4_placeFor : GoodIn wsX4_takeFrom (wsV RX4 59 RX4 yX4_placeFor wsX4_placeFor) := goodIn_app (goodIn_of _ (by decide +kernel)) ggX4_takeFrom_X4_placeFor
set_option maxRecDepth 20000 in
theorem ggX4_takeFrom_X5_takeFrom : GoodIn wsX4_takeFrom wsX5_takeFrom := goodIn_r _ [81, 50, 51, 52, 47, 82, 83, 84, 85, 48, 49, 99, 100, 101, 102, 103, 104, 105, 106, 107, 108, 109, 110, 111, 112, 113, 114, 115, 116, 117, 118, 119, 120, 121, 122, 123, 124, 125, 126, 127, 128, 129, 130, 131, 132, 133, 134, 135, 136, 137, 138, 139, 140, 141, 142, 143, 144, 145, 146, 147, 148, 149, 150, 151, 152, 153, 154, 155, 156, 157, 158, 159, 160, 161] (by decide +kernel) (by decide +kernel)
set_option maxRecDepth 20000 in
theorem gX4_takeFrom_X5_takeFrom_u74X0 : GoodIn wsX4_takeFrom (va_wsU RX4 74 RX0 "CarbonCopies$Person" ⟨"CarbonCopies$Person", "takeFrom", "(LCarbonCopies$Person;)V"⟩ yX5_takeFrom wsX5_takeFrom) := goodIn_app (goodIn_of _ (by decide +kernel)) ggX4_takeFrom_X5_takeFrom
set_option maxRecDepth 20000 in
theorem gX4_takeFrom_X5_takeFrom_u74X1 : GoodIn wsX4_takeFrom (va_wsU RX4 74 RX1 "CarbonCopies$Person" ⟨"CarbonCopies$Person", "takeFrom", "(LCarbonCopies$Person;)V"⟩ yX5_takeFrom wsX5_takeFrom) := goodIn_app (goodIn_of _ (by decide +kernel)) ggX4_takeFrom_X5_takeFrom
set_option maxRecDepth 20000 in
theorem gX4_takeFrom_X5_takeFrom_u74X2 : GoodIn wsX4_takeFrom (va_wsU RX4 74 RX2 "CarbonCopies$Person" ⟨"CarbonCopies$Person", "takeFrom", "(LCarbonCopies$Person;)V"⟩ yX5_takeFrom wsX5_takeFrom) := goodIn_app (goodIn_of _ (by decide +kernel)) ggX4_takeFrom_X5_takeFrom
set_option maxRecDepth 20000 in
theorem gX4_takeFrom_X5_takeFrom_u74X3 : GoodIn wsX4_takeFrom (va_wsU RX4 74 RX3 "CarbonCopies$Person" ⟨"CarbonCopies$Person", "takeFrom", "(LCarbonCopies$Person;)V"⟩ yX5_takeFrom wsX5_takeFrom) := goodIn_app (goodIn_of _ (by decide +kernel)) ggX4_takeFrom_X5_takeFrom
set_option maxRecDepth 20000 in
theorem gX4_takeFrom_X5_takeFrom : GoodIn wsX4_takeFrom (wsV RX4 74 RX5 yX5_takeFrom wsX5_takeFrom) := goodIn_app (goodIn_of _ (by decide +kernel)) ggX4_takeFrom_X5_takeFrom
set_option maxRecDepth 20000 in
theorem gX4_takeFrom_X5_takeFrom_u74X8 : GoodIn wsX4_takeFrom (va_wsU RX4 74 RX8 "CarbonCopies$Person" ⟨"CarbonCopies$Person", "takeFrom", "(LCarbonCopies$Person;)V"⟩ yX5_takeFrom wsX5_takeFrom) := goodIn_app (goodIn_of _ (by decide +kernel)) ggX4_takeFrom_X5_takeFrom
set_option maxRecDepth 20000 in
theorem gX4_takeFrom_X5_takeFrom_u74X10 : GoodIn wsX4_takeFrom (va_wsU RX4 74 RX10 "CarbonCopies$Person" ⟨"CarbonCopies$Person", "takeFrom", "(LCarbonCopies$Person;)V"⟩ yX5_takeFrom wsX5_takeFrom) := goodIn_app (goodIn_of _ (by decide +kernel)) ggX4_takeFrom_X5_takeFrom
theorem dX4_takeFrom_0 : decode cX4_takeFrom 0 = .ok (.aload_n 0, 1) := by decide +kernel
theorem dX4_takeFrom_1 : decode cX4_takeFrom 1 = .ok (.aload_n 1, 1) := by decide +kernel
theorem dX4_takeFrom_2 : decode cX4_takeFrom 2 = .ok (.getfield 25, 3) := by decide +kernel
theorem dX4_takeFrom_5 : decode cX4_takeFrom 5 = .ok (.putfield 25, 3) := by decide +kernel
theorem dX4_takeFrom_8 : decode cX4_takeFrom 8 = .ok (.aload_n 0, 1) := by decide +kernel
theorem dX4_takeFrom_9 : decode cX4_takeFrom 9 = .ok (.aload_n 1, 1) := by decide +kernel
theorem dX4_takeFrom_10 : decode cX4_takeFrom 10 = .ok (.getfield 28, 3) := by decide +kernel
theorem dX4_takeFrom_13 : decode cX4_takeFrom 13 = .ok (.putfield 28, 3) := by decide +kernel
theorem dX4_takeFrom_16 : decode cX4_takeFrom 16 = .ok (.aload_n 0, 1) := by decide +kernel
theorem dX4_takeFrom_17 : decode cX4_takeFrom 17 = .ok (.iconst 0, 1) := by decide +kernel
theorem dX4_takeFrom_18 : decode cX4_takeFrom 18 = .ok (.putfield 21, 3) := by decide +kernel
theorem dX4_takeFrom_21 : decode cX4_takeFrom 21 = .ok (.iconst 0, 1) := by decide +kernel
theorem dX4_takeFrom_22 : decode cX4_takeFrom 22 = .ok (.istore_n 2, 1) := by decide +kernel
theorem dX4_takeFrom_23 : decode cX4_takeFrom 23 = .ok (.iload_n 2, 1) := by decide +kernel
theorem dX4_takeFrom_24 : decode cX4_takeFrom 24 = .ok (.aload_n 1, 1) := by decide +kernel
theorem dX4_takeFrom_25 : decode cX4_takeFrom 25 = .ok (.getfield 21, 3) := by decide +kernel
theorem dX4_takeFrom_28 : decode cX4_takeFrom 28 = .ok (.if_icmp .ge 58, 3) := by decide +kernel
theorem dX4_takeFrom_31 : decode cX4_takeFrom 31 = .ok (.iload_n 2, 1) := by decide +kernel
theorem dX4_takeFrom_32 : decode cX4_takeFrom 32 = .ok (.bipush 6, 2) := by decide +kernel
theorem dX4_takeFrom_34 : decode cX4_takeFrom 34 = .ok (.if_icmp .ge 52, 3) := by decide +kernel
theorem dX4_takeFrom_37 : decode cX4_takeFrom 37 = .ok (.aload_n 1, 1) := by decide +kernel
theorem dX4_takeFrom_38 : decode cX4_takeFrom 38 = .ok (.iload_n 2, 1) := by decide +kernel
theorem dX4_takeFrom_39 : decode cX4_takeFrom 39 = .ok (.invokevirtual 70, 3) := by decide +kernel
theorem dX4_takeFrom_42 : decode cX4_takeFrom 42 = .ok (.astore_n 3, 1) := by decide +kernel
theorem dX4_takeFrom_43 : decode cX4_takeFrom 43 = .ok (.aload_n 3, 1) := by decide +kernel
theorem dX4_takeFrom_44 : decode cX4_takeFrom 44 = .ok (.ifnonnull 7, 3) := by decide +kernel
theorem dX4_takeFrom_47 : decode cX4_takeFrom 47 = .ok (.aconst_null, 1) := by decide +kernel
theorem dX4_takeFrom_48 : decode cX4_takeFrom 48 = .ok (.goto 12, 3) := by decide +kernel
theorem dX4_takeFrom_51 : decode cX4_takeFrom 51 = .ok (.aload_n 0, 1) := by decide +kernel
theorem dX4_takeFrom_52 : decode cX4_takeFrom 52 = .ok (.iload_n 2, 1) := by decide +kernel
theorem dX4_takeFrom_53 : decode cX4_takeFrom 53 = .ok (.aload_n 3, 1) := by decide +kernel
theorem dX4_takeFrom_54 : decode cX4_takeFrom 54 = .ok (.getfield 35, 3) := by decide +kernel
theorem dX4_takeFrom_57 : decode cX4_takeFrom 57 = .ok (.invokevirtual 59, 3) := by decide +kernel
theorem dX4_takeFrom_60 : decode cX4_takeFrom 60 = .ok (.astore 4, 2) := by decide +kernel
theorem dX4_takeFrom_62 : decode cX4_takeFrom 62 = .ok (.aload 4, 2) := by decide +kernel
theorem dX4_takeFrom_64 : decode cX4_takeFrom 64 = .ok (.ifnull 16, 3) := by decide +kernel
theorem dX4_takeFrom_67 : decode cX4_takeFrom 67 = .ok (.aload 4, 2) := by decide +kernel
theorem dX4_takeFrom_69 : decode cX4_takeFrom 69 = .ok (.aload_n 3, 1) := by decide +kernel
theorem dX4_takeFrom_70 : decode cX4_takeFrom 70 = .ok (.invokevirtual 74, 3) := by decide +kernel
theorem dX4_takeFrom_73 : decode cX4_takeFrom 73 = .ok (.aload_n 0, 1) := by decide +kernel
theorem dX4_takeFrom_74 : decode cX4_takeFrom 74 = .ok (.iload_n 2, 1) := by decide +kernel
theorem dX4_takeFrom_75 : decode cX4_takeFrom 75 = .ok (.iconst 1, 1) := by decide +kernel
theorem dX4_takeFrom_76 : decode cX4_takeFrom 76 = .ok (.iadd, 1) := by decide +kernel
theorem dX4_takeFrom_77 : decode cX4_takeFrom 77 = .ok (.putfield 21, 3) := by decide +kernel
theorem dX4_takeFrom_80 : decode cX4_takeFrom 80 = .ok (.iinc 2 1, 3) := by decide +kernel
theorem dX4_takeFrom_83 : decode cX4_takeFrom 83 = .ok (.goto (-60), 3) := by decide +kernel
theorem dX4_takeFrom_86 : decode cX4_takeFrom 86 = .ok (.return_, 1) := by decide +kernel
set_option maxRecDepth 20000 in
theorem ggX4_deadTotal_X4_personAt : GoodIn wsX4_deadTotal wsX4_personAt := goodIn_r _ [7, 1, 8, 9, 10, 11, 12, 13, 14] (by decide +kernel) (by decide +kernel)
set_option maxRecDepth 20000 in
theorem gX4_deadTotal_X4_personAt : GoodIn wsX4_deadTotal (wsV RX4 70 RX4 yX4_personAt wsX4_personAt) := goodIn_app (goodIn_of _ (by decide +kernel)) ggX4_deadTotal_X4_personAt
theorem dX4_deadTotal_0 : decode cX4_deadTotal 0 = .ok (.iconst 0, 1) := by decide +kernel
theorem dX4_deadTotal_1 : decode cX4_deadTotal 1 = .ok (.istore_n 1, 1) := by decide +kernel
theorem dX4_deadTotal_2 : decode cX4_deadTotal 2 = .ok (.iconst 0, 1) := by decide +kernel
theorem dX4_deadTotal_3 : decode cX4_deadTotal 3 = .ok (.istore_n 2, 1) := by decide +kernel
theorem dX4_deadTotal_4 : decode cX4_deadTotal 4 = .ok (.iload_n 2, 1) := by decide +kernel
theorem dX4_deadTotal_5 : decode cX4_deadTotal 5 = .ok (.aload_n 0, 1) := by decide +kernel
theorem dX4_deadTotal_6 : decode cX4_deadTotal 6 = .ok (.getfield 21, 3) := by decide +kernel
theorem dX4_deadTotal_9 : decode cX4_deadTotal 9 = .ok (.if_icmp .ge 30, 3) := by decide +kernel
theorem dX4_deadTotal_12 : decode cX4_deadTotal 12 = .ok (.aload_n 0, 1) := by decide +kernel
theorem dX4_deadTotal_13 : decode cX4_deadTotal 13 = .ok (.iload_n 2, 1) := by decide +kernel
theorem dX4_deadTotal_14 : decode cX4_deadTotal 14 = .ok (.invokevirtual 70, 3) := by decide +kernel
theorem dX4_deadTotal_17 : decode cX4_deadTotal 17 = .ok (.astore_n 3, 1) := by decide +kernel
theorem dX4_deadTotal_18 : decode cX4_deadTotal 18 = .ok (.iload_n 1, 1) := by decide +kernel
theorem dX4_deadTotal_19 : decode cX4_deadTotal 19 = .ok (.aload_n 3, 1) := by decide +kernel
theorem dX4_deadTotal_20 : decode cX4_deadTotal 20 = .ok (.ifnonnull 7, 3) := by decide +kernel
theorem dX4_deadTotal_23 : decode cX4_deadTotal 23 = .ok (.iconst 0, 1) := by decide +kernel
theorem dX4_deadTotal_24 : decode cX4_deadTotal 24 = .ok (.goto 7, 3) := by decide +kernel
theorem dX4_deadTotal_27 : decode cX4_deadTotal 27 = .ok (.aload_n 3, 1) := by decide +kernel
theorem dX4_deadTotal_28 : decode cX4_deadTotal 28 = .ok (.getfield 78, 3) := by decide +kernel
theorem dX4_deadTotal_31 : decode cX4_deadTotal 31 = .ok (.iadd, 1) := by decide +kernel
theorem dX4_deadTotal_32 : decode cX4_deadTotal 32 = .ok (.istore_n 1, 1) := by decide +kernel
theorem dX4_deadTotal_33 : decode cX4_deadTotal 33 = .ok (.iinc 2 1, 3) := by decide +kernel
theorem dX4_deadTotal_36 : decode cX4_deadTotal 36 = .ok (.goto (-32), 3) := by decide +kernel
theorem dX4_deadTotal_39 : decode cX4_deadTotal 39 = .ok (.iload_n 1, 1) := by decide +kernel
theorem dX4_deadTotal_40 : decode cX4_deadTotal 40 = .ok (.ireturn, 1) := by decide +kernel
set_option maxRecDepth 20000 in
theorem ggX4_strengthTotal_X4_personAt : GoodIn wsX4_strengthTotal wsX4_personAt := goodIn_r _ [6, 1, 7, 22, 23, 24, 25, 26, 27] (by decide +kernel) (by decide +kernel)
set_option maxRecDepth 20000 in
theorem gX4_strengthTotal_X4_personAt : GoodIn wsX4_strengthTotal (wsV RX4 70 RX4 yX4_personAt wsX4_personAt) := goodIn_app (goodIn_of _ (by decide +kernel)) ggX4_strengthTotal_X4_personAt
set_option maxRecDepth 20000 in
theorem ggX4_strengthTotal_X5_strengthSum : GoodIn wsX4_strengthTotal wsX5_strengthSum := goodIn_r _ [13, 14, 28, 29, 30, 31, 32, 33, 34, 35, 36, 37, 38, 39, 40, 41, 42, 43, 44, 45, 46, 47, 48, 49, 50, 51, 52, 53, 54, 55, 56, 57, 58, 59, 60, 61, 62, 63, 64, 65, 66, 67, 68, 69, 70, 71, 72, 73, 74, 75, 76, 77, 78, 79, 80, 81, 82, 83, 84, 85, 86, 87, 88, 89, 90] (by decide +kernel) (by decide +kernel)
set_option maxRecDepth 20000 in
theorem gX4_strengthTotal_X5_strengthSum_u81X0 : GoodIn wsX4_strengthTotal (va_wsU RX4 81 RX0 "CarbonCopies$Person" ⟨"CarbonCopies$Person", "strengthSum", "()I"⟩ yX5_strengthSum wsX5_strengthSum) := goodIn_app (goodIn_of _ (by decide +kernel)) ggX4_strengthTotal_X5_strengthSum
set_option maxRecDepth 20000 in
theorem gX4_strengthTotal_X5_strengthSum_u81X1 : GoodIn wsX4_strengthTotal (va_wsU RX4 81 RX1 "CarbonCopies$Person" ⟨"CarbonCopies$Person", "strengthSum", "()I"⟩ yX5_strengthSum wsX5_strengthSum) := goodIn_app (goodIn_of _ (by decide +kernel)) ggX4_strengthTotal_X5_strengthSum
set_option maxRecDepth 20000 in
theorem gX4_strengthTotal_X5_strengthSum_u81X2 : GoodIn wsX4_strengthTotal (va_wsU RX4 81 RX2 "CarbonCopies$Person" ⟨"CarbonCopies$Person", "strengthSum", "()I"⟩ yX5_strengthSum wsX5_strengthSum) := goodIn_app (goodIn_of _ (by decide +kernel)) ggX4_strengthTotal_X5_strengthSum
set_option maxRecDepth 20000 in
theorem gX4_strengthTotal_X5_strengthSum_u81X3 : GoodIn wsX4_strengthTotal (va_wsU RX4 81 RX3 "CarbonCopies$Person" ⟨"CarbonCopies$Person", "strengthSum", "()I"⟩ yX5_strengthSum wsX5_strengthSum) := goodIn_app (goodIn_of _ (by decide +kernel)) ggX4_strengthTotal_X5_strengthSum
set_option maxRecDepth 20000 in
theorem gX4_strengthTotal_X5_strengthSum : GoodIn wsX4_strengthTotal (wsV RX4 81 RX5 yX5_strengthSum wsX5_strengthSum) := goodIn_app (goodIn_of _ (by decide +kernel)) ggX4_strengthTotal_X5_strengthSum
set_option maxRecDepth 20000 in
theorem gX4_strengthTotal_X5_strengthSum_u81X8 : GoodIn wsX4_strengthTotal (va_wsU RX4 81 RX8 "CarbonCopies$Person" ⟨"CarbonCopies$Person", "strengthSum", "()I"⟩ yX5_strengthSum wsX5_strengthSum) := goodIn_app (goodIn_of _ (by decide +kernel)) ggX4_strengthTotal_X5_strengthSum
set_option maxRecDepth 20000 in
theorem gX4_strengthTotal_X5_strengthSum_u81X10 : GoodIn wsX4_strengthTotal (va_wsU RX4 81 RX10 "CarbonCopies$Person" ⟨"CarbonCopies$Person", "strengthSum", "()I"⟩ yX5_strengthSum wsX5_strengthSum) := goodIn_app (goodIn_of _ (by decide +kernel)) ggX4_strengthTotal_X5_strengthSum
theorem dX4_strengthTotal_0 : decode cX4_strengthTotal 0 = .ok (.iconst 0, 1) := by decide +kernel
theorem dX4_strengthTotal_1 : decode cX4_strengthTotal 1 = .ok (.istore_n 1, 1) := by decide +kernel
theorem dX4_strengthTotal_2 : decode cX4_strengthTotal 2 = .ok (.iconst 0, 1) := by decide +kernel
theorem dX4_strengthTotal_3 : decode cX4_strengthTotal 3 = .ok (.istore_n 2, 1) := by decide +kernel
theorem dX4_strengthTotal_4 : decode cX4_strengthTotal 4 = .ok (.iload_n 2, 1) := by decide +kernel
theorem dX4_strengthTotal_5 : decode cX4_strengthTotal 5 = .ok (.aload_n 0, 1) := by decide +kernel
theorem dX4_strengthTotal_6 : decode cX4_strengthTotal 6 = .ok (.getfield 21, 3) := by decide +kernel
theorem dX4_strengthTotal_9 : decode cX4_strengthTotal 9 = .ok (.if_icmp .ge 30, 3) := by decide +kernel
theorem dX4_strengthTotal_12 : decode cX4_strengthTotal 12 = .ok (.aload_n 0, 1) := by decide +kernel
theorem dX4_strengthTotal_13 : decode cX4_strengthTotal 13 = .ok (.iload_n 2, 1) := by decide +kernel
theorem dX4_strengthTotal_14 : decode cX4_strengthTotal 14 = .ok (.invokevirtual 70, 3) := by decide +kernel
theorem dX4_strengthTotal_17 : decode cX4_strengthTotal 17 = .ok (.astore_n 3, 1) := by decide +kernel
theorem dX4_strengthTotal_18 : decode cX4_strengthTotal 18 = .ok (.iload_n 1, 1) := by decide +kernel
theorem dX4_strengthTotal_19 : decode cX4_strengthTotal 19 = .ok (.aload_n 3, 1) := by decide +kernel
theorem dX4_strengthTotal_20 : decode cX4_strengthTotal 20 = .ok (.ifnonnull 7, 3) := by decide +kernel
theorem dX4_strengthTotal_23 : decode cX4_strengthTotal 23 = .ok (.iconst 0, 1) := by decide +kernel
theorem dX4_strengthTotal_24 : decode cX4_strengthTotal 24 = .ok (.goto 7, 3) := by decide +kernel
theorem dX4_strengthTotal_27 : decode cX4_strengthTotal 27 = .ok (.aload_n 3, 1) := by decide +kernel
theorem dX4_strengthTotal_28 : decode cX4_strengthTotal 28 = .ok (.invokevirtual 81, 3) := by decide +kernel
theorem dX4_strengthTotal_31 : decode cX4_strengthTotal 31 = .ok (.iadd, 1) := by decide +kernel
theorem dX4_strengthTotal_32 : decode cX4_strengthTotal 32 = .ok (.istore_n 1, 1) := by decide +kernel
theorem dX4_strengthTotal_33 : decode cX4_strengthTotal 33 = .ok (.iinc 2 1, 3) := by decide +kernel
theorem dX4_strengthTotal_36 : decode cX4_strengthTotal 36 = .ok (.goto (-32), 3) := by decide +kernel
theorem dX4_strengthTotal_39 : decode cX4_strengthTotal 39 = .ok (.iload_n 1, 1) := by decide +kernel
theorem dX4_strengthTotal_40 : decode cX4_strengthTotal 40 = .ok (.ireturn, 1) := by decide +kernel
set_option maxRecDepth 20000 in
theorem ggX4_smearTotal_X4_personAt : GoodIn wsX4_smearTotal wsX4_personAt := goodIn_r _ [6, 1, 7, 22, 23, 24, 25, 26, 27] (by decide +kernel) (by decide +kernel)
set_option maxRecDepth 20000 in
theorem gX4_smearTotal_X4_personAt : GoodIn wsX4_smearTotal (wsV RX4 70 RX4 yX4_personAt wsX4_personAt) := goodIn_app (goodIn_of _ (by decide +kernel)) ggX4_smearTotal_X4_personAt
set_option maxRecDepth 20000 in
theorem ggX4_smearTotal_X5_smearSum : GoodIn wsX4_smearTotal wsX5_smearSum := goodIn_r _ [13, 14, 28, 29, 30, 31, 32, 33, 34, 35, 36, 37, 38, 39, 40, 41, 42, 43, 44, 45, 46, 47, 48, 49, 50, 51, 52, 53, 54, 55, 56, 57, 58, 59, 60, 61, 62, 63, 64, 65, 66, 67, 68, 69, 70, 71, 72, 73, 74, 75, 76, 77, 78, 79, 80, 81, 82, 83, 84, 85, 86, 87, 88, 89, 90] (by decide +kernel) (by decide +kernel)
set_option maxRecDepth 20000 in
theorem gX4_smearTotal_X5_smearSum_u85X0 : GoodIn wsX4_smearTotal (va_wsU RX4 85 RX0 "CarbonCopies$Person" ⟨"CarbonCopies$Person", "smearSum", "()I"⟩ yX5_smearSum wsX5_smearSum) := goodIn_app (goodIn_of _ (by decide +kernel)) ggX4_smearTotal_X5_smearSum
set_option maxRecDepth 20000 in
theorem gX4_smearTotal_X5_smearSum_u85X1 : GoodIn wsX4_smearTotal (va_wsU RX4 85 RX1 "CarbonCopies$Person" ⟨"CarbonCopies$Person", "smearSum", "()I"⟩ yX5_smearSum wsX5_smearSum) := goodIn_app (goodIn_of _ (by decide +kernel)) ggX4_smearTotal_X5_smearSum
set_option maxRecDepth 20000 in
theorem gX4_smearTotal_X5_smearSum_u85X2 : GoodIn wsX4_smearTotal (va_wsU RX4 85 RX2 "CarbonCopies$Person" ⟨"CarbonCopies$Person", "smearSum", "()I"⟩ yX5_smearSum wsX5_smearSum) := goodIn_app (goodIn_of _ (by decide +kernel)) ggX4_smearTotal_X5_smearSum
set_option maxRecDepth 20000 in
theorem gX4_smearTotal_X5_smearSum_u85X3 : GoodIn wsX4_smearTotal (va_wsU RX4 85 RX3 "CarbonCopies$Person" ⟨"CarbonCopies$Person", "smearSum", "()I"⟩ yX5_smearSum wsX5_smearSum) := goodIn_app (goodIn_of _ (by decide +kernel)) ggX4_smearTotal_X5_smearSum
set_option maxRecDepth 20000 in
theorem gX4_smearTotal_X5_smearSum : GoodIn wsX4_smearTotal (wsV RX4 85 RX5 yX5_smearSum wsX5_smearSum) := goodIn_app (goodIn_of _ (by decide +kernel)) ggX4_smearTotal_X5_smearSum
set_option maxRecDepth 20000 in
theorem gX4_smearTotal_X5_smearSum_u85X8 : GoodIn wsX4_smearTotal (va_wsU RX4 85 RX8 "CarbonCopies$Person" ⟨"CarbonCopies$Person", "smearSum", "()I"⟩ yX5_smearSum wsX5_smearSum) := goodIn_app (goodIn_of _ (by decide +kernel)) ggX4_smearTotal_X5_smearSum
set_option maxRecDepth 20000 in
theorem gX4_smearTotal_X5_smearSum_u85X10 : GoodIn wsX4_smearTotal (va_wsU RX4 85 RX10 "CarbonCopies$Person" ⟨"CarbonCopies$Person", "smearSum", "()I"⟩ yX5_smearSum wsX5_smearSum) := goodIn_app (goodIn_of _ (by decide +kernel)) ggX4_smearTotal_X5_smearSum
theorem dX4_smearTotal_0 : decode cX4_smearTotal 0 = .ok (.iconst 0, 1) := by decide +kernel
theorem dX4_smearTotal_1 : decode cX4_smearTotal 1 = .ok (.istore_n 1, 1) := by decide +kernel
theorem dX4_smearTotal_2 : decode cX4_smearTotal 2 = .ok (.iconst 0, 1) := by decide +kernel
theorem dX4_smearTotal_3 : decode cX4_smearTotal 3 = .ok (.istore_n 2, 1) := by decide +kernel
theorem dX4_smearTotal_4 : decode cX4_smearTotal 4 = .ok (.iload_n 2, 1) := by decide +kernel
theorem dX4_smearTotal_5 : decode cX4_smearTotal 5 = .ok (.aload_n 0, 1) := by decide +kernel
theorem dX4_smearTotal_6 : decode cX4_smearTotal 6 = .ok (.getfield 21, 3) := by decide +kernel
theorem dX4_smearTotal_9 : decode cX4_smearTotal 9 = .ok (.if_icmp .ge 30, 3) := by decide +kernel
theorem dX4_smearTotal_12 : decode cX4_smearTotal 12 = .ok (.aload_n 0, 1) := by decide +kernel
theorem dX4_smearTotal_13 : decode cX4_smearTotal 13 = .ok (.iload_n 2, 1) := by decide +kernel
theorem dX4_smearTotal_14 : decode cX4_smearTotal 14 = .ok (.invokevirtual 70, 3) := by decide +kernel
theorem dX4_smearTotal_17 : decode cX4_smearTotal 17 = .ok (.astore_n 3, 1) := by decide +kernel
theorem dX4_smearTotal_18 : decode cX4_smearTotal 18 = .ok (.iload_n 1, 1) := by decide +kernel
theorem dX4_smearTotal_19 : decode cX4_smearTotal 19 = .ok (.aload_n 3, 1) := by decide +kernel
theorem dX4_smearTotal_20 : decode cX4_smearTotal 20 = .ok (.ifnonnull 7, 3) := by decide +kernel
theorem dX4_smearTotal_23 : decode cX4_smearTotal 23 = .ok (.iconst 0, 1) := by decide +kernel
theorem dX4_smearTotal_24 : decode cX4_smearTotal 24 = .ok (.goto 7, 3) := by decide +kernel
theorem dX4_smearTotal_27 : decode cX4_smearTotal 27 = .ok (.aload_n 3, 1) := by decide +kernel
theorem dX4_smearTotal_28 : decode cX4_smearTotal 28 = .ok (.invokevirtual 85, 3) := by decide +kernel
theorem dX4_smearTotal_31 : decode cX4_smearTotal 31 = .ok (.iadd, 1) := by decide +kernel
theorem dX4_smearTotal_32 : decode cX4_smearTotal 32 = .ok (.istore_n 1, 1) := by decide +kernel
theorem dX4_smearTotal_33 : decode cX4_smearTotal 33 = .ok (.iinc 2 1, 3) := by decide +kernel
theorem dX4_smearTotal_36 : decode cX4_smearTotal 36 = .ok (.goto (-32), 3) := by decide +kernel
theorem dX4_smearTotal_39 : decode cX4_smearTotal 39 = .ok (.iload_n 1, 1) := by decide +kernel
theorem dX4_smearTotal_40 : decode cX4_smearTotal 40 = .ok (.ireturn, 1) := by decide +kernel
set_option maxRecDepth 20000 in
theorem ggX4_longestBearer_X4_personAt : GoodIn wsX4_longestBearer wsX4_personAt := goodIn_r _ [7, 1, 8, 41, 42, 43, 44, 45, 46] (by decide +kernel) (by decide +kernel)
set_option maxRecDepth 20000 in
theorem gX4_longestBearer_X4_personAt : GoodIn wsX4_longestBearer (wsV RX4 70 RX4 yX4_personAt wsX4_personAt) := goodIn_app (goodIn_of _ (by decide +kernel)) ggX4_longestBearer_X4_personAt
set_option maxRecDepth 20000 in
theorem ggX4_longestBearer_X5_bearing : GoodIn wsX4_longestBearer wsX5_bearing := goodIn_r _ [14, 15, 16, 17, 18, 19, 13, 20, 21, 22, 23, 24, 25, 26, 27, 28, 29, 30, 31, 32, 33, 47, 48, 49, 50, 51, 52, 53, 54, 55, 56, 57, 58, 59, 60, 61, 62, 63, 64, 65, 66, 67, 68, 69, 70, 71, 72, 73, 74, 75, 76, 77, 78, 79, 80, 81, 82, 83, 84, 85, 86, 87, 88, 89, 90, 91, 92, 93, 94, 95, 96, 97, 98, 99, 100, 101, 102, 103, 104, 105, 106, 107, 108, 109] (by decide +kernel) (by decide +kernel)
set_option maxRecDepth 20000 in
theorem gX4_longestBearer_X5_bearing_u88X0 : GoodIn wsX4_longestBearer (va_wsU RX4 88 RX0 "CarbonCopies$Person" ⟨"CarbonCopies$Person", "bearing", "(II)I"⟩ yX5_bearing wsX5_bearing) := goodIn_app (goodIn_of _ (by decide +kernel)) ggX4_longestBearer_X5_bearing
set_option maxRecDepth 20000 in
theorem gX4_longestBearer_X5_bearing_u88X1 : GoodIn wsX4_longestBearer (va_wsU RX4 88 RX1 "CarbonCopies$Person" ⟨"CarbonCopies$Person", "bearing", "(II)I"⟩ yX5_bearing wsX5_bearing) := goodIn_app (goodIn_of _ (by decide +kernel)) ggX4_longestBearer_X5_bearing
set_option maxRecDepth 20000 in
theorem gX4_longestBearer_X5_bearing_u88X2 : GoodIn wsX4_longestBearer (va_wsU RX4 88 RX2 "CarbonCopies$Person" ⟨"CarbonCopies$Person", "bearing", "(II)I"⟩ yX5_bearing wsX5_bearing) := goodIn_app (goodIn_of _ (by decide +kernel)) ggX4_longestBearer_X5_bearing
set_option maxRecDepth 20000 in
theorem gX4_longestBearer_X5_bearing_u88X3 : GoodIn wsX4_longestBearer (va_wsU RX4 88 RX3 "CarbonCopies$Person" ⟨"CarbonCopies$Person", "bearing", "(II)I"⟩ yX5_bearing wsX5_bearing) := goodIn_app (goodIn_of _ (by decide +kernel)) ggX4_longestBearer_X5_bearing
set_option maxRecDepth 20000 in
theorem gX4_longestBearer_X5_bearing : GoodIn wsX4_longestBearer (wsV RX4 88 RX5 yX5_bearing wsX5_bearing) := goodIn_app (goodIn_of _ (by decide +kernel)) ggX4_longestBearer_X5_bearing
set_option maxRecDepth 20000 in
theorem gX4_longestBearer_X5_bearing_u88X8 : GoodIn wsX4_longestBearer (va_wsU RX4 88 RX8 "CarbonCopies$Person" ⟨"CarbonCopies$Person", "bearing", "(II)I"⟩ yX5_bearing wsX5_bearing) := goodIn_app (goodIn_of _ (by decide +kernel)) ggX4_longestBearer_X5_bearing
set_option maxRecDepth 20000 in
theorem gX4_longestBearer_X5_bearing_u88X10 : GoodIn wsX4_longestBearer (va_wsU RX4 88 RX10 "CarbonCopies$Person" ⟨"CarbonCopies$Person", "bearing", "(II)I"⟩ yX5_bearing wsX5_bearing) := goodIn_app (goodIn_of _ (by decide +kernel)) ggX4_longestBearer_X5_bearing
theorem dX4_longestBearer_0 : decode cX4_longestBearer 0 = .ok (.iconst (-1), 1) := by decide +kernel
theorem dX4_longestBearer_1 : decode cX4_longestBearer 1 = .ok (.istore_n 2, 1) := by decide +kernel
theorem dX4_longestBearer_2 : decode cX4_longestBearer 2 = .ok (.iconst (-1), 1) := by decide +kernel
theorem dX4_longestBearer_3 : decode cX4_longestBearer 3 = .ok (.istore_n 3, 1) := by decide +kernel
theorem dX4_longestBearer_4 : decode cX4_longestBearer 4 = .ok (.iconst 0, 1) := by decide +kernel
theorem dX4_longestBearer_5 : decode cX4_longestBearer 5 = .ok (.istore 4, 2) := by decide +kernel
theorem dX4_longestBearer_7 : decode cX4_longestBearer 7 = .ok (.iload 4, 2) := by decide +kernel
theorem dX4_longestBearer_9 : decode cX4_longestBearer 9 = .ok (.aload_n 0, 1) := by decide +kernel
theorem dX4_longestBearer_10 : decode cX4_longestBearer 10 = .ok (.getfield 21, 3) := by decide +kernel
theorem dX4_longestBearer_13 : decode cX4_longestBearer 13 = .ok (.if_icmp .ge 50, 3) := by decide +kernel
theorem dX4_longestBearer_16 : decode cX4_longestBearer 16 = .ok (.aload_n 0, 1) := by decide +kernel
theorem dX4_longestBearer_17 : decode cX4_longestBearer 17 = .ok (.iload 4, 2) := by decide +kernel
theorem dX4_longestBearer_19 : decode cX4_longestBearer 19 = .ok (.invokevirtual 70, 3) := by decide +kernel
theorem dX4_longestBearer_22 : decode cX4_longestBearer 22 = .ok (.astore 5, 2) := by decide +kernel
theorem dX4_longestBearer_24 : decode cX4_longestBearer 24 = .ok (.aload 5, 2) := by decide +kernel
theorem dX4_longestBearer_26 : decode cX4_longestBearer 26 = .ok (.ifnonnull 7, 3) := by decide +kernel
theorem dX4_longestBearer_29 : decode cX4_longestBearer 29 = .ok (.iconst (-1), 1) := by decide +kernel
theorem dX4_longestBearer_30 : decode cX4_longestBearer 30 = .ok (.goto 13, 3) := by decide +kernel
theorem dX4_longestBearer_33 : decode cX4_longestBearer 33 = .ok (.aload 5, 2) := by decide +kernel
theorem dX4_longestBearer_35 : decode cX4_longestBearer 35 = .ok (.iload_n 1, 1) := by decide +kernel
theorem dX4_longestBearer_36 : decode cX4_longestBearer 36 = .ok (.aload_n 0, 1) := by decide +kernel
theorem dX4_longestBearer_37 : decode cX4_longestBearer 37 = .ok (.getfield 25, 3) := by decide +kernel
theorem dX4_longestBearer_40 : decode cX4_longestBearer 40 = .ok (.invokevirtual 88, 3) := by decide +kernel
theorem dX4_longestBearer_43 : decode cX4_longestBearer 43 = .ok (.istore 6, 2) := by decide +kernel
theorem dX4_longestBearer_45 : decode cX4_longestBearer 45 = .ok (.iload 6, 2) := by decide +kernel
theorem dX4_longestBearer_47 : decode cX4_longestBearer 47 = .ok (.iload_n 2, 1) := by decide +kernel
theorem dX4_longestBearer_48 : decode cX4_longestBearer 48 = .ok (.if_icmp .le 9, 3) := by decide +kernel
theorem dX4_longestBearer_51 : decode cX4_longestBearer 51 = .ok (.iload 6, 2) := by decide +kernel
theorem dX4_longestBearer_53 : decode cX4_longestBearer 53 = .ok (.istore_n 2, 1) := by decide +kernel
theorem dX4_longestBearer_54 : decode cX4_longestBearer 54 = .ok (.iload 4, 2) := by decide +kernel
theorem dX4_longestBearer_56 : decode cX4_longestBearer 56 = .ok (.istore_n 3, 1) := by decide +kernel
theorem dX4_longestBearer_57 : decode cX4_longestBearer 57 = .ok (.iinc 4 1, 3) := by decide +kernel
theorem dX4_longestBearer_60 : decode cX4_longestBearer 60 = .ok (.goto (-53), 3) := by decide +kernel
theorem dX4_longestBearer_63 : decode cX4_longestBearer 63 = .ok (.iload_n 3, 1) := by decide +kernel
theorem dX4_longestBearer_64 : decode cX4_longestBearer 64 = .ok (.ireturn, 1) := by decide +kernel
set_option maxRecDepth 20000 in
theorem ggX4_findFits_X4_personAt : GoodIn wsX4_findFits wsX4_personAt := goodIn_r _ [6, 1, 7, 63, 64, 65, 66, 67, 68] (by decide +kernel) (by decide +kernel)
set_option maxRecDepth 20000 in
theorem gX4_findFits_X4_personAt : GoodIn wsX4_findFits (wsV RX4 70 RX4 yX4_personAt wsX4_personAt) := goodIn_app (goodIn_of _ (by decide +kernel)) ggX4_findFits_X4_personAt
set_option maxRecDepth 20000 in
theorem ggX4_findFits_X5_isLeft : GoodIn wsX4_findFits wsX5_isLeft := goodIn_r _ [13, 14, 15, 16, 17, 69, 70, 71, 72, 73, 74, 75, 76, 77, 78, 79, 80, 81, 82, 83, 84, 85, 86, 87, 88, 89, 90, 91, 92, 93, 94, 95, 96, 97, 98, 99, 100, 101, 102, 103, 104, 105, 106, 107, 108, 109, 110, 111, 112, 113, 114, 115, 116, 117, 118, 119, 120, 121, 122, 123, 124, 125, 126, 127, 128, 129, 130, 131] (by decide +kernel) (by decide +kernel)
set_option maxRecDepth 20000 in
theorem gX4_findFits_X5_isLeft_u92X0 : GoodIn wsX4_findFits (va_wsU RX4 92 RX0 "CarbonCopies$Person" ⟨"CarbonCopies$Person", "isLeft", "(I)Z"⟩ yX5_isLeft wsX5_isLeft) := goodIn_app (goodIn_of _ (by decide +kernel)) ggX4_findFits_X5_isLeft
set_option maxRecDepth 20000 in
theorem gX4_findFits_X5_isLeft_u92X1 : GoodIn wsX4_findFits (va_wsU RX4 92 RX1 "CarbonCopies$Person" ⟨"CarbonCopies$Person", "isLeft", "(I)Z"⟩ yX5_isLeft wsX5_isLeft) := goodIn_app (goodIn_of _ (by decide +kernel)) ggX4_findFits_X5_isLeft
set_option maxRecDepth 20000 in
theorem gX4_findFits_X5_isLeft_u92X2 : GoodIn wsX4_findFits (va_wsU RX4 92 RX2 "CarbonCopies$Person" ⟨"CarbonCopies$Person", "isLeft", "(I)Z"⟩ yX5_isLeft wsX5_isLeft) := goodIn_app (goodIn_of _ (by decide +kernel)) ggX4_findFits_X5_isLeft
set_option maxRecDepth 20000 in
theorem gX4_findFits_X5_isLeft_u92X3 : GoodIn wsX4_findFits (va_wsU RX4 92 RX3 "CarbonCopies$Person" ⟨"CarbonCopies$Person", "isLeft", "(I)Z"⟩ yX5_isLeft wsX5_isLeft) := goodIn_app (goodIn_of _ (by decide +kernel)) ggX4_findFits_X5_isLeft
set_option maxRecDepth 20000 in
theorem gX4_findFits_X5_isLeft : GoodIn wsX4_findFits (wsV RX4 92 RX5 yX5_isLeft wsX5_isLeft) := goodIn_app (goodIn_of _ (by decide +kernel)) ggX4_findFits_X5_isLeft
set_option maxRecDepth 20000 in
theorem gX4_findFits_X5_isLeft_u92X8 : GoodIn wsX4_findFits (va_wsU RX4 92 RX8 "CarbonCopies$Person" ⟨"CarbonCopies$Person", "isLeft", "(I)Z"⟩ yX5_isLeft wsX5_isLeft) := goodIn_app (goodIn_of _ (by decide +kernel)) ggX4_findFits_X5_isLeft
set_option maxRecDepth 20000 in
theorem gX4_findFits_X5_isLeft_u92X10 : GoodIn wsX4_findFits (va_wsU RX4 92 RX10 "CarbonCopies$Person" ⟨"CarbonCopies$Person", "isLeft", "(I)Z"⟩ yX5_isLeft wsX5_isLeft) := goodIn_app (goodIn_of _ (by decide +kernel)) ggX4_findFits_X5_isLeft
set_option maxRecDepth 20000 in
theorem ggX4_findFits_X4_fitsTold : GoodIn wsX4_findFits wsX4_fitsTold := goodIn_r _ [27, 28, 29, 30, 31, 12, 32, 33, 15, 16, 17, 34, 35, 36, 37, 38, 39, 40, 41, 42, 43, 44, 45, 46, 47, 48, 49, 50, 51, 52, 53, 54, 55, 56, 57, 58, 59, 60, 61, 62, 69, 70, 71, 72, 73, 74, 75, 76, 77, 78, 79, 80, 81, 82, 83, 84, 85, 86, 87, 88, 89, 90, 91, 92, 93, 94, 95, 96, 97, 98, 99, 100, 101, 102, 103, 104, 105, 106, 107, 108, 109, 110, 111, 112, 113, 114, 115, 116, 117, 118, 119, 120, 121, 122, 123, 124, 125, 126, 127, 128, 129, 130, 131, 132, 133, 134] (by decide +kernel) (by decide +kernel)
set_option maxRecDepth 20000 in
theorem gX4_findFits_X4_fitsTold : GoodIn wsX4_findFits (va_wsS RX4 96 yX4_fitsTold wsX4_fitsTold) := goodIn_app (goodIn_of _ (by decide +kernel)) ggX4_findFits_X4_fitsTold
theorem dX4_findFits_0 : decode cX4_findFits 0 = .ok (.iconst 0, 1) := by decide +kernel
theorem dX4_findFits_1 : decode cX4_findFits 1 = .ok (.istore 5, 2) := by decide +kernel
theorem dX4_findFits_3 : decode cX4_findFits 3 = .ok (.iconst 0, 1) := by decide +kernel
theorem dX4_findFits_4 : decode cX4_findFits 4 = .ok (.istore 6, 2) := by decide +kernel
theorem dX4_findFits_6 : decode cX4_findFits 6 = .ok (.iload 6, 2) := by decide +kernel
theorem dX4_findFits_8 : decode cX4_findFits 8 = .ok (.aload_n 0, 1) := by decide +kernel
theorem dX4_findFits_9 : decode cX4_findFits 9 = .ok (.getfield 21, 3) := by decide +kernel
theorem dX4_findFits_12 : decode cX4_findFits 12 = .ok (.if_icmp .ge 85, 3) := by decide +kernel
theorem dX4_findFits_15 : decode cX4_findFits 15 = .ok (.aload_n 0, 1) := by decide +kernel
theorem dX4_findFits_16 : decode cX4_findFits 16 = .ok (.iload 6, 2) := by decide +kernel
theorem dX4_findFits_18 : decode cX4_findFits 18 = .ok (.invokevirtual 70, 3) := by decide +kernel
theorem dX4_findFits_21 : decode cX4_findFits 21 = .ok (.astore 7, 2) := by decide +kernel
theorem dX4_findFits_23 : decode cX4_findFits 23 = .ok (.iconst 0, 1) := by decide +kernel
theorem dX4_findFits_24 : decode cX4_findFits 24 = .ok (.istore 8, 2) := by decide +kernel
theorem dX4_findFits_26 : decode cX4_findFits 26 = .ok (.aload 7, 2) := by decide +kernel
theorem dX4_findFits_28 : decode cX4_findFits 28 = .ok (.ifnull 63, 3) := by decide +kernel
theorem dX4_findFits_31 : decode cX4_findFits 31 = .ok (.iload 8, 2) := by decide +kernel
theorem dX4_findFits_33 : decode cX4_findFits 33 = .ok (.bipush 6, 2) := by decide +kernel
theorem dX4_findFits_35 : decode cX4_findFits 35 = .ok (.if_icmp .ge 56, 3) := by decide +kernel
theorem dX4_findFits_38 : decode cX4_findFits 38 = .ok (.aload 7, 2) := by decide +kernel
theorem dX4_findFits_40 : decode cX4_findFits 40 = .ok (.iload 8, 2) := by decide +kernel
theorem dX4_findFits_42 : decode cX4_findFits 42 = .ok (.invokevirtual 92, 3) := by decide +kernel
theorem dX4_findFits_45 : decode cX4_findFits 45 = .ok (.ifCond .eq 40, 3) := by decide +kernel
theorem dX4_findFits_48 : decode cX4_findFits 48 = .ok (.aload 7, 2) := by decide +kernel
theorem dX4_findFits_50 : decode cX4_findFits 50 = .ok (.iload 8, 2) := by decide +kernel
theorem dX4_findFits_52 : decode cX4_findFits 52 = .ok (.aload_n 1, 1) := by decide +kernel
theorem dX4_findFits_53 : decode cX4_findFits 53 = .ok (.iload_n 2, 1) := by decide +kernel
theorem dX4_findFits_54 : decode cX4_findFits 54 = .ok (.iload_n 3, 1) := by decide +kernel
theorem dX4_findFits_55 : decode cX4_findFits 55 = .ok (.invokestatic 96, 3) := by decide +kernel
theorem dX4_findFits_58 : decode cX4_findFits 58 = .ok (.ifCond .eq 27, 3) := by decide +kernel
theorem dX4_findFits_61 : decode cX4_findFits 61 = .ok (.iload 5, 2) := by decide +kernel
theorem dX4_findFits_63 : decode cX4_findFits 63 = .ok (.aload 4, 2) := by decide +kernel
theorem dX4_findFits_65 : decode cX4_findFits 65 = .ok (.arraylength, 1) := by decide +kernel
theorem dX4_findFits_66 : decode cX4_findFits 66 = .ok (.if_icmp .ge 19, 3) := by decide +kernel
theorem dX4_findFits_69 : decode cX4_findFits 69 = .ok (.aload 4, 2) := by decide +kernel
theorem dX4_findFits_71 : decode cX4_findFits 71 = .ok (.iload 5, 2) := by decide +kernel
theorem dX4_findFits_73 : decode cX4_findFits 73 = .ok (.bipush 10, 2) := by decide +kernel
theorem dX4_findFits_75 : decode cX4_findFits 75 = .ok (.iload 6, 2) := by decide +kernel
theorem dX4_findFits_77 : decode cX4_findFits 77 = .ok (.imul, 1) := by decide +kernel
theorem dX4_findFits_78 : decode cX4_findFits 78 = .ok (.iload 8, 2) := by decide +kernel
theorem dX4_findFits_80 : decode cX4_findFits 80 = .ok (.iadd, 1) := by decide +kernel
theorem dX4_findFits_81 : decode cX4_findFits 81 = .ok (.iastore, 1) := by decide +kernel
theorem dX4_findFits_82 : decode cX4_findFits 82 = .ok (.iinc 5 1, 3) := by decide +kernel
theorem dX4_findFits_85 : decode cX4_findFits 85 = .ok (.iinc 8 1, 3) := by decide +kernel
theorem dX4_findFits_88 : decode cX4_findFits 88 = .ok (.goto (-62), 3) := by decide +kernel
theorem dX4_findFits_91 : decode cX4_findFits 91 = .ok (.iinc 6 1, 3) := by decide +kernel
theorem dX4_findFits_94 : decode cX4_findFits 94 = .ok (.goto (-88), 3) := by decide +kernel
theorem dX4_findFits_97 : decode cX4_findFits 97 = .ok (.iload 5, 2) := by decide +kernel
theorem dX4_findFits_99 : decode cX4_findFits 99 = .ok (.ireturn, 1) := by decide +kernel
set_option maxRecDepth 20000 in
theorem ggX4_fitsTold_X5_strengthOf : GoodIn wsX4_fitsTold wsX5_strengthOf := goodIn_r _ [6, 7, 8, 9, 10, 11, 12, 40, 41, 42, 43, 44, 45, 46, 47, 48, 49, 50, 51, 52, 53, 54, 55, 56, 57, 58, 59, 60, 61, 62, 63, 64, 65, 66, 67, 68, 69, 70, 71, 72, 73, 74, 75, 76, 77, 78, 79, 80, 81, 82, 83, 84, 85, 86, 87, 88, 89, 90, 91, 92, 93, 94, 95, 96, 97, 98, 99, 100, 101, 102] (by decide +kernel) (by decide +kernel)
set_option maxRecDepth 20000 in
theorem gX4_fitsTold_X5_strengthOf_u100X0 : GoodIn wsX4_fitsTold (va_wsU RX4 100 RX0 "CarbonCopies$Person" ⟨"CarbonCopies$Person", "strengthOf", "(II)I"⟩ yX5_strengthOf wsX5_strengthOf) := goodIn_app (goodIn_of _ (by decide +kernel)) ggX4_fitsTold_X5_strengthOf
set_option maxRecDepth 20000 in
theorem gX4_fitsTold_X5_strengthOf_u100X1 : GoodIn wsX4_fitsTold (va_wsU RX4 100 RX1 "CarbonCopies$Person" ⟨"CarbonCopies$Person", "strengthOf", "(II)I"⟩ yX5_strengthOf wsX5_strengthOf) := goodIn_app (goodIn_of _ (by decide +kernel)) ggX4_fitsTold_X5_strengthOf
set_option maxRecDepth 20000 in
theorem gX4_fitsTold_X5_strengthOf_u100X2 : GoodIn wsX4_fitsTold (va_wsU RX4 100 RX2 "CarbonCopies$Person" ⟨"CarbonCopies$Person", "strengthOf", "(II)I"⟩ yX5_strengthOf wsX5_strengthOf) := goodIn_app (goodIn_of _ (by decide +kernel)) ggX4_fitsTold_X5_strengthOf
set_option maxRecDepth 20000 in
theorem gX4_fitsTold_X5_strengthOf_u100X3 : GoodIn wsX4_fitsTold (va_wsU RX4 100 RX3 "CarbonCopies$Person" ⟨"CarbonCopies$Person", "strengthOf", "(II)I"⟩ yX5_strengthOf wsX5_strengthOf) := goodIn_app (goodIn_of _ (by decide +kernel)) ggX4_fitsTold_X5_strengthOf
set_option maxRecDepth 20000 in
theorem gX4_fitsTold_X5_strengthOf : GoodIn wsX4_fitsTold (wsV RX4 100 RX5 yX5_strengthOf wsX5_strengthOf) := goodIn_app (goodIn_of _ (by decide +kernel)) ggX4_fitsTold_X5_strengthOf
set_option maxRecDepth 20000 in
theorem gX4_fitsTold_X5_strengthOf_u100X8 : GoodIn wsX4_fitsTold (va_wsU RX4 100 RX8 "CarbonCopies$Person" ⟨"CarbonCopies$Person", "strengthOf", "(II)I"⟩ yX5_strengthOf wsX5_strengthOf) := goodIn_app (goodIn_of _ (by decide +kernel)) ggX4_fitsTold_X5_strengthOf
set_option maxRecDepth 20000 in
theorem gX4_fitsTold_X5_strengthOf_u100X10 : GoodIn wsX4_fitsTold (va_wsU RX4 100 RX10 "CarbonCopies$Person" ⟨"CarbonCopies$Person", "strengthOf", "(II)I"⟩ yX5_strengthOf wsX5_strengthOf) := goodIn_app (goodIn_of _ (by decide +kernel)) ggX4_fitsTold_X5_strengthOf
set_option maxRecDepth 20000 in
theorem ggX4_fitsTold_X7_intAt : GoodIn wsX4_fitsTold wsX7_intAt := goodIn_r _ [24, 25, 26, 27, 23, 28, 29, 30, 31, 32, 33, 34, 35, 36, 37, 38, 39, 103, 104, 105] (by decide +kernel) (by decide +kernel)
set_option maxRecDepth 20000 in
theorem gX4_fitsTold_X7_intAt : GoodIn wsX4_fitsTold (wsV RX4 103 RX7 yX7_intAt wsX7_intAt) := goodIn_app (goodIn_of _ (by decide +kernel)) ggX4_fitsTold_X7_intAt
theorem dX4_fitsTold_0 : decode cX4_fitsTold 0 = .ok (.iconst 0, 1) := by decide +kernel
theorem dX4_fitsTold_1 : decode cX4_fitsTold 1 = .ok (.istore 5, 2) := by decide +kernel
theorem dX4_fitsTold_3 : decode cX4_fitsTold 3 = .ok (.iload 5, 2) := by decide +kernel
theorem dX4_fitsTold_5 : decode cX4_fitsTold 5 = .ok (.iload_n 3, 1) := by decide +kernel
theorem dX4_fitsTold_6 : decode cX4_fitsTold 6 = .ok (.if_icmp .ge 55, 3) := by decide +kernel
theorem dX4_fitsTold_9 : decode cX4_fitsTold 9 = .ok (.iload 5, 2) := by decide +kernel
theorem dX4_fitsTold_11 : decode cX4_fitsTold 11 = .ok (.bipush 8, 2) := by decide +kernel
theorem dX4_fitsTold_13 : decode cX4_fitsTold 13 = .ok (.if_icmp .ge 48, 3) := by decide +kernel
theorem dX4_fitsTold_16 : decode cX4_fitsTold 16 = .ok (.aload_n 0, 1) := by decide +kernel
theorem dX4_fitsTold_17 : decode cX4_fitsTold 17 = .ok (.iload_n 1, 1) := by decide +kernel
theorem dX4_fitsTold_18 : decode cX4_fitsTold 18 = .ok (.iload 5, 2) := by decide +kernel
theorem dX4_fitsTold_20 : decode cX4_fitsTold 20 = .ok (.invokevirtual 100, 3) := by decide +kernel
theorem dX4_fitsTold_23 : decode cX4_fitsTold 23 = .ok (.i2l, 1) := by decide +kernel
theorem dX4_fitsTold_24 : decode cX4_fitsTold 24 = .ok (.aload_n 2, 1) := by decide +kernel
theorem dX4_fitsTold_25 : decode cX4_fitsTold 25 = .ok (.iload 5, 2) := by decide +kernel
theorem dX4_fitsTold_27 : decode cX4_fitsTold 27 = .ok (.invokevirtual 103, 3) := by decide +kernel
theorem dX4_fitsTold_30 : decode cX4_fitsTold 30 = .ok (.i2l, 1) := by decide +kernel
theorem dX4_fitsTold_31 : decode cX4_fitsTold 31 = .ok (.lsub, 1) := by decide +kernel
theorem dX4_fitsTold_32 : decode cX4_fitsTold 32 = .ok (.lstore 6, 2) := by decide +kernel
theorem dX4_fitsTold_34 : decode cX4_fitsTold 34 = .ok (.lload 6, 2) := by decide +kernel
theorem dX4_fitsTold_36 : decode cX4_fitsTold 36 = .ok (.iload 4, 2) := by decide +kernel
theorem dX4_fitsTold_38 : decode cX4_fitsTold 38 = .ok (.i2l, 1) := by decide +kernel
theorem dX4_fitsTold_39 : decode cX4_fitsTold 39 = .ok (.lcmp, 1) := by decide +kernel
theorem dX4_fitsTold_40 : decode cX4_fitsTold 40 = .ok (.ifCond .gt 13, 3) := by decide +kernel
theorem dX4_fitsTold_43 : decode cX4_fitsTold 43 = .ok (.lload 6, 2) := by decide +kernel
theorem dX4_fitsTold_45 : decode cX4_fitsTold 45 = .ok (.iload 4, 2) := by decide +kernel
theorem dX4_fitsTold_47 : decode cX4_fitsTold 47 = .ok (.ineg, 1) := by decide +kernel
theorem dX4_fitsTold_48 : decode cX4_fitsTold 48 = .ok (.i2l, 1) := by decide +kernel
theorem dX4_fitsTold_49 : decode cX4_fitsTold 49 = .ok (.lcmp, 1) := by decide +kernel
theorem dX4_fitsTold_50 : decode cX4_fitsTold 50 = .ok (.ifCond .ge 5, 3) := by decide +kernel
theorem dX4_fitsTold_53 : decode cX4_fitsTold 53 = .ok (.iconst 0, 1) := by decide +kernel
theorem dX4_fitsTold_54 : decode cX4_fitsTold 54 = .ok (.ireturn, 1) := by decide +kernel
theorem dX4_fitsTold_55 : decode cX4_fitsTold 55 = .ok (.iinc 5 1, 3) := by decide +kernel
theorem dX4_fitsTold_58 : decode cX4_fitsTold 58 = .ok (.goto (-55), 3) := by decide +kernel
theorem dX4_fitsTold_61 : decode cX4_fitsTold 61 = .ok (.iconst 1, 1) := by decide +kernel
theorem dX4_fitsTold_62 : decode cX4_fitsTold 62 = .ok (.ireturn, 1) := by decide +kernel
set_option maxRecDepth 20000 in
theorem ggX4_firstWrong_X4_personAt : GoodIn wsX4_firstWrong wsX4_personAt := goodIn_r _ [7, 8, 9, 39, 40, 41, 42, 43, 44] (by decide +kernel) (by decide +kernel)
set_option maxRecDepth 20000 in
theorem gX4_firstWrong_X4_personAt : GoodIn wsX4_firstWrong (wsV RX4 70 RX4 yX4_personAt wsX4_personAt) := goodIn_app (goodIn_of _ (by decide +kernel)) ggX4_firstWrong_X4_personAt
set_option maxRecDepth 20000 in
theorem ggX4_firstWrong_X7_intAt : GoodIn wsX4_firstWrong wsX7_intAt := goodIn_r _ [14, 15, 16, 17, 13, 18, 19, 20, 21, 22, 23, 24, 25, 26, 27, 28, 29, 108, 109, 110] (by decide +kernel) (by decide +kernel)
set_option maxRecDepth 20000 in
theorem gX4_firstWrong_X7_intAt : GoodIn wsX4_firstWrong (wsV RX4 103 RX7 yX7_intAt wsX7_intAt) := goodIn_app (goodIn_of _ (by decide +kernel)) ggX4_firstWrong_X7_intAt
set_option maxRecDepth 20000 in
theorem ggX4_firstWrong_X4_canBe : GoodIn wsX4_firstWrong wsX4_canBe := goodIn_r _ [33, 1, 34, 35, 36, 37, 38, 39, 40, 41, 42, 43, 44] (by decide +kernel) (by decide +kernel)
set_option maxRecDepth 20000 in
theorem gX4_firstWrong_X4_canBe : GoodIn wsX4_firstWrong (wsV RX4 109 RX4 yX4_canBe wsX4_canBe) := goodIn_app (goodIn_of _ (by decide +kernel)) ggX4_firstWrong_X4_canBe
theorem dX4_firstWrong_0 : decode cX4_firstWrong 0 = .ok (.iconst 0, 1) := by decide +kernel
theorem dX4_firstWrong_1 : decode cX4_firstWrong 1 = .ok (.istore_n 3, 1) := by decide +kernel
theorem dX4_firstWrong_2 : decode cX4_firstWrong 2 = .ok (.iload_n 3, 1) := by decide +kernel
theorem dX4_firstWrong_3 : decode cX4_firstWrong 3 = .ok (.bipush 6, 2) := by decide +kernel
theorem dX4_firstWrong_5 : decode cX4_firstWrong 5 = .ok (.if_icmp .ge 37, 3) := by decide +kernel
theorem dX4_firstWrong_8 : decode cX4_firstWrong 8 = .ok (.aload_n 0, 1) := by decide +kernel
theorem dX4_firstWrong_9 : decode cX4_firstWrong 9 = .ok (.iload_n 3, 1) := by decide +kernel
theorem dX4_firstWrong_10 : decode cX4_firstWrong 10 = .ok (.invokevirtual 70, 3) := by decide +kernel
theorem dX4_firstWrong_13 : decode cX4_firstWrong 13 = .ok (.astore 4, 2) := by decide +kernel
theorem dX4_firstWrong_15 : decode cX4_firstWrong 15 = .ok (.aload_n 0, 1) := by decide +kernel
theorem dX4_firstWrong_16 : decode cX4_firstWrong 16 = .ok (.getfield 17, 3) := by decide +kernel
theorem dX4_firstWrong_19 : decode cX4_firstWrong 19 = .ok (.iload_n 3, 1) := by decide +kernel
theorem dX4_firstWrong_20 : decode cX4_firstWrong 20 = .ok (.aload 4, 2) := by decide +kernel
theorem dX4_firstWrong_22 : decode cX4_firstWrong 22 = .ok (.ifnonnull 8, 3) := by decide +kernel
theorem dX4_firstWrong_25 : decode cX4_firstWrong 25 = .ok (.bipush 6, 2) := by decide +kernel
theorem dX4_firstWrong_27 : decode cX4_firstWrong 27 = .ok (.goto 8, 3) := by decide +kernel
theorem dX4_firstWrong_30 : decode cX4_firstWrong 30 = .ok (.aload 4, 2) := by decide +kernel
theorem dX4_firstWrong_32 : decode cX4_firstWrong 32 = .ok (.getfield 78, 3) := by decide +kernel
theorem dX4_firstWrong_35 : decode cX4_firstWrong 35 = .ok (.iastore, 1) := by decide +kernel
theorem dX4_firstWrong_36 : decode cX4_firstWrong 36 = .ok (.iinc 3 1, 3) := by decide +kernel
theorem dX4_firstWrong_39 : decode cX4_firstWrong 39 = .ok (.goto (-37), 3) := by decide +kernel
theorem dX4_firstWrong_42 : decode cX4_firstWrong 42 = .ok (.iconst 0, 1) := by decide +kernel
theorem dX4_firstWrong_43 : decode cX4_firstWrong 43 = .ok (.istore_n 3, 1) := by decide +kernel
theorem dX4_firstWrong_44 : decode cX4_firstWrong 44 = .ok (.iload_n 3, 1) := by decide +kernel
theorem dX4_firstWrong_45 : decode cX4_firstWrong 45 = .ok (.iload_n 2, 1) := by decide +kernel
theorem dX4_firstWrong_46 : decode cX4_firstWrong 46 = .ok (.if_icmp .ge 58, 3) := by decide +kernel
theorem dX4_firstWrong_49 : decode cX4_firstWrong 49 = .ok (.aload_n 1, 1) := by decide +kernel
theorem dX4_firstWrong_50 : decode cX4_firstWrong 50 = .ok (.iload_n 3, 1) := by decide +kernel
theorem dX4_firstWrong_51 : decode cX4_firstWrong 51 = .ok (.invokevirtual 103, 3) := by decide +kernel
theorem dX4_firstWrong_54 : decode cX4_firstWrong 54 = .ok (.istore 4, 2) := by decide +kernel
theorem dX4_firstWrong_56 : decode cX4_firstWrong 56 = .ok (.aload_n 0, 1) := by decide +kernel
theorem dX4_firstWrong_57 : decode cX4_firstWrong 57 = .ok (.iload 4, 2) := by decide +kernel
theorem dX4_firstWrong_59 : decode cX4_firstWrong 59 = .ok (.invokevirtual 109, 3) := by decide +kernel
theorem dX4_firstWrong_62 : decode cX4_firstWrong 62 = .ok (.ifCond .ne 5, 3) := by decide +kernel
theorem dX4_firstWrong_65 : decode cX4_firstWrong 65 = .ok (.iload_n 3, 1) := by decide +kernel
theorem dX4_firstWrong_66 : decode cX4_firstWrong 66 = .ok (.ireturn, 1) := by decide +kernel
theorem dX4_firstWrong_67 : decode cX4_firstWrong 67 = .ok (.iload 4, 2) := by decide +kernel
theorem dX4_firstWrong_69 : decode cX4_firstWrong 69 = .ok (.sipush 30000, 3) := by decide +kernel
theorem dX4_firstWrong_72 : decode cX4_firstWrong 72 = .ok (.isub, 1) := by decide +kernel
theorem dX4_firstWrong_73 : decode cX4_firstWrong 73 = .ok (.istore 5, 2) := by decide +kernel
theorem dX4_firstWrong_75 : decode cX4_firstWrong 75 = .ok (.iload 5, 2) := by decide +kernel
theorem dX4_firstWrong_77 : decode cX4_firstWrong 77 = .ok (.ifCond .lt 21, 3) := by decide +kernel
theorem dX4_firstWrong_80 : decode cX4_firstWrong 80 = .ok (.iload 5, 2) := by decide +kernel
theorem dX4_firstWrong_82 : decode cX4_firstWrong 82 = .ok (.bipush 6, 2) := by decide +kernel
theorem dX4_firstWrong_84 : decode cX4_firstWrong 84 = .ok (.if_icmp .ge 14, 3) := by decide +kernel
theorem dX4_firstWrong_87 : decode cX4_firstWrong 87 = .ok (.aload_n 0, 1) := by decide +kernel
theorem dX4_firstWrong_88 : decode cX4_firstWrong 88 = .ok (.getfield 17, 3) := by decide +kernel
theorem dX4_firstWrong_91 : decode cX4_firstWrong 91 = .ok (.iload 5, 2) := by decide +kernel
theorem dX4_firstWrong_93 : decode cX4_firstWrong 93 = .ok (.dup2, 1) := by decide +kernel
theorem dX4_firstWrong_94 : decode cX4_firstWrong 94 = .ok (.iaload, 1) := by decide +kernel
theorem dX4_firstWrong_95 : decode cX4_firstWrong 95 = .ok (.iconst 1, 1) := by decide +kernel
theorem dX4_firstWrong_96 : decode cX4_firstWrong 96 = .ok (.iadd, 1) := by decide +kernel
theorem dX4_firstWrong_97 : decode cX4_firstWrong 97 = .ok (.iastore, 1) := by decide +kernel
theorem dX4_firstWrong_98 : decode cX4_firstWrong 98 = .ok (.iinc 3 1, 3) := by decide +kernel
theorem dX4_firstWrong_101 : decode cX4_firstWrong 101 = .ok (.goto (-57), 3) := by decide +kernel
theorem dX4_firstWrong_104 : decode cX4_firstWrong 104 = .ok (.iconst (-1), 1) := by decide +kernel
theorem dX4_firstWrong_105 : decode cX4_firstWrong 105 = .ok (.ireturn, 1) := by decide +kernel
set_option maxRecDepth 20000 in
theorem ggX4_canBe_X11_isDeed : GoodIn wsX4_canBe wsX11_isDeed := goodIn_r _ [4] (by decide +kernel) (by decide +kernel)
set_option maxRecDepth 20000 in
theorem gX4_canBe_X11_isDeed_n112 : GoodIn wsX4_canBe (wsX11_isDeed) := ggX4_canBe_X11_isDeed
set_option maxRecDepth 20000 in
theorem ggX4_canBe_X11_isCopy : GoodIn wsX4_canBe wsX11_isCopy := goodIn_r _ [6] (by decide +kernel) (by decide +kernel)
set_option maxRecDepth 20000 in
theorem gX4_canBe_X11_isCopy_n115 : GoodIn wsX4_canBe (wsX11_isCopy) := ggX4_canBe_X11_isCopy
theorem dX4_canBe_0 : decode cX4_canBe 0 = .ok (.iload_n 1, 1) := by decide +kernel
theorem dX4_canBe_1 : decode cX4_canBe 1 = .ok (.sipush 10000, 3) := by decide +kernel
theorem dX4_canBe_4 : decode cX4_canBe 4 = .ok (.if_icmp .lt 10, 3) := by decide +kernel
theorem dX4_canBe_7 : decode cX4_canBe 7 = .ok (.iload_n 1, 1) := by decide +kernel
theorem dX4_canBe_8 : decode cX4_canBe 8 = .ok (.sipush 30006, 3) := by decide +kernel
theorem dX4_canBe_11 : decode cX4_canBe 11 = .ok (.if_icmp .lt 5, 3) := by decide +kernel
theorem dX4_canBe_14 : decode cX4_canBe 14 = .ok (.iconst 0, 1) := by decide +kernel
theorem dX4_canBe_15 : decode cX4_canBe 15 = .ok (.ireturn, 1) := by decide +kernel
theorem dX4_canBe_16 : decode cX4_canBe 16 = .ok (.iload_n 1, 1) := by decide +kernel
theorem dX4_canBe_17 : decode cX4_canBe 17 = .ok (.sipush 30000, 3) := by decide +kernel
theorem dX4_canBe_20 : decode cX4_canBe 20 = .ok (.if_icmp .lt 24, 3) := by decide +kernel
theorem dX4_canBe_23 : decode cX4_canBe 23 = .ok (.aload_n 0, 1) := by decide +kernel
theorem dX4_canBe_24 : decode cX4_canBe 24 = .ok (.getfield 17, 3) := by decide +kernel
theorem dX4_canBe_27 : decode cX4_canBe 27 = .ok (.iload_n 1, 1) := by decide +kernel
theorem dX4_canBe_28 : decode cX4_canBe 28 = .ok (.sipush 30000, 3) := by decide +kernel
theorem dX4_canBe_31 : decode cX4_canBe 31 = .ok (.isub, 1) := by decide +kernel
theorem dX4_canBe_32 : decode cX4_canBe 32 = .ok (.iaload, 1) := by decide +kernel
theorem dX4_canBe_33 : decode cX4_canBe 33 = .ok (.bipush 6, 2) := by decide +kernel
theorem dX4_canBe_35 : decode cX4_canBe 35 = .ok (.if_icmp .ge 7, 3) := by decide +kernel
theorem dX4_canBe_38 : decode cX4_canBe 38 = .ok (.iconst 1, 1) := by decide +kernel
theorem dX4_canBe_39 : decode cX4_canBe 39 = .ok (.goto 4, 3) := by decide +kernel
theorem dX4_canBe_42 : decode cX4_canBe 42 = .ok (.iconst 0, 1) := by decide +kernel
theorem dX4_canBe_43 : decode cX4_canBe 43 = .ok (.ireturn, 1) := by decide +kernel
theorem dX4_canBe_44 : decode cX4_canBe 44 = .ok (.iload_n 1, 1) := by decide +kernel
theorem dX4_canBe_45 : decode cX4_canBe 45 = .ok (.sipush 1000, 3) := by decide +kernel
theorem dX4_canBe_48 : decode cX4_canBe 48 = .ok (.idiv, 1) := by decide +kernel
theorem dX4_canBe_49 : decode cX4_canBe 49 = .ok (.bipush 10, 2) := by decide +kernel
theorem dX4_canBe_51 : decode cX4_canBe 51 = .ok (.irem, 1) := by decide +kernel
theorem dX4_canBe_52 : decode cX4_canBe 52 = .ok (.istore_n 2, 1) := by decide +kernel
theorem dX4_canBe_53 : decode cX4_canBe 53 = .ok (.iload_n 2, 1) := by decide +kernel
theorem dX4_canBe_54 : decode cX4_canBe 54 = .ok (.bipush 6, 2) := by decide +kernel
theorem dX4_canBe_56 : decode cX4_canBe 56 = .ok (.if_icmp .ge 14, 3) := by decide +kernel
theorem dX4_canBe_59 : decode cX4_canBe 59 = .ok (.aload_n 0, 1) := by decide +kernel
theorem dX4_canBe_60 : decode cX4_canBe 60 = .ok (.getfield 17, 3) := by decide +kernel
theorem dX4_canBe_63 : decode cX4_canBe 63 = .ok (.iload_n 2, 1) := by decide +kernel
theorem dX4_canBe_64 : decode cX4_canBe 64 = .ok (.iaload, 1) := by decide +kernel
theorem dX4_canBe_65 : decode cX4_canBe 65 = .ok (.bipush 6, 2) := by decide +kernel
theorem dX4_canBe_67 : decode cX4_canBe 67 = .ok (.if_icmp .lt 5, 3) := by decide +kernel
theorem dX4_canBe_70 : decode cX4_canBe 70 = .ok (.iconst 0, 1) := by decide +kernel
theorem dX4_canBe_71 : decode cX4_canBe 71 = .ok (.ireturn, 1) := by decide +kernel
theorem dX4_canBe_72 : decode cX4_canBe 72 = .ok (.iload_n 1, 1) := by decide +kernel
theorem dX4_canBe_73 : decode cX4_canBe 73 = .ok (.bipush 100, 2) := by decide +kernel
theorem dX4_canBe_75 : decode cX4_canBe 75 = .ok (.idiv, 1) := by decide +kernel
theorem dX4_canBe_76 : decode cX4_canBe 76 = .ok (.bipush 10, 2) := by decide +kernel
theorem dX4_canBe_78 : decode cX4_canBe 78 = .ok (.irem, 1) := by decide +kernel
theorem dX4_canBe_79 : decode cX4_canBe 79 = .ok (.istore_n 3, 1) := by decide +kernel
theorem dX4_canBe_80 : decode cX4_canBe 80 = .ok (.iload_n 1, 1) := by decide +kernel
theorem dX4_canBe_81 : decode cX4_canBe 81 = .ok (.bipush 100, 2) := by decide +kernel
theorem dX4_canBe_83 : decode cX4_canBe 83 = .ok (.irem, 1) := by decide +kernel
theorem dX4_canBe_84 : decode cX4_canBe 84 = .ok (.istore 4, 2) := by decide +kernel
theorem dX4_canBe_86 : decode cX4_canBe 86 = .ok (.iload_n 1, 1) := by decide +kernel
theorem dX4_canBe_87 : decode cX4_canBe 87 = .ok (.sipush 20000, 3) := by decide +kernel
theorem dX4_canBe_90 : decode cX4_canBe 90 = .ok (.if_icmp .ge 22, 3) := by decide +kernel
theorem dX4_canBe_93 : decode cX4_canBe 93 = .ok (.iload_n 3, 1) := by decide +kernel
theorem dX4_canBe_94 : decode cX4_canBe 94 = .ok (.invokestatic 112, 3) := by decide +kernel
theorem dX4_canBe_97 : decode cX4_canBe 97 = .ok (.ifCond .eq 13, 3) := by decide +kernel
theorem dX4_canBe_100 : decode cX4_canBe 100 = .ok (.iload 4, 2) := by decide +kernel
theorem dX4_canBe_102 : decode cX4_canBe 102 = .ok (.iconst 1, 1) := by decide +kernel
theorem dX4_canBe_103 : decode cX4_canBe 103 = .ok (.if_icmp .lt 7, 3) := by decide +kernel
theorem dX4_canBe_106 : decode cX4_canBe 106 = .ok (.iconst 1, 1) := by decide +kernel
theorem dX4_canBe_107 : decode cX4_canBe 107 = .ok (.goto 4, 3) := by decide +kernel
theorem dX4_canBe_110 : decode cX4_canBe 110 = .ok (.iconst 0, 1) := by decide +kernel
theorem dX4_canBe_111 : decode cX4_canBe 111 = .ok (.ireturn, 1) := by decide +kernel
theorem dX4_canBe_112 : decode cX4_canBe 112 = .ok (.iload_n 3, 1) := by decide +kernel
theorem dX4_canBe_113 : decode cX4_canBe 113 = .ok (.invokestatic 115, 3) := by decide +kernel
theorem dX4_canBe_116 : decode cX4_canBe 116 = .ok (.ifCond .eq 25, 3) := by decide +kernel
theorem dX4_canBe_119 : decode cX4_canBe 119 = .ok (.iload_n 3, 1) := by decide +kernel
theorem dX4_canBe_120 : decode cX4_canBe 120 = .ok (.aload_n 0, 1) := by decide +kernel
theorem dX4_canBe_121 : decode cX4_canBe 121 = .ok (.getfield 17, 3) := by decide +kernel
theorem dX4_canBe_124 : decode cX4_canBe 124 = .ok (.iload_n 2, 1) := by decide +kernel
theorem dX4_canBe_125 : decode cX4_canBe 125 = .ok (.iaload, 1) := by decide +kernel
theorem dX4_canBe_126 : decode cX4_canBe 126 = .ok (.if_icmp .lt 15, 3) := by decide +kernel
theorem dX4_canBe_129 : decode cX4_canBe 129 = .ok (.iload 4, 2) := by decide +kernel
theorem dX4_canBe_131 : decode cX4_canBe 131 = .ok (.invokestatic 112, 3) := by decide +kernel
theorem dX4_canBe_134 : decode cX4_canBe 134 = .ok (.ifCond .eq 7, 3) := by decide +kernel
theorem dX4_canBe_137 : decode cX4_canBe 137 = .ok (.iconst 1, 1) := by decide +kernel
theorem dX4_canBe_138 : decode cX4_canBe 138 = .ok (.goto 4, 3) := by decide +kernel
theorem dX4_canBe_141 : decode cX4_canBe 141 = .ok (.iconst 0, 1) := by decide +kernel
theorem dX4_canBe_142 : decode cX4_canBe 142 = .ok (.ireturn, 1) := by decide +kernel
set_option maxRecDepth 20000 in
theorem ggX4_liveTold_X7_intAt : GoodIn wsX4_liveTold wsX7_intAt := goodIn_r _ [6, 7, 8, 9, 5, 10, 11, 12, 13, 14, 15, 16, 17, 18, 19, 20, 21, 211, 212, 213] (by decide +kernel) (by decide +kernel)
set_option maxRecDepth 20000 in
theorem gX4_liveTold_X7_intAt : GoodIn wsX4_liveTold (wsV RX4 103 RX7 yX7_intAt wsX7_intAt) := goodIn_app (goodIn_of _ (by decide +kernel)) ggX4_liveTold_X7_intAt
set_option maxRecDepth 20000 in
theorem ggX4_liveTold_X4_personAt : GoodIn wsX4_liveTold wsX4_personAt := goodIn_r _ [26, 27, 28, 214, 215, 216, 217, 218, 219] (by decide +kernel) (by decide +kernel)
set_option maxRecDepth 20000 in
theorem gX4_liveTold_X4_personAt : GoodIn wsX4_liveTold (wsV RX4 70 RX4 yX4_personAt wsX4_personAt) := goodIn_app (goodIn_of _ (by decide +kernel)) ggX4_liveTold_X4_personAt
set_option maxRecDepth 20000 in
theorem ggX4_liveTold_X5_rubOn : GoodIn wsX4_liveTold wsX5_rubOn := goodIn_r _ [34, 35, 36, 37, 38, 39, 40, 41, 42, 43, 44, 45, 148, 149, 150, 151, 152, 153, 154, 155, 156, 157, 158, 159, 160, 161, 162, 163, 164, 165, 166, 167, 168, 169, 170, 171, 172, 173, 174, 175, 176, 177, 178, 179, 180, 181, 182, 183, 184, 185, 186, 187, 188, 189, 190, 191, 192, 193, 194, 195, 196, 197, 198, 199, 200, 201, 202, 203, 204, 205, 206, 207, 208, 209, 210] (by decide +kernel) (by decide +kernel)
set_option maxRecDepth 20000 in
theorem gX4_liveTold_X5_rubOn_u118X0 : GoodIn wsX4_liveTold (va_wsU RX4 118 RX0 "CarbonCopies$Person" ⟨"CarbonCopies$Person", "rubOn", "(II)I"⟩ yX5_rubOn wsX5_rubOn) := goodIn_app (goodIn_of _ (by decide +kernel)) ggX4_liveTold_X5_rubOn
set_option maxRecDepth 20000 in
theorem gX4_liveTold_X5_rubOn_u118X1 : GoodIn wsX4_liveTold (va_wsU RX4 118 RX1 "CarbonCopies$Person" ⟨"CarbonCopies$Person", "rubOn", "(II)I"⟩ yX5_rubOn wsX5_rubOn) := goodIn_app (goodIn_of _ (by decide +kernel)) ggX4_liveTold_X5_rubOn
set_option maxRecDepth 20000 in
theorem gX4_liveTold_X5_rubOn_u118X2 : GoodIn wsX4_liveTold (va_wsU RX4 118 RX2 "CarbonCopies$Person" ⟨"CarbonCopies$Person", "rubOn", "(II)I"⟩ yX5_rubOn wsX5_rubOn) := goodIn_app (goodIn_of _ (by decide +kernel)) ggX4_liveTold_X5_rubOn
set_option maxRecDepth 20000 in
theorem gX4_liveTold_X5_rubOn_u118X3 : GoodIn wsX4_liveTold (va_wsU RX4 118 RX3 "CarbonCopies$Person" ⟨"CarbonCopies$Person", "rubOn", "(II)I"⟩ yX5_rubOn wsX5_rubOn) := goodIn_app (goodIn_of _ (by decide +kernel)) ggX4_liveTold_X5_rubOn
set_option maxRecDepth 20000 in
theorem gX4_liveTold_X5_rubOn : GoodIn wsX4_liveTold (wsV RX4 118 RX5 yX5_rubOn wsX5_rubOn) := goodIn_app (goodIn_of _ (by decide +kernel)) ggX4_liveTold_X5_rubOn
set_option maxRecDepth 20000 in
theorem gX4_liveTold_X5_rubOn_u118X8 : GoodIn wsX4_liveTold (va_wsU RX4 118 RX8 "CarbonCopies$Person" ⟨"CarbonCopies$Person", "rubOn", "(II)I"⟩ yX5_rubOn wsX5_rubOn) := goodIn_app (goodIn_of _ (by decide +kernel)) ggX4_liveTold_X5_rubOn
set_option maxRecDepth 20000 in
theorem gX4_liveTold_X5_rubOn_u118X10 : GoodIn wsX4_liveTold (va_wsU RX4 118 RX10 "CarbonCopies$Person" ⟨"CarbonCopies$Person", "rubOn", "(II)I"⟩ yX5_rubOn wsX5_rubOn) := goodIn_app (goodIn_of _ (by decide +kernel)) ggX4_liveTold_X5_rubOn
set_option maxRecDepth 20000 in
theorem ggX4_liveTold_X5_pressWith : GoodIn wsX4_liveTold wsX5_pressWith := goodIn_r _ [57, 58, 59, 60, 39, 61, 35, 37, 38, 40, 62, 44, 42, 45, 63, 64, 65, 66, 33, 67, 68, 69, 70, 71, 72, 73, 74, 75, 76, 77, 78, 79, 80, 81, 82, 83, 84, 85, 86, 87, 88, 89, 90, 91, 92, 93, 94, 95, 96, 97, 98, 99, 100, 101, 102, 103, 104, 105, 106, 107, 108, 109, 110, 111, 112, 113, 114, 115, 116, 117, 118, 119, 120, 121, 122, 123, 124, 125, 126, 127, 128, 129, 130, 131, 132, 133, 134, 135, 136, 137, 138, 139, 140, 148, 149, 150, 151, 152, 153, 154, 155, 156, 157, 158, 159, 160, 161, 162, 163, 164, 165, 166, 167, 168, 169, 170, 171, 172, 173, 174, 175, 176, 177, 178, 179, 180, 181, 182, 183, 184, 185, 186, 187, 188, 189, 190, 191, 192, 193, 194, 195, 196, 197, 198, 199, 200, 201, 202, 203, 204, 205, 206, 207, 208, 209, 210] (by decide +kernel) (by decide +kernel)
set_option maxRecDepth 20000 in
theorem gX4_liveTold_X5_pressWith_u121X0 : GoodIn wsX4_liveTold (va_wsU RX4 121 RX0 "CarbonCopies$Person" ⟨"CarbonCopies$Person", "pressWith", "(II)I"⟩ yX5_pressWith wsX5_pressWith) := goodIn_app (goodIn_of _ (by decide +kernel)) ggX4_liveTold_X5_pressWith
set_option maxRecDepth 20000 in
theorem gX4_liveTold_X5_pressWith_u121X1 : GoodIn wsX4_liveTold (va_wsU RX4 121 RX1 "CarbonCopies$Person" ⟨"CarbonCopies$Person", "pressWith", "(II)I"⟩ yX5_pressWith wsX5_pressWith) := goodIn_app (goodIn_of _ (by decide +kernel)) ggX4_liveTold_X5_pressWith
set_option maxRecDepth 20000 in
theorem gX4_liveTold_X5_pressWith_u121X2 : GoodIn wsX4_liveTold (va_wsU RX4 121 RX2 "CarbonCopies$Person" ⟨"CarbonCopies$Person", "pressWith", "(II)I"⟩ yX5_pressWith wsX5_pressWith) := goodIn_app (goodIn_of _ (by decide +kernel)) ggX4_liveTold_X5_pressWith
set_option maxRecDepth 20000 in
theorem gX4_liveTold_X5_pressWith_u121X3 : GoodIn wsX4_liveTold (va_wsU RX4 121 RX3 "CarbonCopies$Person" ⟨"CarbonCopies$Person", "pressWith", "(II)I"⟩ yX5_pressWith wsX5_pressWith) := goodIn_app (goodIn_of _ (by decide +kernel)) ggX4_liveTold_X5_pressWith
set_option maxRecDepth 20000 in
theorem gX4_liveTold_X5_pressWith : GoodIn wsX4_liveTold (wsV RX4 121 RX5 yX5_pressWith wsX5_pressWith) := goodIn_app (goodIn_of _ (by decide +kernel)) ggX4_liveTold_X5_pressWith
set_option maxRecDepth 20000 in
theorem gX4_liveTold_X5_pressWith_u121X8 : GoodIn wsX4_liveTold (va_wsU RX4 121 RX8 "CarbonCopies$Person" ⟨"CarbonCopies$Person", "pressWith", "(II)I"⟩ yX5_pressWith wsX5_pressWith) := goodIn_app (goodIn_of _ (by decide +kernel)) ggX4_liveTold_X5_pressWith
set_option maxRecDepth 20000 in
theorem gX4_liveTold_X5_pressWith_u121X10 : GoodIn wsX4_liveTold (va_wsU RX4 121 RX10 "CarbonCopies$Person" ⟨"CarbonCopies$Person", "pressWith", "(II)I"⟩ yX5_pressWith wsX5_pressWith) := goodIn_app (goodIn_of _ (by decide +kernel)) ggX4_liveTold_X5_pressWith
theorem dX4_liveTold_0 : decode cX4_liveTold 0 = .ok (.iconst 0, 1) := by decide +kernel
theorem dX4_liveTold_1 : decode cX4_liveTold 1 = .ok (.istore_n 3, 1) := by decide +kernel
theorem dX4_liveTold_2 : decode cX4_liveTold 2 = .ok (.iload_n 3, 1) := by decide +kernel
theorem dX4_liveTold_3 : decode cX4_liveTold 3 = .ok (.iload_n 2, 1) := by decide +kernel
theorem dX4_liveTold_4 : decode cX4_liveTold 4 = .ok (.if_icmp .ge 136, 3) := by decide +kernel
theorem dX4_liveTold_7 : decode cX4_liveTold 7 = .ok (.aload_n 1, 1) := by decide +kernel
theorem dX4_liveTold_8 : decode cX4_liveTold 8 = .ok (.iload_n 3, 1) := by decide +kernel
theorem dX4_liveTold_9 : decode cX4_liveTold 9 = .ok (.invokevirtual 103, 3) := by decide +kernel
theorem dX4_liveTold_12 : decode cX4_liveTold 12 = .ok (.istore 4, 2) := by decide +kernel
theorem dX4_liveTold_14 : decode cX4_liveTold 14 = .ok (.iload 4, 2) := by decide +kernel
theorem dX4_liveTold_16 : decode cX4_liveTold 16 = .ok (.sipush 30000, 3) := by decide +kernel
theorem dX4_liveTold_19 : decode cX4_liveTold 19 = .ok (.if_icmp .lt 7, 3) := by decide +kernel
theorem dX4_liveTold_22 : decode cX4_liveTold 22 = .ok (.iconst 1, 1) := by decide +kernel
theorem dX4_liveTold_23 : decode cX4_liveTold 23 = .ok (.goto 4, 3) := by decide +kernel
theorem dX4_liveTold_26 : decode cX4_liveTold 26 = .ok (.iconst 0, 1) := by decide +kernel
theorem dX4_liveTold_27 : decode cX4_liveTold 27 = .ok (.istore 5, 2) := by decide +kernel
theorem dX4_liveTold_29 : decode cX4_liveTold 29 = .ok (.aload_n 0, 1) := by decide +kernel
theorem dX4_liveTold_30 : decode cX4_liveTold 30 = .ok (.iload 5, 2) := by decide +kernel
theorem dX4_liveTold_32 : decode cX4_liveTold 32 = .ok (.ifCond .eq 12, 3) := by decide +kernel
theorem dX4_liveTold_35 : decode cX4_liveTold 35 = .ok (.iload 4, 2) := by decide +kernel
theorem dX4_liveTold_37 : decode cX4_liveTold 37 = .ok (.sipush 30000, 3) := by decide +kernel
theorem dX4_liveTold_40 : decode cX4_liveTold 40 = .ok (.isub, 1) := by decide +kernel
theorem dX4_liveTold_41 : decode cX4_liveTold 41 = .ok (.goto 12, 3) := by decide +kernel
theorem dX4_liveTold_44 : decode cX4_liveTold 44 = .ok (.iload 4, 2) := by decide +kernel
theorem dX4_liveTold_46 : decode cX4_liveTold 46 = .ok (.sipush 1000, 3) := by decide +kernel
theorem dX4_liveTold_49 : decode cX4_liveTold 49 = .ok (.idiv, 1) := by decide +kernel
theorem dX4_liveTold_50 : decode cX4_liveTold 50 = .ok (.bipush 10, 2) := by decide +kernel
theorem dX4_liveTold_52 : decode cX4_liveTold 52 = .ok (.irem, 1) := by decide +kernel
theorem dX4_liveTold_53 : decode cX4_liveTold 53 = .ok (.invokevirtual 70, 3) := by decide +kernel
theorem dX4_liveTold_56 : decode cX4_liveTold 56 = .ok (.astore 6, 2) := by decide +kernel
theorem dX4_liveTold_58 : decode cX4_liveTold 58 = .ok (.aload 6, 2) := by decide +kernel
theorem dX4_liveTold_60 : decode cX4_liveTold 60 = .ok (.ifnonnull 6, 3) := by decide +kernel
theorem dX4_liveTold_63 : decode cX4_liveTold 63 = .ok (.goto 71, 3) := by decide +kernel
theorem dX4_liveTold_66 : decode cX4_liveTold 66 = .ok (.iload 5, 2) := by decide +kernel
theorem dX4_liveTold_68 : decode cX4_liveTold 68 = .ok (.ifCond .eq 17, 3) := by decide +kernel
theorem dX4_liveTold_71 : decode cX4_liveTold 71 = .ok (.aload 6, 2) := by decide +kernel
theorem dX4_liveTold_73 : decode cX4_liveTold 73 = .ok (.dup, 1) := by decide +kernel
theorem dX4_liveTold_74 : decode cX4_liveTold 74 = .ok (.getfield 78, 3) := by decide +kernel
theorem dX4_liveTold_77 : decode cX4_liveTold 77 = .ok (.iconst 1, 1) := by decide +kernel
theorem dX4_liveTold_78 : decode cX4_liveTold 78 = .ok (.iadd, 1) := by decide +kernel
theorem dX4_liveTold_79 : decode cX4_liveTold 79 = .ok (.putfield 78, 3) := by decide +kernel
theorem dX4_liveTold_82 : decode cX4_liveTold 82 = .ok (.goto 52, 3) := by decide +kernel
theorem dX4_liveTold_85 : decode cX4_liveTold 85 = .ok (.iload 4, 2) := by decide +kernel
theorem dX4_liveTold_87 : decode cX4_liveTold 87 = .ok (.sipush 20000, 3) := by decide +kernel
theorem dX4_liveTold_90 : decode cX4_liveTold 90 = .ok (.if_icmp .lt 25, 3) := by decide +kernel
theorem dX4_liveTold_93 : decode cX4_liveTold 93 = .ok (.aload 6, 2) := by decide +kernel
theorem dX4_liveTold_95 : decode cX4_liveTold 95 = .ok (.iload 4, 2) := by decide +kernel
theorem dX4_liveTold_97 : decode cX4_liveTold 97 = .ok (.bipush 100, 2) := by decide +kernel
theorem dX4_liveTold_99 : decode cX4_liveTold 99 = .ok (.idiv, 1) := by decide +kernel
theorem dX4_liveTold_100 : decode cX4_liveTold 100 = .ok (.bipush 10, 2) := by decide +kernel
theorem dX4_liveTold_102 : decode cX4_liveTold 102 = .ok (.irem, 1) := by decide +kernel
theorem dX4_liveTold_103 : decode cX4_liveTold 103 = .ok (.iload 4, 2) := by decide +kernel
theorem dX4_liveTold_105 : decode cX4_liveTold 105 = .ok (.bipush 100, 2) := by decide +kernel
theorem dX4_liveTold_107 : decode cX4_liveTold 107 = .ok (.irem, 1) := by decide +kernel
theorem dX4_liveTold_108 : decode cX4_liveTold 108 = .ok (.invokevirtual 118, 3) := by decide +kernel
theorem dX4_liveTold_111 : decode cX4_liveTold 111 = .ok (.pop, 1) := by decide +kernel
theorem dX4_liveTold_112 : decode cX4_liveTold 112 = .ok (.goto 22, 3) := by decide +kernel
theorem dX4_liveTold_115 : decode cX4_liveTold 115 = .ok (.aload 6, 2) := by decide +kernel
theorem dX4_liveTold_117 : decode cX4_liveTold 117 = .ok (.iload 4, 2) := by decide +kernel
theorem dX4_liveTold_119 : decode cX4_liveTold 119 = .ok (.bipush 100, 2) := by decide +kernel
theorem dX4_liveTold_121 : decode cX4_liveTold 121 = .ok (.idiv, 1) := by decide +kernel
theorem dX4_liveTold_122 : decode cX4_liveTold 122 = .ok (.bipush 10, 2) := by decide +kernel
theorem dX4_liveTold_124 : decode cX4_liveTold 124 = .ok (.irem, 1) := by decide +kernel
theorem dX4_liveTold_125 : decode cX4_liveTold 125 = .ok (.iload 4, 2) := by decide +kernel
theorem dX4_liveTold_127 : decode cX4_liveTold 127 = .ok (.bipush 100, 2) := by decide +kernel
theorem dX4_liveTold_129 : decode cX4_liveTold 129 = .ok (.irem, 1) := by decide +kernel
theorem dX4_liveTold_130 : decode cX4_liveTold 130 = .ok (.invokevirtual 121, 3) := by decide +kernel
theorem dX4_liveTold_133 : decode cX4_liveTold 133 = .ok (.pop, 1) := by decide +kernel
theorem dX4_liveTold_134 : decode cX4_liveTold 134 = .ok (.iinc 3 1, 3) := by decide +kernel
theorem dX4_liveTold_137 : decode cX4_liveTold 137 = .ok (.goto (-135), 3) := by decide +kernel
theorem dX4_liveTold_140 : decode cX4_liveTold 140 = .ok (.return_, 1) := by decide +kernel
theorem dX4_drawBelow_0 : decode cX4_drawBelow 0 = .ok (.aload_n 0, 1) := by decide +kernel
theorem dX4_drawBelow_1 : decode cX4_drawBelow 1 = .ok (.aload_n 0, 1) := by decide +kernel
theorem dX4_drawBelow_2 : decode cX4_drawBelow 2 = .ok (.getfield 28, 3) := by decide +kernel
theorem dX4_drawBelow_5 : decode cX4_drawBelow 5 = .ok (.ldc 124, 2) := by decide +kernel
theorem dX4_drawBelow_7 : decode cX4_drawBelow 7 = .ok (.imul, 1) := by decide +kernel
theorem dX4_drawBelow_8 : decode cX4_drawBelow 8 = .ok (.sipush 12345, 3) := by decide +kernel
theorem dX4_drawBelow_11 : decode cX4_drawBelow 11 = .ok (.iadd, 1) := by decide +kernel
theorem dX4_drawBelow_12 : decode cX4_drawBelow 12 = .ok (.putfield 28, 3) := by decide +kernel
theorem dX4_drawBelow_15 : decode cX4_drawBelow 15 = .ok (.iload_n 1, 1) := by decide +kernel
theorem dX4_drawBelow_16 : decode cX4_drawBelow 16 = .ok (.iconst 1, 1) := by decide +kernel
theorem dX4_drawBelow_17 : decode cX4_drawBelow 17 = .ok (.if_icmp .ge 7, 3) := by decide +kernel
theorem dX4_drawBelow_20 : decode cX4_drawBelow 20 = .ok (.iconst 0, 1) := by decide +kernel
theorem dX4_drawBelow_21 : decode cX4_drawBelow 21 = .ok (.goto 12, 3) := by decide +kernel
theorem dX4_drawBelow_24 : decode cX4_drawBelow 24 = .ok (.aload_n 0, 1) := by decide +kernel
theorem dX4_drawBelow_25 : decode cX4_drawBelow 25 = .ok (.getfield 28, 3) := by decide +kernel
theorem dX4_drawBelow_28 : decode cX4_drawBelow 28 = .ok (.bipush 16, 2) := by decide +kernel
theorem dX4_drawBelow_30 : decode cX4_drawBelow 30 = .ok (.iushr, 1) := by decide +kernel
theorem dX4_drawBelow_31 : decode cX4_drawBelow 31 = .ok (.iload_n 1, 1) := by decide +kernel
theorem dX4_drawBelow_32 : decode cX4_drawBelow 32 = .ok (.irem, 1) := by decide +kernel
theorem dX4_drawBelow_33 : decode cX4_drawBelow 33 = .ok (.ireturn, 1) := by decide +kernel
set_option maxRecDepth 20000 in
theorem ggX4_liveYear_X4_drawBelow : GoodIn wsX4_liveYear wsX4_drawBelow := goodIn_r _ [7, 8, 9, 158, 159, 160, 161, 162, 163] (by decide +kernel) (by decide +kernel)
set_option maxRecDepth 20000 in
theorem gX4_liveYear_X4_drawBelow : GoodIn wsX4_liveYear (wsV RX4 125 RX4 yX4_drawBelow wsX4_drawBelow) := goodIn_app (goodIn_of _ (by decide +kernel)) ggX4_liveYear_X4_drawBelow
set_option maxRecDepth 20000 in
theorem ggX4_liveYear_X4_personAt : GoodIn wsX4_liveYear wsX4_personAt := goodIn_r _ [13, 1, 14, 158, 159, 160, 161, 162, 163] (by decide +kernel) (by decide +kernel)
set_option maxRecDepth 20000 in
theorem gX4_liveYear_X4_personAt : GoodIn wsX4_liveYear (wsV RX4 70 RX4 yX4_personAt wsX4_personAt) := goodIn_app (goodIn_of _ (by decide +kernel)) ggX4_liveYear_X4_personAt
set_option maxRecDepth 20000 in
theorem ggX4_liveYear_X5_isGone : GoodIn wsX4_liveYear wsX5_isGone := goodIn_r _ [20, 21, 164, 165, 166, 167, 168, 169, 170, 171, 172, 173, 174, 175, 176, 177, 178, 179, 180, 181, 182, 183, 184, 185, 186, 187, 188, 189, 190, 191, 192, 193, 194, 195, 196, 197, 198, 199, 200, 201, 202, 203, 204, 205, 206, 207, 208, 209, 210, 211, 212, 213, 214, 215, 216, 217, 218, 219, 220, 221, 222, 223, 224, 225, 226] (by decide +kernel) (by decide +kernel)
set_option maxRecDepth 20000 in
theorem gX4_liveYear_X5_isGone_u128X0 : GoodIn wsX4_liveYear (va_wsU RX4 128 RX0 "CarbonCopies$Person" ⟨"CarbonCopies$Person", "isGone", "()Z"⟩ yX5_isGone wsX5_isGone) := goodIn_app (goodIn_of _ (by decide +kernel)) ggX4_liveYear_X5_isGone
set_option maxRecDepth 20000 in
theorem gX4_liveYear_X5_isGone_u128X1 : GoodIn wsX4_liveYear (va_wsU RX4 128 RX1 "CarbonCopies$Person" ⟨"CarbonCopies$Person", "isGone", "()Z"⟩ yX5_isGone wsX5_isGone) := goodIn_app (goodIn_of _ (by decide +kernel)) ggX4_liveYear_X5_isGone
set_option maxRecDepth 20000 in
theorem gX4_liveYear_X5_isGone_u128X2 : GoodIn wsX4_liveYear (va_wsU RX4 128 RX2 "CarbonCopies$Person" ⟨"CarbonCopies$Person", "isGone", "()Z"⟩ yX5_isGone wsX5_isGone) := goodIn_app (goodIn_of _ (by decide +kernel)) ggX4_liveYear_X5_isGone
set_option maxRecDepth 20000 in
theorem gX4_liveYear_X5_isGone_u128X3 : GoodIn wsX4_liveYear (va_wsU RX4 128 RX3 "CarbonCopies$Person" ⟨"CarbonCopies$Person", "isGone", "()Z"⟩ yX5_isGone wsX5_isGone) := goodIn_app (goodIn_of _ (by decide +kernel)) ggX4_liveYear_X5_isGone
set_option maxRecDepth 20000 in
theorem gX4_liveYear_X5_isGone : GoodIn wsX4_liveYear (wsV RX4 128 RX5 yX5_isGone wsX5_isGone) := goodIn_app (goodIn_of _ (by decide +kernel)) ggX4_liveYear_X5_isGone
set_option maxRecDepth 20000 in
theorem gX4_liveYear_X5_isGone_u128X8 : GoodIn wsX4_liveYear (va_wsU RX4 128 RX8 "CarbonCopies$Person" ⟨"CarbonCopies$Person", "isGone", "()Z"⟩ yX5_isGone wsX5_isGone) := goodIn_app (goodIn_of _ (by decide +kernel)) ggX4_liveYear_X5_isGone
set_option maxRecDepth 20000 in
theorem gX4_liveYear_X5_isGone_u128X10 : GoodIn wsX4_liveYear (va_wsU RX4 128 RX10 "CarbonCopies$Person" ⟨"CarbonCopies$Person", "isGone", "()Z"⟩ yX5_isGone wsX5_isGone) := goodIn_app (goodIn_of _ (by decide +kernel)) ggX4_liveYear_X5_isGone
set_option maxRecDepth 20000 in
theorem ggX4_liveYear_X5_pressWith : GoodIn wsX4_liveYear wsX5_pressWith := goodIn_r _ [33, 21, 34, 35, 36, 37, 38, 39, 40, 41, 42, 43, 44, 45, 46, 47, 48, 49, 19, 50, 51, 52, 53, 54, 55, 56, 57, 58, 59, 60, 61, 62, 63, 64, 65, 66, 67, 68, 69, 70, 71, 72, 73, 74, 75, 76, 77, 78, 79, 80, 81, 82, 83, 84, 85, 86, 87, 88, 89, 90, 91, 92, 93, 94, 95, 96, 97, 98, 99, 100, 101, 102, 103, 104, 105, 106, 107, 108, 109, 110, 111, 112, 113, 114, 115, 116, 117, 118, 119, 120, 121, 122, 123, 164, 165, 166, 167, 168, 169, 170, 171, 172, 173, 174, 175, 176, 177, 178, 179, 180, 181, 182, 183, 184, 185, 186, 187, 188, 189, 190, 191, 192, 193, 194, 195, 196, 197, 198, 199, 200, 201, 202, 203, 204, 205, 206, 207, 208, 209, 210, 211, 212, 213, 214, 215, 216, 217, 218, 219, 220, 221, 222, 223, 224, 225, 226] (by decide +kernel) (by decide +kernel)
set_option maxRecDepth 20000 in
theorem gX4_liveYear_X5_pressWith_u121X0 : GoodIn wsX4_liveYear (va_wsU RX4 121 RX0 "CarbonCopies$Person" ⟨"CarbonCopies$Person", "pressWith", "(II)I"⟩ yX5_pressWith wsX5_pressWith) := goodIn_app (goodIn_of _ (by decide +kernel)) ggX4_liveYear_X5_pressWith
set_option maxRecDepth 20000 in
theorem gX4_liveYear_X5_pressWith_u121X1 : GoodIn wsX4_liveYear (va_wsU RX4 121 RX1 "CarbonCopies$Person" ⟨"CarbonCopies$Person", "pressWith", "(II)I"⟩ yX5_pressWith wsX5_pressWith) := goodIn_app (goodIn_of _ (by decide +kernel)) ggX4_liveYear_X5_pressWith
set_option maxRecDepth 20000 in
theorem gX4_liveYear_X5_pressWith_u121X2 : GoodIn wsX4_liveYear (va_wsU RX4 121 RX2 "CarbonCopies$Person" ⟨"CarbonCopies$Person", "pressWith", "(II)I"⟩ yX5_pressWith wsX5_pressWith) := goodIn_app (goodIn_of _ (by decide +kernel)) ggX4_liveYear_X5_pressWith
set_option maxRecDepth 20000 in
theorem gX4_liveYear_X5_pressWith_u121X3 : GoodIn wsX4_liveYear (va_wsU RX4 121 RX3 "CarbonCopies$Person" ⟨"CarbonCopies$Person", "pressWith", "(II)I"⟩ yX5_pressWith wsX5_pressWith) := goodIn_app (goodIn_of _ (by decide +kernel)) ggX4_liveYear_X5_pressWith
set_option maxRecDepth 20000 in
theorem gX4_liveYear_X5_pressWith : GoodIn wsX4_liveYear (wsV RX4 121 RX5 yX5_pressWith wsX5_pressWith) := goodIn_app (goodIn_of _ (by decide +kernel)) ggX4_liveYear_X5_pressWith
set_option maxRecDepth 20000 in
theorem gX4_liveYear_X5_pressWith_u121X8 : GoodIn wsX4_liveYear (va_wsU RX4 121 RX8 "CarbonCopies$Person" ⟨"CarbonCopies$Person", "pressWith", "(II)I"⟩ yX5_pressWith wsX5_pressWith) := goodIn_app (goodIn_of _ (by decide +kernel)) ggX4_liveYear_X5_pressWith
set_option maxRecDepth 20000 in
theorem gX4_liveYear_X5_pressWith_u121X10 : GoodIn wsX4_liveYear (va_wsU RX4 121 RX10 "CarbonCopies$Person" ⟨"CarbonCopies$Person", "pressWith", "(II)I"⟩ yX5_pressWith wsX5_pressWith) := goodIn_app (goodIn_of _ (by decide +kernel)) ggX4_liveYear_X5_pressWith
set_option maxRecDepth 20000 in
theorem ggX4_liveYear_X5_isLeft : GoodIn wsX4_liveYear wsX5_isLeft := goodIn_r _ [135, 21, 136, 44, 137, 164, 165, 166, 167, 168, 169, 170, 171, 172, 173, 174, 175, 176, 177, 178, 179, 180, 181, 182, 183, 184, 185, 186, 187, 188, 189, 190, 191, 192, 193, 194, 195, 196, 197, 198, 199, 200, 201, 202, 203, 204, 205, 206, 207, 208, 209, 210, 211, 212, 213, 214, 215, 216, 217, 218, 219, 220, 221, 222, 223, 224, 225, 226] (by decide +kernel) (by decide +kernel)
set_option maxRecDepth 20000 in
theorem gX4_liveYear_X5_isLeft_u92X0 : GoodIn wsX4_liveYear (va_wsU RX4 92 RX0 "CarbonCopies$Person" ⟨"CarbonCopies$Person", "isLeft", "(I)Z"⟩ yX5_isLeft wsX5_isLeft) := goodIn_app (goodIn_of _ (by decide +kernel)) ggX4_liveYear_X5_isLeft
set_option maxRecDepth 20000 in
theorem gX4_liveYear_X5_isLeft_u92X1 : GoodIn wsX4_liveYear (va_wsU RX4 92 RX1 "CarbonCopies$Person" ⟨"CarbonCopies$Person", "isLeft", "(I)Z"⟩ yX5_isLeft wsX5_isLeft) := goodIn_app (goodIn_of _ (by decide +kernel)) ggX4_liveYear_X5_isLeft
set_option maxRecDepth 20000 in
theorem gX4_liveYear_X5_isLeft_u92X2 : GoodIn wsX4_liveYear (va_wsU RX4 92 RX2 "CarbonCopies$Person" ⟨"CarbonCopies$Person", "isLeft", "(I)Z"⟩ yX5_isLeft wsX5_isLeft) := goodIn_app (goodIn_of _ (by decide +kernel)) ggX4_liveYear_X5_isLeft
set_option maxRecDepth 20000 in
theorem gX4_liveYear_X5_isLeft_u92X3 : GoodIn wsX4_liveYear (va_wsU RX4 92 RX3 "CarbonCopies$Person" ⟨"CarbonCopies$Person", "isLeft", "(I)Z"⟩ yX5_isLeft wsX5_isLeft) := goodIn_app (goodIn_of _ (by decide +kernel)) ggX4_liveYear_X5_isLeft
set_option maxRecDepth 20000 in
theorem gX4_liveYear_X5_isLeft : GoodIn wsX4_liveYear (wsV RX4 92 RX5 yX5_isLeft wsX5_isLeft) := goodIn_app (goodIn_of _ (by decide +kernel)) ggX4_liveYear_X5_isLeft
set_option maxRecDepth 20000 in
theorem gX4_liveYear_X5_isLeft_u92X8 : GoodIn wsX4_liveYear (va_wsU RX4 92 RX8 "CarbonCopies$Person" ⟨"CarbonCopies$Person", "isLeft", "(I)Z"⟩ yX5_isLeft wsX5_isLeft) := goodIn_app (goodIn_of _ (by decide +kernel)) ggX4_liveYear_X5_isLeft
set_option maxRecDepth 20000 in
theorem gX4_liveYear_X5_isLeft_u92X10 : GoodIn wsX4_liveYear (va_wsU RX4 92 RX10 "CarbonCopies$Person" ⟨"CarbonCopies$Person", "isLeft", "(I)Z"⟩ yX5_isLeft wsX5_isLeft) := goodIn_app (goodIn_of _ (by decide +kernel)) ggX4_liveYear_X5_isLeft
set_option maxRecDepth 20000 in
theorem ggX4_liveYear_X5_rubOn : GoodIn wsX4_liveYear wsX5_rubOn := goodIn_r _ [149, 38, 150, 39, 40, 36, 41, 136, 44, 137, 43, 45, 164, 165, 166, 167, 168, 169, 170, 171, 172, 173, 174, 175, 176, 177, 178, 179, 180, 181, 182, 183, 184, 185, 186, 187, 188, 189, 190, 191, 192, 193, 194, 195, 196, 197, 198, 199, 200, 201, 202, 203, 204, 205, 206, 207, 208, 209, 210, 211, 212, 213, 214, 215, 216, 217, 218, 219, 220, 221, 222, 223, 224, 225, 226] (by decide +kernel) (by decide +kernel)
set_option maxRecDepth 20000 in
theorem gX4_liveYear_X5_rubOn_u118X0 : GoodIn wsX4_liveYear (va_wsU RX4 118 RX0 "CarbonCopies$Person" ⟨"CarbonCopies$Person", "rubOn", "(II)I"⟩ yX5_rubOn wsX5_rubOn) := goodIn_app (goodIn_of _ (by decide +kernel)) ggX4_liveYear_X5_rubOn
set_option maxRecDepth 20000 in
theorem gX4_liveYear_X5_rubOn_u118X1 : GoodIn wsX4_liveYear (va_wsU RX4 118 RX1 "CarbonCopies$Person" ⟨"CarbonCopies$Person", "rubOn", "(II)I"⟩ yX5_rubOn wsX5_rubOn) := goodIn_app (goodIn_of _ (by decide +kernel)) ggX4_liveYear_X5_rubOn
set_option maxRecDepth 20000 in
theorem gX4_liveYear_X5_rubOn_u118X2 : GoodIn wsX4_liveYear (va_wsU RX4 118 RX2 "CarbonCopies$Person" ⟨"CarbonCopies$Person", "rubOn", "(II)I"⟩ yX5_rubOn wsX5_rubOn) := goodIn_app (goodIn_of _ (by decide +kernel)) ggX4_liveYear_X5_rubOn
set_option maxRecDepth 20000 in
theorem gX4_liveYear_X5_rubOn_u118X3 : GoodIn wsX4_liveYear (va_wsU RX4 118 RX3 "CarbonCopies$Person" ⟨"CarbonCopies$Person", "rubOn", "(II)I"⟩ yX5_rubOn wsX5_rubOn) := goodIn_app (goodIn_of _ (by decide +kernel)) ggX4_liveYear_X5_rubOn
set_option maxRecDepth 20000 in
theorem gX4_liveYear_X5_rubOn : GoodIn wsX4_liveYear (wsV RX4 118 RX5 yX5_rubOn wsX5_rubOn) := goodIn_app (goodIn_of _ (by decide +kernel)) ggX4_liveYear_X5_rubOn
set_option maxRecDepth 20000 in
theorem gX4_liveYear_X5_rubOn_u118X8 : GoodIn wsX4_liveYear (va_wsU RX4 118 RX8 "CarbonCopies$Person" ⟨"CarbonCopies$Person", "rubOn", "(II)I"⟩ yX5_rubOn wsX5_rubOn) := goodIn_app (goodIn_of _ (by decide +kernel)) ggX4_liveYear_X5_rubOn
set_option maxRecDepth 20000 in
theorem gX4_liveYear_X5_rubOn_u118X10 : GoodIn wsX4_liveYear (va_wsU RX4 118 RX10 "CarbonCopies$Person" ⟨"CarbonCopies$Person", "rubOn", "(II)I"⟩ yX5_rubOn wsX5_rubOn) := goodIn_app (goodIn_of _ (by decide +kernel)) ggX4_liveYear_X5_rubOn
theorem dX4_liveYear_0 : decode cX4_liveYear 0 = .ok (.aload_n 0, 1) := by decide +kernel
theorem dX4_liveYear_1 : decode cX4_liveYear 1 = .ok (.aload_n 0, 1) := by decide +kernel
theorem dX4_liveYear_2 : decode cX4_liveYear 2 = .ok (.aload_n 0, 1) := by decide +kernel
theorem dX4_liveYear_3 : decode cX4_liveYear 3 = .ok (.getfield 21, 3) := by decide +kernel
theorem dX4_liveYear_6 : decode cX4_liveYear 6 = .ok (.invokevirtual 125, 3) := by decide +kernel
theorem dX4_liveYear_9 : decode cX4_liveYear 9 = .ok (.invokevirtual 70, 3) := by decide +kernel
theorem dX4_liveYear_12 : decode cX4_liveYear 12 = .ok (.astore_n 1, 1) := by decide +kernel
theorem dX4_liveYear_13 : decode cX4_liveYear 13 = .ok (.aload_n 0, 1) := by decide +kernel
theorem dX4_liveYear_14 : decode cX4_liveYear 14 = .ok (.bipush 8, 2) := by decide +kernel
theorem dX4_liveYear_16 : decode cX4_liveYear 16 = .ok (.invokevirtual 125, 3) := by decide +kernel
theorem dX4_liveYear_19 : decode cX4_liveYear 19 = .ok (.istore_n 2, 1) := by decide +kernel
theorem dX4_liveYear_20 : decode cX4_liveYear 20 = .ok (.iload_n 2, 1) := by decide +kernel
theorem dX4_liveYear_21 : decode cX4_liveYear 21 = .ok (.iconst 5, 1) := by decide +kernel
theorem dX4_liveYear_22 : decode cX4_liveYear 22 = .ok (.if_icmp .ge 42, 3) := by decide +kernel
theorem dX4_liveYear_25 : decode cX4_liveYear 25 = .ok (.aload_n 0, 1) := by decide +kernel
theorem dX4_liveYear_26 : decode cX4_liveYear 26 = .ok (.bipush 8, 2) := by decide +kernel
theorem dX4_liveYear_28 : decode cX4_liveYear 28 = .ok (.invokevirtual 125, 3) := by decide +kernel
theorem dX4_liveYear_31 : decode cX4_liveYear 31 = .ok (.istore_n 3, 1) := by decide +kernel
theorem dX4_liveYear_32 : decode cX4_liveYear 32 = .ok (.iconst 1, 1) := by decide +kernel
theorem dX4_liveYear_33 : decode cX4_liveYear 33 = .ok (.aload_n 0, 1) := by decide +kernel
theorem dX4_liveYear_34 : decode cX4_liveYear 34 = .ok (.bipush 60, 2) := by decide +kernel
theorem dX4_liveYear_36 : decode cX4_liveYear 36 = .ok (.invokevirtual 125, 3) := by decide +kernel
theorem dX4_liveYear_39 : decode cX4_liveYear 39 = .ok (.iadd, 1) := by decide +kernel
theorem dX4_liveYear_40 : decode cX4_liveYear 40 = .ok (.istore 4, 2) := by decide +kernel
theorem dX4_liveYear_42 : decode cX4_liveYear 42 = .ok (.aload_n 1, 1) := by decide +kernel
theorem dX4_liveYear_43 : decode cX4_liveYear 43 = .ok (.ifnull 18, 3) := by decide +kernel
theorem dX4_liveYear_46 : decode cX4_liveYear 46 = .ok (.aload_n 1, 1) := by decide +kernel
theorem dX4_liveYear_47 : decode cX4_liveYear 47 = .ok (.invokevirtual 128, 3) := by decide +kernel
theorem dX4_liveYear_50 : decode cX4_liveYear 50 = .ok (.ifCond .ne 11, 3) := by decide +kernel
theorem dX4_liveYear_53 : decode cX4_liveYear 53 = .ok (.aload_n 1, 1) := by decide +kernel
theorem dX4_liveYear_54 : decode cX4_liveYear 54 = .ok (.iload_n 3, 1) := by decide +kernel
theorem dX4_liveYear_55 : decode cX4_liveYear 55 = .ok (.iload 4, 2) := by decide +kernel
theorem dX4_liveYear_57 : decode cX4_liveYear 57 = .ok (.invokevirtual 121, 3) := by decide +kernel
theorem dX4_liveYear_60 : decode cX4_liveYear 60 = .ok (.pop, 1) := by decide +kernel
theorem dX4_liveYear_61 : decode cX4_liveYear 61 = .ok (.goto 68, 3) := by decide +kernel
theorem dX4_liveYear_64 : decode cX4_liveYear 64 = .ok (.iload_n 2, 1) := by decide +kernel
theorem dX4_liveYear_65 : decode cX4_liveYear 65 = .ok (.bipush 7, 2) := by decide +kernel
theorem dX4_liveYear_67 : decode cX4_liveYear 67 = .ok (.if_icmp .ge 41, 3) := by decide +kernel
theorem dX4_liveYear_70 : decode cX4_liveYear 70 = .ok (.aload_n 0, 1) := by decide +kernel
theorem dX4_liveYear_71 : decode cX4_liveYear 71 = .ok (.bipush 6, 2) := by decide +kernel
theorem dX4_liveYear_73 : decode cX4_liveYear 73 = .ok (.invokevirtual 125, 3) := by decide +kernel
theorem dX4_liveYear_76 : decode cX4_liveYear 76 = .ok (.istore_n 3, 1) := by decide +kernel
theorem dX4_liveYear_77 : decode cX4_liveYear 77 = .ok (.aload_n 0, 1) := by decide +kernel
theorem dX4_liveYear_78 : decode cX4_liveYear 78 = .ok (.bipush 8, 2) := by decide +kernel
theorem dX4_liveYear_80 : decode cX4_liveYear 80 = .ok (.invokevirtual 125, 3) := by decide +kernel
theorem dX4_liveYear_83 : decode cX4_liveYear 83 = .ok (.istore 4, 2) := by decide +kernel
theorem dX4_liveYear_85 : decode cX4_liveYear 85 = .ok (.aload_n 1, 1) := by decide +kernel
theorem dX4_liveYear_86 : decode cX4_liveYear 86 = .ok (.ifnull 19, 3) := by decide +kernel
theorem dX4_liveYear_89 : decode cX4_liveYear 89 = .ok (.aload_n 1, 1) := by decide +kernel
theorem dX4_liveYear_90 : decode cX4_liveYear 90 = .ok (.iload_n 3, 1) := by decide +kernel
theorem dX4_liveYear_91 : decode cX4_liveYear 91 = .ok (.invokevirtual 92, 3) := by decide +kernel
theorem dX4_liveYear_94 : decode cX4_liveYear 94 = .ok (.ifCond .eq 11, 3) := by decide +kernel
theorem dX4_liveYear_97 : decode cX4_liveYear 97 = .ok (.aload_n 1, 1) := by decide +kernel
theorem dX4_liveYear_98 : decode cX4_liveYear 98 = .ok (.iload_n 3, 1) := by decide +kernel
theorem dX4_liveYear_99 : decode cX4_liveYear 99 = .ok (.iload 4, 2) := by decide +kernel
theorem dX4_liveYear_101 : decode cX4_liveYear 101 = .ok (.invokevirtual 118, 3) := by decide +kernel
theorem dX4_liveYear_104 : decode cX4_liveYear 104 = .ok (.pop, 1) := by decide +kernel
theorem dX4_liveYear_105 : decode cX4_liveYear 105 = .ok (.goto 24, 3) := by decide +kernel
theorem dX4_liveYear_108 : decode cX4_liveYear 108 = .ok (.aload_n 1, 1) := by decide +kernel
theorem dX4_liveYear_109 : decode cX4_liveYear 109 = .ok (.ifnull 20, 3) := by decide +kernel
theorem dX4_liveYear_112 : decode cX4_liveYear 112 = .ok (.aload_n 1, 1) := by decide +kernel
theorem dX4_liveYear_113 : decode cX4_liveYear 113 = .ok (.invokevirtual 128, 3) := by decide +kernel
theorem dX4_liveYear_116 : decode cX4_liveYear 116 = .ok (.ifCond .ne 13, 3) := by decide +kernel
theorem dX4_liveYear_119 : decode cX4_liveYear 119 = .ok (.aload_n 1, 1) := by decide +kernel
theorem dX4_liveYear_120 : decode cX4_liveYear 120 = .ok (.dup, 1) := by decide +kernel
theorem dX4_liveYear_121 : decode cX4_liveYear 121 = .ok (.getfield 78, 3) := by decide +kernel
theorem dX4_liveYear_124 : decode cX4_liveYear 124 = .ok (.iconst 1, 1) := by decide +kernel
theorem dX4_liveYear_125 : decode cX4_liveYear 125 = .ok (.iadd, 1) := by decide +kernel
theorem dX4_liveYear_126 : decode cX4_liveYear 126 = .ok (.putfield 78, 3) := by decide +kernel
theorem dX4_liveYear_129 : decode cX4_liveYear 129 = .ok (.return_, 1) := by decide +kernel
