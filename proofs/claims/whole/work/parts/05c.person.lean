theorem dX5_init_0 : decode cX5_init 0 = .ok (.aload_n 0, 1) := by decide +kernel
theorem dX5_init_1 : decode cX5_init 1 = .ok (.invokespecial 3, 3) := by decide +kernel
theorem dX5_init_4 : decode cX5_init 4 = .ok (.aload_n 0, 1) := by decide +kernel
theorem dX5_init_5 : decode cX5_init 5 = .ok (.bipush 48, 2) := by decide +kernel
theorem dX5_init_7 : decode cX5_init 7 = .ok (.newarray .int, 2) := by decide +kernel
theorem dX5_init_9 : decode cX5_init 9 = .ok (.putfield 9, 3) := by decide +kernel
theorem dX5_init_12 : decode cX5_init 12 = .ok (.aload_n 0, 1) := by decide +kernel
theorem dX5_init_13 : decode cX5_init 13 = .ok (.bipush 6, 2) := by decide +kernel
theorem dX5_init_15 : decode cX5_init 15 = .ok (.newarray .int, 2) := by decide +kernel
theorem dX5_init_17 : decode cX5_init 17 = .ok (.putfield 15, 3) := by decide +kernel
theorem dX5_init_20 : decode cX5_init 20 = .ok (.aload_n 0, 1) := by decide +kernel
theorem dX5_init_21 : decode cX5_init 21 = .ok (.bipush 6, 2) := by decide +kernel
theorem dX5_init_23 : decode cX5_init 23 = .ok (.newarray .int, 2) := by decide +kernel
theorem dX5_init_25 : decode cX5_init 25 = .ok (.putfield 18, 3) := by decide +kernel
theorem dX5_init_28 : decode cX5_init 28 = .ok (.aload_n 0, 1) := by decide +kernel
theorem dX5_init_29 : decode cX5_init 29 = .ok (.iconst 0, 1) := by decide +kernel
theorem dX5_init_30 : decode cX5_init 30 = .ok (.putfield 21, 3) := by decide +kernel
theorem dX5_init_33 : decode cX5_init 33 = .ok (.aload_n 0, 1) := by decide +kernel
theorem dX5_init_34 : decode cX5_init 34 = .ok (.iconst 1, 1) := by decide +kernel
theorem dX5_init_35 : decode cX5_init 35 = .ok (.putfield 25, 3) := by decide +kernel
theorem dX5_init_38 : decode cX5_init 38 = .ok (.aload_n 0, 1) := by decide +kernel
theorem dX5_init_39 : decode cX5_init 39 = .ok (.iconst 0, 1) := by decide +kernel
theorem dX5_init_40 : decode cX5_init 40 = .ok (.putfield 28, 3) := by decide +kernel
theorem dX5_init_43 : decode cX5_init 43 = .ok (.aload_n 0, 1) := by decide +kernel
theorem dX5_init_44 : decode cX5_init 44 = .ok (.iload_n 1, 1) := by decide +kernel
theorem dX5_init_45 : decode cX5_init 45 = .ok (.putfield 31, 3) := by decide +kernel
theorem dX5_init_48 : decode cX5_init 48 = .ok (.aload_n 0, 1) := by decide +kernel
theorem dX5_init_49 : decode cX5_init 49 = .ok (.iload_n 2, 1) := by decide +kernel
theorem dX5_init_50 : decode cX5_init 50 = .ok (.putfield 34, 3) := by decide +kernel
theorem dX5_init_53 : decode cX5_init 53 = .ok (.aload_n 0, 1) := by decide +kernel
theorem dX5_init_54 : decode cX5_init 54 = .ok (.aload_n 3, 1) := by decide +kernel
theorem dX5_init_55 : decode cX5_init 55 = .ok (.putfield 37, 3) := by decide +kernel
theorem dX5_init_58 : decode cX5_init 58 = .ok (.return_, 1) := by decide +kernel
set_option maxRecDepth 20000 in
theorem ggX5_begin_J7_fill_53178 : GoodIn wsX5_begin wsJ7_fill_53178 := goodIn_r _ [10] (by decide +kernel) (by decide +kernel)
set_option maxRecDepth 20000 in
theorem gX5_begin_J7_fill_53178 : GoodIn wsX5_begin (va_wsS RX5 41 yJ7_fill_53178 wsJ7_fill_53178) := goodIn_app (goodIn_of _ (by decide +kernel)) ggX5_begin_J7_fill_53178
theorem dX5_begin_0 : decode cX5_begin 0 = .ok (.aload_n 0, 1) := by decide +kernel
theorem dX5_begin_1 : decode cX5_begin 1 = .ok (.iload_n 1, 1) := by decide +kernel
theorem dX5_begin_2 : decode cX5_begin 2 = .ok (.putfield 21, 3) := by decide +kernel
theorem dX5_begin_5 : decode cX5_begin 5 = .ok (.aload_n 0, 1) := by decide +kernel
theorem dX5_begin_6 : decode cX5_begin 6 = .ok (.iload_n 2, 1) := by decide +kernel
theorem dX5_begin_7 : decode cX5_begin 7 = .ok (.putfield 25, 3) := by decide +kernel
theorem dX5_begin_10 : decode cX5_begin 10 = .ok (.aload_n 0, 1) := by decide +kernel
theorem dX5_begin_11 : decode cX5_begin 11 = .ok (.iconst 0, 1) := by decide +kernel
theorem dX5_begin_12 : decode cX5_begin 12 = .ok (.putfield 28, 3) := by decide +kernel
theorem dX5_begin_15 : decode cX5_begin 15 = .ok (.aload_n 0, 1) := by decide +kernel
theorem dX5_begin_16 : decode cX5_begin 16 = .ok (.getfield 9, 3) := by decide +kernel
theorem dX5_begin_19 : decode cX5_begin 19 = .ok (.iconst 0, 1) := by decide +kernel
theorem dX5_begin_20 : decode cX5_begin 20 = .ok (.invokestatic 41, 3) := by decide +kernel
theorem dX5_begin_23 : decode cX5_begin 23 = .ok (.aload_n 0, 1) := by decide +kernel
theorem dX5_begin_24 : decode cX5_begin 24 = .ok (.getfield 15, 3) := by decide +kernel
theorem dX5_begin_27 : decode cX5_begin 27 = .ok (.iconst 0, 1) := by decide +kernel
theorem dX5_begin_28 : decode cX5_begin 28 = .ok (.invokestatic 41, 3) := by decide +kernel
theorem dX5_begin_31 : decode cX5_begin 31 = .ok (.aload_n 0, 1) := by decide +kernel
theorem dX5_begin_32 : decode cX5_begin 32 = .ok (.getfield 18, 3) := by decide +kernel
theorem dX5_begin_35 : decode cX5_begin 35 = .ok (.iconst 0, 1) := by decide +kernel
theorem dX5_begin_36 : decode cX5_begin 36 = .ok (.invokestatic 41, 3) := by decide +kernel
theorem dX5_begin_39 : decode cX5_begin 39 = .ok (.return_, 1) := by decide +kernel
theorem dX5_takeFrom_0 : decode cX5_takeFrom 0 = .ok (.aload_n 0, 1) := by decide +kernel
theorem dX5_takeFrom_1 : decode cX5_takeFrom 1 = .ok (.aload_n 1, 1) := by decide +kernel
theorem dX5_takeFrom_2 : decode cX5_takeFrom 2 = .ok (.getfield 21, 3) := by decide +kernel
theorem dX5_takeFrom_5 : decode cX5_takeFrom 5 = .ok (.putfield 21, 3) := by decide +kernel
theorem dX5_takeFrom_8 : decode cX5_takeFrom 8 = .ok (.aload_n 0, 1) := by decide +kernel
theorem dX5_takeFrom_9 : decode cX5_takeFrom 9 = .ok (.aload_n 1, 1) := by decide +kernel
theorem dX5_takeFrom_10 : decode cX5_takeFrom 10 = .ok (.getfield 25, 3) := by decide +kernel
theorem dX5_takeFrom_13 : decode cX5_takeFrom 13 = .ok (.putfield 25, 3) := by decide +kernel
theorem dX5_takeFrom_16 : decode cX5_takeFrom 16 = .ok (.aload_n 0, 1) := by decide +kernel
theorem dX5_takeFrom_17 : decode cX5_takeFrom 17 = .ok (.aload_n 1, 1) := by decide +kernel
theorem dX5_takeFrom_18 : decode cX5_takeFrom 18 = .ok (.getfield 28, 3) := by decide +kernel
theorem dX5_takeFrom_21 : decode cX5_takeFrom 21 = .ok (.putfield 28, 3) := by decide +kernel
theorem dX5_takeFrom_24 : decode cX5_takeFrom 24 = .ok (.aload_n 1, 1) := by decide +kernel
theorem dX5_takeFrom_25 : decode cX5_takeFrom 25 = .ok (.getfield 9, 3) := by decide +kernel
theorem dX5_takeFrom_28 : decode cX5_takeFrom 28 = .ok (.iconst 0, 1) := by decide +kernel
theorem dX5_takeFrom_29 : decode cX5_takeFrom 29 = .ok (.aload_n 0, 1) := by decide +kernel
theorem dX5_takeFrom_30 : decode cX5_takeFrom 30 = .ok (.getfield 9, 3) := by decide +kernel
theorem dX5_takeFrom_33 : decode cX5_takeFrom 33 = .ok (.iconst 0, 1) := by decide +kernel
theorem dX5_takeFrom_34 : decode cX5_takeFrom 34 = .ok (.aload_n 0, 1) := by decide +kernel
theorem dX5_takeFrom_35 : decode cX5_takeFrom 35 = .ok (.getfield 9, 3) := by decide +kernel
theorem dX5_takeFrom_38 : decode cX5_takeFrom 38 = .ok (.arraylength, 1) := by decide +kernel
theorem dX5_takeFrom_39 : decode cX5_takeFrom 39 = .ok (.invokestatic 47, 3) := by decide +kernel
theorem dX5_takeFrom_42 : decode cX5_takeFrom 42 = .ok (.aload_n 1, 1) := by decide +kernel
theorem dX5_takeFrom_43 : decode cX5_takeFrom 43 = .ok (.getfield 15, 3) := by decide +kernel
theorem dX5_takeFrom_46 : decode cX5_takeFrom 46 = .ok (.iconst 0, 1) := by decide +kernel
theorem dX5_takeFrom_47 : decode cX5_takeFrom 47 = .ok (.aload_n 0, 1) := by decide +kernel
theorem dX5_takeFrom_48 : decode cX5_takeFrom 48 = .ok (.getfield 15, 3) := by decide +kernel
theorem dX5_takeFrom_51 : decode cX5_takeFrom 51 = .ok (.iconst 0, 1) := by decide +kernel
theorem dX5_takeFrom_52 : decode cX5_takeFrom 52 = .ok (.aload_n 0, 1) := by decide +kernel
theorem dX5_takeFrom_53 : decode cX5_takeFrom 53 = .ok (.getfield 15, 3) := by decide +kernel
theorem dX5_takeFrom_56 : decode cX5_takeFrom 56 = .ok (.arraylength, 1) := by decide +kernel
theorem dX5_takeFrom_57 : decode cX5_takeFrom 57 = .ok (.invokestatic 47, 3) := by decide +kernel
theorem dX5_takeFrom_60 : decode cX5_takeFrom 60 = .ok (.aload_n 1, 1) := by decide +kernel
theorem dX5_takeFrom_61 : decode cX5_takeFrom 61 = .ok (.getfield 18, 3) := by decide +kernel
theorem dX5_takeFrom_64 : decode cX5_takeFrom 64 = .ok (.iconst 0, 1) := by decide +kernel
theorem dX5_takeFrom_65 : decode cX5_takeFrom 65 = .ok (.aload_n 0, 1) := by decide +kernel
theorem dX5_takeFrom_66 : decode cX5_takeFrom 66 = .ok (.getfield 18, 3) := by decide +kernel
theorem dX5_takeFrom_69 : decode cX5_takeFrom 69 = .ok (.iconst 0, 1) := by decide +kernel
theorem dX5_takeFrom_70 : decode cX5_takeFrom 70 = .ok (.aload_n 0, 1) := by decide +kernel
theorem dX5_takeFrom_71 : decode cX5_takeFrom 71 = .ok (.getfield 18, 3) := by decide +kernel
theorem dX5_takeFrom_74 : decode cX5_takeFrom 74 = .ok (.arraylength, 1) := by decide +kernel
theorem dX5_takeFrom_75 : decode cX5_takeFrom 75 = .ok (.invokestatic 47, 3) := by decide +kernel
theorem dX5_takeFrom_78 : decode cX5_takeFrom 78 = .ok (.return_, 1) := by decide +kernel
theorem dX5_lossAt_0 : decode cX5_lossAt 0 = .ok (.aload_n 0, 1) := by decide +kernel
theorem dX5_lossAt_1 : decode cX5_lossAt 1 = .ok (.getfield 25, 3) := by decide +kernel
theorem dX5_lossAt_4 : decode cX5_lossAt 4 = .ok (.ireturn, 1) := by decide +kernel
theorem dX5_driftOver_0 : decode cX5_driftOver 0 = .ok (.iload_n 1, 1) := by decide +kernel
theorem dX5_driftOver_1 : decode cX5_driftOver 1 = .ok (.ireturn, 1) := by decide +kernel
set_option maxRecDepth 20000 in
theorem ggX5_lives_X9_began : GoodIn wsX5_lives wsX9_began := goodIn_r _ [7, 8, 9, 73, 74] (by decide +kernel) (by decide +kernel)
set_option maxRecDepth 20000 in
theorem gX5_lives_X9_began : GoodIn wsX5_lives (wsV RX5 53 RX9 yX9_began wsX9_began) := goodIn_app (goodIn_of _ (by decide +kernel)) ggX5_lives_X9_began
theorem dX5_lives_0 : decode cX5_lives 0 = .ok (.aload_n 0, 1) := by decide +kernel
theorem dX5_lives_1 : decode cX5_lives 1 = .ok (.getfield 37, 3) := by decide +kernel
theorem dX5_lives_4 : decode cX5_lives 4 = .ok (.bipush 10, 2) := by decide +kernel
theorem dX5_lives_6 : decode cX5_lives 6 = .ok (.invokevirtual 53, 3) := by decide +kernel
theorem dX5_lives_9 : decode cX5_lives 9 = .ok (.iload_n 1, 1) := by decide +kernel
theorem dX5_lives_10 : decode cX5_lives 10 = .ok (.aload_n 0, 1) := by decide +kernel
theorem dX5_lives_11 : decode cX5_lives 11 = .ok (.getfield 34, 3) := by decide +kernel
theorem dX5_lives_14 : decode cX5_lives 14 = .ok (.iadd, 1) := by decide +kernel
theorem dX5_lives_15 : decode cX5_lives 15 = .ok (.ireturn, 1) := by decide +kernel
set_option maxRecDepth 20000 in
theorem ggX5_goes_X9_began : GoodIn wsX5_goes wsX9_began := goodIn_r _ [6, 7, 8, 116, 117] (by decide +kernel) (by decide +kernel)
set_option maxRecDepth 20000 in
theorem gX5_goes_X9_began : GoodIn wsX5_goes (wsV RX5 53 RX9 yX9_began wsX9_began) := goodIn_app (goodIn_of _ (by decide +kernel)) ggX5_goes_X9_began
set_option maxRecDepth 20000 in
theorem ggX5_goes_X3_lives : GoodIn wsX5_goes wsX3_lives := goodIn_r _ [15, 16, 17, 18, 19, 20, 3, 4, 5, 6, 7, 8, 21, 10, 22, 23, 24, 25, 1, 26, 2, 53, 54, 55, 56, 57, 58, 59, 60, 61, 62, 63, 64, 65, 66, 67, 68, 69, 70, 71, 72, 73, 74, 75, 76, 77, 78, 79, 80, 81, 82, 83, 84, 85, 86, 87, 88, 89, 90, 91, 92, 93, 94, 95, 96, 97, 98, 99, 100, 101, 102, 103, 104, 105, 106, 107, 108, 109, 110, 111, 112, 113, 114, 115, 116, 117] (by decide +kernel) (by decide +kernel)
set_option maxRecDepth 20000 in
theorem gX5_goes_X3_lives_u59X0 : GoodIn wsX5_goes (va_wsO RX5 59 RX0 "CarbonCopies$Person" ⟨"CarbonCopies$Person", "lives", "(I)I"⟩ yX3_lives wsX3_lives) := goodIn_app (goodIn_of _ (by decide +kernel)) ggX5_goes_X3_lives
set_option maxRecDepth 20000 in
theorem ggX5_goes_X1_lives : GoodIn wsX5_goes wsX1_lives := goodIn_r _ [30, 31, 32, 33, 3, 4, 5, 6, 7, 8, 34, 35, 36, 37, 38, 39, 40, 41, 42, 43, 44, 45, 10, 46, 23, 24, 25, 1, 26, 2, 53, 54, 55, 56, 57, 58, 59, 60, 61, 62, 63, 64, 65, 66, 67, 68, 69, 70, 71, 72, 73, 74, 75, 76, 77, 78, 79, 80, 81, 82, 83, 84, 85, 86, 87, 88, 89, 90, 91, 92, 93, 94, 95, 96, 97, 98, 99, 100, 101, 102, 103, 104, 105, 106, 107, 108, 109, 110, 111, 112, 113, 114, 115, 116, 117] (by decide +kernel) (by decide +kernel)
set_option maxRecDepth 20000 in
theorem gX5_goes_X1_lives_u59X1 : GoodIn wsX5_goes (va_wsO RX5 59 RX1 "CarbonCopies$Person" ⟨"CarbonCopies$Person", "lives", "(I)I"⟩ yX1_lives wsX1_lives) := goodIn_app (goodIn_of _ (by decide +kernel)) ggX5_goes_X1_lives
set_option maxRecDepth 20000 in
theorem ggX5_goes_X5_lives : GoodIn wsX5_goes wsX5_lives := goodIn_r _ [25, 1, 26, 2, 3, 4, 5, 6, 7, 8, 53, 54, 55, 56, 57, 58, 59, 60, 61, 62, 63, 64, 65, 66, 67, 68, 69, 70, 71, 72, 73, 74, 75, 76, 77, 78, 79, 80, 81, 82, 83, 84, 85, 86, 87, 88, 89, 90, 91, 92, 93, 94, 95, 96, 97, 98, 99, 100, 101, 102, 103, 104, 105, 106, 107, 108, 109, 110, 111, 112, 113, 114, 115, 116, 117] (by decide +kernel) (by decide +kernel)
set_option maxRecDepth 20000 in
theorem gX5_goes_X5_lives_u59X2 : GoodIn wsX5_goes (va_wsU RX5 59 RX2 "CarbonCopies$Person" ⟨"CarbonCopies$Person", "lives", "(I)I"⟩ yX5_lives wsX5_lives) := goodIn_app (goodIn_of _ (by decide +kernel)) ggX5_goes_X5_lives
set_option maxRecDepth 20000 in
theorem gX5_goes_X3_lives_u59X3 : GoodIn wsX5_goes (va_wsO RX5 59 RX3 "CarbonCopies$Person" ⟨"CarbonCopies$Person", "lives", "(I)I"⟩ yX3_lives wsX3_lives) := goodIn_app (goodIn_of _ (by decide +kernel)) ggX5_goes_X3_lives
set_option maxRecDepth 20000 in
theorem gX5_goes_X5_lives : GoodIn wsX5_goes (wsV RX5 59 RX5 yX5_lives wsX5_lives) := goodIn_app (goodIn_of _ (by decide +kernel)) ggX5_goes_X5_lives
set_option maxRecDepth 20000 in
theorem ggX5_goes_X8_lives : GoodIn wsX5_goes wsX8_lives := goodIn_r _ [39, 40, 41, 42, 43, 44, 3, 4, 5, 6, 7, 8, 45, 10, 46, 23, 24, 25, 1, 26, 2, 53, 54, 55, 56, 57, 58, 59, 60, 61, 62, 63, 64, 65, 66, 67, 68, 69, 70, 71, 72, 73, 74, 75, 76, 77, 78, 79, 80, 81, 82, 83, 84, 85, 86, 87, 88, 89, 90, 91, 92, 93, 94, 95, 96, 97, 98, 99, 100, 101, 102, 103, 104, 105, 106, 107, 108, 109, 110, 111, 112, 113, 114, 115, 116, 117] (by decide +kernel) (by decide +kernel)
set_option maxRecDepth 20000 in
theorem gX5_goes_X8_lives_u59X8 : GoodIn wsX5_goes (va_wsO RX5 59 RX8 "CarbonCopies$Person" ⟨"CarbonCopies$Person", "lives", "(I)I"⟩ yX8_lives wsX8_lives) := goodIn_app (goodIn_of _ (by decide +kernel)) ggX5_goes_X8_lives
set_option maxRecDepth 20000 in
theorem gX5_goes_X5_lives_u59X10 : GoodIn wsX5_goes (va_wsU RX5 59 RX10 "CarbonCopies$Person" ⟨"CarbonCopies$Person", "lives", "(I)I"⟩ yX5_lives wsX5_lives) := goodIn_app (goodIn_of _ (by decide +kernel)) ggX5_goes_X5_lives
theorem dX5_goes_0 : decode cX5_goes 0 = .ok (.aload_n 0, 1) := by decide +kernel
theorem dX5_goes_1 : decode cX5_goes 1 = .ok (.getfield 37, 3) := by decide +kernel
theorem dX5_goes_4 : decode cX5_goes 4 = .ok (.bipush 11, 2) := by decide +kernel
theorem dX5_goes_6 : decode cX5_goes 6 = .ok (.invokevirtual 53, 3) := by decide +kernel
theorem dX5_goes_9 : decode cX5_goes 9 = .ok (.aload_n 0, 1) := by decide +kernel
theorem dX5_goes_10 : decode cX5_goes 10 = .ok (.iload_n 1, 1) := by decide +kernel
theorem dX5_goes_11 : decode cX5_goes 11 = .ok (.invokevirtual 59, 3) := by decide +kernel
theorem dX5_goes_14 : decode cX5_goes 14 = .ok (.iconst 2, 1) := by decide +kernel
theorem dX5_goes_15 : decode cX5_goes 15 = .ok (.imul, 1) := by decide +kernel
theorem dX5_goes_16 : decode cX5_goes 16 = .ok (.ireturn, 1) := by decide +kernel
set_option maxRecDepth 20000 in
theorem ggX5_looks_X9_began : GoodIn wsX5_looks wsX9_began := goodIn_r _ [7, 8, 9, 151, 152] (by decide +kernel) (by decide +kernel)
set_option maxRecDepth 20000 in
theorem gX5_looks_X9_began : GoodIn wsX5_looks (wsV RX5 53 RX9 yX9_began wsX9_began) := goodIn_app (goodIn_of _ (by decide +kernel)) ggX5_looks_X9_began
set_option maxRecDepth 20000 in
theorem ggX5_looks_X5_goes : GoodIn wsX5_looks wsX5_goes := goodIn_r _ [15, 1, 3, 4, 5, 6, 7, 8, 9, 16, 17, 18, 19, 20, 21, 22, 23, 24, 25, 26, 27, 28, 29, 30, 14, 31, 32, 33, 34, 35, 36, 37, 38, 39, 40, 41, 42, 43, 44, 45, 46, 47, 48, 49, 50, 51, 52, 53, 54, 55, 56, 57, 58, 88, 89, 90, 91, 92, 93, 94, 95, 96, 97, 98, 99, 100, 101, 102, 103, 104, 105, 106, 107, 108, 109, 110, 111, 112, 113, 114, 115, 116, 117, 118, 119, 120, 121, 122, 123, 124, 125, 126, 127, 128, 129, 130, 131, 132, 133, 134, 135, 136, 137, 138, 139, 140, 141, 142, 143, 144, 145, 146, 147, 148, 149, 150, 151, 152] (by decide +kernel) (by decide +kernel)
set_option maxRecDepth 20000 in
theorem gX5_looks_X5_goes_u63X0 : GoodIn wsX5_looks (va_wsU RX5 63 RX0 "CarbonCopies$Person" ⟨"CarbonCopies$Person", "goes", "(I)I"⟩ yX5_goes wsX5_goes) := goodIn_app (goodIn_of _ (by decide +kernel)) ggX5_looks_X5_goes
set_option maxRecDepth 20000 in
theorem ggX5_looks_X1_goes : GoodIn wsX5_looks wsX1_goes := goodIn_r _ [62, 37, 38, 63, 64, 39, 4, 5, 6, 7, 8, 9, 88, 89, 90, 91, 92, 93, 94, 95, 96, 97, 98, 99, 100, 101, 102, 103, 104, 105, 106, 107, 108, 109, 110, 111, 112, 113, 114, 115, 116, 117, 118, 119, 120, 121, 122, 123, 124, 125, 126, 127, 128, 129, 130, 131, 132, 133, 134, 135, 136, 137, 138, 139, 140, 141, 142, 143, 144, 145, 146, 147, 148, 149, 150, 151, 152] (by decide +kernel) (by decide +kernel)
set_option maxRecDepth 20000 in
theorem gX5_looks_X1_goes_u63X1 : GoodIn wsX5_looks (va_wsO RX5 63 RX1 "CarbonCopies$Person" ⟨"CarbonCopies$Person", "goes", "(I)I"⟩ yX1_goes wsX1_goes) := goodIn_app (goodIn_of _ (by decide +kernel)) ggX5_looks_X1_goes
set_option maxRecDepth 20000 in
theorem ggX5_looks_X2_goes : GoodIn wsX5_looks wsX2_goes := goodIn_r _ [68, 69, 70, 71, 4, 5, 6, 7, 8, 9, 72, 11, 73, 13, 14, 15, 1, 3, 16, 17, 18, 19, 20, 21, 22, 23, 24, 25, 26, 27, 28, 29, 30, 31, 32, 33, 34, 35, 36, 37, 38, 39, 40, 41, 42, 43, 44, 45, 46, 47, 48, 49, 50, 51, 52, 53, 54, 55, 56, 57, 58, 88, 89, 90, 91, 92, 93, 94, 95, 96, 97, 98, 99, 100, 101, 102, 103, 104, 105, 106, 107, 108, 109, 110, 111, 112, 113, 114, 115, 116, 117, 118, 119, 120, 121, 122, 123, 124, 125, 126, 127, 128, 129, 130, 131, 132, 133, 134, 135, 136, 137, 138, 139, 140, 141, 142, 143, 144, 145, 146, 147, 148, 149, 150, 151, 152] (by decide +kernel) (by decide +kernel)
set_option maxRecDepth 20000 in
theorem gX5_looks_X2_goes_u63X2 : GoodIn wsX5_looks (va_wsO RX5 63 RX2 "CarbonCopies$Person" ⟨"CarbonCopies$Person", "goes", "(I)I"⟩ yX2_goes wsX2_goes) := goodIn_app (goodIn_of _ (by decide +kernel)) ggX5_looks_X2_goes
set_option maxRecDepth 20000 in
theorem gX5_looks_X5_goes_u63X3 : GoodIn wsX5_looks (va_wsU RX5 63 RX3 "CarbonCopies$Person" ⟨"CarbonCopies$Person", "goes", "(I)I"⟩ yX5_goes wsX5_goes) := goodIn_app (goodIn_of _ (by decide +kernel)) ggX5_looks_X5_goes
set_option maxRecDepth 20000 in
theorem gX5_looks_X5_goes : GoodIn wsX5_looks (wsV RX5 63 RX5 yX5_goes wsX5_goes) := goodIn_app (goodIn_of _ (by decide +kernel)) ggX5_looks_X5_goes
set_option maxRecDepth 20000 in
theorem gX5_looks_X5_goes_u63X8 : GoodIn wsX5_looks (va_wsU RX5 63 RX8 "CarbonCopies$Person" ⟨"CarbonCopies$Person", "goes", "(I)I"⟩ yX5_goes wsX5_goes) := goodIn_app (goodIn_of _ (by decide +kernel)) ggX5_looks_X5_goes
set_option maxRecDepth 20000 in
theorem ggX5_looks_X10_goes : GoodIn wsX5_looks wsX10_goes := goodIn_r _ [81, 82, 83, 84, 4, 5, 6, 7, 8, 9, 85, 86, 87, 66, 67, 68, 69, 70, 71, 72, 11, 73, 13, 14, 15, 1, 3, 16, 17, 18, 19, 20, 21, 22, 23, 24, 25, 26, 27, 28, 29, 30, 31, 32, 33, 34, 35, 36, 37, 38, 39, 40, 41, 42, 43, 44, 45, 46, 47, 48, 49, 50, 51, 52, 53, 54, 55, 56, 57, 58, 88, 89, 90, 91, 92, 93, 94, 95, 96, 97, 98, 99, 100, 101, 102, 103, 104, 105, 106, 107, 108, 109, 110, 111, 112, 113, 114, 115, 116, 117, 118, 119, 120, 121, 122, 123, 124, 125, 126, 127, 128, 129, 130, 131, 132, 133, 134, 135, 136, 137, 138, 139, 140, 141, 142, 143, 144, 145, 146, 147, 148, 149, 150, 151, 152] (by decide +kernel) (by decide +kernel)
set_option maxRecDepth 20000 in
theorem gX5_looks_X10_goes_u63X10 : GoodIn wsX5_looks (va_wsO RX5 63 RX10 "CarbonCopies$Person" ⟨"CarbonCopies$Person", "goes", "(I)I"⟩ yX10_goes wsX10_goes) := goodIn_app (goodIn_of _ (by decide +kernel)) ggX5_looks_X10_goes
set_option maxRecDepth 20000 in
theorem ggX5_looks_X3_lives : GoodIn wsX5_looks wsX3_lives := goodIn_r _ [22, 23, 24, 25, 26, 27, 4, 5, 6, 7, 8, 9, 28, 17, 29, 30, 14, 31, 1, 32, 3, 88, 89, 90, 91, 92, 93, 94, 95, 96, 97, 98, 99, 100, 101, 102, 103, 104, 105, 106, 107, 108, 109, 110, 111, 112, 113, 114, 115, 116, 117, 118, 119, 120, 121, 122, 123, 124, 125, 126, 127, 128, 129, 130, 131, 132, 133, 134, 135, 136, 137, 138, 139, 140, 141, 142, 143, 144, 145, 146, 147, 148, 149, 150, 151, 152] (by decide +kernel) (by decide +kernel)
set_option maxRecDepth 20000 in
theorem gX5_looks_X3_lives_u59X0 : GoodIn wsX5_looks (va_wsO RX5 59 RX0 "CarbonCopies$Person" ⟨"CarbonCopies$Person", "lives", "(I)I"⟩ yX3_lives wsX3_lives) := goodIn_app (goodIn_of _ (by decide +kernel)) ggX5_looks_X3_lives
set_option maxRecDepth 20000 in
theorem ggX5_looks_X1_lives : GoodIn wsX5_looks wsX1_lives := goodIn_r _ [36, 37, 38, 39, 4, 5, 6, 7, 8, 9, 40, 41, 42, 43, 44, 45, 46, 47, 48, 49, 50, 51, 17, 52, 30, 14, 31, 1, 32, 3, 88, 89, 90, 91, 92, 93, 94, 95, 96, 97, 98, 99, 100, 101, 102, 103, 104, 105, 106, 107, 108, 109, 110, 111, 112, 113, 114, 115, 116, 117, 118, 119, 120, 121, 122, 123, 124, 125, 126, 127, 128, 129, 130, 131, 132, 133, 134, 135, 136, 137, 138, 139, 140, 141, 142, 143, 144, 145, 146, 147, 148, 149, 150, 151, 152] (by decide +kernel) (by decide +kernel)
set_option maxRecDepth 20000 in
theorem gX5_looks_X1_lives_u59X1 : GoodIn wsX5_looks (va_wsO RX5 59 RX1 "CarbonCopies$Person" ⟨"CarbonCopies$Person", "lives", "(I)I"⟩ yX1_lives wsX1_lives) := goodIn_app (goodIn_of _ (by decide +kernel)) ggX5_looks_X1_lives
set_option maxRecDepth 20000 in
theorem ggX5_looks_X5_lives : GoodIn wsX5_looks wsX5_lives := goodIn_r _ [31, 1, 32, 3, 4, 5, 6, 7, 8, 9, 88, 89, 90, 91, 92, 93, 94, 95, 96, 97, 98, 99, 100, 101, 102, 103, 104, 105, 106, 107, 108, 109, 110, 111, 112, 113, 114, 115, 116, 117, 118, 119, 120, 121, 122, 123, 124, 125, 126, 127, 128, 129, 130, 131, 132, 133, 134, 135, 136, 137, 138, 139, 140, 141, 142, 143, 144, 145, 146, 147, 148, 149, 150, 151, 152] (by decide +kernel) (by decide +kernel)
set_option maxRecDepth 20000 in
theorem gX5_looks_X5_lives_u59X2 : GoodIn wsX5_looks (va_wsU RX5 59 RX2 "CarbonCopies$Person" ⟨"CarbonCopies$Person", "lives", "(I)I"⟩ yX5_lives wsX5_lives) := goodIn_app (goodIn_of _ (by decide +kernel)) ggX5_looks_X5_lives
set_option maxRecDepth 20000 in
theorem gX5_looks_X3_lives_u59X3 : GoodIn wsX5_looks (va_wsO RX5 59 RX3 "CarbonCopies$Person" ⟨"CarbonCopies$Person", "lives", "(I)I"⟩ yX3_lives wsX3_lives) := goodIn_app (goodIn_of _ (by decide +kernel)) ggX5_looks_X3_lives
set_option maxRecDepth 20000 in
theorem gX5_looks_X5_lives : GoodIn wsX5_looks (wsV RX5 59 RX5 yX5_lives wsX5_lives) := goodIn_app (goodIn_of _ (by decide +kernel)) ggX5_looks_X5_lives
set_option maxRecDepth 20000 in
theorem ggX5_looks_X8_lives : GoodIn wsX5_looks wsX8_lives := goodIn_r _ [45, 46, 47, 48, 49, 50, 4, 5, 6, 7, 8, 9, 51, 17, 52, 30, 14, 31, 1, 32, 3, 88, 89, 90, 91, 92, 93, 94, 95, 96, 97, 98, 99, 100, 101, 102, 103, 104, 105, 106, 107, 108, 109, 110, 111, 112, 113, 114, 115, 116, 117, 118, 119, 120, 121, 122, 123, 124, 125, 126, 127, 128, 129, 130, 131, 132, 133, 134, 135, 136, 137, 138, 139, 140, 141, 142, 143, 144, 145, 146, 147, 148, 149, 150, 151, 152] (by decide +kernel) (by decide +kernel)
set_option maxRecDepth 20000 in
theorem gX5_looks_X8_lives_u59X8 : GoodIn wsX5_looks (va_wsO RX5 59 RX8 "CarbonCopies$Person" ⟨"CarbonCopies$Person", "lives", "(I)I"⟩ yX8_lives wsX8_lives) := goodIn_app (goodIn_of _ (by decide +kernel)) ggX5_looks_X8_lives
set_option maxRecDepth 20000 in
theorem gX5_looks_X5_lives_u59X10 : GoodIn wsX5_looks (va_wsU RX5 59 RX10 "CarbonCopies$Person" ⟨"CarbonCopies$Person", "lives", "(I)I"⟩ yX5_lives wsX5_lives) := goodIn_app (goodIn_of _ (by decide +kernel)) ggX5_looks_X5_lives
theorem dX5_looks_0 : decode cX5_looks 0 = .ok (.aload_n 0, 1) := by decide +kernel
theorem dX5_looks_1 : decode cX5_looks 1 = .ok (.getfield 37, 3) := by decide +kernel
theorem dX5_looks_4 : decode cX5_looks 4 = .ok (.bipush 12, 2) := by decide +kernel
theorem dX5_looks_6 : decode cX5_looks 6 = .ok (.invokevirtual 53, 3) := by decide +kernel
theorem dX5_looks_9 : decode cX5_looks 9 = .ok (.aload_n 0, 1) := by decide +kernel
theorem dX5_looks_10 : decode cX5_looks 10 = .ok (.iload_n 1, 1) := by decide +kernel
theorem dX5_looks_11 : decode cX5_looks 11 = .ok (.invokevirtual 63, 3) := by decide +kernel
theorem dX5_looks_14 : decode cX5_looks 14 = .ok (.aload_n 0, 1) := by decide +kernel
theorem dX5_looks_15 : decode cX5_looks 15 = .ok (.iload_n 1, 1) := by decide +kernel
theorem dX5_looks_16 : decode cX5_looks 16 = .ok (.aload_n 0, 1) := by decide +kernel
theorem dX5_looks_17 : decode cX5_looks 17 = .ok (.getfield 21, 3) := by decide +kernel
theorem dX5_looks_20 : decode cX5_looks 20 = .ok (.isub, 1) := by decide +kernel
theorem dX5_looks_21 : decode cX5_looks 21 = .ok (.invokevirtual 59, 3) := by decide +kernel
theorem dX5_looks_24 : decode cX5_looks 24 = .ok (.ixor, 1) := by decide +kernel
theorem dX5_looks_25 : decode cX5_looks 25 = .ok (.ireturn, 1) := by decide +kernel
theorem dX5_isGone_0 : decode cX5_isGone 0 = .ok (.aload_n 0, 1) := by decide +kernel
theorem dX5_isGone_1 : decode cX5_isGone 1 = .ok (.getfield 28, 3) := by decide +kernel
theorem dX5_isGone_4 : decode cX5_isGone 4 = .ok (.bipush 6, 2) := by decide +kernel
theorem dX5_isGone_6 : decode cX5_isGone 6 = .ok (.if_icmp .lt 7, 3) := by decide +kernel
theorem dX5_isGone_9 : decode cX5_isGone 9 = .ok (.iconst 1, 1) := by decide +kernel
theorem dX5_isGone_10 : decode cX5_isGone 10 = .ok (.goto 4, 3) := by decide +kernel
theorem dX5_isGone_13 : decode cX5_isGone 13 = .ok (.iconst 0, 1) := by decide +kernel
theorem dX5_isGone_14 : decode cX5_isGone 14 = .ok (.ireturn, 1) := by decide +kernel
set_option maxRecDepth 20000 in
theorem ggX5_isLeft_X11_isCopy : GoodIn wsX5_isLeft wsX11_isCopy := goodIn_r _ [4] (by decide +kernel) (by decide +kernel)
set_option maxRecDepth 20000 in
theorem gX5_isLeft_X11_isCopy_n66 : GoodIn wsX5_isLeft (wsX11_isCopy) := ggX5_isLeft_X11_isCopy
theorem dX5_isLeft_0 : decode cX5_isLeft 0 = .ok (.iload_n 1, 1) := by decide +kernel
theorem dX5_isLeft_1 : decode cX5_isLeft 1 = .ok (.aload_n 0, 1) := by decide +kernel
theorem dX5_isLeft_2 : decode cX5_isLeft 2 = .ok (.getfield 28, 3) := by decide +kernel
theorem dX5_isLeft_5 : decode cX5_isLeft 5 = .ok (.if_icmp .lt 14, 3) := by decide +kernel
theorem dX5_isLeft_8 : decode cX5_isLeft 8 = .ok (.iload_n 1, 1) := by decide +kernel
theorem dX5_isLeft_9 : decode cX5_isLeft 9 = .ok (.invokestatic 66, 3) := by decide +kernel
theorem dX5_isLeft_12 : decode cX5_isLeft 12 = .ok (.ifCond .eq 7, 3) := by decide +kernel
theorem dX5_isLeft_15 : decode cX5_isLeft 15 = .ok (.iconst 1, 1) := by decide +kernel
theorem dX5_isLeft_16 : decode cX5_isLeft 16 = .ok (.goto 4, 3) := by decide +kernel
theorem dX5_isLeft_19 : decode cX5_isLeft 19 = .ok (.iconst 0, 1) := by decide +kernel
theorem dX5_isLeft_20 : decode cX5_isLeft 20 = .ok (.ireturn, 1) := by decide +kernel
set_option maxRecDepth 20000 in
theorem ggX5_strengthOf_X11_isCopy : GoodIn wsX5_strengthOf wsX11_isCopy := goodIn_r _ [4] (by decide +kernel) (by decide +kernel)
set_option maxRecDepth 20000 in
theorem gX5_strengthOf_X11_isCopy_n66 : GoodIn wsX5_strengthOf (wsX11_isCopy) := ggX5_strengthOf_X11_isCopy
set_option maxRecDepth 20000 in
theorem ggX5_strengthOf_X11_isDeed : GoodIn wsX5_strengthOf wsX11_isDeed := goodIn_r _ [6] (by decide +kernel) (by decide +kernel)
set_option maxRecDepth 20000 in
theorem gX5_strengthOf_X11_isDeed_n70 : GoodIn wsX5_strengthOf (wsX11_isDeed) := ggX5_strengthOf_X11_isDeed
theorem dX5_strengthOf_0 : decode cX5_strengthOf 0 = .ok (.iload_n 1, 1) := by decide +kernel
theorem dX5_strengthOf_1 : decode cX5_strengthOf 1 = .ok (.invokestatic 66, 3) := by decide +kernel
theorem dX5_strengthOf_4 : decode cX5_strengthOf 4 = .ok (.ifCond .eq 24, 3) := by decide +kernel
theorem dX5_strengthOf_7 : decode cX5_strengthOf 7 = .ok (.iload_n 2, 1) := by decide +kernel
theorem dX5_strengthOf_8 : decode cX5_strengthOf 8 = .ok (.invokestatic 70, 3) := by decide +kernel
theorem dX5_strengthOf_11 : decode cX5_strengthOf 11 = .ok (.ifCond .eq 17, 3) := by decide +kernel
theorem dX5_strengthOf_14 : decode cX5_strengthOf 14 = .ok (.aload_n 0, 1) := by decide +kernel
theorem dX5_strengthOf_15 : decode cX5_strengthOf 15 = .ok (.getfield 9, 3) := by decide +kernel
theorem dX5_strengthOf_18 : decode cX5_strengthOf 18 = .ok (.iload_n 1, 1) := by decide +kernel
theorem dX5_strengthOf_19 : decode cX5_strengthOf 19 = .ok (.bipush 8, 2) := by decide +kernel
theorem dX5_strengthOf_21 : decode cX5_strengthOf 21 = .ok (.imul, 1) := by decide +kernel
theorem dX5_strengthOf_22 : decode cX5_strengthOf 22 = .ok (.iload_n 2, 1) := by decide +kernel
theorem dX5_strengthOf_23 : decode cX5_strengthOf 23 = .ok (.iadd, 1) := by decide +kernel
theorem dX5_strengthOf_24 : decode cX5_strengthOf 24 = .ok (.iaload, 1) := by decide +kernel
theorem dX5_strengthOf_25 : decode cX5_strengthOf 25 = .ok (.goto 4, 3) := by decide +kernel
theorem dX5_strengthOf_28 : decode cX5_strengthOf 28 = .ok (.iconst 0, 1) := by decide +kernel
theorem dX5_strengthOf_29 : decode cX5_strengthOf 29 = .ok (.ireturn, 1) := by decide +kernel
set_option maxRecDepth 20000 in
theorem ggX5_hasBits_X5_strengthOf : GoodIn wsX5_hasBits wsX5_strengthOf := goodIn_r _ [6, 7, 8, 9, 10, 11, 12, 20, 21, 22, 23, 24, 25, 26, 27, 28, 29, 30, 31, 32, 33, 34, 35, 36, 37, 38, 39, 40, 41, 42, 43, 44, 45, 46, 47, 48, 49, 50, 51, 52, 53, 54, 55, 56, 57, 58, 59, 60, 61, 62, 63, 64, 65, 66, 67, 68, 69, 70, 71, 72, 73, 74, 75, 76, 77, 78, 79, 80, 81, 82] (by decide +kernel) (by decide +kernel)
set_option maxRecDepth 20000 in
theorem gX5_hasBits_X5_strengthOf_u73X0 : GoodIn wsX5_hasBits (va_wsU RX5 73 RX0 "CarbonCopies$Person" ⟨"CarbonCopies$Person", "strengthOf", "(II)I"⟩ yX5_strengthOf wsX5_strengthOf) := goodIn_app (goodIn_of _ (by decide +kernel)) ggX5_hasBits_X5_strengthOf
set_option maxRecDepth 20000 in
theorem gX5_hasBits_X5_strengthOf_u73X1 : GoodIn wsX5_hasBits (va_wsU RX5 73 RX1 "CarbonCopies$Person" ⟨"CarbonCopies$Person", "strengthOf", "(II)I"⟩ yX5_strengthOf wsX5_strengthOf) := goodIn_app (goodIn_of _ (by decide +kernel)) ggX5_hasBits_X5_strengthOf
set_option maxRecDepth 20000 in
theorem gX5_hasBits_X5_strengthOf_u73X2 : GoodIn wsX5_hasBits (va_wsU RX5 73 RX2 "CarbonCopies$Person" ⟨"CarbonCopies$Person", "strengthOf", "(II)I"⟩ yX5_strengthOf wsX5_strengthOf) := goodIn_app (goodIn_of _ (by decide +kernel)) ggX5_hasBits_X5_strengthOf
set_option maxRecDepth 20000 in
theorem gX5_hasBits_X5_strengthOf_u73X3 : GoodIn wsX5_hasBits (va_wsU RX5 73 RX3 "CarbonCopies$Person" ⟨"CarbonCopies$Person", "strengthOf", "(II)I"⟩ yX5_strengthOf wsX5_strengthOf) := goodIn_app (goodIn_of _ (by decide +kernel)) ggX5_hasBits_X5_strengthOf
set_option maxRecDepth 20000 in
theorem gX5_hasBits_X5_strengthOf : GoodIn wsX5_hasBits (wsV RX5 73 RX5 yX5_strengthOf wsX5_strengthOf) := goodIn_app (goodIn_of _ (by decide +kernel)) ggX5_hasBits_X5_strengthOf
set_option maxRecDepth 20000 in
theorem gX5_hasBits_X5_strengthOf_u73X8 : GoodIn wsX5_hasBits (va_wsU RX5 73 RX8 "CarbonCopies$Person" ⟨"CarbonCopies$Person", "strengthOf", "(II)I"⟩ yX5_strengthOf wsX5_strengthOf) := goodIn_app (goodIn_of _ (by decide +kernel)) ggX5_hasBits_X5_strengthOf
set_option maxRecDepth 20000 in
theorem gX5_hasBits_X5_strengthOf_u73X10 : GoodIn wsX5_hasBits (va_wsU RX5 73 RX10 "CarbonCopies$Person" ⟨"CarbonCopies$Person", "strengthOf", "(II)I"⟩ yX5_strengthOf wsX5_strengthOf) := goodIn_app (goodIn_of _ (by decide +kernel)) ggX5_hasBits_X5_strengthOf
theorem dX5_hasBits_0 : decode cX5_hasBits 0 = .ok (.iconst 0, 1) := by decide +kernel
theorem dX5_hasBits_1 : decode cX5_hasBits 1 = .ok (.istore_n 3, 1) := by decide +kernel
theorem dX5_hasBits_2 : decode cX5_hasBits 2 = .ok (.iconst 0, 1) := by decide +kernel
theorem dX5_hasBits_3 : decode cX5_hasBits 3 = .ok (.istore 4, 2) := by decide +kernel
theorem dX5_hasBits_5 : decode cX5_hasBits 5 = .ok (.iload 4, 2) := by decide +kernel
theorem dX5_hasBits_7 : decode cX5_hasBits 7 = .ok (.bipush 8, 2) := by decide +kernel
theorem dX5_hasBits_9 : decode cX5_hasBits 9 = .ok (.if_icmp .ge 27, 3) := by decide +kernel
theorem dX5_hasBits_12 : decode cX5_hasBits 12 = .ok (.aload_n 0, 1) := by decide +kernel
theorem dX5_hasBits_13 : decode cX5_hasBits 13 = .ok (.iload_n 1, 1) := by decide +kernel
theorem dX5_hasBits_14 : decode cX5_hasBits 14 = .ok (.iload 4, 2) := by decide +kernel
theorem dX5_hasBits_16 : decode cX5_hasBits 16 = .ok (.invokevirtual 73, 3) := by decide +kernel
theorem dX5_hasBits_19 : decode cX5_hasBits 19 = .ok (.iload_n 2, 1) := by decide +kernel
theorem dX5_hasBits_20 : decode cX5_hasBits 20 = .ok (.if_icmp .lt 10, 3) := by decide +kernel
theorem dX5_hasBits_23 : decode cX5_hasBits 23 = .ok (.iload_n 3, 1) := by decide +kernel
theorem dX5_hasBits_24 : decode cX5_hasBits 24 = .ok (.iconst 1, 1) := by decide +kernel
theorem dX5_hasBits_25 : decode cX5_hasBits 25 = .ok (.iload 4, 2) := by decide +kernel
theorem dX5_hasBits_27 : decode cX5_hasBits 27 = .ok (.ishl, 1) := by decide +kernel
theorem dX5_hasBits_28 : decode cX5_hasBits 28 = .ok (.ior, 1) := by decide +kernel
theorem dX5_hasBits_29 : decode cX5_hasBits 29 = .ok (.istore_n 3, 1) := by decide +kernel
theorem dX5_hasBits_30 : decode cX5_hasBits 30 = .ok (.iinc 4 1, 3) := by decide +kernel
theorem dX5_hasBits_33 : decode cX5_hasBits 33 = .ok (.goto (-28), 3) := by decide +kernel
theorem dX5_hasBits_36 : decode cX5_hasBits 36 = .ok (.iload_n 3, 1) := by decide +kernel
theorem dX5_hasBits_37 : decode cX5_hasBits 37 = .ok (.ireturn, 1) := by decide +kernel
set_option maxRecDepth 20000 in
theorem ggX5_haveBits_X5_strengthOf : GoodIn wsX5_haveBits wsX5_strengthOf := goodIn_r _ [7, 8, 9, 10, 11, 12, 13, 21, 22, 23, 24, 25, 26, 27, 28, 29, 30, 31, 32, 33, 34, 35, 36, 37, 38, 39, 40, 41, 42, 43, 44, 45, 46, 47, 48, 49, 50, 51, 52, 53, 54, 55, 56, 57, 58, 59, 60, 61, 62, 63, 64, 65, 66, 67, 68, 69, 70, 71, 72, 73, 74, 75, 76, 77, 78, 79, 80, 81, 82, 83] (by decide +kernel) (by decide +kernel)
set_option maxRecDepth 20000 in
theorem gX5_haveBits_X5_strengthOf_u73X0 : GoodIn wsX5_haveBits (va_wsU RX5 73 RX0 "CarbonCopies$Person" ⟨"CarbonCopies$Person", "strengthOf", "(II)I"⟩ yX5_strengthOf wsX5_strengthOf) := goodIn_app (goodIn_of _ (by decide +kernel)) ggX5_haveBits_X5_strengthOf
set_option maxRecDepth 20000 in
theorem gX5_haveBits_X5_strengthOf_u73X1 : GoodIn wsX5_haveBits (va_wsU RX5 73 RX1 "CarbonCopies$Person" ⟨"CarbonCopies$Person", "strengthOf", "(II)I"⟩ yX5_strengthOf wsX5_strengthOf) := goodIn_app (goodIn_of _ (by decide +kernel)) ggX5_haveBits_X5_strengthOf
set_option maxRecDepth 20000 in
theorem gX5_haveBits_X5_strengthOf_u73X2 : GoodIn wsX5_haveBits (va_wsU RX5 73 RX2 "CarbonCopies$Person" ⟨"CarbonCopies$Person", "strengthOf", "(II)I"⟩ yX5_strengthOf wsX5_strengthOf) := goodIn_app (goodIn_of _ (by decide +kernel)) ggX5_haveBits_X5_strengthOf
set_option maxRecDepth 20000 in
theorem gX5_haveBits_X5_strengthOf_u73X3 : GoodIn wsX5_haveBits (va_wsU RX5 73 RX3 "CarbonCopies$Person" ⟨"CarbonCopies$Person", "strengthOf", "(II)I"⟩ yX5_strengthOf wsX5_strengthOf) := goodIn_app (goodIn_of _ (by decide +kernel)) ggX5_haveBits_X5_strengthOf
set_option maxRecDepth 20000 in
theorem gX5_haveBits_X5_strengthOf : GoodIn wsX5_haveBits (wsV RX5 73 RX5 yX5_strengthOf wsX5_strengthOf) := goodIn_app (goodIn_of _ (by decide +kernel)) ggX5_haveBits_X5_strengthOf
set_option maxRecDepth 20000 in
theorem gX5_haveBits_X5_strengthOf_u73X8 : GoodIn wsX5_haveBits (va_wsU RX5 73 RX8 "CarbonCopies$Person" ⟨"CarbonCopies$Person", "strengthOf", "(II)I"⟩ yX5_strengthOf wsX5_strengthOf) := goodIn_app (goodIn_of _ (by decide +kernel)) ggX5_haveBits_X5_strengthOf
set_option maxRecDepth 20000 in
theorem gX5_haveBits_X5_strengthOf_u73X10 : GoodIn wsX5_haveBits (va_wsU RX5 73 RX10 "CarbonCopies$Person" ⟨"CarbonCopies$Person", "strengthOf", "(II)I"⟩ yX5_strengthOf wsX5_strengthOf) := goodIn_app (goodIn_of _ (by decide +kernel)) ggX5_haveBits_X5_strengthOf
theorem dX5_haveBits_0 : decode cX5_haveBits 0 = .ok (.iconst 0, 1) := by decide +kernel
theorem dX5_haveBits_1 : decode cX5_haveBits 1 = .ok (.istore_n 3, 1) := by decide +kernel
theorem dX5_haveBits_2 : decode cX5_haveBits 2 = .ok (.aload_n 0, 1) := by decide +kernel
theorem dX5_haveBits_3 : decode cX5_haveBits 3 = .ok (.getfield 28, 3) := by decide +kernel
theorem dX5_haveBits_6 : decode cX5_haveBits 6 = .ok (.istore 4, 2) := by decide +kernel
theorem dX5_haveBits_8 : decode cX5_haveBits 8 = .ok (.iload 4, 2) := by decide +kernel
theorem dX5_haveBits_10 : decode cX5_haveBits 10 = .ok (.bipush 6, 2) := by decide +kernel
theorem dX5_haveBits_12 : decode cX5_haveBits 12 = .ok (.if_icmp .ge 27, 3) := by decide +kernel
theorem dX5_haveBits_15 : decode cX5_haveBits 15 = .ok (.aload_n 0, 1) := by decide +kernel
theorem dX5_haveBits_16 : decode cX5_haveBits 16 = .ok (.iload 4, 2) := by decide +kernel
theorem dX5_haveBits_18 : decode cX5_haveBits 18 = .ok (.iload_n 1, 1) := by decide +kernel
theorem dX5_haveBits_19 : decode cX5_haveBits 19 = .ok (.invokevirtual 73, 3) := by decide +kernel
theorem dX5_haveBits_22 : decode cX5_haveBits 22 = .ok (.iload_n 2, 1) := by decide +kernel
theorem dX5_haveBits_23 : decode cX5_haveBits 23 = .ok (.if_icmp .lt 10, 3) := by decide +kernel
theorem dX5_haveBits_26 : decode cX5_haveBits 26 = .ok (.iload_n 3, 1) := by decide +kernel
theorem dX5_haveBits_27 : decode cX5_haveBits 27 = .ok (.iconst 1, 1) := by decide +kernel
theorem dX5_haveBits_28 : decode cX5_haveBits 28 = .ok (.iload 4, 2) := by decide +kernel
theorem dX5_haveBits_30 : decode cX5_haveBits 30 = .ok (.ishl, 1) := by decide +kernel
theorem dX5_haveBits_31 : decode cX5_haveBits 31 = .ok (.ior, 1) := by decide +kernel
theorem dX5_haveBits_32 : decode cX5_haveBits 32 = .ok (.istore_n 3, 1) := by decide +kernel
theorem dX5_haveBits_33 : decode cX5_haveBits 33 = .ok (.iinc 4 1, 3) := by decide +kernel
theorem dX5_haveBits_36 : decode cX5_haveBits 36 = .ok (.goto (-28), 3) := by decide +kernel
theorem dX5_haveBits_39 : decode cX5_haveBits 39 = .ok (.iload_n 3, 1) := by decide +kernel
theorem dX5_haveBits_40 : decode cX5_haveBits 40 = .ok (.ireturn, 1) := by decide +kernel
set_option maxRecDepth 20000 in
theorem ggX5_allBits_X5_hasBits : GoodIn wsX5_allBits wsX5_hasBits := goodIn_r _ [7, 8, 9, 10, 11, 6, 12, 13, 14, 15, 16, 17, 18, 19, 20, 21, 22, 23, 24, 25, 33, 34, 35, 36, 37, 38, 39, 40, 41, 42, 43, 44, 45, 46, 47, 48, 49, 50, 51, 52, 53, 54, 55, 56, 57, 58, 59, 60, 61, 62, 63, 64, 65, 66, 67, 68, 69, 70, 71, 72, 73, 74, 75, 76, 77, 78, 79, 80, 81, 82, 83, 84, 85, 86, 87, 88, 89, 90, 91, 92, 93, 94, 95] (by decide +kernel) (by decide +kernel)
set_option maxRecDepth 20000 in
theorem gX5_allBits_X5_hasBits_u77X0 : GoodIn wsX5_allBits (va_wsU RX5 77 RX0 "CarbonCopies$Person" ⟨"CarbonCopies$Person", "hasBits", "(II)I"⟩ yX5_hasBits wsX5_hasBits) := goodIn_app (goodIn_of _ (by decide +kernel)) ggX5_allBits_X5_hasBits
set_option maxRecDepth 20000 in
theorem gX5_allBits_X5_hasBits_u77X1 : GoodIn wsX5_allBits (va_wsU RX5 77 RX1 "CarbonCopies$Person" ⟨"CarbonCopies$Person", "hasBits", "(II)I"⟩ yX5_hasBits wsX5_hasBits) := goodIn_app (goodIn_of _ (by decide +kernel)) ggX5_allBits_X5_hasBits
set_option maxRecDepth 20000 in
theorem gX5_allBits_X5_hasBits_u77X2 : GoodIn wsX5_allBits (va_wsU RX5 77 RX2 "CarbonCopies$Person" ⟨"CarbonCopies$Person", "hasBits", "(II)I"⟩ yX5_hasBits wsX5_hasBits) := goodIn_app (goodIn_of _ (by decide +kernel)) ggX5_allBits_X5_hasBits
set_option maxRecDepth 20000 in
theorem gX5_allBits_X5_hasBits_u77X3 : GoodIn wsX5_allBits (va_wsU RX5 77 RX3 "CarbonCopies$Person" ⟨"CarbonCopies$Person", "hasBits", "(II)I"⟩ yX5_hasBits wsX5_hasBits) := goodIn_app (goodIn_of _ (by decide +kernel)) ggX5_allBits_X5_hasBits
set_option maxRecDepth 20000 in
theorem gX5_allBits_X5_hasBits : GoodIn wsX5_allBits (wsV RX5 77 RX5 yX5_hasBits wsX5_hasBits) := goodIn_app (goodIn_of _ (by decide +kernel)) ggX5_allBits_X5_hasBits
set_option maxRecDepth 20000 in
theorem gX5_allBits_X5_hasBits_u77X8 : GoodIn wsX5_allBits (va_wsU RX5 77 RX8 "CarbonCopies$Person" ⟨"CarbonCopies$Person", "hasBits", "(II)I"⟩ yX5_hasBits wsX5_hasBits) := goodIn_app (goodIn_of _ (by decide +kernel)) ggX5_allBits_X5_hasBits
set_option maxRecDepth 20000 in
theorem gX5_allBits_X5_hasBits_u77X10 : GoodIn wsX5_allBits (va_wsU RX5 77 RX10 "CarbonCopies$Person" ⟨"CarbonCopies$Person", "hasBits", "(II)I"⟩ yX5_hasBits wsX5_hasBits) := goodIn_app (goodIn_of _ (by decide +kernel)) ggX5_allBits_X5_hasBits
theorem dX5_allBits_0 : decode cX5_allBits 0 = .ok (.sipush 255, 3) := by decide +kernel
theorem dX5_allBits_3 : decode cX5_allBits 3 = .ok (.istore_n 2, 1) := by decide +kernel
theorem dX5_allBits_4 : decode cX5_allBits 4 = .ok (.aload_n 0, 1) := by decide +kernel
theorem dX5_allBits_5 : decode cX5_allBits 5 = .ok (.getfield 28, 3) := by decide +kernel
theorem dX5_allBits_8 : decode cX5_allBits 8 = .ok (.istore_n 3, 1) := by decide +kernel
theorem dX5_allBits_9 : decode cX5_allBits 9 = .ok (.iload_n 3, 1) := by decide +kernel
theorem dX5_allBits_10 : decode cX5_allBits 10 = .ok (.bipush 6, 2) := by decide +kernel
theorem dX5_allBits_12 : decode cX5_allBits 12 = .ok (.if_icmp .ge 18, 3) := by decide +kernel
theorem dX5_allBits_15 : decode cX5_allBits 15 = .ok (.iload_n 2, 1) := by decide +kernel
theorem dX5_allBits_16 : decode cX5_allBits 16 = .ok (.aload_n 0, 1) := by decide +kernel
theorem dX5_allBits_17 : decode cX5_allBits 17 = .ok (.iload_n 3, 1) := by decide +kernel
theorem dX5_allBits_18 : decode cX5_allBits 18 = .ok (.iload_n 1, 1) := by decide +kernel
theorem dX5_allBits_19 : decode cX5_allBits 19 = .ok (.invokevirtual 77, 3) := by decide +kernel
theorem dX5_allBits_22 : decode cX5_allBits 22 = .ok (.iand, 1) := by decide +kernel
theorem dX5_allBits_23 : decode cX5_allBits 23 = .ok (.istore_n 2, 1) := by decide +kernel
theorem dX5_allBits_24 : decode cX5_allBits 24 = .ok (.iinc 3 1, 3) := by decide +kernel
theorem dX5_allBits_27 : decode cX5_allBits 27 = .ok (.goto (-18), 3) := by decide +kernel
theorem dX5_allBits_30 : decode cX5_allBits 30 = .ok (.iload_n 2, 1) := by decide +kernel
theorem dX5_allBits_31 : decode cX5_allBits 31 = .ok (.ireturn, 1) := by decide +kernel
set_option maxRecDepth 20000 in
theorem ggX5_gotBy_X0_lossAt : GoodIn wsX5_gotBy wsX0_lossAt := goodIn_r _ [12, 13, 14, 15, 16, 17, 18, 19, 20, 21, 7, 22, 23, 24, 25, 26, 58, 59, 60, 61, 62, 63, 64, 65, 66, 67, 68, 69, 70, 71, 72, 73, 74, 75, 76, 77, 78, 79, 80, 81, 82, 83, 84, 85, 86, 87, 88, 89, 90, 91, 92, 93, 94, 95, 96, 97, 98, 99, 100, 101, 102, 103, 104, 105, 106, 107, 108, 109, 110, 111, 112, 113, 114, 115, 116, 117, 118, 119, 120] (by decide +kernel) (by decide +kernel)
set_option maxRecDepth 20000 in
theorem gX5_gotBy_X0_lossAt_u80X0 : GoodIn wsX5_gotBy (va_wsO RX5 80 RX0 "CarbonCopies$Person" ⟨"CarbonCopies$Person", "lossAt", "(I)I"⟩ yX0_lossAt wsX0_lossAt) := goodIn_app (goodIn_of _ (by decide +kernel)) ggX5_gotBy_X0_lossAt
set_option maxRecDepth 20000 in
theorem ggX5_gotBy_X1_lossAt : GoodIn wsX5_gotBy wsX1_lossAt := goodIn_r _ [30, 31, 32, 33, 34, 35, 36, 37, 38, 39, 7, 40, 23, 24, 25, 26, 58, 59, 60, 61, 62, 63, 64, 65, 66, 67, 68, 69, 70, 71, 72, 73, 74, 75, 76, 77, 78, 79, 80, 81, 82, 83, 84, 85, 86, 87, 88, 89, 90, 91, 92, 93, 94, 95, 96, 97, 98, 99, 100, 101, 102, 103, 104, 105, 106, 107, 108, 109, 110, 111, 112, 113, 114, 115, 116, 117, 118, 119, 120] (by decide +kernel) (by decide +kernel)
set_option maxRecDepth 20000 in
theorem gX5_gotBy_X1_lossAt_u80X1 : GoodIn wsX5_gotBy (va_wsO RX5 80 RX1 "CarbonCopies$Person" ⟨"CarbonCopies$Person", "lossAt", "(I)I"⟩ yX1_lossAt wsX1_lossAt) := goodIn_app (goodIn_of _ (by decide +kernel)) ggX5_gotBy_X1_lossAt
set_option maxRecDepth 20000 in
theorem ggX5_gotBy_X2_lossAt : GoodIn wsX5_gotBy wsX2_lossAt := goodIn_r _ [44, 45, 7, 46, 23, 24, 25, 26, 58, 59, 60, 61, 62, 63, 64, 65, 66, 67, 68, 69, 70, 71, 72, 73, 74, 75, 76, 77, 78, 79, 80, 81, 82, 83, 84, 85, 86, 87, 88, 89, 90, 91, 92, 93, 94, 95, 96, 97, 98, 99, 100, 101, 102, 103, 104, 105, 106, 107, 108, 109, 110, 111, 112, 113, 114, 115, 116, 117, 118, 119, 120] (by decide +kernel) (by decide +kernel)
set_option maxRecDepth 20000 in
theorem gX5_gotBy_X2_lossAt_u80X2 : GoodIn wsX5_gotBy (va_wsO RX5 80 RX2 "CarbonCopies$Person" ⟨"CarbonCopies$Person", "lossAt", "(I)I"⟩ yX2_lossAt wsX2_lossAt) := goodIn_app (goodIn_of _ (by decide +kernel)) ggX5_gotBy_X2_lossAt
set_option maxRecDepth 20000 in
theorem ggX5_gotBy_X3_lossAt : GoodIn wsX5_gotBy wsX3_lossAt := goodIn_r _ [20, 21, 7, 22, 23, 24, 25, 26, 58, 59, 60, 61, 62, 63, 64, 65, 66, 67, 68, 69, 70, 71, 72, 73, 74, 75, 76, 77, 78, 79, 80, 81, 82, 83, 84, 85, 86, 87, 88, 89, 90, 91, 92, 93, 94, 95, 96, 97, 98, 99, 100, 101, 102, 103, 104, 105, 106, 107, 108, 109, 110, 111, 112, 113, 114, 115, 116, 117, 118, 119, 120] (by decide +kernel) (by decide +kernel)
set_option maxRecDepth 20000 in
theorem gX5_gotBy_X3_lossAt_u80X3 : GoodIn wsX5_gotBy (va_wsO RX5 80 RX3 "CarbonCopies$Person" ⟨"CarbonCopies$Person", "lossAt", "(I)I"⟩ yX3_lossAt wsX3_lossAt) := goodIn_app (goodIn_of _ (by decide +kernel)) ggX5_gotBy_X3_lossAt
set_option maxRecDepth 20000 in
theorem ggX5_gotBy_X5_lossAt : GoodIn wsX5_gotBy wsX5_lossAt := goodIn_r _ [25, 26, 58, 59, 60, 61, 62, 63, 64, 65, 66, 67, 68, 69, 70, 71, 72, 73, 74, 75, 76, 77, 78, 79, 80, 81, 82, 83, 84, 85, 86, 87, 88, 89, 90, 91, 92, 93, 94, 95, 96, 97, 98, 99, 100, 101, 102, 103, 104, 105, 106, 107, 108, 109, 110, 111, 112, 113, 114, 115, 116, 117, 118, 119, 120] (by decide +kernel) (by decide +kernel)
set_option maxRecDepth 20000 in
theorem gX5_gotBy_X5_lossAt : GoodIn wsX5_gotBy (wsV RX5 80 RX5 yX5_lossAt wsX5_lossAt) := goodIn_app (goodIn_of _ (by decide +kernel)) ggX5_gotBy_X5_lossAt
set_option maxRecDepth 20000 in
theorem ggX5_gotBy_X8_lossAt : GoodIn wsX5_gotBy wsX8_lossAt := goodIn_r _ [38, 39, 7, 40, 23, 24, 25, 26, 58, 59, 60, 61, 62, 63, 64, 65, 66, 67, 68, 69, 70, 71, 72, 73, 74, 75, 76, 77, 78, 79, 80, 81, 82, 83, 84, 85, 86, 87, 88, 89, 90, 91, 92, 93, 94, 95, 96, 97, 98, 99, 100, 101, 102, 103, 104, 105, 106, 107, 108, 109, 110, 111, 112, 113, 114, 115, 116, 117, 118, 119, 120] (by decide +kernel) (by decide +kernel)
set_option maxRecDepth 20000 in
theorem gX5_gotBy_X8_lossAt_u80X8 : GoodIn wsX5_gotBy (va_wsO RX5 80 RX8 "CarbonCopies$Person" ⟨"CarbonCopies$Person", "lossAt", "(I)I"⟩ yX8_lossAt wsX8_lossAt) := goodIn_app (goodIn_of _ (by decide +kernel)) ggX5_gotBy_X8_lossAt
set_option maxRecDepth 20000 in
theorem ggX5_gotBy_X10_lossAt : GoodIn wsX5_gotBy wsX10_lossAt := goodIn_r _ [54, 55, 56, 57, 42, 43, 44, 45, 7, 46, 23, 24, 25, 26, 58, 59, 60, 61, 62, 63, 64, 65, 66, 67, 68, 69, 70, 71, 72, 73, 74, 75, 76, 77, 78, 79, 80, 81, 82, 83, 84, 85, 86, 87, 88, 89, 90, 91, 92, 93, 94, 95, 96, 97, 98, 99, 100, 101, 102, 103, 104, 105, 106, 107, 108, 109, 110, 111, 112, 113, 114, 115, 116, 117, 118, 119, 120] (by decide +kernel) (by decide +kernel)
set_option maxRecDepth 20000 in
theorem gX5_gotBy_X10_lossAt_u80X10 : GoodIn wsX5_gotBy (va_wsO RX5 80 RX10 "CarbonCopies$Person" ⟨"CarbonCopies$Person", "lossAt", "(I)I"⟩ yX10_lossAt wsX10_lossAt) := goodIn_app (goodIn_of _ (by decide +kernel)) ggX5_gotBy_X10_lossAt
theorem dX5_gotBy_0 : decode cX5_gotBy 0 = .ok (.iload_n 2, 1) := by decide +kernel
theorem dX5_gotBy_1 : decode cX5_gotBy 1 = .ok (.istore_n 3, 1) := by decide +kernel
theorem dX5_gotBy_2 : decode cX5_gotBy 2 = .ok (.iconst 1, 1) := by decide +kernel
theorem dX5_gotBy_3 : decode cX5_gotBy 3 = .ok (.istore 4, 2) := by decide +kernel
theorem dX5_gotBy_5 : decode cX5_gotBy 5 = .ok (.iload 4, 2) := by decide +kernel
theorem dX5_gotBy_7 : decode cX5_gotBy 7 = .ok (.iload_n 1, 1) := by decide +kernel
theorem dX5_gotBy_8 : decode cX5_gotBy 8 = .ok (.aload_n 0, 1) := by decide +kernel
theorem dX5_gotBy_9 : decode cX5_gotBy 9 = .ok (.getfield 28, 3) := by decide +kernel
theorem dX5_gotBy_12 : decode cX5_gotBy 12 = .ok (.isub, 1) := by decide +kernel
theorem dX5_gotBy_13 : decode cX5_gotBy 13 = .ok (.if_icmp .gt 28, 3) := by decide +kernel
theorem dX5_gotBy_16 : decode cX5_gotBy 16 = .ok (.iload 4, 2) := by decide +kernel
theorem dX5_gotBy_18 : decode cX5_gotBy 18 = .ok (.iconst 5, 1) := by decide +kernel
theorem dX5_gotBy_19 : decode cX5_gotBy 19 = .ok (.if_icmp .gt 22, 3) := by decide +kernel
theorem dX5_gotBy_22 : decode cX5_gotBy 22 = .ok (.iconst 0, 1) := by decide +kernel
theorem dX5_gotBy_23 : decode cX5_gotBy 23 = .ok (.iload_n 3, 1) := by decide +kernel
theorem dX5_gotBy_24 : decode cX5_gotBy 24 = .ok (.aload_n 0, 1) := by decide +kernel
theorem dX5_gotBy_25 : decode cX5_gotBy 25 = .ok (.iload 4, 2) := by decide +kernel
theorem dX5_gotBy_27 : decode cX5_gotBy 27 = .ok (.invokevirtual 80, 3) := by decide +kernel
theorem dX5_gotBy_30 : decode cX5_gotBy 30 = .ok (.isub, 1) := by decide +kernel
theorem dX5_gotBy_31 : decode cX5_gotBy 31 = .ok (.invokestatic 83, 3) := by decide +kernel
theorem dX5_gotBy_34 : decode cX5_gotBy 34 = .ok (.istore_n 3, 1) := by decide +kernel
theorem dX5_gotBy_35 : decode cX5_gotBy 35 = .ok (.iinc 4 1, 3) := by decide +kernel
theorem dX5_gotBy_38 : decode cX5_gotBy 38 = .ok (.goto (-33), 3) := by decide +kernel
theorem dX5_gotBy_41 : decode cX5_gotBy 41 = .ok (.iload_n 3, 1) := by decide +kernel
theorem dX5_gotBy_42 : decode cX5_gotBy 42 = .ok (.ireturn, 1) := by decide +kernel
set_option maxRecDepth 20000 in
theorem ggX5_haveDown_X5_strengthOf : GoodIn wsX5_haveDown wsX5_strengthOf := goodIn_r _ [6, 7, 8, 9, 10, 11, 12, 88, 89, 90, 91, 92, 93, 94, 95, 96, 97, 98, 99, 100, 101, 102, 103, 104, 105, 106, 107, 108, 109, 110, 111, 112, 113, 114, 115, 116, 117, 118, 119, 120, 121, 122, 123, 124, 125, 126, 127, 128, 129, 130, 131, 132, 133, 134, 135, 136, 137, 138, 139, 140, 141, 142, 143, 144, 145, 146, 147, 148, 149, 150] (by decide +kernel) (by decide +kernel)
set_option maxRecDepth 20000 in
theorem gX5_haveDown_X5_strengthOf_u73X0 : GoodIn wsX5_haveDown (va_wsU RX5 73 RX0 "CarbonCopies$Person" ⟨"CarbonCopies$Person", "strengthOf", "(II)I"⟩ yX5_strengthOf wsX5_strengthOf) := goodIn_app (goodIn_of _ (by decide +kernel)) ggX5_haveDown_X5_strengthOf
set_option maxRecDepth 20000 in
theorem gX5_haveDown_X5_strengthOf_u73X1 : GoodIn wsX5_haveDown (va_wsU RX5 73 RX1 "CarbonCopies$Person" ⟨"CarbonCopies$Person", "strengthOf", "(II)I"⟩ yX5_strengthOf wsX5_strengthOf) := goodIn_app (goodIn_of _ (by decide +kernel)) ggX5_haveDown_X5_strengthOf
set_option maxRecDepth 20000 in
theorem gX5_haveDown_X5_strengthOf_u73X2 : GoodIn wsX5_haveDown (va_wsU RX5 73 RX2 "CarbonCopies$Person" ⟨"CarbonCopies$Person", "strengthOf", "(II)I"⟩ yX5_strengthOf wsX5_strengthOf) := goodIn_app (goodIn_of _ (by decide +kernel)) ggX5_haveDown_X5_strengthOf
set_option maxRecDepth 20000 in
theorem gX5_haveDown_X5_strengthOf_u73X3 : GoodIn wsX5_haveDown (va_wsU RX5 73 RX3 "CarbonCopies$Person" ⟨"CarbonCopies$Person", "strengthOf", "(II)I"⟩ yX5_strengthOf wsX5_strengthOf) := goodIn_app (goodIn_of _ (by decide +kernel)) ggX5_haveDown_X5_strengthOf
set_option maxRecDepth 20000 in
theorem gX5_haveDown_X5_strengthOf : GoodIn wsX5_haveDown (wsV RX5 73 RX5 yX5_strengthOf wsX5_strengthOf) := goodIn_app (goodIn_of _ (by decide +kernel)) ggX5_haveDown_X5_strengthOf
set_option maxRecDepth 20000 in
theorem gX5_haveDown_X5_strengthOf_u73X8 : GoodIn wsX5_haveDown (va_wsU RX5 73 RX8 "CarbonCopies$Person" ⟨"CarbonCopies$Person", "strengthOf", "(II)I"⟩ yX5_strengthOf wsX5_strengthOf) := goodIn_app (goodIn_of _ (by decide +kernel)) ggX5_haveDown_X5_strengthOf
set_option maxRecDepth 20000 in
theorem gX5_haveDown_X5_strengthOf_u73X10 : GoodIn wsX5_haveDown (va_wsU RX5 73 RX10 "CarbonCopies$Person" ⟨"CarbonCopies$Person", "strengthOf", "(II)I"⟩ yX5_strengthOf wsX5_strengthOf) := goodIn_app (goodIn_of _ (by decide +kernel)) ggX5_haveDown_X5_strengthOf
set_option maxRecDepth 20000 in
theorem ggX5_haveDown_X5_gotBy : GoodIn wsX5_haveDown wsX5_gotBy := goodIn_r _ [24, 25, 26, 27, 28, 29, 30, 31, 32, 33, 34, 35, 36, 37, 38, 39, 40, 41, 42, 43, 44, 45, 46, 47, 5, 48, 49, 50, 51, 52, 53, 54, 55, 56, 57, 58, 59, 60, 61, 62, 63, 64, 65, 66, 67, 68, 69, 70, 71, 72, 73, 74, 75, 76, 77, 78, 79, 80, 88, 89, 90, 91, 92, 93, 94, 95, 96, 97, 98, 99, 100, 101, 102, 103, 104, 105, 106, 107, 108, 109, 110, 111, 112, 113, 114, 115, 116, 117, 118, 119, 120, 121, 122, 123, 124, 125, 126, 127, 128, 129, 130, 131, 132, 133, 134, 135, 136, 137, 138, 139, 140, 141, 142, 143, 144, 145, 146, 147, 148, 149, 150] (by decide +kernel) (by decide +kernel)
set_option maxRecDepth 20000 in
theorem gX5_haveDown_X5_gotBy_u88X0 : GoodIn wsX5_haveDown (va_wsU RX5 88 RX0 "CarbonCopies$Person" ⟨"CarbonCopies$Person", "gotBy", "(II)I"⟩ yX5_gotBy wsX5_gotBy) := goodIn_app (goodIn_of _ (by decide +kernel)) ggX5_haveDown_X5_gotBy
set_option maxRecDepth 20000 in
theorem gX5_haveDown_X5_gotBy_u88X1 : GoodIn wsX5_haveDown (va_wsU RX5 88 RX1 "CarbonCopies$Person" ⟨"CarbonCopies$Person", "gotBy", "(II)I"⟩ yX5_gotBy wsX5_gotBy) := goodIn_app (goodIn_of _ (by decide +kernel)) ggX5_haveDown_X5_gotBy
set_option maxRecDepth 20000 in
theorem gX5_haveDown_X5_gotBy_u88X2 : GoodIn wsX5_haveDown (va_wsU RX5 88 RX2 "CarbonCopies$Person" ⟨"CarbonCopies$Person", "gotBy", "(II)I"⟩ yX5_gotBy wsX5_gotBy) := goodIn_app (goodIn_of _ (by decide +kernel)) ggX5_haveDown_X5_gotBy
set_option maxRecDepth 20000 in
theorem gX5_haveDown_X5_gotBy_u88X3 : GoodIn wsX5_haveDown (va_wsU RX5 88 RX3 "CarbonCopies$Person" ⟨"CarbonCopies$Person", "gotBy", "(II)I"⟩ yX5_gotBy wsX5_gotBy) := goodIn_app (goodIn_of _ (by decide +kernel)) ggX5_haveDown_X5_gotBy
set_option maxRecDepth 20000 in
theorem gX5_haveDown_X5_gotBy : GoodIn wsX5_haveDown (wsV RX5 88 RX5 yX5_gotBy wsX5_gotBy) := goodIn_app (goodIn_of _ (by decide +kernel)) ggX5_haveDown_X5_gotBy
set_option maxRecDepth 20000 in
theorem gX5_haveDown_X5_gotBy_u88X8 : GoodIn wsX5_haveDown (va_wsU RX5 88 RX8 "CarbonCopies$Person" ⟨"CarbonCopies$Person", "gotBy", "(II)I"⟩ yX5_gotBy wsX5_gotBy) := goodIn_app (goodIn_of _ (by decide +kernel)) ggX5_haveDown_X5_gotBy
set_option maxRecDepth 20000 in
theorem gX5_haveDown_X5_gotBy_u88X10 : GoodIn wsX5_haveDown (va_wsU RX5 88 RX10 "CarbonCopies$Person" ⟨"CarbonCopies$Person", "gotBy", "(II)I"⟩ yX5_gotBy wsX5_gotBy) := goodIn_app (goodIn_of _ (by decide +kernel)) ggX5_haveDown_X5_gotBy
theorem dX5_haveDown_0 : decode cX5_haveDown 0 = .ok (.iconst 0, 1) := by decide +kernel
theorem dX5_haveDown_1 : decode cX5_haveDown 1 = .ok (.istore 6, 2) := by decide +kernel
theorem dX5_haveDown_3 : decode cX5_haveDown 3 = .ok (.iload_n 2, 1) := by decide +kernel
theorem dX5_haveDown_4 : decode cX5_haveDown 4 = .ok (.istore 7, 2) := by decide +kernel
theorem dX5_haveDown_6 : decode cX5_haveDown 6 = .ok (.iload 7, 2) := by decide +kernel
theorem dX5_haveDown_8 : decode cX5_haveDown 8 = .ok (.iload_n 3, 1) := by decide +kernel
theorem dX5_haveDown_9 : decode cX5_haveDown 9 = .ok (.if_icmp .gt 40, 3) := by decide +kernel
theorem dX5_haveDown_12 : decode cX5_haveDown 12 = .ok (.iload 7, 2) := by decide +kernel
theorem dX5_haveDown_14 : decode cX5_haveDown 14 = .ok (.bipush 6, 2) := by decide +kernel
theorem dX5_haveDown_16 : decode cX5_haveDown 16 = .ok (.if_icmp .ge 33, 3) := by decide +kernel
theorem dX5_haveDown_19 : decode cX5_haveDown 19 = .ok (.aload_n 0, 1) := by decide +kernel
theorem dX5_haveDown_20 : decode cX5_haveDown 20 = .ok (.iload 7, 2) := by decide +kernel
theorem dX5_haveDown_22 : decode cX5_haveDown 22 = .ok (.iload_n 1, 1) := by decide +kernel
theorem dX5_haveDown_23 : decode cX5_haveDown 23 = .ok (.invokevirtual 73, 3) := by decide +kernel
theorem dX5_haveDown_26 : decode cX5_haveDown 26 = .ok (.aload_n 0, 1) := by decide +kernel
theorem dX5_haveDown_27 : decode cX5_haveDown 27 = .ok (.iload 7, 2) := by decide +kernel
theorem dX5_haveDown_29 : decode cX5_haveDown 29 = .ok (.iload 4, 2) := by decide +kernel
theorem dX5_haveDown_31 : decode cX5_haveDown 31 = .ok (.invokevirtual 88, 3) := by decide +kernel
theorem dX5_haveDown_34 : decode cX5_haveDown 34 = .ok (.iadd, 1) := by decide +kernel
theorem dX5_haveDown_35 : decode cX5_haveDown 35 = .ok (.iload 5, 2) := by decide +kernel
theorem dX5_haveDown_37 : decode cX5_haveDown 37 = .ok (.if_icmp .lt 6, 3) := by decide +kernel
theorem dX5_haveDown_40 : decode cX5_haveDown 40 = .ok (.iinc 6 1, 3) := by decide +kernel
theorem dX5_haveDown_43 : decode cX5_haveDown 43 = .ok (.iinc 7 1, 3) := by decide +kernel
theorem dX5_haveDown_46 : decode cX5_haveDown 46 = .ok (.goto (-40), 3) := by decide +kernel
theorem dX5_haveDown_49 : decode cX5_haveDown 49 = .ok (.iload 6, 2) := by decide +kernel
theorem dX5_haveDown_51 : decode cX5_haveDown 51 = .ok (.ireturn, 1) := by decide +kernel
set_option maxRecDepth 20000 in
theorem ggX5_pressWith_X11_isDeed : GoodIn wsX5_pressWith wsX11_isDeed := goodIn_r _ [13] (by decide +kernel) (by decide +kernel)
set_option maxRecDepth 20000 in
theorem gX5_pressWith_X11_isDeed_n70 : GoodIn wsX5_pressWith (wsX11_isDeed) := ggX5_pressWith_X11_isDeed
set_option maxRecDepth 20000 in
theorem ggX5_pressWith_X5_gotBy : GoodIn wsX5_pressWith wsX5_gotBy := goodIn_r _ [19, 1, 2, 3, 4, 5, 20, 21, 22, 23, 24, 25, 26, 27, 28, 29, 30, 31, 32, 33, 34, 35, 36, 37, 18, 38, 39, 40, 41, 42, 43, 44, 45, 46, 47, 48, 49, 50, 51, 52, 53, 54, 55, 56, 57, 58, 59, 60, 61, 62, 63, 64, 65, 66, 67, 68, 69, 70, 93, 94, 95, 96, 97, 98, 99, 100, 101, 102, 103, 104, 105, 106, 107, 108, 109, 110, 111, 112, 113, 114, 115, 116, 117, 118, 119, 120, 121, 122, 123, 124, 125, 126, 127, 128, 129, 130, 131, 132, 133, 134, 135, 136, 137, 138, 139, 140, 141, 142, 143, 144, 145, 146, 147, 148, 149, 150, 151, 152, 153, 154, 155] (by decide +kernel) (by decide +kernel)
set_option maxRecDepth 20000 in
theorem gX5_pressWith_X5_gotBy_u88X0 : GoodIn wsX5_pressWith (va_wsU RX5 88 RX0 "CarbonCopies$Person" ⟨"CarbonCopies$Person", "gotBy", "(II)I"⟩ yX5_gotBy wsX5_gotBy) := goodIn_app (goodIn_of _ (by decide +kernel)) ggX5_pressWith_X5_gotBy
set_option maxRecDepth 20000 in
theorem gX5_pressWith_X5_gotBy_u88X1 : GoodIn wsX5_pressWith (va_wsU RX5 88 RX1 "CarbonCopies$Person" ⟨"CarbonCopies$Person", "gotBy", "(II)I"⟩ yX5_gotBy wsX5_gotBy) := goodIn_app (goodIn_of _ (by decide +kernel)) ggX5_pressWith_X5_gotBy
set_option maxRecDepth 20000 in
theorem gX5_pressWith_X5_gotBy_u88X2 : GoodIn wsX5_pressWith (va_wsU RX5 88 RX2 "CarbonCopies$Person" ⟨"CarbonCopies$Person", "gotBy", "(II)I"⟩ yX5_gotBy wsX5_gotBy) := goodIn_app (goodIn_of _ (by decide +kernel)) ggX5_pressWith_X5_gotBy
set_option maxRecDepth 20000 in
theorem gX5_pressWith_X5_gotBy_u88X3 : GoodIn wsX5_pressWith (va_wsU RX5 88 RX3 "CarbonCopies$Person" ⟨"CarbonCopies$Person", "gotBy", "(II)I"⟩ yX5_gotBy wsX5_gotBy) := goodIn_app (goodIn_of _ (by decide +kernel)) ggX5_pressWith_X5_gotBy
set_option maxRecDepth 20000 in
theorem gX5_pressWith_X5_gotBy : GoodIn wsX5_pressWith (wsV RX5 88 RX5 yX5_gotBy wsX5_gotBy) := goodIn_app (goodIn_of _ (by decide +kernel)) ggX5_pressWith_X5_gotBy
set_option maxRecDepth 20000 in
theorem gX5_pressWith_X5_gotBy_u88X8 : GoodIn wsX5_pressWith (va_wsU RX5 88 RX8 "CarbonCopies$Person" ⟨"CarbonCopies$Person", "gotBy", "(II)I"⟩ yX5_gotBy wsX5_gotBy) := goodIn_app (goodIn_of _ (by decide +kernel)) ggX5_pressWith_X5_gotBy
set_option maxRecDepth 20000 in
theorem gX5_pressWith_X5_gotBy_u88X10 : GoodIn wsX5_pressWith (va_wsU RX5 88 RX10 "CarbonCopies$Person" ⟨"CarbonCopies$Person", "gotBy", "(II)I"⟩ yX5_gotBy wsX5_gotBy) := goodIn_app (goodIn_of _ (by decide +kernel)) ggX5_pressWith_X5_gotBy
set_option maxRecDepth 20000 in
theorem ggX5_pressWith_X5_driftOver : GoodIn wsX5_pressWith wsX5_driftOver := goodIn_r _ [82] (by decide +kernel) (by decide +kernel)
set_option maxRecDepth 20000 in
theorem gX5_pressWith_X5_driftOver_u94X0 : GoodIn wsX5_pressWith (va_wsU RX5 94 RX0 "CarbonCopies$Person" ⟨"CarbonCopies$Person", "driftOver", "(I)I"⟩ yX5_driftOver wsX5_driftOver) := goodIn_app (goodIn_of _ (by decide +kernel)) ggX5_pressWith_X5_driftOver
set_option maxRecDepth 20000 in
theorem ggX5_pressWith_X1_driftOver : GoodIn wsX5_pressWith wsX1_driftOver := goodIn_r _ [86, 44, 45, 93, 94, 95, 96, 97, 98, 99, 100, 101, 102, 103, 104, 105, 106, 107, 108, 109, 110, 111, 112, 113, 114, 115, 116, 117, 118, 119, 120, 121, 122, 123, 124, 125, 126, 127, 128, 129, 130, 131, 132, 133, 134, 135, 136, 137, 138, 139, 140, 141, 142, 143, 144, 145, 146, 147, 148, 149, 150, 151, 152, 153, 154, 155] (by decide +kernel) (by decide +kernel)
set_option maxRecDepth 20000 in
theorem gX5_pressWith_X1_driftOver_u94X1 : GoodIn wsX5_pressWith (va_wsO RX5 94 RX1 "CarbonCopies$Person" ⟨"CarbonCopies$Person", "driftOver", "(I)I"⟩ yX1_driftOver wsX1_driftOver) := goodIn_app (goodIn_of _ (by decide +kernel)) ggX5_pressWith_X1_driftOver
set_option maxRecDepth 20000 in
theorem gX5_pressWith_X5_driftOver_u94X2 : GoodIn wsX5_pressWith (va_wsU RX5 94 RX2 "CarbonCopies$Person" ⟨"CarbonCopies$Person", "driftOver", "(I)I"⟩ yX5_driftOver wsX5_driftOver) := goodIn_app (goodIn_of _ (by decide +kernel)) ggX5_pressWith_X5_driftOver
set_option maxRecDepth 20000 in
theorem gX5_pressWith_X5_driftOver_u94X3 : GoodIn wsX5_pressWith (va_wsU RX5 94 RX3 "CarbonCopies$Person" ⟨"CarbonCopies$Person", "driftOver", "(I)I"⟩ yX5_driftOver wsX5_driftOver) := goodIn_app (goodIn_of _ (by decide +kernel)) ggX5_pressWith_X5_driftOver
set_option maxRecDepth 20000 in
theorem gX5_pressWith_X5_driftOver : GoodIn wsX5_pressWith (wsV RX5 94 RX5 yX5_driftOver wsX5_driftOver) := goodIn_app (goodIn_of _ (by decide +kernel)) ggX5_pressWith_X5_driftOver
set_option maxRecDepth 20000 in
theorem gX5_pressWith_X5_driftOver_u94X8 : GoodIn wsX5_pressWith (va_wsU RX5 94 RX8 "CarbonCopies$Person" ⟨"CarbonCopies$Person", "driftOver", "(I)I"⟩ yX5_driftOver wsX5_driftOver) := goodIn_app (goodIn_of _ (by decide +kernel)) ggX5_pressWith_X5_driftOver
set_option maxRecDepth 20000 in
theorem gX5_pressWith_X5_driftOver_u94X10 : GoodIn wsX5_pressWith (va_wsU RX5 94 RX10 "CarbonCopies$Person" ⟨"CarbonCopies$Person", "driftOver", "(I)I"⟩ yX5_driftOver wsX5_driftOver) := goodIn_app (goodIn_of _ (by decide +kernel)) ggX5_pressWith_X5_driftOver
theorem dX5_pressWith_0 : decode cX5_pressWith 0 = .ok (.iconst 0, 1) := by decide +kernel
theorem dX5_pressWith_1 : decode cX5_pressWith 1 = .ok (.istore_n 3, 1) := by decide +kernel
theorem dX5_pressWith_2 : decode cX5_pressWith 2 = .ok (.iconst 0, 1) := by decide +kernel
theorem dX5_pressWith_3 : decode cX5_pressWith 3 = .ok (.aload_n 0, 1) := by decide +kernel
theorem dX5_pressWith_4 : decode cX5_pressWith 4 = .ok (.getfield 28, 3) := by decide +kernel
theorem dX5_pressWith_7 : decode cX5_pressWith 7 = .ok (.invokestatic 83, 3) := by decide +kernel
theorem dX5_pressWith_10 : decode cX5_pressWith 10 = .ok (.istore 4, 2) := by decide +kernel
theorem dX5_pressWith_12 : decode cX5_pressWith 12 = .ok (.iload 4, 2) := by decide +kernel
theorem dX5_pressWith_14 : decode cX5_pressWith 14 = .ok (.bipush 6, 2) := by decide +kernel
theorem dX5_pressWith_16 : decode cX5_pressWith 16 = .ok (.if_icmp .ge 106, 3) := by decide +kernel
theorem dX5_pressWith_19 : decode cX5_pressWith 19 = .ok (.iload_n 1, 1) := by decide +kernel
theorem dX5_pressWith_20 : decode cX5_pressWith 20 = .ok (.invokestatic 70, 3) := by decide +kernel
theorem dX5_pressWith_23 : decode cX5_pressWith 23 = .ok (.ifCond .eq 99, 3) := by decide +kernel
theorem dX5_pressWith_26 : decode cX5_pressWith 26 = .ok (.aload_n 0, 1) := by decide +kernel
theorem dX5_pressWith_27 : decode cX5_pressWith 27 = .ok (.iload 4, 2) := by decide +kernel
theorem dX5_pressWith_29 : decode cX5_pressWith 29 = .ok (.iload_n 2, 1) := by decide +kernel
theorem dX5_pressWith_30 : decode cX5_pressWith 30 = .ok (.invokevirtual 88, 3) := by decide +kernel
theorem dX5_pressWith_33 : decode cX5_pressWith 33 = .ok (.istore 5, 2) := by decide +kernel
theorem dX5_pressWith_35 : decode cX5_pressWith 35 = .ok (.iload 5, 2) := by decide +kernel
theorem dX5_pressWith_37 : decode cX5_pressWith 37 = .ok (.ifCond .le 79, 3) := by decide +kernel
theorem dX5_pressWith_40 : decode cX5_pressWith 40 = .ok (.iload 4, 2) := by decide +kernel
theorem dX5_pressWith_42 : decode cX5_pressWith 42 = .ok (.bipush 8, 2) := by decide +kernel
theorem dX5_pressWith_44 : decode cX5_pressWith 44 = .ok (.imul, 1) := by decide +kernel
theorem dX5_pressWith_45 : decode cX5_pressWith 45 = .ok (.iload_n 1, 1) := by decide +kernel
theorem dX5_pressWith_46 : decode cX5_pressWith 46 = .ok (.iadd, 1) := by decide +kernel
theorem dX5_pressWith_47 : decode cX5_pressWith 47 = .ok (.istore 6, 2) := by decide +kernel
theorem dX5_pressWith_49 : decode cX5_pressWith 49 = .ok (.aload_n 0, 1) := by decide +kernel
theorem dX5_pressWith_50 : decode cX5_pressWith 50 = .ok (.getfield 9, 3) := by decide +kernel
theorem dX5_pressWith_53 : decode cX5_pressWith 53 = .ok (.iload 6, 2) := by decide +kernel
theorem dX5_pressWith_55 : decode cX5_pressWith 55 = .ok (.bipush 99, 2) := by decide +kernel
theorem dX5_pressWith_57 : decode cX5_pressWith 57 = .ok (.aload_n 0, 1) := by decide +kernel
theorem dX5_pressWith_58 : decode cX5_pressWith 58 = .ok (.getfield 9, 3) := by decide +kernel
theorem dX5_pressWith_61 : decode cX5_pressWith 61 = .ok (.iload 6, 2) := by decide +kernel
theorem dX5_pressWith_63 : decode cX5_pressWith 63 = .ok (.iaload, 1) := by decide +kernel
theorem dX5_pressWith_64 : decode cX5_pressWith 64 = .ok (.iload 5, 2) := by decide +kernel
theorem dX5_pressWith_66 : decode cX5_pressWith 66 = .ok (.iadd, 1) := by decide +kernel
theorem dX5_pressWith_67 : decode cX5_pressWith 67 = .ok (.invokestatic 91, 3) := by decide +kernel
theorem dX5_pressWith_70 : decode cX5_pressWith 70 = .ok (.iastore, 1) := by decide +kernel
theorem dX5_pressWith_71 : decode cX5_pressWith 71 = .ok (.aload_n 0, 1) := by decide +kernel
theorem dX5_pressWith_72 : decode cX5_pressWith 72 = .ok (.getfield 18, 3) := by decide +kernel
theorem dX5_pressWith_75 : decode cX5_pressWith 75 = .ok (.iload 4, 2) := by decide +kernel
theorem dX5_pressWith_77 : decode cX5_pressWith 77 = .ok (.iaload, 1) := by decide +kernel
theorem dX5_pressWith_78 : decode cX5_pressWith 78 = .ok (.aload_n 0, 1) := by decide +kernel
theorem dX5_pressWith_79 : decode cX5_pressWith 79 = .ok (.iload 4, 2) := by decide +kernel
theorem dX5_pressWith_81 : decode cX5_pressWith 81 = .ok (.aload_n 0, 1) := by decide +kernel
theorem dX5_pressWith_82 : decode cX5_pressWith 82 = .ok (.getfield 28, 3) := by decide +kernel
theorem dX5_pressWith_85 : decode cX5_pressWith 85 = .ok (.isub, 1) := by decide +kernel
theorem dX5_pressWith_86 : decode cX5_pressWith 86 = .ok (.invokevirtual 94, 3) := by decide +kernel
theorem dX5_pressWith_89 : decode cX5_pressWith 89 = .ok (.iadd, 1) := by decide +kernel
theorem dX5_pressWith_90 : decode cX5_pressWith 90 = .ok (.istore 7, 2) := by decide +kernel
theorem dX5_pressWith_92 : decode cX5_pressWith 92 = .ok (.aload_n 0, 1) := by decide +kernel
theorem dX5_pressWith_93 : decode cX5_pressWith 93 = .ok (.getfield 18, 3) := by decide +kernel
theorem dX5_pressWith_96 : decode cX5_pressWith 96 = .ok (.iload 4, 2) := by decide +kernel
theorem dX5_pressWith_98 : decode cX5_pressWith 98 = .ok (.sipush (-999), 3) := by decide +kernel
theorem dX5_pressWith_101 : decode cX5_pressWith 101 = .ok (.sipush 999, 3) := by decide +kernel
theorem dX5_pressWith_104 : decode cX5_pressWith 104 = .ok (.iload 7, 2) := by decide +kernel
theorem dX5_pressWith_106 : decode cX5_pressWith 106 = .ok (.invokestatic 91, 3) := by decide +kernel
theorem dX5_pressWith_109 : decode cX5_pressWith 109 = .ok (.invokestatic 83, 3) := by decide +kernel
theorem dX5_pressWith_112 : decode cX5_pressWith 112 = .ok (.iastore, 1) := by decide +kernel
theorem dX5_pressWith_113 : decode cX5_pressWith 113 = .ok (.iinc 3 1, 3) := by decide +kernel
theorem dX5_pressWith_116 : decode cX5_pressWith 116 = .ok (.iinc 4 1, 3) := by decide +kernel
theorem dX5_pressWith_119 : decode cX5_pressWith 119 = .ok (.goto (-107), 3) := by decide +kernel
theorem dX5_pressWith_122 : decode cX5_pressWith 122 = .ok (.iload_n 3, 1) := by decide +kernel
theorem dX5_pressWith_123 : decode cX5_pressWith 123 = .ok (.ireturn, 1) := by decide +kernel
set_option maxRecDepth 20000 in
theorem ggX5_rubOn_X11_isCopy : GoodIn wsX5_rubOn wsX11_isCopy := goodIn_r _ [9] (by decide +kernel) (by decide +kernel)
set_option maxRecDepth 20000 in
theorem gX5_rubOn_X11_isCopy_n66 : GoodIn wsX5_rubOn (wsX11_isCopy) := ggX5_rubOn_X11_isCopy
set_option maxRecDepth 20000 in
theorem ggX5_rubOn_X11_isDeed : GoodIn wsX5_rubOn wsX11_isDeed := goodIn_r _ [11] (by decide +kernel) (by decide +kernel)
set_option maxRecDepth 20000 in
theorem gX5_rubOn_X11_isDeed_n70 : GoodIn wsX5_rubOn (wsX11_isDeed) := ggX5_rubOn_X11_isDeed
theorem dX5_rubOn_0 : decode cX5_rubOn 0 = .ok (.iload_n 1, 1) := by decide +kernel
theorem dX5_rubOn_1 : decode cX5_rubOn 1 = .ok (.invokestatic 66, 3) := by decide +kernel
theorem dX5_rubOn_4 : decode cX5_rubOn 4 = .ok (.ifCond .eq 10, 3) := by decide +kernel
theorem dX5_rubOn_7 : decode cX5_rubOn 7 = .ok (.iload_n 2, 1) := by decide +kernel
theorem dX5_rubOn_8 : decode cX5_rubOn 8 = .ok (.invokestatic 70, 3) := by decide +kernel
theorem dX5_rubOn_11 : decode cX5_rubOn 11 = .ok (.ifCond .ne 5, 3) := by decide +kernel
theorem dX5_rubOn_14 : decode cX5_rubOn 14 = .ok (.iconst 0, 1) := by decide +kernel
theorem dX5_rubOn_15 : decode cX5_rubOn 15 = .ok (.ireturn, 1) := by decide +kernel
theorem dX5_rubOn_16 : decode cX5_rubOn 16 = .ok (.aload_n 0, 1) := by decide +kernel
theorem dX5_rubOn_17 : decode cX5_rubOn 17 = .ok (.getfield 9, 3) := by decide +kernel
theorem dX5_rubOn_20 : decode cX5_rubOn 20 = .ok (.iload_n 1, 1) := by decide +kernel
theorem dX5_rubOn_21 : decode cX5_rubOn 21 = .ok (.bipush 8, 2) := by decide +kernel
theorem dX5_rubOn_23 : decode cX5_rubOn 23 = .ok (.imul, 1) := by decide +kernel
theorem dX5_rubOn_24 : decode cX5_rubOn 24 = .ok (.iload_n 2, 1) := by decide +kernel
theorem dX5_rubOn_25 : decode cX5_rubOn 25 = .ok (.iadd, 1) := by decide +kernel
theorem dX5_rubOn_26 : decode cX5_rubOn 26 = .ok (.iaload, 1) := by decide +kernel
theorem dX5_rubOn_27 : decode cX5_rubOn 27 = .ok (.istore_n 3, 1) := by decide +kernel
theorem dX5_rubOn_28 : decode cX5_rubOn 28 = .ok (.aload_n 0, 1) := by decide +kernel
theorem dX5_rubOn_29 : decode cX5_rubOn 29 = .ok (.getfield 9, 3) := by decide +kernel
theorem dX5_rubOn_32 : decode cX5_rubOn 32 = .ok (.iload_n 1, 1) := by decide +kernel
theorem dX5_rubOn_33 : decode cX5_rubOn 33 = .ok (.bipush 8, 2) := by decide +kernel
theorem dX5_rubOn_35 : decode cX5_rubOn 35 = .ok (.imul, 1) := by decide +kernel
theorem dX5_rubOn_36 : decode cX5_rubOn 36 = .ok (.iload_n 2, 1) := by decide +kernel
theorem dX5_rubOn_37 : decode cX5_rubOn 37 = .ok (.iadd, 1) := by decide +kernel
theorem dX5_rubOn_38 : decode cX5_rubOn 38 = .ok (.iconst 0, 1) := by decide +kernel
theorem dX5_rubOn_39 : decode cX5_rubOn 39 = .ok (.iastore, 1) := by decide +kernel
theorem dX5_rubOn_40 : decode cX5_rubOn 40 = .ok (.aload_n 0, 1) := by decide +kernel
theorem dX5_rubOn_41 : decode cX5_rubOn 41 = .ok (.getfield 15, 3) := by decide +kernel
theorem dX5_rubOn_44 : decode cX5_rubOn 44 = .ok (.iload_n 1, 1) := by decide +kernel
theorem dX5_rubOn_45 : decode cX5_rubOn 45 = .ok (.bipush 99, 2) := by decide +kernel
theorem dX5_rubOn_47 : decode cX5_rubOn 47 = .ok (.aload_n 0, 1) := by decide +kernel
theorem dX5_rubOn_48 : decode cX5_rubOn 48 = .ok (.getfield 15, 3) := by decide +kernel
theorem dX5_rubOn_51 : decode cX5_rubOn 51 = .ok (.iload_n 1, 1) := by decide +kernel
theorem dX5_rubOn_52 : decode cX5_rubOn 52 = .ok (.iaload, 1) := by decide +kernel
theorem dX5_rubOn_53 : decode cX5_rubOn 53 = .ok (.iconst 1, 1) := by decide +kernel
theorem dX5_rubOn_54 : decode cX5_rubOn 54 = .ok (.iadd, 1) := by decide +kernel
theorem dX5_rubOn_55 : decode cX5_rubOn 55 = .ok (.invokestatic 91, 3) := by decide +kernel
theorem dX5_rubOn_58 : decode cX5_rubOn 58 = .ok (.iastore, 1) := by decide +kernel
theorem dX5_rubOn_59 : decode cX5_rubOn 59 = .ok (.iload_n 3, 1) := by decide +kernel
theorem dX5_rubOn_60 : decode cX5_rubOn 60 = .ok (.ireturn, 1) := by decide +kernel
set_option maxRecDepth 20000 in
theorem ggX5_rubsToMend_X5_haveBits : GoodIn wsX5_rubsToMend wsX5_haveBits := goodIn_r _ [7, 1, 8, 9, 10, 11, 6, 12, 13, 14, 15, 16, 17, 18, 19, 20, 21, 22, 23, 24, 25, 40, 41, 42, 43, 44, 45, 46, 47, 48, 49, 50, 51, 52, 53, 54, 55, 56, 57, 58, 59, 60, 61, 62, 63, 64, 65, 66, 67, 68, 69, 70, 71, 72, 73, 74, 75, 76, 77, 78, 79, 80, 81, 82, 83, 84, 85, 86, 87, 88, 89, 90, 91, 92, 93, 94, 95, 96, 97, 98, 99, 100, 101, 102] (by decide +kernel) (by decide +kernel)
set_option maxRecDepth 20000 in
theorem gX5_rubsToMend_X5_haveBits_u97X0 : GoodIn wsX5_rubsToMend (va_wsU RX5 97 RX0 "CarbonCopies$Person" ⟨"CarbonCopies$Person", "haveBits", "(II)I"⟩ yX5_haveBits wsX5_haveBits) := goodIn_app (goodIn_of _ (by decide +kernel)) ggX5_rubsToMend_X5_haveBits
set_option maxRecDepth 20000 in
theorem gX5_rubsToMend_X5_haveBits_u97X1 : GoodIn wsX5_rubsToMend (va_wsU RX5 97 RX1 "CarbonCopies$Person" ⟨"CarbonCopies$Person", "haveBits", "(II)I"⟩ yX5_haveBits wsX5_haveBits) := goodIn_app (goodIn_of _ (by decide +kernel)) ggX5_rubsToMend_X5_haveBits
set_option maxRecDepth 20000 in
theorem gX5_rubsToMend_X5_haveBits_u97X2 : GoodIn wsX5_rubsToMend (va_wsU RX5 97 RX2 "CarbonCopies$Person" ⟨"CarbonCopies$Person", "haveBits", "(II)I"⟩ yX5_haveBits wsX5_haveBits) := goodIn_app (goodIn_of _ (by decide +kernel)) ggX5_rubsToMend_X5_haveBits
set_option maxRecDepth 20000 in
theorem gX5_rubsToMend_X5_haveBits_u97X3 : GoodIn wsX5_rubsToMend (va_wsU RX5 97 RX3 "CarbonCopies$Person" ⟨"CarbonCopies$Person", "haveBits", "(II)I"⟩ yX5_haveBits wsX5_haveBits) := goodIn_app (goodIn_of _ (by decide +kernel)) ggX5_rubsToMend_X5_haveBits
set_option maxRecDepth 20000 in
theorem gX5_rubsToMend_X5_haveBits : GoodIn wsX5_rubsToMend (wsV RX5 97 RX5 yX5_haveBits wsX5_haveBits) := goodIn_app (goodIn_of _ (by decide +kernel)) ggX5_rubsToMend_X5_haveBits
set_option maxRecDepth 20000 in
theorem gX5_rubsToMend_X5_haveBits_u97X8 : GoodIn wsX5_rubsToMend (va_wsU RX5 97 RX8 "CarbonCopies$Person" ⟨"CarbonCopies$Person", "haveBits", "(II)I"⟩ yX5_haveBits wsX5_haveBits) := goodIn_app (goodIn_of _ (by decide +kernel)) ggX5_rubsToMend_X5_haveBits
set_option maxRecDepth 20000 in
theorem gX5_rubsToMend_X5_haveBits_u97X10 : GoodIn wsX5_rubsToMend (va_wsU RX5 97 RX10 "CarbonCopies$Person" ⟨"CarbonCopies$Person", "haveBits", "(II)I"⟩ yX5_haveBits wsX5_haveBits) := goodIn_app (goodIn_of _ (by decide +kernel)) ggX5_rubsToMend_X5_haveBits
set_option maxRecDepth 20000 in
theorem ggX5_rubsToMend_J6_bitCount_0f7a4 : GoodIn wsX5_rubsToMend wsJ6_bitCount_0f7a4 := goodIn_r _ [36, 37, 38, 39] (by decide +kernel) (by decide +kernel)
set_option maxRecDepth 20000 in
theorem gX5_rubsToMend_J6_bitCount_0f7a4 : GoodIn wsX5_rubsToMend (va_wsS RX5 100 yJ6_bitCount_0f7a4 wsJ6_bitCount_0f7a4) := goodIn_app (goodIn_of _ (by decide +kernel)) ggX5_rubsToMend_J6_bitCount_0f7a4
theorem dX5_rubsToMend_0 : decode cX5_rubsToMend 0 = .ok (.aload_n 0, 1) := by decide +kernel
theorem dX5_rubsToMend_1 : decode cX5_rubsToMend 1 = .ok (.iload_n 1, 1) := by decide +kernel
theorem dX5_rubsToMend_2 : decode cX5_rubsToMend 2 = .ok (.iload_n 2, 1) := by decide +kernel
theorem dX5_rubsToMend_3 : decode cX5_rubsToMend 3 = .ok (.invokevirtual 97, 3) := by decide +kernel
theorem dX5_rubsToMend_6 : decode cX5_rubsToMend 6 = .ok (.invokestatic 100, 3) := by decide +kernel
theorem dX5_rubsToMend_9 : decode cX5_rubsToMend 9 = .ok (.istore_n 3, 1) := by decide +kernel
theorem dX5_rubsToMend_10 : decode cX5_rubsToMend 10 = .ok (.iload_n 3, 1) := by decide +kernel
theorem dX5_rubsToMend_11 : decode cX5_rubsToMend 11 = .ok (.bipush 6, 2) := by decide +kernel
theorem dX5_rubsToMend_13 : decode cX5_rubsToMend 13 = .ok (.aload_n 0, 1) := by decide +kernel
theorem dX5_rubsToMend_14 : decode cX5_rubsToMend 14 = .ok (.getfield 28, 3) := by decide +kernel
theorem dX5_rubsToMend_17 : decode cX5_rubsToMend 17 = .ok (.isub, 1) := by decide +kernel
theorem dX5_rubsToMend_18 : decode cX5_rubsToMend 18 = .ok (.if_icmp .ne 7, 3) := by decide +kernel
theorem dX5_rubsToMend_21 : decode cX5_rubsToMend 21 = .ok (.iconst 0, 1) := by decide +kernel
theorem dX5_rubsToMend_22 : decode cX5_rubsToMend 22 = .ok (.goto 4, 3) := by decide +kernel
theorem dX5_rubsToMend_25 : decode cX5_rubsToMend 25 = .ok (.iload_n 3, 1) := by decide +kernel
theorem dX5_rubsToMend_26 : decode cX5_rubsToMend 26 = .ok (.ireturn, 1) := by decide +kernel
set_option maxRecDepth 20000 in
theorem ggX5_bearing_X5_strengthOf : GoodIn wsX5_bearing wsX5_strengthOf := goodIn_r _ [7, 8, 9, 10, 11, 12, 13, 21, 22, 23, 24, 25, 26, 27, 28, 29, 30, 31, 32, 33, 34, 35, 36, 37, 38, 39, 40, 41, 42, 43, 44, 45, 46, 47, 48, 49, 50, 51, 52, 53, 54, 55, 56, 57, 58, 59, 60, 61, 62, 63, 64, 65, 66, 67, 68, 69, 70, 71, 72, 73, 74, 75, 76, 77, 78, 79, 80, 81, 82, 83] (by decide +kernel) (by decide +kernel)
set_option maxRecDepth 20000 in
theorem gX5_bearing_X5_strengthOf_u73X0 : GoodIn wsX5_bearing (va_wsU RX5 73 RX0 "CarbonCopies$Person" ⟨"CarbonCopies$Person", "strengthOf", "(II)I"⟩ yX5_strengthOf wsX5_strengthOf) := goodIn_app (goodIn_of _ (by decide +kernel)) ggX5_bearing_X5_strengthOf
set_option maxRecDepth 20000 in
theorem gX5_bearing_X5_strengthOf_u73X1 : GoodIn wsX5_bearing (va_wsU RX5 73 RX1 "CarbonCopies$Person" ⟨"CarbonCopies$Person", "strengthOf", "(II)I"⟩ yX5_strengthOf wsX5_strengthOf) := goodIn_app (goodIn_of _ (by decide +kernel)) ggX5_bearing_X5_strengthOf
set_option maxRecDepth 20000 in
theorem gX5_bearing_X5_strengthOf_u73X2 : GoodIn wsX5_bearing (va_wsU RX5 73 RX2 "CarbonCopies$Person" ⟨"CarbonCopies$Person", "strengthOf", "(II)I"⟩ yX5_strengthOf wsX5_strengthOf) := goodIn_app (goodIn_of _ (by decide +kernel)) ggX5_bearing_X5_strengthOf
set_option maxRecDepth 20000 in
theorem gX5_bearing_X5_strengthOf_u73X3 : GoodIn wsX5_bearing (va_wsU RX5 73 RX3 "CarbonCopies$Person" ⟨"CarbonCopies$Person", "strengthOf", "(II)I"⟩ yX5_strengthOf wsX5_strengthOf) := goodIn_app (goodIn_of _ (by decide +kernel)) ggX5_bearing_X5_strengthOf
set_option maxRecDepth 20000 in
theorem gX5_bearing_X5_strengthOf : GoodIn wsX5_bearing (wsV RX5 73 RX5 yX5_strengthOf wsX5_strengthOf) := goodIn_app (goodIn_of _ (by decide +kernel)) ggX5_bearing_X5_strengthOf
set_option maxRecDepth 20000 in
theorem gX5_bearing_X5_strengthOf_u73X8 : GoodIn wsX5_bearing (va_wsU RX5 73 RX8 "CarbonCopies$Person" ⟨"CarbonCopies$Person", "strengthOf", "(II)I"⟩ yX5_strengthOf wsX5_strengthOf) := goodIn_app (goodIn_of _ (by decide +kernel)) ggX5_bearing_X5_strengthOf
set_option maxRecDepth 20000 in
theorem gX5_bearing_X5_strengthOf_u73X10 : GoodIn wsX5_bearing (va_wsU RX5 73 RX10 "CarbonCopies$Person" ⟨"CarbonCopies$Person", "strengthOf", "(II)I"⟩ yX5_strengthOf wsX5_strengthOf) := goodIn_app (goodIn_of _ (by decide +kernel)) ggX5_bearing_X5_strengthOf
theorem dX5_bearing_0 : decode cX5_bearing 0 = .ok (.iconst 5, 1) := by decide +kernel
theorem dX5_bearing_1 : decode cX5_bearing 1 = .ok (.istore_n 3, 1) := by decide +kernel
theorem dX5_bearing_2 : decode cX5_bearing 2 = .ok (.iload_n 3, 1) := by decide +kernel
theorem dX5_bearing_3 : decode cX5_bearing 3 = .ok (.aload_n 0, 1) := by decide +kernel
theorem dX5_bearing_4 : decode cX5_bearing 4 = .ok (.getfield 28, 3) := by decide +kernel
theorem dX5_bearing_7 : decode cX5_bearing 7 = .ok (.if_icmp .lt 28, 3) := by decide +kernel
theorem dX5_bearing_10 : decode cX5_bearing 10 = .ok (.aload_n 0, 1) := by decide +kernel
theorem dX5_bearing_11 : decode cX5_bearing 11 = .ok (.iload_n 3, 1) := by decide +kernel
theorem dX5_bearing_12 : decode cX5_bearing 12 = .ok (.iload_n 1, 1) := by decide +kernel
theorem dX5_bearing_13 : decode cX5_bearing 13 = .ok (.invokevirtual 73, 3) := by decide +kernel
theorem dX5_bearing_16 : decode cX5_bearing 16 = .ok (.iload_n 2, 1) := by decide +kernel
theorem dX5_bearing_17 : decode cX5_bearing 17 = .ok (.if_icmp .lt 12, 3) := by decide +kernel
theorem dX5_bearing_20 : decode cX5_bearing 20 = .ok (.iload_n 3, 1) := by decide +kernel
theorem dX5_bearing_21 : decode cX5_bearing 21 = .ok (.aload_n 0, 1) := by decide +kernel
theorem dX5_bearing_22 : decode cX5_bearing 22 = .ok (.getfield 28, 3) := by decide +kernel
theorem dX5_bearing_25 : decode cX5_bearing 25 = .ok (.isub, 1) := by decide +kernel
theorem dX5_bearing_26 : decode cX5_bearing 26 = .ok (.iconst 1, 1) := by decide +kernel
theorem dX5_bearing_27 : decode cX5_bearing 27 = .ok (.iadd, 1) := by decide +kernel
theorem dX5_bearing_28 : decode cX5_bearing 28 = .ok (.ireturn, 1) := by decide +kernel
theorem dX5_bearing_29 : decode cX5_bearing 29 = .ok (.iinc 3 (-1), 3) := by decide +kernel
theorem dX5_bearing_32 : decode cX5_bearing 32 = .ok (.goto (-30), 3) := by decide +kernel
theorem dX5_bearing_35 : decode cX5_bearing 35 = .ok (.iconst 0, 1) := by decide +kernel
theorem dX5_bearing_36 : decode cX5_bearing 36 = .ok (.ireturn, 1) := by decide +kernel
set_option maxRecDepth 20000 in
theorem ggX5_readSum_X5_strengthOf : GoodIn wsX5_readSum wsX5_strengthOf := goodIn_r _ [6, 7, 8, 9, 10, 11, 12, 20, 21, 22, 23, 24, 25, 26, 27, 28, 29, 30, 31, 32, 33, 34, 35, 36, 37, 38, 39, 40, 41, 42, 43, 44, 45, 46, 47, 48, 49, 50, 51, 52, 53, 54, 55, 56, 57, 58, 59, 60, 61, 62, 63, 64, 65, 66, 67, 68, 69, 70, 71, 72, 73, 74, 75, 76, 77, 78, 79, 80, 81, 82] (by decide +kernel) (by decide +kernel)
set_option maxRecDepth 20000 in
theorem gX5_readSum_X5_strengthOf_u73X0 : GoodIn wsX5_readSum (va_wsU RX5 73 RX0 "CarbonCopies$Person" ⟨"CarbonCopies$Person", "strengthOf", "(II)I"⟩ yX5_strengthOf wsX5_strengthOf) := goodIn_app (goodIn_of _ (by decide +kernel)) ggX5_readSum_X5_strengthOf
set_option maxRecDepth 20000 in
theorem gX5_readSum_X5_strengthOf_u73X1 : GoodIn wsX5_readSum (va_wsU RX5 73 RX1 "CarbonCopies$Person" ⟨"CarbonCopies$Person", "strengthOf", "(II)I"⟩ yX5_strengthOf wsX5_strengthOf) := goodIn_app (goodIn_of _ (by decide +kernel)) ggX5_readSum_X5_strengthOf
set_option maxRecDepth 20000 in
theorem gX5_readSum_X5_strengthOf_u73X2 : GoodIn wsX5_readSum (va_wsU RX5 73 RX2 "CarbonCopies$Person" ⟨"CarbonCopies$Person", "strengthOf", "(II)I"⟩ yX5_strengthOf wsX5_strengthOf) := goodIn_app (goodIn_of _ (by decide +kernel)) ggX5_readSum_X5_strengthOf
set_option maxRecDepth 20000 in
theorem gX5_readSum_X5_strengthOf_u73X3 : GoodIn wsX5_readSum (va_wsU RX5 73 RX3 "CarbonCopies$Person" ⟨"CarbonCopies$Person", "strengthOf", "(II)I"⟩ yX5_strengthOf wsX5_strengthOf) := goodIn_app (goodIn_of _ (by decide +kernel)) ggX5_readSum_X5_strengthOf
set_option maxRecDepth 20000 in
theorem gX5_readSum_X5_strengthOf : GoodIn wsX5_readSum (wsV RX5 73 RX5 yX5_strengthOf wsX5_strengthOf) := goodIn_app (goodIn_of _ (by decide +kernel)) ggX5_readSum_X5_strengthOf
set_option maxRecDepth 20000 in
theorem gX5_readSum_X5_strengthOf_u73X8 : GoodIn wsX5_readSum (va_wsU RX5 73 RX8 "CarbonCopies$Person" ⟨"CarbonCopies$Person", "strengthOf", "(II)I"⟩ yX5_strengthOf wsX5_strengthOf) := goodIn_app (goodIn_of _ (by decide +kernel)) ggX5_readSum_X5_strengthOf
set_option maxRecDepth 20000 in
theorem gX5_readSum_X5_strengthOf_u73X10 : GoodIn wsX5_readSum (va_wsU RX5 73 RX10 "CarbonCopies$Person" ⟨"CarbonCopies$Person", "strengthOf", "(II)I"⟩ yX5_strengthOf wsX5_strengthOf) := goodIn_app (goodIn_of _ (by decide +kernel)) ggX5_readSum_X5_strengthOf
theorem dX5_readSum_0 : decode cX5_readSum 0 = .ok (.iconst 0, 1) := by decide +kernel
theorem dX5_readSum_1 : decode cX5_readSum 1 = .ok (.istore_n 1, 1) := by decide +kernel
theorem dX5_readSum_2 : decode cX5_readSum 2 = .ok (.iconst 0, 1) := by decide +kernel
theorem dX5_readSum_3 : decode cX5_readSum 3 = .ok (.istore_n 2, 1) := by decide +kernel
theorem dX5_readSum_4 : decode cX5_readSum 4 = .ok (.iload_n 2, 1) := by decide +kernel
theorem dX5_readSum_5 : decode cX5_readSum 5 = .ok (.bipush 8, 2) := by decide +kernel
theorem dX5_readSum_7 : decode cX5_readSum 7 = .ok (.if_icmp .ge 18, 3) := by decide +kernel
theorem dX5_readSum_10 : decode cX5_readSum 10 = .ok (.iload_n 1, 1) := by decide +kernel
theorem dX5_readSum_11 : decode cX5_readSum 11 = .ok (.aload_n 0, 1) := by decide +kernel
theorem dX5_readSum_12 : decode cX5_readSum 12 = .ok (.iconst 5, 1) := by decide +kernel
theorem dX5_readSum_13 : decode cX5_readSum 13 = .ok (.iload_n 2, 1) := by decide +kernel
theorem dX5_readSum_14 : decode cX5_readSum 14 = .ok (.invokevirtual 73, 3) := by decide +kernel
theorem dX5_readSum_17 : decode cX5_readSum 17 = .ok (.iadd, 1) := by decide +kernel
theorem dX5_readSum_18 : decode cX5_readSum 18 = .ok (.istore_n 1, 1) := by decide +kernel
theorem dX5_readSum_19 : decode cX5_readSum 19 = .ok (.iinc 2 1, 3) := by decide +kernel
theorem dX5_readSum_22 : decode cX5_readSum 22 = .ok (.goto (-18), 3) := by decide +kernel
theorem dX5_readSum_25 : decode cX5_readSum 25 = .ok (.iload_n 1, 1) := by decide +kernel
theorem dX5_readSum_26 : decode cX5_readSum 26 = .ok (.ireturn, 1) := by decide +kernel
theorem dX5_smearSum_0 : decode cX5_smearSum 0 = .ok (.iconst 0, 1) := by decide +kernel
theorem dX5_smearSum_1 : decode cX5_smearSum 1 = .ok (.istore_n 1, 1) := by decide +kernel
theorem dX5_smearSum_2 : decode cX5_smearSum 2 = .ok (.aload_n 0, 1) := by decide +kernel
theorem dX5_smearSum_3 : decode cX5_smearSum 3 = .ok (.getfield 15, 3) := by decide +kernel
theorem dX5_smearSum_6 : decode cX5_smearSum 6 = .ok (.astore_n 2, 1) := by decide +kernel
theorem dX5_smearSum_7 : decode cX5_smearSum 7 = .ok (.aload_n 2, 1) := by decide +kernel
theorem dX5_smearSum_8 : decode cX5_smearSum 8 = .ok (.arraylength, 1) := by decide +kernel
theorem dX5_smearSum_9 : decode cX5_smearSum 9 = .ok (.istore_n 3, 1) := by decide +kernel
theorem dX5_smearSum_10 : decode cX5_smearSum 10 = .ok (.iconst 0, 1) := by decide +kernel
theorem dX5_smearSum_11 : decode cX5_smearSum 11 = .ok (.istore 4, 2) := by decide +kernel
theorem dX5_smearSum_13 : decode cX5_smearSum 13 = .ok (.iload 4, 2) := by decide +kernel
theorem dX5_smearSum_15 : decode cX5_smearSum 15 = .ok (.iload_n 3, 1) := by decide +kernel
theorem dX5_smearSum_16 : decode cX5_smearSum 16 = .ok (.if_icmp .ge 20, 3) := by decide +kernel
theorem dX5_smearSum_19 : decode cX5_smearSum 19 = .ok (.aload_n 2, 1) := by decide +kernel
theorem dX5_smearSum_20 : decode cX5_smearSum 20 = .ok (.iload 4, 2) := by decide +kernel
theorem dX5_smearSum_22 : decode cX5_smearSum 22 = .ok (.iaload, 1) := by decide +kernel
theorem dX5_smearSum_23 : decode cX5_smearSum 23 = .ok (.istore 5, 2) := by decide +kernel
theorem dX5_smearSum_25 : decode cX5_smearSum 25 = .ok (.iload_n 1, 1) := by decide +kernel
theorem dX5_smearSum_26 : decode cX5_smearSum 26 = .ok (.iload 5, 2) := by decide +kernel
theorem dX5_smearSum_28 : decode cX5_smearSum 28 = .ok (.iadd, 1) := by decide +kernel
theorem dX5_smearSum_29 : decode cX5_smearSum 29 = .ok (.istore_n 1, 1) := by decide +kernel
theorem dX5_smearSum_30 : decode cX5_smearSum 30 = .ok (.iinc 4 1, 3) := by decide +kernel
theorem dX5_smearSum_33 : decode cX5_smearSum 33 = .ok (.goto (-20), 3) := by decide +kernel
theorem dX5_smearSum_36 : decode cX5_smearSum 36 = .ok (.iload_n 1, 1) := by decide +kernel
theorem dX5_smearSum_37 : decode cX5_smearSum 37 = .ok (.ireturn, 1) := by decide +kernel
theorem dX5_strengthSum_0 : decode cX5_strengthSum 0 = .ok (.iconst 0, 1) := by decide +kernel
theorem dX5_strengthSum_1 : decode cX5_strengthSum 1 = .ok (.istore_n 1, 1) := by decide +kernel
theorem dX5_strengthSum_2 : decode cX5_strengthSum 2 = .ok (.aload_n 0, 1) := by decide +kernel
theorem dX5_strengthSum_3 : decode cX5_strengthSum 3 = .ok (.getfield 9, 3) := by decide +kernel
theorem dX5_strengthSum_6 : decode cX5_strengthSum 6 = .ok (.astore_n 2, 1) := by decide +kernel
theorem dX5_strengthSum_7 : decode cX5_strengthSum 7 = .ok (.aload_n 2, 1) := by decide +kernel
theorem dX5_strengthSum_8 : decode cX5_strengthSum 8 = .ok (.arraylength, 1) := by decide +kernel
theorem dX5_strengthSum_9 : decode cX5_strengthSum 9 = .ok (.istore_n 3, 1) := by decide +kernel
theorem dX5_strengthSum_10 : decode cX5_strengthSum 10 = .ok (.iconst 0, 1) := by decide +kernel
theorem dX5_strengthSum_11 : decode cX5_strengthSum 11 = .ok (.istore 4, 2) := by decide +kernel
theorem dX5_strengthSum_13 : decode cX5_strengthSum 13 = .ok (.iload 4, 2) := by decide +kernel
theorem dX5_strengthSum_15 : decode cX5_strengthSum 15 = .ok (.iload_n 3, 1) := by decide +kernel
theorem dX5_strengthSum_16 : decode cX5_strengthSum 16 = .ok (.if_icmp .ge 20, 3) := by decide +kernel
theorem dX5_strengthSum_19 : decode cX5_strengthSum 19 = .ok (.aload_n 2, 1) := by decide +kernel
theorem dX5_strengthSum_20 : decode cX5_strengthSum 20 = .ok (.iload 4, 2) := by decide +kernel
theorem dX5_strengthSum_22 : decode cX5_strengthSum 22 = .ok (.iaload, 1) := by decide +kernel
theorem dX5_strengthSum_23 : decode cX5_strengthSum 23 = .ok (.istore 5, 2) := by decide +kernel
theorem dX5_strengthSum_25 : decode cX5_strengthSum 25 = .ok (.iload_n 1, 1) := by decide +kernel
theorem dX5_strengthSum_26 : decode cX5_strengthSum 26 = .ok (.iload 5, 2) := by decide +kernel
theorem dX5_strengthSum_28 : decode cX5_strengthSum 28 = .ok (.iadd, 1) := by decide +kernel
theorem dX5_strengthSum_29 : decode cX5_strengthSum 29 = .ok (.istore_n 1, 1) := by decide +kernel
theorem dX5_strengthSum_30 : decode cX5_strengthSum 30 = .ok (.iinc 4 1, 3) := by decide +kernel
theorem dX5_strengthSum_33 : decode cX5_strengthSum 33 = .ok (.goto (-20), 3) := by decide +kernel
theorem dX5_strengthSum_36 : decode cX5_strengthSum 36 = .ok (.iload_n 1, 1) := by decide +kernel
theorem dX5_strengthSum_37 : decode cX5_strengthSum 37 = .ok (.ireturn, 1) := by decide +kernel
theorem dX5_trueBits_0 : decode cX5_trueBits 0 = .ok (.iconst 0, 1) := by decide +kernel
theorem dX5_trueBits_1 : decode cX5_trueBits 1 = .ok (.istore_n 1, 1) := by decide +kernel
theorem dX5_trueBits_2 : decode cX5_trueBits 2 = .ok (.iconst 0, 1) := by decide +kernel
theorem dX5_trueBits_3 : decode cX5_trueBits 3 = .ok (.istore_n 2, 1) := by decide +kernel
theorem dX5_trueBits_4 : decode cX5_trueBits 4 = .ok (.iload_n 2, 1) := by decide +kernel
theorem dX5_trueBits_5 : decode cX5_trueBits 5 = .ok (.bipush 6, 2) := by decide +kernel
theorem dX5_trueBits_7 : decode cX5_trueBits 7 = .ok (.if_icmp .ge 24, 3) := by decide +kernel
theorem dX5_trueBits_10 : decode cX5_trueBits 10 = .ok (.aload_n 0, 1) := by decide +kernel
theorem dX5_trueBits_11 : decode cX5_trueBits 11 = .ok (.getfield 18, 3) := by decide +kernel
theorem dX5_trueBits_14 : decode cX5_trueBits 14 = .ok (.iload_n 2, 1) := by decide +kernel
theorem dX5_trueBits_15 : decode cX5_trueBits 15 = .ok (.iaload, 1) := by decide +kernel
theorem dX5_trueBits_16 : decode cX5_trueBits 16 = .ok (.ifCond .ne 9, 3) := by decide +kernel
theorem dX5_trueBits_19 : decode cX5_trueBits 19 = .ok (.iload_n 1, 1) := by decide +kernel
theorem dX5_trueBits_20 : decode cX5_trueBits 20 = .ok (.iconst 1, 1) := by decide +kernel
theorem dX5_trueBits_21 : decode cX5_trueBits 21 = .ok (.iload_n 2, 1) := by decide +kernel
theorem dX5_trueBits_22 : decode cX5_trueBits 22 = .ok (.ishl, 1) := by decide +kernel
theorem dX5_trueBits_23 : decode cX5_trueBits 23 = .ok (.ior, 1) := by decide +kernel
theorem dX5_trueBits_24 : decode cX5_trueBits 24 = .ok (.istore_n 1, 1) := by decide +kernel
theorem dX5_trueBits_25 : decode cX5_trueBits 25 = .ok (.iinc 2 1, 3) := by decide +kernel
theorem dX5_trueBits_28 : decode cX5_trueBits 28 = .ok (.goto (-24), 3) := by decide +kernel
theorem dX5_trueBits_31 : decode cX5_trueBits 31 = .ok (.iload_n 1, 1) := by decide +kernel
theorem dX5_trueBits_32 : decode cX5_trueBits 32 = .ok (.ireturn, 1) := by decide +kernel
theorem dX5_movesToStraight_0 : decode cX5_movesToStraight 0 = .ok (.iconst 0, 1) := by decide +kernel
theorem dX5_movesToStraight_1 : decode cX5_movesToStraight 1 = .ok (.istore_n 1, 1) := by decide +kernel
theorem dX5_movesToStraight_2 : decode cX5_movesToStraight 2 = .ok (.iconst 0, 1) := by decide +kernel
theorem dX5_movesToStraight_3 : decode cX5_movesToStraight 3 = .ok (.istore_n 2, 1) := by decide +kernel
theorem dX5_movesToStraight_4 : decode cX5_movesToStraight 4 = .ok (.aload_n 0, 1) := by decide +kernel
theorem dX5_movesToStraight_5 : decode cX5_movesToStraight 5 = .ok (.getfield 18, 3) := by decide +kernel
theorem dX5_movesToStraight_8 : decode cX5_movesToStraight 8 = .ok (.astore_n 3, 1) := by decide +kernel
theorem dX5_movesToStraight_9 : decode cX5_movesToStraight 9 = .ok (.aload_n 3, 1) := by decide +kernel
theorem dX5_movesToStraight_10 : decode cX5_movesToStraight 10 = .ok (.arraylength, 1) := by decide +kernel
theorem dX5_movesToStraight_11 : decode cX5_movesToStraight 11 = .ok (.istore 4, 2) := by decide +kernel
theorem dX5_movesToStraight_13 : decode cX5_movesToStraight 13 = .ok (.iconst 0, 1) := by decide +kernel
theorem dX5_movesToStraight_14 : decode cX5_movesToStraight 14 = .ok (.istore 5, 2) := by decide +kernel
theorem dX5_movesToStraight_16 : decode cX5_movesToStraight 16 = .ok (.iload 5, 2) := by decide +kernel
theorem dX5_movesToStraight_18 : decode cX5_movesToStraight 18 = .ok (.iload 4, 2) := by decide +kernel
theorem dX5_movesToStraight_20 : decode cX5_movesToStraight 20 = .ok (.if_icmp .ge 28, 3) := by decide +kernel
theorem dX5_movesToStraight_23 : decode cX5_movesToStraight 23 = .ok (.aload_n 3, 1) := by decide +kernel
theorem dX5_movesToStraight_24 : decode cX5_movesToStraight 24 = .ok (.iload 5, 2) := by decide +kernel
theorem dX5_movesToStraight_26 : decode cX5_movesToStraight 26 = .ok (.iaload, 1) := by decide +kernel
theorem dX5_movesToStraight_27 : decode cX5_movesToStraight 27 = .ok (.istore 6, 2) := by decide +kernel
theorem dX5_movesToStraight_29 : decode cX5_movesToStraight 29 = .ok (.iload_n 1, 1) := by decide +kernel
theorem dX5_movesToStraight_30 : decode cX5_movesToStraight 30 = .ok (.iload 6, 2) := by decide +kernel
theorem dX5_movesToStraight_32 : decode cX5_movesToStraight 32 = .ok (.iload_n 2, 1) := by decide +kernel
theorem dX5_movesToStraight_33 : decode cX5_movesToStraight 33 = .ok (.isub, 1) := by decide +kernel
theorem dX5_movesToStraight_34 : decode cX5_movesToStraight 34 = .ok (.invokestatic 105, 3) := by decide +kernel
theorem dX5_movesToStraight_37 : decode cX5_movesToStraight 37 = .ok (.iadd, 1) := by decide +kernel
theorem dX5_movesToStraight_38 : decode cX5_movesToStraight 38 = .ok (.istore_n 1, 1) := by decide +kernel
theorem dX5_movesToStraight_39 : decode cX5_movesToStraight 39 = .ok (.iload 6, 2) := by decide +kernel
theorem dX5_movesToStraight_41 : decode cX5_movesToStraight 41 = .ok (.istore_n 2, 1) := by decide +kernel
theorem dX5_movesToStraight_42 : decode cX5_movesToStraight 42 = .ok (.iinc 5 1, 3) := by decide +kernel
theorem dX5_movesToStraight_45 : decode cX5_movesToStraight 45 = .ok (.goto (-29), 3) := by decide +kernel
theorem dX5_movesToStraight_48 : decode cX5_movesToStraight 48 = .ok (.iload_n 1, 1) := by decide +kernel
theorem dX5_movesToStraight_49 : decode cX5_movesToStraight 49 = .ok (.ireturn, 1) := by decide +kernel
theorem dX5_firstAskew_0 : decode cX5_firstAskew 0 = .ok (.iconst 0, 1) := by decide +kernel
theorem dX5_firstAskew_1 : decode cX5_firstAskew 1 = .ok (.istore_n 1, 1) := by decide +kernel
theorem dX5_firstAskew_2 : decode cX5_firstAskew 2 = .ok (.iload_n 1, 1) := by decide +kernel
theorem dX5_firstAskew_3 : decode cX5_firstAskew 3 = .ok (.bipush 6, 2) := by decide +kernel
theorem dX5_firstAskew_5 : decode cX5_firstAskew 5 = .ok (.if_icmp .ge 20, 3) := by decide +kernel
theorem dX5_firstAskew_8 : decode cX5_firstAskew 8 = .ok (.aload_n 0, 1) := by decide +kernel
theorem dX5_firstAskew_9 : decode cX5_firstAskew 9 = .ok (.getfield 18, 3) := by decide +kernel
theorem dX5_firstAskew_12 : decode cX5_firstAskew 12 = .ok (.iload_n 1, 1) := by decide +kernel
theorem dX5_firstAskew_13 : decode cX5_firstAskew 13 = .ok (.iaload, 1) := by decide +kernel
theorem dX5_firstAskew_14 : decode cX5_firstAskew 14 = .ok (.ifCond .eq 5, 3) := by decide +kernel
theorem dX5_firstAskew_17 : decode cX5_firstAskew 17 = .ok (.iload_n 1, 1) := by decide +kernel
theorem dX5_firstAskew_18 : decode cX5_firstAskew 18 = .ok (.ireturn, 1) := by decide +kernel
theorem dX5_firstAskew_19 : decode cX5_firstAskew 19 = .ok (.iinc 1 1, 3) := by decide +kernel
theorem dX5_firstAskew_22 : decode cX5_firstAskew 22 = .ok (.goto (-20), 3) := by decide +kernel
theorem dX5_firstAskew_25 : decode cX5_firstAskew 25 = .ok (.iconst (-1), 1) := by decide +kernel
theorem dX5_firstAskew_26 : decode cX5_firstAskew 26 = .ok (.ireturn, 1) := by decide +kernel
theorem dX6_init_0 : decode cX6_init 0 = .ok (.aload_n 0, 1) := by decide +kernel
theorem dX6_init_1 : decode cX6_init 1 = .ok (.invokespecial 3, 3) := by decide +kernel
theorem dX6_init_4 : decode cX6_init 4 = .ok (.aload_n 0, 1) := by decide +kernel
theorem dX6_init_5 : decode cX6_init 5 = .ok (.sipush 160, 3) := by decide +kernel
theorem dX6_init_8 : decode cX6_init 8 = .ok (.newarray .int, 2) := by decide +kernel
theorem dX6_init_10 : decode cX6_init 10 = .ok (.putfield 9, 3) := by decide +kernel
theorem dX6_init_13 : decode cX6_init 13 = .ok (.aload_n 0, 1) := by decide +kernel
theorem dX6_init_14 : decode cX6_init 14 = .ok (.iconst 0, 1) := by decide +kernel
theorem dX6_init_15 : decode cX6_init 15 = .ok (.putfield 15, 3) := by decide +kernel
theorem dX6_init_18 : decode cX6_init 18 = .ok (.aload_n 0, 1) := by decide +kernel
theorem dX6_init_19 : decode cX6_init 19 = .ok (.iconst 0, 1) := by decide +kernel
theorem dX6_init_20 : decode cX6_init 20 = .ok (.putfield 19, 3) := by decide +kernel
theorem dX6_init_23 : decode cX6_init 23 = .ok (.aload_n 0, 1) := by decide +kernel
theorem dX6_init_24 : decode cX6_init 24 = .ok (.iconst (-1), 1) := by decide +kernel
theorem dX6_init_25 : decode cX6_init 25 = .ok (.putfield 22, 3) := by decide +kernel
theorem dX6_init_28 : decode cX6_init 28 = .ok (.aload_n 0, 1) := by decide +kernel
theorem dX6_init_29 : decode cX6_init 29 = .ok (.iconst 0, 1) := by decide +kernel
theorem dX6_init_30 : decode cX6_init 30 = .ok (.putfield 25, 3) := by decide +kernel
theorem dX6_init_33 : decode cX6_init 33 = .ok (.aload_n 0, 1) := by decide +kernel
theorem dX6_init_34 : decode cX6_init 34 = .ok (.iconst (-1), 1) := by decide +kernel
theorem dX6_init_35 : decode cX6_init 35 = .ok (.putfield 28, 3) := by decide +kernel
theorem dX6_init_38 : decode cX6_init 38 = .ok (.aload_n 0, 1) := by decide +kernel
theorem dX6_init_39 : decode cX6_init 39 = .ok (.iconst 0, 1) := by decide +kernel
theorem dX6_init_40 : decode cX6_init 40 = .ok (.putfield 31, 3) := by decide +kernel
theorem dX6_init_43 : decode cX6_init 43 = .ok (.aload_n 0, 1) := by decide +kernel
theorem dX6_init_44 : decode cX6_init 44 = .ok (.iconst 0, 1) := by decide +kernel
theorem dX6_init_45 : decode cX6_init 45 = .ok (.putfield 34, 3) := by decide +kernel
theorem dX6_init_48 : decode cX6_init 48 = .ok (.aload_n 0, 1) := by decide +kernel
theorem dX6_init_49 : decode cX6_init 49 = .ok (.iconst 0, 1) := by decide +kernel
theorem dX6_init_50 : decode cX6_init 50 = .ok (.putfield 37, 3) := by decide +kernel
theorem dX6_init_53 : decode cX6_init 53 = .ok (.aload_n 0, 1) := by decide +kernel
theorem dX6_init_54 : decode cX6_init 54 = .ok (.aload_n 1, 1) := by decide +kernel
theorem dX6_init_55 : decode cX6_init 55 = .ok (.putfield 40, 3) := by decide +kernel
theorem dX6_init_58 : decode cX6_init 58 = .ok (.return_, 1) := by decide +kernel
set_option maxRecDepth 20000 in
theorem ggX6_readFrom_X7_intAt : GoodIn wsX6_readFrom wsX7_intAt := goodIn_r _ [14, 15, 16, 17, 13, 18, 19, 20, 21, 22, 23, 24, 25, 26, 27, 28, 29, 348, 349, 350] (by decide +kernel) (by decide +kernel)
set_option maxRecDepth 20000 in
theorem gX6_readFrom_X7_intAt : GoodIn wsX6_readFrom (wsV RX6 53 RX7 yX7_intAt wsX7_intAt) := goodIn_app (goodIn_of _ (by decide +kernel)) ggX6_readFrom_X7_intAt
set_option maxRecDepth 20000 in
theorem ggX6_readFrom_X6_readItem : GoodIn wsX6_readFrom wsX6_readItem := goodIn_r _ [34, 8, 35, 36, 37, 33, 38, 6, 7, 39, 40, 41, 42, 43, 44, 45, 46, 47, 48, 49, 50, 51, 52, 53, 54, 55, 56, 57, 58, 59, 60, 61, 62, 63, 64, 65, 66, 67, 68, 69, 70, 71, 72, 73, 74, 75, 76, 77, 78, 79, 80, 81, 82, 83, 84, 85, 86, 87, 88, 89, 90, 91, 92, 93, 94, 95, 96, 97, 98, 99, 100, 101, 102, 103, 104, 105, 106, 9, 107, 108, 109, 110, 111, 112, 113, 114, 115, 116, 117, 118, 119, 120, 121, 122, 123, 124, 125, 126, 127, 128, 129, 130, 131, 132, 133, 134, 135, 136, 137, 138, 139, 140, 141, 142, 143, 144, 145, 146, 147, 148, 149, 150, 351, 352, 353, 354, 355, 356, 357, 358, 359, 360, 361, 362, 363, 364, 365, 366, 367, 368, 369, 370, 371, 372, 373, 374, 375, 376, 377, 378, 379, 380, 381, 382, 383, 384, 385, 386, 387, 388, 389, 390, 391, 392, 393, 394, 395, 396, 397, 398, 399, 400, 401, 402, 403, 404, 405, 406, 407, 408, 409, 410, 411, 412, 413, 414, 415, 416, 417, 418, 419, 420, 421, 422, 423, 424, 425, 426, 427, 428, 429] (by decide +kernel) (by decide +kernel)
set_option maxRecDepth 20000 in
theorem gX6_readFrom_X6_readItem : GoodIn wsX6_readFrom (wsV RX6 57 RX6 yX6_readItem wsX6_readItem) := goodIn_app (goodIn_of _ (by decide +kernel)) ggX6_readFrom_X6_readItem
set_option maxRecDepth 20000 in
theorem ggX6_readFrom_X6_tellItem : GoodIn wsX6_readFrom wsX6_tellItem := goodIn_r _ [154, 44, 46, 43, 48, 49, 155, 123, 124, 125, 126, 127, 128, 129, 130, 156, 157, 158, 159, 160, 161, 162, 163, 164, 165, 166, 167, 168, 169, 170, 171, 172, 173, 174, 175, 176, 177, 178, 179, 180, 181, 182, 183, 184, 185, 186, 187, 188, 189, 190, 191, 192, 193, 194, 195, 196, 197, 198, 199, 200, 201, 202, 203, 204, 205, 206, 207, 208, 209, 210, 211, 212, 213, 214, 215, 216, 217, 218, 219, 220, 221, 222, 223, 224, 225, 226, 227, 228, 229, 230, 231, 232, 233, 234, 235, 236, 237, 238, 239, 240, 241, 242, 243, 244, 245, 246, 247, 248, 249, 250, 4, 251, 252, 3, 5, 253, 254, 255, 256, 257, 258, 259, 260, 261, 262, 263, 264, 265, 266, 267, 268, 269, 270, 271, 272, 273, 274, 275, 276, 277, 278, 279, 280, 281, 282, 283, 284, 285, 286, 287, 288, 289, 290, 291, 292, 293, 294, 295, 296, 297, 298, 299, 300, 301, 302, 303, 304, 305, 306, 307, 308, 309, 310, 311, 312, 313, 314, 315, 316, 317, 318, 319, 320, 321, 322, 323, 324, 325, 326, 327, 328, 329, 330, 331, 332, 333, 334, 335, 336, 337, 338, 339, 340, 341, 342, 343, 344, 345, 346, 347, 351, 352, 353, 354, 355, 356, 357, 358, 359, 360, 361, 362, 363, 364, 365, 366, 367, 368, 369, 370, 371, 372, 373, 374, 375, 376, 377, 378, 379, 380, 381, 382, 383, 384, 385, 386, 387, 388, 389, 390, 391, 392, 393, 394, 395, 396, 397, 398, 399, 400, 401, 402, 403, 404, 405, 406, 407, 408, 409, 410, 411, 412, 413, 414, 415, 416, 417, 418, 419, 420, 421, 422, 423, 424, 425, 426, 427, 428, 429] (by decide +kernel) (by decide +kernel)
set_option maxRecDepth 20000 in
theorem gX6_readFrom_X6_tellItem : GoodIn wsX6_readFrom (wsV RX6 60 RX6 yX6_tellItem wsX6_tellItem) := goodIn_app (goodIn_of _ (by decide +kernel)) ggX6_readFrom_X6_tellItem
set_option maxRecDepth 20000 in
theorem ggX6_readFrom_X6_readLetter : GoodIn wsX6_readFrom wsX6_readLetter := goodIn_r _ [106, 9, 8, 35, 36, 37, 33, 38, 6, 7, 351, 352, 353, 354, 355, 356, 357, 358, 359, 360] (by decide +kernel) (by decide +kernel)
set_option maxRecDepth 20000 in
theorem gX6_readFrom_X6_readLetter : GoodIn wsX6_readFrom (wsV RX6 63 RX6 yX6_readLetter wsX6_readLetter) := goodIn_app (goodIn_of _ (by decide +kernel)) ggX6_readFrom_X6_readLetter
theorem dX6_readFrom_0 : decode cX6_readFrom 0 = .ok (.aload_n 0, 1) := by decide +kernel
theorem dX6_readFrom_1 : decode cX6_readFrom 1 = .ok (.aload_n 1, 1) := by decide +kernel
theorem dX6_readFrom_2 : decode cX6_readFrom 2 = .ok (.getfield 44, 3) := by decide +kernel
theorem dX6_readFrom_5 : decode cX6_readFrom 5 = .ok (.sipush 160, 3) := by decide +kernel
theorem dX6_readFrom_8 : decode cX6_readFrom 8 = .ok (.invokestatic 47, 3) := by decide +kernel
theorem dX6_readFrom_11 : decode cX6_readFrom 11 = .ok (.putfield 15, 3) := by decide +kernel
theorem dX6_readFrom_14 : decode cX6_readFrom 14 = .ok (.iconst 0, 1) := by decide +kernel
theorem dX6_readFrom_15 : decode cX6_readFrom 15 = .ok (.istore_n 2, 1) := by decide +kernel
theorem dX6_readFrom_16 : decode cX6_readFrom 16 = .ok (.iload_n 2, 1) := by decide +kernel
theorem dX6_readFrom_17 : decode cX6_readFrom 17 = .ok (.aload_n 0, 1) := by decide +kernel
theorem dX6_readFrom_18 : decode cX6_readFrom 18 = .ok (.getfield 15, 3) := by decide +kernel
theorem dX6_readFrom_21 : decode cX6_readFrom 21 = .ok (.if_icmp .ge 20, 3) := by decide +kernel
theorem dX6_readFrom_24 : decode cX6_readFrom 24 = .ok (.aload_n 0, 1) := by decide +kernel
theorem dX6_readFrom_25 : decode cX6_readFrom 25 = .ok (.getfield 9, 3) := by decide +kernel
theorem dX6_readFrom_28 : decode cX6_readFrom 28 = .ok (.iload_n 2, 1) := by decide +kernel
theorem dX6_readFrom_29 : decode cX6_readFrom 29 = .ok (.aload_n 1, 1) := by decide +kernel
theorem dX6_readFrom_30 : decode cX6_readFrom 30 = .ok (.iload_n 2, 1) := by decide +kernel
theorem dX6_readFrom_31 : decode cX6_readFrom 31 = .ok (.invokevirtual 53, 3) := by decide +kernel
theorem dX6_readFrom_34 : decode cX6_readFrom 34 = .ok (.iastore, 1) := by decide +kernel
theorem dX6_readFrom_35 : decode cX6_readFrom 35 = .ok (.iinc 2 1, 3) := by decide +kernel
theorem dX6_readFrom_38 : decode cX6_readFrom 38 = .ok (.goto (-22), 3) := by decide +kernel
theorem dX6_readFrom_41 : decode cX6_readFrom 41 = .ok (.aload_n 0, 1) := by decide +kernel
theorem dX6_readFrom_42 : decode cX6_readFrom 42 = .ok (.iconst 0, 1) := by decide +kernel
theorem dX6_readFrom_43 : decode cX6_readFrom 43 = .ok (.putfield 19, 3) := by decide +kernel
theorem dX6_readFrom_46 : decode cX6_readFrom 46 = .ok (.aload_n 0, 1) := by decide +kernel
theorem dX6_readFrom_47 : decode cX6_readFrom 47 = .ok (.iconst (-1), 1) := by decide +kernel
theorem dX6_readFrom_48 : decode cX6_readFrom 48 = .ok (.putfield 22, 3) := by decide +kernel
theorem dX6_readFrom_51 : decode cX6_readFrom 51 = .ok (.iconst 0, 1) := by decide +kernel
theorem dX6_readFrom_52 : decode cX6_readFrom 52 = .ok (.istore_n 2, 1) := by decide +kernel
theorem dX6_readFrom_53 : decode cX6_readFrom 53 = .ok (.iconst 0, 1) := by decide +kernel
theorem dX6_readFrom_54 : decode cX6_readFrom 54 = .ok (.istore_n 3, 1) := by decide +kernel
theorem dX6_readFrom_55 : decode cX6_readFrom 55 = .ok (.iload_n 3, 1) := by decide +kernel
theorem dX6_readFrom_56 : decode cX6_readFrom 56 = .ok (.sipush 160, 3) := by decide +kernel
theorem dX6_readFrom_59 : decode cX6_readFrom 59 = .ok (.if_icmp .gt 49, 3) := by decide +kernel
theorem dX6_readFrom_62 : decode cX6_readFrom 62 = .ok (.aload_n 0, 1) := by decide +kernel
theorem dX6_readFrom_63 : decode cX6_readFrom 63 = .ok (.invokevirtual 57, 3) := by decide +kernel
theorem dX6_readFrom_66 : decode cX6_readFrom 66 = .ok (.aload_n 0, 1) := by decide +kernel
theorem dX6_readFrom_67 : decode cX6_readFrom 67 = .ok (.getfield 22, 3) := by decide +kernel
theorem dX6_readFrom_70 : decode cX6_readFrom 70 = .ok (.iconst (-1), 1) := by decide +kernel
theorem dX6_readFrom_71 : decode cX6_readFrom 71 = .ok (.if_icmp .eq 5, 3) := by decide +kernel
theorem dX6_readFrom_74 : decode cX6_readFrom 74 = .ok (.iload_n 2, 1) := by decide +kernel
theorem dX6_readFrom_75 : decode cX6_readFrom 75 = .ok (.ireturn, 1) := by decide +kernel
theorem dX6_readFrom_76 : decode cX6_readFrom 76 = .ok (.aload_n 0, 1) := by decide +kernel
theorem dX6_readFrom_77 : decode cX6_readFrom 77 = .ok (.invokevirtual 60, 3) := by decide +kernel
theorem dX6_readFrom_80 : decode cX6_readFrom 80 = .ok (.iinc 2 1, 3) := by decide +kernel
theorem dX6_readFrom_83 : decode cX6_readFrom 83 = .ok (.aload_n 0, 1) := by decide +kernel
theorem dX6_readFrom_84 : decode cX6_readFrom 84 = .ok (.getfield 19, 3) := by decide +kernel
theorem dX6_readFrom_87 : decode cX6_readFrom 87 = .ok (.aload_n 0, 1) := by decide +kernel
theorem dX6_readFrom_88 : decode cX6_readFrom 88 = .ok (.getfield 15, 3) := by decide +kernel
theorem dX6_readFrom_91 : decode cX6_readFrom 91 = .ok (.if_icmp .lt 5, 3) := by decide +kernel
theorem dX6_readFrom_94 : decode cX6_readFrom 94 = .ok (.iload_n 2, 1) := by decide +kernel
theorem dX6_readFrom_95 : decode cX6_readFrom 95 = .ok (.ireturn, 1) := by decide +kernel
theorem dX6_readFrom_96 : decode cX6_readFrom 96 = .ok (.aload_n 0, 1) := by decide +kernel
theorem dX6_readFrom_97 : decode cX6_readFrom 97 = .ok (.bipush 59, 2) := by decide +kernel
theorem dX6_readFrom_99 : decode cX6_readFrom 99 = .ok (.invokevirtual 63, 3) := by decide +kernel
theorem dX6_readFrom_102 : decode cX6_readFrom 102 = .ok (.iinc 3 1, 3) := by decide +kernel
theorem dX6_readFrom_105 : decode cX6_readFrom 105 = .ok (.goto (-50), 3) := by decide +kernel
theorem dX6_readFrom_108 : decode cX6_readFrom 108 = .ok (.iload_n 2, 1) := by decide +kernel
theorem dX6_readFrom_109 : decode cX6_readFrom 109 = .ok (.ireturn, 1) := by decide +kernel
set_option maxRecDepth 20000 in
theorem ggX6_readItem_X6_letterAt : GoodIn wsX6_readItem wsX6_letterAt := goodIn_r _ [6, 7, 8, 122, 123, 124, 125, 126, 127, 128, 129, 130, 131] (by decide +kernel) (by decide +kernel)
set_option maxRecDepth 20000 in
theorem gX6_readItem_X6_letterAt : GoodIn wsX6_readItem (wsV RX6 67 RX6 yX6_letterAt wsX6_letterAt) := goodIn_app (goodIn_of _ (by decide +kernel)) ggX6_readItem_X6_letterAt
set_option maxRecDepth 20000 in
theorem ggX6_readItem_X6_readPress : GoodIn wsX6_readItem wsX6_readPress := goodIn_r _ [12, 13, 14, 15, 16, 17, 18, 19, 20, 21, 22, 5, 23, 24, 25, 26, 27, 28, 29, 30, 31, 32, 33, 34, 35, 36, 37, 38, 39, 40, 41, 42, 43, 44, 45, 46, 47, 48, 49, 50, 51, 52, 53, 54, 55, 56, 57, 58, 59, 60, 61, 62, 63, 64, 65, 66, 67, 68, 69, 70, 71, 72, 73, 74, 75, 76, 77, 1, 2, 3, 4, 6, 7, 8, 78, 79, 80, 81, 82, 83, 84, 85, 86, 87, 88, 89, 90, 91, 92, 93, 94, 95, 96, 97, 98, 99, 100, 101, 122, 123, 124, 125, 126, 127, 128, 129, 130, 131, 132, 133, 134, 135, 136, 137, 138, 139, 140, 141, 142, 143, 144, 145, 146, 147, 148, 149, 150, 151, 152, 153, 154, 155, 156, 157, 158, 159, 160, 161, 162, 163, 164, 165, 166, 167, 168, 169, 170, 171, 172, 173, 174, 175, 176, 177, 178, 179, 180, 181, 182, 183, 184, 185, 186, 187, 188, 189, 190, 191, 192, 193, 194, 195, 196, 197, 198, 199, 200] (by decide +kernel) (by decide +kernel)
set_option maxRecDepth 20000 in
theorem gX6_readItem_X6_readPress : GoodIn wsX6_readItem (wsV RX6 70 RX6 yX6_readPress wsX6_readPress) := goodIn_app (goodIn_of _ (by decide +kernel)) ggX6_readItem_X6_readPress
set_option maxRecDepth 20000 in
theorem ggX6_readItem_X6_readPerson : GoodIn wsX6_readItem wsX6_readPerson := goodIn_r _ [105, 1, 13, 14, 16, 18, 19, 20, 21, 22, 5, 23, 24, 25, 26, 27, 28, 29, 30, 31, 32, 33, 34, 35, 36, 37, 38, 39, 40, 41, 42, 43, 44, 45, 46, 47, 48, 49, 50, 51, 52, 53, 54, 55, 56, 57, 58, 59, 60, 61, 62, 63, 64, 65, 66, 67, 68, 69, 70, 71, 72, 73, 74, 75, 76, 77, 2, 3, 4, 6, 7, 8, 106, 107, 108, 98, 109, 100, 86, 87, 88, 89, 78, 79, 80, 81, 17, 82, 83, 84, 85, 122, 123, 124, 125, 126, 127, 128, 129, 130, 131, 132, 133, 134, 135, 136, 137] (by decide +kernel) (by decide +kernel)
set_option maxRecDepth 20000 in
theorem gX6_readItem_X6_readPerson : GoodIn wsX6_readItem (wsV RX6 73 RX6 yX6_readPerson wsX6_readPerson) := goodIn_app (goodIn_of _ (by decide +kernel)) ggX6_readItem_X6_readPerson
set_option maxRecDepth 20000 in
theorem ggX6_readItem_X6_readRub : GoodIn wsX6_readItem wsX6_readRub := goodIn_r _ [113, 13, 14, 15, 16, 18, 19, 20, 21, 22, 5, 23, 24, 25, 26, 27, 28, 29, 30, 31, 32, 33, 34, 35, 36, 37, 38, 39, 40, 41, 42, 43, 44, 45, 46, 47, 48, 49, 50, 51, 52, 53, 54, 55, 56, 57, 58, 59, 60, 61, 62, 63, 64, 65, 66, 67, 68, 69, 70, 71, 72, 73, 74, 75, 76, 77, 1, 2, 3, 4, 6, 7, 8, 78, 79, 80, 81, 17, 82, 83, 84, 85, 86, 87, 88, 89, 90, 91, 92, 93, 94, 95, 96, 97, 98, 99, 100, 101, 122, 123, 124, 125, 126, 127, 128, 129, 130, 131, 132, 133, 134, 135, 136, 137, 138, 139, 140, 141, 142, 143, 144, 145, 146, 147, 148, 149, 150, 151, 152, 153, 154, 155, 156, 157, 158, 159, 160, 161, 162, 163, 164, 165, 166, 167, 168, 169, 170, 171, 172, 173, 174, 175, 176, 177, 178, 179, 180, 181, 182, 183, 184, 185, 186, 187, 188, 189, 190, 191, 192, 193, 194, 195, 196, 197, 198, 199, 200] (by decide +kernel) (by decide +kernel)
set_option maxRecDepth 20000 in
theorem gX6_readItem_X6_readRub : GoodIn wsX6_readItem (wsV RX6 76 RX6 yX6_readRub wsX6_readRub) := goodIn_app (goodIn_of _ (by decide +kernel)) ggX6_readItem_X6_readRub
set_option maxRecDepth 20000 in
theorem ggX6_readItem_X6_readDying : GoodIn wsX6_readItem wsX6_readDying := goodIn_r _ [117, 13, 14, 15, 16, 17, 20, 21, 22, 5, 23, 24, 25, 26, 27, 28, 29, 30, 31, 32, 33, 34, 35, 36, 37, 38, 39, 40, 41, 42, 43, 44, 45, 46, 47, 48, 49, 50, 51, 52, 53, 54, 55, 56, 57, 58, 59, 60, 61, 62, 63, 64, 65, 66, 67, 68, 69, 70, 71, 72, 73, 74, 75, 76, 77, 1, 2, 3, 4, 6, 7, 8, 78, 79, 80, 81, 82, 83, 84, 85, 86, 87, 88, 89, 90, 91, 92, 93, 94, 95, 96, 97, 98, 99, 100, 101, 122, 123, 124, 125, 126, 127, 128, 129, 130, 131, 132, 133, 134, 135, 136, 137, 138, 139, 140, 141, 142, 143, 144, 145, 146, 147, 148, 149, 150, 151, 152, 153, 154, 155, 156, 157, 158, 159, 160, 161, 162, 163, 164, 165, 166, 167, 168, 169, 170, 171, 172, 173, 174, 175, 176, 177, 178, 179, 180, 181, 182, 183, 184, 185, 186, 187, 188, 189, 190, 191, 192, 193, 194, 195, 196, 197, 198, 199, 200] (by decide +kernel) (by decide +kernel)
set_option maxRecDepth 20000 in
theorem gX6_readItem_X6_readDying : GoodIn wsX6_readItem (wsV RX6 79 RX6 yX6_readDying wsX6_readDying) := goodIn_app (goodIn_of _ (by decide +kernel)) ggX6_readItem_X6_readDying
set_option maxRecDepth 20000 in
theorem ggX6_readItem_X6_readLeast : GoodIn wsX6_readItem wsX6_readLeast := goodIn_r _ [121, 13, 16, 20, 21, 22, 5, 23, 24, 25, 26, 27, 28, 29, 30, 31, 32, 33, 34, 35, 36, 37, 38, 39, 40, 41, 42, 43, 44, 45, 46, 47, 48, 49, 50, 51, 52, 53, 54, 55, 56, 57, 58, 59, 60, 61, 62, 63, 64, 65, 66, 67, 68, 69, 70, 71, 72, 73, 74, 75, 76, 77, 1, 2, 3, 4, 6, 7, 8, 78, 79, 80, 81, 17, 82, 83, 84, 85, 86, 87, 88, 89, 122, 123, 124, 125, 126, 127, 128, 129, 130, 131] (by decide +kernel) (by decide +kernel)
set_option maxRecDepth 20000 in
theorem gX6_readItem_X6_readLeast : GoodIn wsX6_readItem (wsV RX6 82 RX6 yX6_readLeast wsX6_readLeast) := goodIn_app (goodIn_of _ (by decide +kernel)) ggX6_readItem_X6_readLeast
set_option maxRecDepth 20000 in
theorem ggX6_readItem_X6_faultAt : GoodIn wsX6_readItem wsX6_faultAt := goodIn_r _ [89, 77, 122, 123, 124, 125, 126, 127, 128, 129, 130, 131] (by decide +kernel) (by decide +kernel)
set_option maxRecDepth 20000 in
theorem gX6_readItem_X6_faultAt : GoodIn wsX6_readItem (wsV RX6 85 RX6 yX6_faultAt wsX6_faultAt) := goodIn_app (goodIn_of _ (by decide +kernel)) ggX6_readItem_X6_faultAt
theorem dX6_readItem_0 : decode cX6_readItem 0 = .ok (.aload_n 0, 1) := by decide +kernel
theorem dX6_readItem_1 : decode cX6_readItem 1 = .ok (.aload_n 0, 1) := by decide +kernel
theorem dX6_readItem_2 : decode cX6_readItem 2 = .ok (.getfield 19, 3) := by decide +kernel
theorem dX6_readItem_5 : decode cX6_readItem 5 = .ok (.invokevirtual 67, 3) := by decide +kernel
theorem dX6_readItem_8 : decode cX6_readItem 8 = .ok (.istore_n 1, 1) := by decide +kernel
theorem dX6_readItem_9 : decode cX6_readItem 9 = .ok (.iload_n 1, 1) := by decide +kernel
theorem dX6_readItem_10 : decode cX6_readItem 10 = .ok (.lookupswitch 92 #[(100, 78), (108, 85), (112, 42), (114, 71)], 42) := by decide +kernel
theorem dX6_readItem_52 : decode cX6_readItem 52 = .ok (.aload_n 0, 1) := by decide +kernel
theorem dX6_readItem_53 : decode cX6_readItem 53 = .ok (.aload_n 0, 1) := by decide +kernel
theorem dX6_readItem_54 : decode cX6_readItem 54 = .ok (.getfield 19, 3) := by decide +kernel
theorem dX6_readItem_57 : decode cX6_readItem 57 = .ok (.iconst 1, 1) := by decide +kernel
theorem dX6_readItem_58 : decode cX6_readItem 58 = .ok (.iadd, 1) := by decide +kernel
theorem dX6_readItem_59 : decode cX6_readItem 59 = .ok (.invokevirtual 67, 3) := by decide +kernel
theorem dX6_readItem_62 : decode cX6_readItem 62 = .ok (.bipush 114, 2) := by decide +kernel
theorem dX6_readItem_64 : decode cX6_readItem 64 = .ok (.if_icmp .ne 10, 3) := by decide +kernel
theorem dX6_readItem_67 : decode cX6_readItem 67 = .ok (.aload_n 0, 1) := by decide +kernel
theorem dX6_readItem_68 : decode cX6_readItem 68 = .ok (.invokevirtual 70, 3) := by decide +kernel
theorem dX6_readItem_71 : decode cX6_readItem 71 = .ok (.goto 39, 3) := by decide +kernel
theorem dX6_readItem_74 : decode cX6_readItem 74 = .ok (.aload_n 0, 1) := by decide +kernel
theorem dX6_readItem_75 : decode cX6_readItem 75 = .ok (.invokevirtual 73, 3) := by decide +kernel
theorem dX6_readItem_78 : decode cX6_readItem 78 = .ok (.goto 32, 3) := by decide +kernel
theorem dX6_readItem_81 : decode cX6_readItem 81 = .ok (.aload_n 0, 1) := by decide +kernel
theorem dX6_readItem_82 : decode cX6_readItem 82 = .ok (.invokevirtual 76, 3) := by decide +kernel
theorem dX6_readItem_85 : decode cX6_readItem 85 = .ok (.goto 25, 3) := by decide +kernel
theorem dX6_readItem_88 : decode cX6_readItem 88 = .ok (.aload_n 0, 1) := by decide +kernel
theorem dX6_readItem_89 : decode cX6_readItem 89 = .ok (.invokevirtual 79, 3) := by decide +kernel
theorem dX6_readItem_92 : decode cX6_readItem 92 = .ok (.goto 18, 3) := by decide +kernel
theorem dX6_readItem_95 : decode cX6_readItem 95 = .ok (.aload_n 0, 1) := by decide +kernel
theorem dX6_readItem_96 : decode cX6_readItem 96 = .ok (.invokevirtual 82, 3) := by decide +kernel
theorem dX6_readItem_99 : decode cX6_readItem 99 = .ok (.goto 11, 3) := by decide +kernel
theorem dX6_readItem_102 : decode cX6_readItem 102 = .ok (.aload_n 0, 1) := by decide +kernel
theorem dX6_readItem_103 : decode cX6_readItem 103 = .ok (.aload_n 0, 1) := by decide +kernel
theorem dX6_readItem_104 : decode cX6_readItem 104 = .ok (.getfield 19, 3) := by decide +kernel
theorem dX6_readItem_107 : decode cX6_readItem 107 = .ok (.invokevirtual 85, 3) := by decide +kernel
theorem dX6_readItem_110 : decode cX6_readItem 110 = .ok (.return_, 1) := by decide +kernel
set_option maxRecDepth 20000 in
theorem ggX6_tellItem_X4_personAt : GoodIn wsX6_tellItem wsX4_personAt := goodIn_r _ [12, 13, 14, 220, 221, 222, 223, 224, 225] (by decide +kernel) (by decide +kernel)
set_option maxRecDepth 20000 in
theorem gX6_tellItem_X4_personAt : GoodIn wsX6_tellItem (wsV RX6 88 RX4 yX4_personAt wsX4_personAt) := goodIn_app (goodIn_of _ (by decide +kernel)) ggX6_tellItem_X4_personAt
set_option maxRecDepth 20000 in
theorem ggX6_tellItem_X4_add : GoodIn wsX6_tellItem wsX4_add := goodIn_r _ [18, 13, 19, 20, 21, 22, 11, 23, 14, 24, 25, 26, 27, 28, 29, 30, 31, 32, 33, 34, 35, 36, 37, 38, 39, 40, 41, 42, 43, 44, 45, 46, 47, 48, 49, 50, 51, 52, 53, 54, 55, 56, 57, 58, 59, 60, 61, 62, 63, 64, 65, 66, 67, 68, 69, 70, 71, 72, 73, 74, 75, 76, 77, 78, 79, 80, 81, 82, 83, 84, 85, 86, 87, 88, 89, 90, 91, 92, 93, 94, 95, 96, 97, 98, 99, 100, 101, 102, 220, 221, 222, 223, 224, 225, 226, 227, 228, 229, 230, 231, 232, 233, 234, 235, 236, 237, 238, 239, 240, 241, 242, 243, 244, 245, 246, 247, 248, 249, 250, 251, 252, 253, 254, 255, 256, 257, 258, 259, 260, 261, 262, 263, 264, 265, 266, 267, 268, 269, 270, 271, 272, 273, 274, 275, 276, 277, 278, 279, 280, 281, 282, 283, 284, 285, 286, 287, 288] (by decide +kernel) (by decide +kernel)
set_option maxRecDepth 20000 in
theorem gX6_tellItem_X4_add : GoodIn wsX6_tellItem (wsV RX6 94 RX4 yX4_add wsX4_add) := goodIn_app (goodIn_of _ (by decide +kernel)) ggX6_tellItem_X4_add
set_option maxRecDepth 20000 in
theorem ggX6_tellItem_X5_pressWith : GoodIn wsX6_tellItem wsX5_pressWith := goodIn_r _ [107, 62, 108, 109, 110, 111, 57, 112, 113, 114, 59, 115, 116, 117, 118, 119, 120, 121, 46, 122, 123, 124, 125, 126, 127, 40, 128, 129, 130, 131, 132, 133, 134, 37, 135, 136, 137, 138, 139, 61, 140, 141, 43, 142, 143, 144, 145, 146, 147, 148, 27, 149, 150, 151, 152, 153, 31, 154, 155, 156, 157, 158, 159, 160, 161, 162, 34, 163, 164, 165, 166, 167, 168, 169, 170, 171, 172, 173, 174, 175, 176, 177, 178, 179, 180, 181, 182, 183, 184, 185, 186, 187, 188, 226, 227, 228, 229, 230, 231, 232, 233, 234, 235, 236, 237, 238, 239, 240, 241, 242, 243, 244, 245, 246, 247, 248, 249, 250, 251, 252, 253, 254, 255, 256, 257, 258, 259, 260, 261, 262, 263, 264, 265, 266, 267, 268, 269, 270, 271, 272, 273, 274, 275, 276, 277, 278, 279, 280, 281, 282, 283, 284, 285, 286, 287, 288] (by decide +kernel) (by decide +kernel)
set_option maxRecDepth 20000 in
theorem gX6_tellItem_X5_pressWith_u101X0 : GoodIn wsX6_tellItem (va_wsU RX6 101 RX0 "CarbonCopies$Person" ⟨"CarbonCopies$Person", "pressWith", "(II)I"⟩ yX5_pressWith wsX5_pressWith) := goodIn_app (goodIn_of _ (by decide +kernel)) ggX6_tellItem_X5_pressWith
set_option maxRecDepth 20000 in
theorem gX6_tellItem_X5_pressWith_u101X1 : GoodIn wsX6_tellItem (va_wsU RX6 101 RX1 "CarbonCopies$Person" ⟨"CarbonCopies$Person", "pressWith", "(II)I"⟩ yX5_pressWith wsX5_pressWith) := goodIn_app (goodIn_of _ (by decide +kernel)) ggX6_tellItem_X5_pressWith
set_option maxRecDepth 20000 in
theorem gX6_tellItem_X5_pressWith_u101X2 : GoodIn wsX6_tellItem (va_wsU RX6 101 RX2 "CarbonCopies$Person" ⟨"CarbonCopies$Person", "pressWith", "(II)I"⟩ yX5_pressWith wsX5_pressWith) := goodIn_app (goodIn_of _ (by decide +kernel)) ggX6_tellItem_X5_pressWith
set_option maxRecDepth 20000 in
theorem gX6_tellItem_X5_pressWith_u101X3 : GoodIn wsX6_tellItem (va_wsU RX6 101 RX3 "CarbonCopies$Person" ⟨"CarbonCopies$Person", "pressWith", "(II)I"⟩ yX5_pressWith wsX5_pressWith) := goodIn_app (goodIn_of _ (by decide +kernel)) ggX6_tellItem_X5_pressWith
set_option maxRecDepth 20000 in
theorem gX6_tellItem_X5_pressWith : GoodIn wsX6_tellItem (wsV RX6 101 RX5 yX5_pressWith wsX5_pressWith) := goodIn_app (goodIn_of _ (by decide +kernel)) ggX6_tellItem_X5_pressWith
set_option maxRecDepth 20000 in
theorem gX6_tellItem_X5_pressWith_u101X8 : GoodIn wsX6_tellItem (va_wsU RX6 101 RX8 "CarbonCopies$Person" ⟨"CarbonCopies$Person", "pressWith", "(II)I"⟩ yX5_pressWith wsX5_pressWith) := goodIn_app (goodIn_of _ (by decide +kernel)) ggX6_tellItem_X5_pressWith
set_option maxRecDepth 20000 in
theorem gX6_tellItem_X5_pressWith_u101X10 : GoodIn wsX6_tellItem (va_wsU RX6 101 RX10 "CarbonCopies$Person" ⟨"CarbonCopies$Person", "pressWith", "(II)I"⟩ yX5_pressWith wsX5_pressWith) := goodIn_app (goodIn_of _ (by decide +kernel)) ggX6_tellItem_X5_pressWith
set_option maxRecDepth 20000 in
theorem ggX6_tellItem_X5_rubOn : GoodIn wsX6_tellItem wsX5_rubOn := goodIn_r _ [200, 57, 58, 112, 113, 110, 114, 201, 116, 202, 115, 117, 226, 227, 228, 229, 230, 231, 232, 233, 234, 235, 236, 237, 238, 239, 240, 241, 242, 243, 244, 245, 246, 247, 248, 249, 250, 251, 252, 253, 254, 255, 256, 257, 258, 259, 260, 261, 262, 263, 264, 265, 266, 267, 268, 269, 270, 271, 272, 273, 274, 275, 276, 277, 278, 279, 280, 281, 282, 283, 284, 285, 286, 287, 288] (by decide +kernel) (by decide +kernel)
set_option maxRecDepth 20000 in
theorem gX6_tellItem_X5_rubOn_u106X0 : GoodIn wsX6_tellItem (va_wsU RX6 106 RX0 "CarbonCopies$Person" ⟨"CarbonCopies$Person", "rubOn", "(II)I"⟩ yX5_rubOn wsX5_rubOn) := goodIn_app (goodIn_of _ (by decide +kernel)) ggX6_tellItem_X5_rubOn
set_option maxRecDepth 20000 in
theorem gX6_tellItem_X5_rubOn_u106X1 : GoodIn wsX6_tellItem (va_wsU RX6 106 RX1 "CarbonCopies$Person" ⟨"CarbonCopies$Person", "rubOn", "(II)I"⟩ yX5_rubOn wsX5_rubOn) := goodIn_app (goodIn_of _ (by decide +kernel)) ggX6_tellItem_X5_rubOn
set_option maxRecDepth 20000 in
theorem gX6_tellItem_X5_rubOn_u106X2 : GoodIn wsX6_tellItem (va_wsU RX6 106 RX2 "CarbonCopies$Person" ⟨"CarbonCopies$Person", "rubOn", "(II)I"⟩ yX5_rubOn wsX5_rubOn) := goodIn_app (goodIn_of _ (by decide +kernel)) ggX6_tellItem_X5_rubOn
set_option maxRecDepth 20000 in
theorem gX6_tellItem_X5_rubOn_u106X3 : GoodIn wsX6_tellItem (va_wsU RX6 106 RX3 "CarbonCopies$Person" ⟨"CarbonCopies$Person", "rubOn", "(II)I"⟩ yX5_rubOn wsX5_rubOn) := goodIn_app (goodIn_of _ (by decide +kernel)) ggX6_tellItem_X5_rubOn
set_option maxRecDepth 20000 in
theorem gX6_tellItem_X5_rubOn : GoodIn wsX6_tellItem (wsV RX6 106 RX5 yX5_rubOn wsX5_rubOn) := goodIn_app (goodIn_of _ (by decide +kernel)) ggX6_tellItem_X5_rubOn
set_option maxRecDepth 20000 in
theorem gX6_tellItem_X5_rubOn_u106X8 : GoodIn wsX6_tellItem (va_wsU RX6 106 RX8 "CarbonCopies$Person" ⟨"CarbonCopies$Person", "rubOn", "(II)I"⟩ yX5_rubOn wsX5_rubOn) := goodIn_app (goodIn_of _ (by decide +kernel)) ggX6_tellItem_X5_rubOn
set_option maxRecDepth 20000 in
theorem gX6_tellItem_X5_rubOn_u106X10 : GoodIn wsX6_tellItem (va_wsU RX6 106 RX10 "CarbonCopies$Person" ⟨"CarbonCopies$Person", "rubOn", "(II)I"⟩ yX5_rubOn wsX5_rubOn) := goodIn_app (goodIn_of _ (by decide +kernel)) ggX6_tellItem_X5_rubOn
theorem dX6_tellItem_0 : decode cX6_tellItem 0 = .ok (.aload_n 0, 1) := by decide +kernel
theorem dX6_tellItem_1 : decode cX6_tellItem 1 = .ok (.getfield 40, 3) := by decide +kernel
theorem dX6_tellItem_4 : decode cX6_tellItem 4 = .ok (.aload_n 0, 1) := by decide +kernel
theorem dX6_tellItem_5 : decode cX6_tellItem 5 = .ok (.getfield 31, 3) := by decide +kernel
theorem dX6_tellItem_8 : decode cX6_tellItem 8 = .ok (.invokevirtual 88, 3) := by decide +kernel
theorem dX6_tellItem_11 : decode cX6_tellItem 11 = .ok (.astore_n 1, 1) := by decide +kernel
theorem dX6_tellItem_12 : decode cX6_tellItem 12 = .ok (.aload_n 0, 1) := by decide +kernel
theorem dX6_tellItem_13 : decode cX6_tellItem 13 = .ok (.getfield 28, 3) := by decide +kernel
theorem dX6_tellItem_16 : decode cX6_tellItem 16 = .ok (.ifCond .ne 26, 3) := by decide +kernel
theorem dX6_tellItem_19 : decode cX6_tellItem 19 = .ok (.aload_n 0, 1) := by decide +kernel
theorem dX6_tellItem_20 : decode cX6_tellItem 20 = .ok (.getfield 40, 3) := by decide +kernel
theorem dX6_tellItem_23 : decode cX6_tellItem 23 = .ok (.aload_n 0, 1) := by decide +kernel
theorem dX6_tellItem_24 : decode cX6_tellItem 24 = .ok (.getfield 31, 3) := by decide +kernel
theorem dX6_tellItem_27 : decode cX6_tellItem 27 = .ok (.aload_n 0, 1) := by decide +kernel
theorem dX6_tellItem_28 : decode cX6_tellItem 28 = .ok (.getfield 34, 3) := by decide +kernel
theorem dX6_tellItem_31 : decode cX6_tellItem 31 = .ok (.aload_n 0, 1) := by decide +kernel
theorem dX6_tellItem_32 : decode cX6_tellItem 32 = .ok (.getfield 37, 3) := by decide +kernel
theorem dX6_tellItem_35 : decode cX6_tellItem 35 = .ok (.invokevirtual 94, 3) := by decide +kernel
theorem dX6_tellItem_38 : decode cX6_tellItem 38 = .ok (.pop, 1) := by decide +kernel
theorem dX6_tellItem_39 : decode cX6_tellItem 39 = .ok (.goto 88, 3) := by decide +kernel
theorem dX6_tellItem_42 : decode cX6_tellItem 42 = .ok (.aload_n 0, 1) := by decide +kernel
theorem dX6_tellItem_43 : decode cX6_tellItem 43 = .ok (.getfield 28, 3) := by decide +kernel
theorem dX6_tellItem_46 : decode cX6_tellItem 46 = .ok (.iconst 4, 1) := by decide +kernel
theorem dX6_tellItem_47 : decode cX6_tellItem 47 = .ok (.if_icmp .ne 17, 3) := by decide +kernel
theorem dX6_tellItem_50 : decode cX6_tellItem 50 = .ok (.aload_n 0, 1) := by decide +kernel
theorem dX6_tellItem_51 : decode cX6_tellItem 51 = .ok (.getfield 40, 3) := by decide +kernel
theorem dX6_tellItem_54 : decode cX6_tellItem 54 = .ok (.aload_n 0, 1) := by decide +kernel
theorem dX6_tellItem_55 : decode cX6_tellItem 55 = .ok (.getfield 31, 3) := by decide +kernel
theorem dX6_tellItem_58 : decode cX6_tellItem 58 = .ok (.putfield 98, 3) := by decide +kernel
theorem dX6_tellItem_61 : decode cX6_tellItem 61 = .ok (.goto 66, 3) := by decide +kernel
theorem dX6_tellItem_64 : decode cX6_tellItem 64 = .ok (.aload_n 1, 1) := by decide +kernel
theorem dX6_tellItem_65 : decode cX6_tellItem 65 = .ok (.ifnonnull 4, 3) := by decide +kernel
theorem dX6_tellItem_68 : decode cX6_tellItem 68 = .ok (.return_, 1) := by decide +kernel
theorem dX6_tellItem_69 : decode cX6_tellItem 69 = .ok (.aload_n 0, 1) := by decide +kernel
theorem dX6_tellItem_70 : decode cX6_tellItem 70 = .ok (.getfield 28, 3) := by decide +kernel
theorem dX6_tellItem_73 : decode cX6_tellItem 73 = .ok (.iconst 1, 1) := by decide +kernel
theorem dX6_tellItem_74 : decode cX6_tellItem 74 = .ok (.if_icmp .ne 19, 3) := by decide +kernel
theorem dX6_tellItem_77 : decode cX6_tellItem 77 = .ok (.aload_n 1, 1) := by decide +kernel
theorem dX6_tellItem_78 : decode cX6_tellItem 78 = .ok (.aload_n 0, 1) := by decide +kernel
theorem dX6_tellItem_79 : decode cX6_tellItem 79 = .ok (.getfield 34, 3) := by decide +kernel
theorem dX6_tellItem_82 : decode cX6_tellItem 82 = .ok (.aload_n 0, 1) := by decide +kernel
theorem dX6_tellItem_83 : decode cX6_tellItem 83 = .ok (.getfield 37, 3) := by decide +kernel
theorem dX6_tellItem_86 : decode cX6_tellItem 86 = .ok (.invokevirtual 101, 3) := by decide +kernel
theorem dX6_tellItem_89 : decode cX6_tellItem 89 = .ok (.pop, 1) := by decide +kernel
theorem dX6_tellItem_90 : decode cX6_tellItem 90 = .ok (.goto 37, 3) := by decide +kernel
theorem dX6_tellItem_93 : decode cX6_tellItem 93 = .ok (.aload_n 0, 1) := by decide +kernel
theorem dX6_tellItem_94 : decode cX6_tellItem 94 = .ok (.getfield 28, 3) := by decide +kernel
theorem dX6_tellItem_97 : decode cX6_tellItem 97 = .ok (.iconst 2, 1) := by decide +kernel
theorem dX6_tellItem_98 : decode cX6_tellItem 98 = .ok (.if_icmp .ne 19, 3) := by decide +kernel
theorem dX6_tellItem_101 : decode cX6_tellItem 101 = .ok (.aload_n 1, 1) := by decide +kernel
theorem dX6_tellItem_102 : decode cX6_tellItem 102 = .ok (.aload_n 0, 1) := by decide +kernel
theorem dX6_tellItem_103 : decode cX6_tellItem 103 = .ok (.getfield 34, 3) := by decide +kernel
theorem dX6_tellItem_106 : decode cX6_tellItem 106 = .ok (.aload_n 0, 1) := by decide +kernel
theorem dX6_tellItem_107 : decode cX6_tellItem 107 = .ok (.getfield 37, 3) := by decide +kernel
theorem dX6_tellItem_110 : decode cX6_tellItem 110 = .ok (.invokevirtual 106, 3) := by decide +kernel
theorem dX6_tellItem_113 : decode cX6_tellItem 113 = .ok (.pop, 1) := by decide +kernel
theorem dX6_tellItem_114 : decode cX6_tellItem 114 = .ok (.goto 13, 3) := by decide +kernel
theorem dX6_tellItem_117 : decode cX6_tellItem 117 = .ok (.aload_n 1, 1) := by decide +kernel
theorem dX6_tellItem_118 : decode cX6_tellItem 118 = .ok (.dup, 1) := by decide +kernel
theorem dX6_tellItem_119 : decode cX6_tellItem 119 = .ok (.getfield 109, 3) := by decide +kernel
theorem dX6_tellItem_122 : decode cX6_tellItem 122 = .ok (.iconst 1, 1) := by decide +kernel
theorem dX6_tellItem_123 : decode cX6_tellItem 123 = .ok (.iadd, 1) := by decide +kernel
theorem dX6_tellItem_124 : decode cX6_tellItem 124 = .ok (.putfield 109, 3) := by decide +kernel
theorem dX6_tellItem_127 : decode cX6_tellItem 127 = .ok (.return_, 1) := by decide +kernel
set_option maxRecDepth 20000 in
theorem ggX6_readPerson_X6_readWord : GoodIn wsX6_readPerson wsX6_readWord := goodIn_r _ [11, 12, 13, 14, 15, 16, 17, 18, 19, 20, 21, 22, 23, 24, 25, 26, 27, 28, 29, 30, 31, 32, 33, 34, 35, 36, 37, 38, 39, 40, 41, 42, 43, 44, 45, 46, 47, 48, 49, 50, 51, 52, 53, 54, 55, 56, 57, 58, 59, 60, 61, 62, 63, 10, 64, 65, 1, 66, 67, 68, 69, 70, 71, 91, 92, 93, 94, 95, 96, 97, 98, 99, 100] (by decide +kernel) (by decide +kernel)
set_option maxRecDepth 20000 in
theorem gX6_readPerson_X6_readWord : GoodIn wsX6_readPerson (wsV RX6 114 RX6 yX6_readWord wsX6_readWord) := goodIn_app (goodIn_of _ (by decide +kernel)) ggX6_readPerson_X6_readWord
set_option maxRecDepth 20000 in
theorem ggX6_readPerson_X4_hasRoom : GoodIn wsX6_readPerson wsX4_hasRoom := goodIn_r _ [76, 77, 101, 102, 103, 104, 105, 106] (by decide +kernel) (by decide +kernel)
set_option maxRecDepth 20000 in
theorem gX6_readPerson_X4_hasRoom : GoodIn wsX6_readPerson (wsV RX6 118 RX4 yX4_hasRoom wsX4_hasRoom) := goodIn_app (goodIn_of _ (by decide +kernel)) ggX6_readPerson_X4_hasRoom
set_option maxRecDepth 20000 in
theorem ggX6_readPerson_X6_faultAt : GoodIn wsX6_readPerson wsX6_faultAt := goodIn_r _ [81, 65, 91, 92, 93, 94, 95, 96, 97, 98, 99, 100] (by decide +kernel) (by decide +kernel)
set_option maxRecDepth 20000 in
theorem gX6_readPerson_X6_faultAt : GoodIn wsX6_readPerson (wsV RX6 85 RX6 yX6_faultAt wsX6_faultAt) := goodIn_app (goodIn_of _ (by decide +kernel)) ggX6_readPerson_X6_faultAt
set_option maxRecDepth 20000 in
theorem ggX6_readPerson_X6_readNumber : GoodIn wsX6_readPerson wsX6_readNumber := goodIn_r _ [85, 65, 1, 86, 61, 62, 63, 10, 64, 66, 67, 68, 69, 70, 71, 87, 88, 89, 90, 78, 79, 80, 81, 91, 92, 93, 94, 95, 96, 97, 98, 99, 100] (by decide +kernel) (by decide +kernel)
set_option maxRecDepth 20000 in
theorem gX6_readPerson_X6_readNumber : GoodIn wsX6_readPerson (wsV RX6 122 RX6 yX6_readNumber wsX6_readNumber) := goodIn_app (goodIn_of _ (by decide +kernel)) ggX6_readPerson_X6_readNumber
theorem dX6_readPerson_0 : decode cX6_readPerson 0 = .ok (.aload_n 0, 1) := by decide +kernel
theorem dX6_readPerson_1 : decode cX6_readPerson 1 = .ok (.getfield 19, 3) := by decide +kernel
theorem dX6_readPerson_4 : decode cX6_readPerson 4 = .ok (.istore_n 1, 1) := by decide +kernel
theorem dX6_readPerson_5 : decode cX6_readPerson 5 = .ok (.aload_n 0, 1) := by decide +kernel
theorem dX6_readPerson_6 : decode cX6_readPerson 6 = .ok (.iconst 0, 1) := by decide +kernel
theorem dX6_readPerson_7 : decode cX6_readPerson 7 = .ok (.putfield 28, 3) := by decide +kernel
theorem dX6_readPerson_10 : decode cX6_readPerson 10 = .ok (.aload_n 0, 1) := by decide +kernel
theorem dX6_readPerson_11 : decode cX6_readPerson 11 = .ok (.ldc 112, 2) := by decide +kernel
theorem dX6_readPerson_13 : decode cX6_readPerson 13 = .ok (.invokevirtual 114, 3) := by decide +kernel
theorem dX6_readPerson_16 : decode cX6_readPerson 16 = .ok (.aload_n 0, 1) := by decide +kernel
theorem dX6_readPerson_17 : decode cX6_readPerson 17 = .ok (.getfield 40, 3) := by decide +kernel
theorem dX6_readPerson_20 : decode cX6_readPerson 20 = .ok (.invokevirtual 118, 3) := by decide +kernel
theorem dX6_readPerson_23 : decode cX6_readPerson 23 = .ok (.ifCond .ne 8, 3) := by decide +kernel
theorem dX6_readPerson_26 : decode cX6_readPerson 26 = .ok (.aload_n 0, 1) := by decide +kernel
theorem dX6_readPerson_27 : decode cX6_readPerson 27 = .ok (.iload_n 1, 1) := by decide +kernel
theorem dX6_readPerson_28 : decode cX6_readPerson 28 = .ok (.invokevirtual 85, 3) := by decide +kernel
theorem dX6_readPerson_31 : decode cX6_readPerson 31 = .ok (.aload_n 0, 1) := by decide +kernel
theorem dX6_readPerson_32 : decode cX6_readPerson 32 = .ok (.aload_n 0, 1) := by decide +kernel
theorem dX6_readPerson_33 : decode cX6_readPerson 33 = .ok (.iconst 0, 1) := by decide +kernel
theorem dX6_readPerson_34 : decode cX6_readPerson 34 = .ok (.bipush 6, 2) := by decide +kernel
theorem dX6_readPerson_36 : decode cX6_readPerson 36 = .ok (.invokevirtual 122, 3) := by decide +kernel
theorem dX6_readPerson_39 : decode cX6_readPerson 39 = .ok (.putfield 31, 3) := by decide +kernel
theorem dX6_readPerson_42 : decode cX6_readPerson 42 = .ok (.aload_n 0, 1) := by decide +kernel
theorem dX6_readPerson_43 : decode cX6_readPerson 43 = .ok (.aload_n 0, 1) := by decide +kernel
theorem dX6_readPerson_44 : decode cX6_readPerson 44 = .ok (.iconst 0, 1) := by decide +kernel
theorem dX6_readPerson_45 : decode cX6_readPerson 45 = .ok (.bipush 9, 2) := by decide +kernel
theorem dX6_readPerson_47 : decode cX6_readPerson 47 = .ok (.invokevirtual 122, 3) := by decide +kernel
theorem dX6_readPerson_50 : decode cX6_readPerson 50 = .ok (.putfield 34, 3) := by decide +kernel
theorem dX6_readPerson_53 : decode cX6_readPerson 53 = .ok (.aload_n 0, 1) := by decide +kernel
theorem dX6_readPerson_54 : decode cX6_readPerson 54 = .ok (.aload_n 0, 1) := by decide +kernel
theorem dX6_readPerson_55 : decode cX6_readPerson 55 = .ok (.iconst 1, 1) := by decide +kernel
theorem dX6_readPerson_56 : decode cX6_readPerson 56 = .ok (.bipush 20, 2) := by decide +kernel
theorem dX6_readPerson_58 : decode cX6_readPerson 58 = .ok (.invokevirtual 122, 3) := by decide +kernel
theorem dX6_readPerson_61 : decode cX6_readPerson 61 = .ok (.putfield 37, 3) := by decide +kernel
theorem dX6_readPerson_64 : decode cX6_readPerson 64 = .ok (.return_, 1) := by decide +kernel
set_option maxRecDepth 20000 in
theorem ggX6_readPress_X6_readWord : GoodIn wsX6_readPress wsX6_readWord := goodIn_r _ [12, 13, 14, 15, 16, 17, 18, 19, 20, 21, 22, 23, 24, 25, 26, 27, 28, 29, 30, 31, 32, 33, 34, 35, 36, 37, 38, 39, 40, 41, 42, 43, 44, 45, 46, 47, 48, 49, 50, 51, 52, 53, 54, 55, 56, 57, 58, 59, 60, 61, 62, 63, 64, 11, 65, 66, 67, 68, 69, 70, 71, 72, 73, 98, 99, 100, 101, 102, 103, 104, 105, 106, 107] (by decide +kernel) (by decide +kernel)
set_option maxRecDepth 20000 in
theorem gX6_readPress_X6_readWord : GoodIn wsX6_readPress (wsV RX6 114 RX6 yX6_readWord wsX6_readWord) := goodIn_app (goodIn_of _ (by decide +kernel)) ggX6_readPress_X6_readWord
set_option maxRecDepth 20000 in
theorem ggX6_readPress_X6_readNumber : GoodIn wsX6_readPress wsX6_readNumber := goodIn_r _ [77, 66, 67, 5, 62, 63, 64, 11, 65, 68, 69, 70, 71, 72, 73, 78, 79, 80, 81, 82, 83, 84, 85, 98, 99, 100, 101, 102, 103, 104, 105, 106, 107] (by decide +kernel) (by decide +kernel)
set_option maxRecDepth 20000 in
theorem gX6_readPress_X6_readNumber : GoodIn wsX6_readPress (wsV RX6 122 RX6 yX6_readNumber wsX6_readNumber) := goodIn_app (goodIn_of _ (by decide +kernel)) ggX6_readPress_X6_readNumber
set_option maxRecDepth 20000 in
theorem ggX6_readPress_X6_outOf : GoodIn wsX6_readPress wsX6_outOf := goodIn_r _ [89, 2, 90, 91, 92, 93, 94, 95, 96, 97, 98, 99, 100, 101, 102, 103, 104, 105, 106, 107, 114, 115, 116, 117, 118, 119, 120, 121, 122, 123, 124, 125, 126, 127, 128, 129, 130, 131, 132, 133, 134, 135, 136, 137, 138, 139, 140, 141, 142, 143, 144, 145, 146, 147, 148, 149, 150, 151, 152, 153, 154, 155, 156, 157, 158, 159, 160, 161, 162, 163, 164, 165, 166, 167, 168, 169, 170, 171, 172, 173, 174, 175, 176, 108, 109, 110, 111, 112, 113] (by decide +kernel) (by decide +kernel)
set_option maxRecDepth 20000 in
theorem gX6_readPress_X6_outOf : GoodIn wsX6_readPress (wsV RX6 130 RX6 yX6_outOf wsX6_outOf) := goodIn_app (goodIn_of _ (by decide +kernel)) ggX6_readPress_X6_outOf
set_option maxRecDepth 20000 in
theorem ggX6_readPress_X6_faultAt : GoodIn wsX6_readPress wsX6_faultAt := goodIn_r _ [85, 66, 98, 99, 100, 101, 102, 103, 104, 105, 106, 107] (by decide +kernel) (by decide +kernel)
set_option maxRecDepth 20000 in
theorem gX6_readPress_X6_faultAt : GoodIn wsX6_readPress (wsV RX6 85 RX6 yX6_faultAt wsX6_faultAt) := goodIn_app (goodIn_of _ (by decide +kernel)) ggX6_readPress_X6_faultAt
theorem dX6_readPress_0 : decode cX6_readPress 0 = .ok (.aload_n 0, 1) := by decide +kernel
theorem dX6_readPress_1 : decode cX6_readPress 1 = .ok (.iconst 1, 1) := by decide +kernel
theorem dX6_readPress_2 : decode cX6_readPress 2 = .ok (.putfield 28, 3) := by decide +kernel
theorem dX6_readPress_5 : decode cX6_readPress 5 = .ok (.aload_n 0, 1) := by decide +kernel
theorem dX6_readPress_6 : decode cX6_readPress 6 = .ok (.ldc 125, 2) := by decide +kernel
theorem dX6_readPress_8 : decode cX6_readPress 8 = .ok (.invokevirtual 114, 3) := by decide +kernel
theorem dX6_readPress_11 : decode cX6_readPress 11 = .ok (.aload_n 0, 1) := by decide +kernel
theorem dX6_readPress_12 : decode cX6_readPress 12 = .ok (.aload_n 0, 1) := by decide +kernel
theorem dX6_readPress_13 : decode cX6_readPress 13 = .ok (.iconst 0, 1) := by decide +kernel
theorem dX6_readPress_14 : decode cX6_readPress 14 = .ok (.aload_n 0, 1) := by decide +kernel
theorem dX6_readPress_15 : decode cX6_readPress 15 = .ok (.getfield 40, 3) := by decide +kernel
theorem dX6_readPress_18 : decode cX6_readPress 18 = .ok (.getfield 127, 3) := by decide +kernel
theorem dX6_readPress_21 : decode cX6_readPress 21 = .ok (.iconst 1, 1) := by decide +kernel
theorem dX6_readPress_22 : decode cX6_readPress 22 = .ok (.isub, 1) := by decide +kernel
theorem dX6_readPress_23 : decode cX6_readPress 23 = .ok (.invokevirtual 122, 3) := by decide +kernel
theorem dX6_readPress_26 : decode cX6_readPress 26 = .ok (.putfield 31, 3) := by decide +kernel
theorem dX6_readPress_29 : decode cX6_readPress 29 = .ok (.aload_n 0, 1) := by decide +kernel
theorem dX6_readPress_30 : decode cX6_readPress 30 = .ok (.aload_n 0, 1) := by decide +kernel
theorem dX6_readPress_31 : decode cX6_readPress 31 = .ok (.getfield 31, 3) := by decide +kernel
theorem dX6_readPress_34 : decode cX6_readPress 34 = .ok (.invokevirtual 130, 3) := by decide +kernel
theorem dX6_readPress_37 : decode cX6_readPress 37 = .ok (.bipush 6, 2) := by decide +kernel
theorem dX6_readPress_39 : decode cX6_readPress 39 = .ok (.if_icmp .lt 11, 3) := by decide +kernel
theorem dX6_readPress_42 : decode cX6_readPress 42 = .ok (.aload_n 0, 1) := by decide +kernel
theorem dX6_readPress_43 : decode cX6_readPress 43 = .ok (.aload_n 0, 1) := by decide +kernel
theorem dX6_readPress_44 : decode cX6_readPress 44 = .ok (.getfield 25, 3) := by decide +kernel
theorem dX6_readPress_47 : decode cX6_readPress 47 = .ok (.invokevirtual 85, 3) := by decide +kernel
theorem dX6_readPress_50 : decode cX6_readPress 50 = .ok (.aload_n 0, 1) := by decide +kernel
theorem dX6_readPress_51 : decode cX6_readPress 51 = .ok (.aload_n 0, 1) := by decide +kernel
theorem dX6_readPress_52 : decode cX6_readPress 52 = .ok (.iconst 0, 1) := by decide +kernel
theorem dX6_readPress_53 : decode cX6_readPress 53 = .ok (.bipush 7, 2) := by decide +kernel
theorem dX6_readPress_55 : decode cX6_readPress 55 = .ok (.invokevirtual 122, 3) := by decide +kernel
theorem dX6_readPress_58 : decode cX6_readPress 58 = .ok (.putfield 34, 3) := by decide +kernel
theorem dX6_readPress_61 : decode cX6_readPress 61 = .ok (.aload_n 0, 1) := by decide +kernel
theorem dX6_readPress_62 : decode cX6_readPress 62 = .ok (.aload_n 0, 1) := by decide +kernel
theorem dX6_readPress_63 : decode cX6_readPress 63 = .ok (.iconst 1, 1) := by decide +kernel
theorem dX6_readPress_64 : decode cX6_readPress 64 = .ok (.bipush 99, 2) := by decide +kernel
theorem dX6_readPress_66 : decode cX6_readPress 66 = .ok (.invokevirtual 122, 3) := by decide +kernel
theorem dX6_readPress_69 : decode cX6_readPress 69 = .ok (.putfield 37, 3) := by decide +kernel
theorem dX6_readPress_72 : decode cX6_readPress 72 = .ok (.return_, 1) := by decide +kernel
set_option maxRecDepth 20000 in
theorem ggX6_readRub_X6_readWord : GoodIn wsX6_readRub wsX6_readWord := goodIn_r _ [11, 12, 13, 14, 15, 16, 17, 18, 19, 20, 21, 22, 23, 24, 25, 26, 27, 28, 29, 30, 31, 32, 33, 34, 35, 36, 37, 38, 39, 40, 41, 42, 43, 44, 45, 46, 47, 48, 49, 50, 51, 52, 53, 54, 55, 56, 57, 58, 59, 60, 61, 62, 63, 10, 64, 65, 66, 67, 68, 69, 70, 71, 72, 98, 99, 100, 101, 102, 103, 104, 105, 106, 107] (by decide +kernel) (by decide +kernel)
set_option maxRecDepth 20000 in
theorem gX6_readRub_X6_readWord : GoodIn wsX6_readRub (wsV RX6 114 RX6 yX6_readWord wsX6_readWord) := goodIn_app (goodIn_of _ (by decide +kernel)) ggX6_readRub_X6_readWord
set_option maxRecDepth 20000 in
theorem ggX6_readRub_X6_readNumber : GoodIn wsX6_readRub wsX6_readNumber := goodIn_r _ [76, 65, 66, 77, 61, 62, 63, 10, 64, 67, 68, 69, 70, 71, 72, 78, 79, 80, 81, 82, 83, 84, 85, 98, 99, 100, 101, 102, 103, 104, 105, 106, 107] (by decide +kernel) (by decide +kernel)
set_option maxRecDepth 20000 in
theorem gX6_readRub_X6_readNumber : GoodIn wsX6_readRub (wsV RX6 122 RX6 yX6_readNumber wsX6_readNumber) := goodIn_app (goodIn_of _ (by decide +kernel)) ggX6_readRub_X6_readNumber
set_option maxRecDepth 20000 in
theorem ggX6_readRub_X6_outOf : GoodIn wsX6_readRub wsX6_outOf := goodIn_r _ [89, 2, 90, 91, 92, 93, 94, 95, 96, 97, 98, 99, 100, 101, 102, 103, 104, 105, 106, 107, 114, 115, 116, 117, 118, 119, 120, 121, 122, 123, 124, 125, 126, 127, 128, 129, 130, 131, 132, 133, 134, 135, 136, 137, 138, 139, 140, 141, 142, 143, 144, 145, 146, 147, 148, 149, 150, 151, 152, 153, 154, 155, 156, 157, 158, 159, 160, 161, 162, 163, 164, 165, 166, 167, 168, 169, 170, 171, 172, 173, 174, 175, 176, 108, 109, 110, 111, 112, 113] (by decide +kernel) (by decide +kernel)
set_option maxRecDepth 20000 in
theorem gX6_readRub_X6_outOf : GoodIn wsX6_readRub (wsV RX6 130 RX6 yX6_outOf wsX6_outOf) := goodIn_app (goodIn_of _ (by decide +kernel)) ggX6_readRub_X6_outOf
theorem dX6_readRub_0 : decode cX6_readRub 0 = .ok (.aload_n 0, 1) := by decide +kernel
theorem dX6_readRub_1 : decode cX6_readRub 1 = .ok (.iconst 2, 1) := by decide +kernel
theorem dX6_readRub_2 : decode cX6_readRub 2 = .ok (.putfield 28, 3) := by decide +kernel
theorem dX6_readRub_5 : decode cX6_readRub 5 = .ok (.aload_n 0, 1) := by decide +kernel
theorem dX6_readRub_6 : decode cX6_readRub 6 = .ok (.ldc 133, 2) := by decide +kernel
theorem dX6_readRub_8 : decode cX6_readRub 8 = .ok (.invokevirtual 114, 3) := by decide +kernel
theorem dX6_readRub_11 : decode cX6_readRub 11 = .ok (.aload_n 0, 1) := by decide +kernel
theorem dX6_readRub_12 : decode cX6_readRub 12 = .ok (.aload_n 0, 1) := by decide +kernel
theorem dX6_readRub_13 : decode cX6_readRub 13 = .ok (.iconst 0, 1) := by decide +kernel
theorem dX6_readRub_14 : decode cX6_readRub 14 = .ok (.aload_n 0, 1) := by decide +kernel
theorem dX6_readRub_15 : decode cX6_readRub 15 = .ok (.getfield 40, 3) := by decide +kernel
theorem dX6_readRub_18 : decode cX6_readRub 18 = .ok (.getfield 127, 3) := by decide +kernel
theorem dX6_readRub_21 : decode cX6_readRub 21 = .ok (.iconst 1, 1) := by decide +kernel
theorem dX6_readRub_22 : decode cX6_readRub 22 = .ok (.isub, 1) := by decide +kernel
theorem dX6_readRub_23 : decode cX6_readRub 23 = .ok (.invokevirtual 122, 3) := by decide +kernel
theorem dX6_readRub_26 : decode cX6_readRub 26 = .ok (.putfield 31, 3) := by decide +kernel
theorem dX6_readRub_29 : decode cX6_readRub 29 = .ok (.aload_n 0, 1) := by decide +kernel
theorem dX6_readRub_30 : decode cX6_readRub 30 = .ok (.aload_n 0, 1) := by decide +kernel
theorem dX6_readRub_31 : decode cX6_readRub 31 = .ok (.aload_n 0, 1) := by decide +kernel
theorem dX6_readRub_32 : decode cX6_readRub 32 = .ok (.aload_n 0, 1) := by decide +kernel
theorem dX6_readRub_33 : decode cX6_readRub 33 = .ok (.getfield 31, 3) := by decide +kernel
theorem dX6_readRub_36 : decode cX6_readRub 36 = .ok (.invokevirtual 130, 3) := by decide +kernel
theorem dX6_readRub_39 : decode cX6_readRub 39 = .ok (.iconst 5, 1) := by decide +kernel
theorem dX6_readRub_40 : decode cX6_readRub 40 = .ok (.invokevirtual 122, 3) := by decide +kernel
theorem dX6_readRub_43 : decode cX6_readRub 43 = .ok (.putfield 34, 3) := by decide +kernel
theorem dX6_readRub_46 : decode cX6_readRub 46 = .ok (.aload_n 0, 1) := by decide +kernel
theorem dX6_readRub_47 : decode cX6_readRub 47 = .ok (.aload_n 0, 1) := by decide +kernel
theorem dX6_readRub_48 : decode cX6_readRub 48 = .ok (.iconst 0, 1) := by decide +kernel
theorem dX6_readRub_49 : decode cX6_readRub 49 = .ok (.bipush 7, 2) := by decide +kernel
theorem dX6_readRub_51 : decode cX6_readRub 51 = .ok (.invokevirtual 122, 3) := by decide +kernel
theorem dX6_readRub_54 : decode cX6_readRub 54 = .ok (.putfield 37, 3) := by decide +kernel
theorem dX6_readRub_57 : decode cX6_readRub 57 = .ok (.return_, 1) := by decide +kernel
set_option maxRecDepth 20000 in
theorem ggX6_readDying_X6_readWord : GoodIn wsX6_readDying wsX6_readWord := goodIn_r _ [10, 11, 12, 13, 14, 15, 16, 17, 18, 19, 20, 21, 22, 23, 24, 25, 26, 27, 28, 29, 30, 31, 32, 33, 34, 35, 36, 37, 38, 39, 40, 41, 42, 43, 44, 45, 46, 47, 48, 49, 50, 51, 52, 53, 54, 55, 56, 57, 58, 59, 60, 61, 62, 9, 63, 64, 65, 66, 67, 68, 69, 70, 71, 96, 97, 98, 99, 100, 101, 102, 103, 104, 105] (by decide +kernel) (by decide +kernel)
set_option maxRecDepth 20000 in
theorem gX6_readDying_X6_readWord : GoodIn wsX6_readDying (wsV RX6 114 RX6 yX6_readWord wsX6_readWord) := goodIn_app (goodIn_of _ (by decide +kernel)) ggX6_readDying_X6_readWord
set_option maxRecDepth 20000 in
theorem ggX6_readDying_X6_readNumber : GoodIn wsX6_readDying wsX6_readNumber := goodIn_r _ [75, 64, 65, 5, 60, 61, 62, 9, 63, 66, 67, 68, 69, 70, 71, 76, 77, 78, 79, 80, 81, 82, 83, 96, 97, 98, 99, 100, 101, 102, 103, 104, 105] (by decide +kernel) (by decide +kernel)
set_option maxRecDepth 20000 in
theorem gX6_readDying_X6_readNumber : GoodIn wsX6_readDying (wsV RX6 122 RX6 yX6_readNumber wsX6_readNumber) := goodIn_app (goodIn_of _ (by decide +kernel)) ggX6_readDying_X6_readNumber
set_option maxRecDepth 20000 in
theorem ggX6_readDying_X6_outOf : GoodIn wsX6_readDying wsX6_outOf := goodIn_r _ [87, 2, 88, 89, 90, 91, 92, 93, 94, 95, 96, 97, 98, 99, 100, 101, 102, 103, 104, 105, 112, 113, 114, 115, 116, 117, 118, 119, 120, 121, 122, 123, 124, 125, 126, 127, 128, 129, 130, 131, 132, 133, 134, 135, 136, 137, 138, 139, 140, 141, 142, 143, 144, 145, 146, 147, 148, 149, 150, 151, 152, 153, 154, 155, 156, 157, 158, 159, 160, 161, 162, 163, 164, 165, 166, 167, 168, 169, 170, 171, 172, 173, 174, 106, 107, 108, 109, 110, 111] (by decide +kernel) (by decide +kernel)
set_option maxRecDepth 20000 in
theorem gX6_readDying_X6_outOf : GoodIn wsX6_readDying (wsV RX6 130 RX6 yX6_outOf wsX6_outOf) := goodIn_app (goodIn_of _ (by decide +kernel)) ggX6_readDying_X6_outOf
set_option maxRecDepth 20000 in
theorem ggX6_readDying_X6_faultAt : GoodIn wsX6_readDying wsX6_faultAt := goodIn_r _ [83, 64, 96, 97, 98, 99, 100, 101, 102, 103, 104, 105] (by decide +kernel) (by decide +kernel)
set_option maxRecDepth 20000 in
theorem gX6_readDying_X6_faultAt : GoodIn wsX6_readDying (wsV RX6 85 RX6 yX6_faultAt wsX6_faultAt) := goodIn_app (goodIn_of _ (by decide +kernel)) ggX6_readDying_X6_faultAt
theorem dX6_readDying_0 : decode cX6_readDying 0 = .ok (.aload_n 0, 1) := by decide +kernel
theorem dX6_readDying_1 : decode cX6_readDying 1 = .ok (.iconst 3, 1) := by decide +kernel
theorem dX6_readDying_2 : decode cX6_readDying 2 = .ok (.putfield 28, 3) := by decide +kernel
theorem dX6_readDying_5 : decode cX6_readDying 5 = .ok (.aload_n 0, 1) := by decide +kernel
theorem dX6_readDying_6 : decode cX6_readDying 6 = .ok (.ldc 135, 2) := by decide +kernel
theorem dX6_readDying_8 : decode cX6_readDying 8 = .ok (.invokevirtual 114, 3) := by decide +kernel
theorem dX6_readDying_11 : decode cX6_readDying 11 = .ok (.aload_n 0, 1) := by decide +kernel
theorem dX6_readDying_12 : decode cX6_readDying 12 = .ok (.aload_n 0, 1) := by decide +kernel
theorem dX6_readDying_13 : decode cX6_readDying 13 = .ok (.iconst 0, 1) := by decide +kernel
theorem dX6_readDying_14 : decode cX6_readDying 14 = .ok (.aload_n 0, 1) := by decide +kernel
theorem dX6_readDying_15 : decode cX6_readDying 15 = .ok (.getfield 40, 3) := by decide +kernel
theorem dX6_readDying_18 : decode cX6_readDying 18 = .ok (.getfield 127, 3) := by decide +kernel
theorem dX6_readDying_21 : decode cX6_readDying 21 = .ok (.iconst 1, 1) := by decide +kernel
theorem dX6_readDying_22 : decode cX6_readDying 22 = .ok (.isub, 1) := by decide +kernel
theorem dX6_readDying_23 : decode cX6_readDying 23 = .ok (.invokevirtual 122, 3) := by decide +kernel
theorem dX6_readDying_26 : decode cX6_readDying 26 = .ok (.putfield 31, 3) := by decide +kernel
theorem dX6_readDying_29 : decode cX6_readDying 29 = .ok (.aload_n 0, 1) := by decide +kernel
theorem dX6_readDying_30 : decode cX6_readDying 30 = .ok (.aload_n 0, 1) := by decide +kernel
theorem dX6_readDying_31 : decode cX6_readDying 31 = .ok (.getfield 31, 3) := by decide +kernel
theorem dX6_readDying_34 : decode cX6_readDying 34 = .ok (.invokevirtual 130, 3) := by decide +kernel
theorem dX6_readDying_37 : decode cX6_readDying 37 = .ok (.bipush 6, 2) := by decide +kernel
theorem dX6_readDying_39 : decode cX6_readDying 39 = .ok (.if_icmp .lt 11, 3) := by decide +kernel
theorem dX6_readDying_42 : decode cX6_readDying 42 = .ok (.aload_n 0, 1) := by decide +kernel
theorem dX6_readDying_43 : decode cX6_readDying 43 = .ok (.aload_n 0, 1) := by decide +kernel
theorem dX6_readDying_44 : decode cX6_readDying 44 = .ok (.getfield 25, 3) := by decide +kernel
theorem dX6_readDying_47 : decode cX6_readDying 47 = .ok (.invokevirtual 85, 3) := by decide +kernel
theorem dX6_readDying_50 : decode cX6_readDying 50 = .ok (.return_, 1) := by decide +kernel
set_option maxRecDepth 20000 in
theorem ggX6_readLeast_X6_readWord : GoodIn wsX6_readLeast wsX6_readWord := goodIn_r _ [7, 8, 9, 10, 11, 12, 13, 14, 15, 16, 17, 18, 19, 20, 21, 22, 23, 24, 25, 26, 27, 28, 29, 30, 31, 32, 33, 34, 35, 36, 37, 38, 39, 40, 41, 42, 43, 44, 45, 46, 47, 48, 49, 50, 51, 52, 53, 54, 55, 56, 57, 58, 59, 6, 60, 61, 62, 63, 64, 65, 66, 67, 68, 82, 83, 84, 85, 86, 87, 88, 89, 90, 91] (by decide +kernel) (by decide +kernel)
set_option maxRecDepth 20000 in
theorem gX6_readLeast_X6_readWord : GoodIn wsX6_readLeast (wsV RX6 114 RX6 yX6_readWord wsX6_readWord) := goodIn_app (goodIn_of _ (by decide +kernel)) ggX6_readLeast_X6_readWord
set_option maxRecDepth 20000 in
theorem ggX6_readLeast_X6_readNumber : GoodIn wsX6_readLeast wsX6_readNumber := goodIn_r _ [72, 61, 62, 73, 57, 58, 59, 6, 60, 63, 64, 65, 66, 67, 68, 74, 75, 76, 77, 78, 79, 80, 81, 82, 83, 84, 85, 86, 87, 88, 89, 90, 91] (by decide +kernel) (by decide +kernel)
set_option maxRecDepth 20000 in
theorem gX6_readLeast_X6_readNumber : GoodIn wsX6_readLeast (wsV RX6 122 RX6 yX6_readNumber wsX6_readNumber) := goodIn_app (goodIn_of _ (by decide +kernel)) ggX6_readLeast_X6_readNumber
theorem dX6_readLeast_0 : decode cX6_readLeast 0 = .ok (.aload_n 0, 1) := by decide +kernel
theorem dX6_readLeast_1 : decode cX6_readLeast 1 = .ok (.iconst 4, 1) := by decide +kernel
theorem dX6_readLeast_2 : decode cX6_readLeast 2 = .ok (.putfield 28, 3) := by decide +kernel
theorem dX6_readLeast_5 : decode cX6_readLeast 5 = .ok (.aload_n 0, 1) := by decide +kernel
theorem dX6_readLeast_6 : decode cX6_readLeast 6 = .ok (.ldc 137, 2) := by decide +kernel
theorem dX6_readLeast_8 : decode cX6_readLeast 8 = .ok (.invokevirtual 114, 3) := by decide +kernel
theorem dX6_readLeast_11 : decode cX6_readLeast 11 = .ok (.aload_n 0, 1) := by decide +kernel
theorem dX6_readLeast_12 : decode cX6_readLeast 12 = .ok (.aload_n 0, 1) := by decide +kernel
theorem dX6_readLeast_13 : decode cX6_readLeast 13 = .ok (.iconst 1, 1) := by decide +kernel
theorem dX6_readLeast_14 : decode cX6_readLeast 14 = .ok (.bipush 99, 2) := by decide +kernel
theorem dX6_readLeast_16 : decode cX6_readLeast 16 = .ok (.invokevirtual 122, 3) := by decide +kernel
theorem dX6_readLeast_19 : decode cX6_readLeast 19 = .ok (.putfield 31, 3) := by decide +kernel
theorem dX6_readLeast_22 : decode cX6_readLeast 22 = .ok (.return_, 1) := by decide +kernel
set_option maxRecDepth 20000 in
theorem ggX6_outOf_X4_personAt : GoodIn wsX6_outOf wsX4_personAt := goodIn_r _ [7, 8, 9, 83, 84, 85, 86, 87, 88] (by decide +kernel) (by decide +kernel)
set_option maxRecDepth 20000 in
theorem gX6_outOf_X4_personAt : GoodIn wsX6_outOf (wsV RX6 88 RX4 yX4_personAt wsX4_personAt) := goodIn_app (goodIn_of _ (by decide +kernel)) ggX6_outOf_X4_personAt
theorem dX6_outOf_0 : decode cX6_outOf 0 = .ok (.aload_n 0, 1) := by decide +kernel
theorem dX6_outOf_1 : decode cX6_outOf 1 = .ok (.getfield 40, 3) := by decide +kernel
theorem dX6_outOf_4 : decode cX6_outOf 4 = .ok (.iload_n 1, 1) := by decide +kernel
theorem dX6_outOf_5 : decode cX6_outOf 5 = .ok (.invokevirtual 88, 3) := by decide +kernel
theorem dX6_outOf_8 : decode cX6_outOf 8 = .ok (.astore_n 2, 1) := by decide +kernel
theorem dX6_outOf_9 : decode cX6_outOf 9 = .ok (.aload_n 2, 1) := by decide +kernel
theorem dX6_outOf_10 : decode cX6_outOf 10 = .ok (.ifnonnull 8, 3) := by decide +kernel
theorem dX6_outOf_13 : decode cX6_outOf 13 = .ok (.bipush 6, 2) := by decide +kernel
theorem dX6_outOf_15 : decode cX6_outOf 15 = .ok (.goto 7, 3) := by decide +kernel
theorem dX6_outOf_18 : decode cX6_outOf 18 = .ok (.aload_n 2, 1) := by decide +kernel
theorem dX6_outOf_19 : decode cX6_outOf 19 = .ok (.getfield 109, 3) := by decide +kernel
theorem dX6_outOf_22 : decode cX6_outOf 22 = .ok (.ireturn, 1) := by decide +kernel
theorem dX6_letterAt_0 : decode cX6_letterAt 0 = .ok (.iload_n 1, 1) := by decide +kernel
theorem dX6_letterAt_1 : decode cX6_letterAt 1 = .ok (.ifCond .lt 27, 3) := by decide +kernel
theorem dX6_letterAt_4 : decode cX6_letterAt 4 = .ok (.iload_n 1, 1) := by decide +kernel
theorem dX6_letterAt_5 : decode cX6_letterAt 5 = .ok (.aload_n 0, 1) := by decide +kernel
theorem dX6_letterAt_6 : decode cX6_letterAt 6 = .ok (.getfield 15, 3) := by decide +kernel
theorem dX6_letterAt_9 : decode cX6_letterAt 9 = .ok (.if_icmp .ge 19, 3) := by decide +kernel
theorem dX6_letterAt_12 : decode cX6_letterAt 12 = .ok (.iload_n 1, 1) := by decide +kernel
theorem dX6_letterAt_13 : decode cX6_letterAt 13 = .ok (.sipush 160, 3) := by decide +kernel
theorem dX6_letterAt_16 : decode cX6_letterAt 16 = .ok (.if_icmp .ge 12, 3) := by decide +kernel
theorem dX6_letterAt_19 : decode cX6_letterAt 19 = .ok (.aload_n 0, 1) := by decide +kernel
theorem dX6_letterAt_20 : decode cX6_letterAt 20 = .ok (.getfield 9, 3) := by decide +kernel
theorem dX6_letterAt_23 : decode cX6_letterAt 23 = .ok (.iload_n 1, 1) := by decide +kernel
theorem dX6_letterAt_24 : decode cX6_letterAt 24 = .ok (.iaload, 1) := by decide +kernel
theorem dX6_letterAt_25 : decode cX6_letterAt 25 = .ok (.goto 4, 3) := by decide +kernel
theorem dX6_letterAt_28 : decode cX6_letterAt 28 = .ok (.iconst (-1), 1) := by decide +kernel
theorem dX6_letterAt_29 : decode cX6_letterAt 29 = .ok (.ireturn, 1) := by decide +kernel
theorem dX6_faultAt_0 : decode cX6_faultAt 0 = .ok (.aload_n 0, 1) := by decide +kernel
theorem dX6_faultAt_1 : decode cX6_faultAt 1 = .ok (.getfield 22, 3) := by decide +kernel
theorem dX6_faultAt_4 : decode cX6_faultAt 4 = .ok (.iconst (-1), 1) := by decide +kernel
theorem dX6_faultAt_5 : decode cX6_faultAt 5 = .ok (.if_icmp .ne 8, 3) := by decide +kernel
theorem dX6_faultAt_8 : decode cX6_faultAt 8 = .ok (.aload_n 0, 1) := by decide +kernel
theorem dX6_faultAt_9 : decode cX6_faultAt 9 = .ok (.iload_n 1, 1) := by decide +kernel
theorem dX6_faultAt_10 : decode cX6_faultAt 10 = .ok (.putfield 22, 3) := by decide +kernel
theorem dX6_faultAt_13 : decode cX6_faultAt 13 = .ok (.return_, 1) := by decide +kernel
set_option maxRecDepth 20000 in
theorem ggX6_readLetter_X6_letterAt : GoodIn wsX6_readLetter wsX6_letterAt := goodIn_r _ [7, 8, 9, 10, 11, 12, 13, 14, 15, 16, 17, 18, 19] (by decide +kernel) (by decide +kernel)
set_option maxRecDepth 20000 in
theorem gX6_readLetter_X6_letterAt : GoodIn wsX6_readLetter (wsV RX6 67 RX6 yX6_letterAt wsX6_letterAt) := goodIn_app (goodIn_of _ (by decide +kernel)) ggX6_readLetter_X6_letterAt
theorem dX6_readLetter_0 : decode cX6_readLetter 0 = .ok (.aload_n 0, 1) := by decide +kernel
theorem dX6_readLetter_1 : decode cX6_readLetter 1 = .ok (.getfield 22, 3) := by decide +kernel
theorem dX6_readLetter_4 : decode cX6_readLetter 4 = .ok (.iconst (-1), 1) := by decide +kernel
theorem dX6_readLetter_5 : decode cX6_readLetter 5 = .ok (.if_icmp .eq 4, 3) := by decide +kernel
theorem dX6_readLetter_8 : decode cX6_readLetter 8 = .ok (.return_, 1) := by decide +kernel
theorem dX6_readLetter_9 : decode cX6_readLetter 9 = .ok (.aload_n 0, 1) := by decide +kernel
theorem dX6_readLetter_10 : decode cX6_readLetter 10 = .ok (.aload_n 0, 1) := by decide +kernel
theorem dX6_readLetter_11 : decode cX6_readLetter 11 = .ok (.getfield 19, 3) := by decide +kernel
theorem dX6_readLetter_14 : decode cX6_readLetter 14 = .ok (.invokevirtual 67, 3) := by decide +kernel
theorem dX6_readLetter_17 : decode cX6_readLetter 17 = .ok (.iload_n 1, 1) := by decide +kernel
theorem dX6_readLetter_18 : decode cX6_readLetter 18 = .ok (.if_icmp .eq 12, 3) := by decide +kernel
theorem dX6_readLetter_21 : decode cX6_readLetter 21 = .ok (.aload_n 0, 1) := by decide +kernel
theorem dX6_readLetter_22 : decode cX6_readLetter 22 = .ok (.aload_n 0, 1) := by decide +kernel
theorem dX6_readLetter_23 : decode cX6_readLetter 23 = .ok (.getfield 19, 3) := by decide +kernel
theorem dX6_readLetter_26 : decode cX6_readLetter 26 = .ok (.putfield 22, 3) := by decide +kernel
theorem dX6_readLetter_29 : decode cX6_readLetter 29 = .ok (.return_, 1) := by decide +kernel
theorem dX6_readLetter_30 : decode cX6_readLetter 30 = .ok (.aload_n 0, 1) := by decide +kernel
theorem dX6_readLetter_31 : decode cX6_readLetter 31 = .ok (.dup, 1) := by decide +kernel
theorem dX6_readLetter_32 : decode cX6_readLetter 32 = .ok (.getfield 19, 3) := by decide +kernel
theorem dX6_readLetter_35 : decode cX6_readLetter 35 = .ok (.iconst 1, 1) := by decide +kernel
theorem dX6_readLetter_36 : decode cX6_readLetter 36 = .ok (.iadd, 1) := by decide +kernel
theorem dX6_readLetter_37 : decode cX6_readLetter 37 = .ok (.putfield 19, 3) := by decide +kernel
theorem dX6_readLetter_40 : decode cX6_readLetter 40 = .ok (.return_, 1) := by decide +kernel
set_option maxRecDepth 20000 in
theorem ggX6_readWord_J0_length_8abf5 : GoodIn wsX6_readWord wsJ0_length_8abf5 := goodIn_r _ [5, 6, 7, 8, 9, 4, 10, 11, 12] (by decide +kernel) (by decide +kernel)
set_option maxRecDepth 20000 in
theorem gX6_readWord_J0_length_8abf5 : GoodIn wsX6_readWord (wsV RX6 138 RJ0 yJ0_length_8abf5 wsJ0_length_8abf5) := goodIn_app (goodIn_of _ (by decide +kernel)) ggX6_readWord_J0_length_8abf5
set_option maxRecDepth 20000 in
theorem ggX6_readWord_J0_charAt_5068e : GoodIn wsX6_readWord wsJ0_charAt_5068e := goodIn_r _ [16, 6, 17, 18, 19, 4, 20, 11, 12, 21, 22, 23, 24, 25, 26, 27, 28, 29, 30, 31, 32, 33, 34, 35, 36, 37, 38, 39, 40, 41, 42, 43, 44, 45, 46, 47, 48, 49] (by decide +kernel) (by decide +kernel)
set_option maxRecDepth 20000 in
theorem gX6_readWord_J0_charAt_5068e : GoodIn wsX6_readWord (wsV RX6 144 RJ0 yJ0_charAt_5068e wsJ0_charAt_5068e) := goodIn_app (goodIn_of _ (by decide +kernel)) ggX6_readWord_J0_charAt_5068e
set_option maxRecDepth 20000 in
theorem ggX6_readWord_X6_readLetter : GoodIn wsX6_readWord wsX6_readLetter := goodIn_r _ [54, 55, 56, 57, 58, 59, 53, 60, 61, 62, 63, 64, 65, 66, 67, 68, 69, 70, 71, 72] (by decide +kernel) (by decide +kernel)
set_option maxRecDepth 20000 in
theorem gX6_readWord_X6_readLetter : GoodIn wsX6_readWord (wsV RX6 63 RX6 yX6_readLetter wsX6_readLetter) := goodIn_app (goodIn_of _ (by decide +kernel)) ggX6_readWord_X6_readLetter
theorem dX6_readWord_0 : decode cX6_readWord 0 = .ok (.iconst 0, 1) := by decide +kernel
theorem dX6_readWord_1 : decode cX6_readWord 1 = .ok (.istore_n 2, 1) := by decide +kernel
theorem dX6_readWord_2 : decode cX6_readWord 2 = .ok (.iload_n 2, 1) := by decide +kernel
theorem dX6_readWord_3 : decode cX6_readWord 3 = .ok (.aload_n 1, 1) := by decide +kernel
theorem dX6_readWord_4 : decode cX6_readWord 4 = .ok (.invokevirtual 138, 3) := by decide +kernel
theorem dX6_readWord_7 : decode cX6_readWord 7 = .ok (.if_icmp .ge 18, 3) := by decide +kernel
theorem dX6_readWord_10 : decode cX6_readWord 10 = .ok (.aload_n 0, 1) := by decide +kernel
theorem dX6_readWord_11 : decode cX6_readWord 11 = .ok (.aload_n 1, 1) := by decide +kernel
theorem dX6_readWord_12 : decode cX6_readWord 12 = .ok (.iload_n 2, 1) := by decide +kernel
theorem dX6_readWord_13 : decode cX6_readWord 13 = .ok (.invokevirtual 144, 3) := by decide +kernel
theorem dX6_readWord_16 : decode cX6_readWord 16 = .ok (.invokevirtual 63, 3) := by decide +kernel
theorem dX6_readWord_19 : decode cX6_readWord 19 = .ok (.iinc 2 1, 3) := by decide +kernel
theorem dX6_readWord_22 : decode cX6_readWord 22 = .ok (.goto (-20), 3) := by decide +kernel
theorem dX6_readWord_25 : decode cX6_readWord 25 = .ok (.return_, 1) := by decide +kernel
set_option maxRecDepth 20000 in
theorem ggX6_readNumber_X6_readLetter : GoodIn wsX6_readNumber wsX6_readLetter := goodIn_r _ [8, 1, 2, 9, 10, 11, 7, 12, 13, 14, 23, 24, 25, 26, 27, 28, 29, 30, 31, 32] (by decide +kernel) (by decide +kernel)
set_option maxRecDepth 20000 in
theorem gX6_readNumber_X6_readLetter : GoodIn wsX6_readNumber (wsV RX6 63 RX6 yX6_readLetter wsX6_readLetter) := goodIn_app (goodIn_of _ (by decide +kernel)) ggX6_readNumber_X6_readLetter
set_option maxRecDepth 20000 in
theorem ggX6_readNumber_X6_digitHere : GoodIn wsX6_readNumber wsX6_digitHere := goodIn_r _ [18, 2, 9, 10, 11, 7, 12, 13, 14, 23, 24, 25, 26, 27, 28, 29, 30, 31, 32] (by decide +kernel) (by decide +kernel)
set_option maxRecDepth 20000 in
theorem gX6_readNumber_X6_digitHere : GoodIn wsX6_readNumber (wsV RX6 148 RX6 yX6_digitHere wsX6_digitHere) := goodIn_app (goodIn_of _ (by decide +kernel)) ggX6_readNumber_X6_digitHere
set_option maxRecDepth 20000 in
theorem ggX6_readNumber_X6_faultAt : GoodIn wsX6_readNumber wsX6_faultAt := goodIn_r _ [22, 1, 23, 24, 25, 26, 27, 28, 29, 30, 31, 32] (by decide +kernel) (by decide +kernel)
set_option maxRecDepth 20000 in
theorem gX6_readNumber_X6_faultAt : GoodIn wsX6_readNumber (wsV RX6 85 RX6 yX6_faultAt wsX6_faultAt) := goodIn_app (goodIn_of _ (by decide +kernel)) ggX6_readNumber_X6_faultAt
theorem dX6_readNumber_0 : decode cX6_readNumber 0 = .ok (.aload_n 0, 1) := by decide +kernel
theorem dX6_readNumber_1 : decode cX6_readNumber 1 = .ok (.bipush 32, 2) := by decide +kernel
theorem dX6_readNumber_3 : decode cX6_readNumber 3 = .ok (.invokevirtual 63, 3) := by decide +kernel
theorem dX6_readNumber_6 : decode cX6_readNumber 6 = .ok (.aload_n 0, 1) := by decide +kernel
theorem dX6_readNumber_7 : decode cX6_readNumber 7 = .ok (.invokevirtual 148, 3) := by decide +kernel
theorem dX6_readNumber_10 : decode cX6_readNumber 10 = .ok (.istore_n 3, 1) := by decide +kernel
theorem dX6_readNumber_11 : decode cX6_readNumber 11 = .ok (.aload_n 0, 1) := by decide +kernel
theorem dX6_readNumber_12 : decode cX6_readNumber 12 = .ok (.getfield 22, 3) := by decide +kernel
theorem dX6_readNumber_15 : decode cX6_readNumber 15 = .ok (.iconst (-1), 1) := by decide +kernel
theorem dX6_readNumber_16 : decode cX6_readNumber 16 = .ok (.if_icmp .ne 8, 3) := by decide +kernel
theorem dX6_readNumber_19 : decode cX6_readNumber 19 = .ok (.iload_n 3, 1) := by decide +kernel
theorem dX6_readNumber_20 : decode cX6_readNumber 20 = .ok (.iconst (-1), 1) := by decide +kernel
theorem dX6_readNumber_21 : decode cX6_readNumber 21 = .ok (.if_icmp .ne 13, 3) := by decide +kernel
theorem dX6_readNumber_24 : decode cX6_readNumber 24 = .ok (.aload_n 0, 1) := by decide +kernel
theorem dX6_readNumber_25 : decode cX6_readNumber 25 = .ok (.aload_n 0, 1) := by decide +kernel
theorem dX6_readNumber_26 : decode cX6_readNumber 26 = .ok (.getfield 19, 3) := by decide +kernel
theorem dX6_readNumber_29 : decode cX6_readNumber 29 = .ok (.invokevirtual 85, 3) := by decide +kernel
theorem dX6_readNumber_32 : decode cX6_readNumber 32 = .ok (.iconst (-1), 1) := by decide +kernel
theorem dX6_readNumber_33 : decode cX6_readNumber 33 = .ok (.ireturn, 1) := by decide +kernel
theorem dX6_readNumber_34 : decode cX6_readNumber 34 = .ok (.aload_n 0, 1) := by decide +kernel
theorem dX6_readNumber_35 : decode cX6_readNumber 35 = .ok (.aload_n 0, 1) := by decide +kernel
theorem dX6_readNumber_36 : decode cX6_readNumber 36 = .ok (.getfield 19, 3) := by decide +kernel
theorem dX6_readNumber_39 : decode cX6_readNumber 39 = .ok (.putfield 25, 3) := by decide +kernel
theorem dX6_readNumber_42 : decode cX6_readNumber 42 = .ok (.aload_n 0, 1) := by decide +kernel
theorem dX6_readNumber_43 : decode cX6_readNumber 43 = .ok (.dup, 1) := by decide +kernel
theorem dX6_readNumber_44 : decode cX6_readNumber 44 = .ok (.getfield 19, 3) := by decide +kernel
theorem dX6_readNumber_47 : decode cX6_readNumber 47 = .ok (.iconst 1, 1) := by decide +kernel
theorem dX6_readNumber_48 : decode cX6_readNumber 48 = .ok (.iadd, 1) := by decide +kernel
theorem dX6_readNumber_49 : decode cX6_readNumber 49 = .ok (.putfield 19, 3) := by decide +kernel
theorem dX6_readNumber_52 : decode cX6_readNumber 52 = .ok (.aload_n 0, 1) := by decide +kernel
theorem dX6_readNumber_53 : decode cX6_readNumber 53 = .ok (.invokevirtual 148, 3) := by decide +kernel
theorem dX6_readNumber_56 : decode cX6_readNumber 56 = .ok (.istore 4, 2) := by decide +kernel
theorem dX6_readNumber_58 : decode cX6_readNumber 58 = .ok (.iload 4, 2) := by decide +kernel
theorem dX6_readNumber_60 : decode cX6_readNumber 60 = .ok (.iconst (-1), 1) := by decide +kernel
theorem dX6_readNumber_61 : decode cX6_readNumber 61 = .ok (.if_icmp .eq 21, 3) := by decide +kernel
theorem dX6_readNumber_64 : decode cX6_readNumber 64 = .ok (.bipush 10, 2) := by decide +kernel
theorem dX6_readNumber_66 : decode cX6_readNumber 66 = .ok (.iload_n 3, 1) := by decide +kernel
theorem dX6_readNumber_67 : decode cX6_readNumber 67 = .ok (.imul, 1) := by decide +kernel
theorem dX6_readNumber_68 : decode cX6_readNumber 68 = .ok (.iload 4, 2) := by decide +kernel
theorem dX6_readNumber_70 : decode cX6_readNumber 70 = .ok (.iadd, 1) := by decide +kernel
theorem dX6_readNumber_71 : decode cX6_readNumber 71 = .ok (.istore_n 3, 1) := by decide +kernel
theorem dX6_readNumber_72 : decode cX6_readNumber 72 = .ok (.aload_n 0, 1) := by decide +kernel
theorem dX6_readNumber_73 : decode cX6_readNumber 73 = .ok (.dup, 1) := by decide +kernel
theorem dX6_readNumber_74 : decode cX6_readNumber 74 = .ok (.getfield 19, 3) := by decide +kernel
theorem dX6_readNumber_77 : decode cX6_readNumber 77 = .ok (.iconst 1, 1) := by decide +kernel
theorem dX6_readNumber_78 : decode cX6_readNumber 78 = .ok (.iadd, 1) := by decide +kernel
theorem dX6_readNumber_79 : decode cX6_readNumber 79 = .ok (.putfield 19, 3) := by decide +kernel
theorem dX6_readNumber_82 : decode cX6_readNumber 82 = .ok (.iload_n 3, 1) := by decide +kernel
theorem dX6_readNumber_83 : decode cX6_readNumber 83 = .ok (.iload_n 1, 1) := by decide +kernel
theorem dX6_readNumber_84 : decode cX6_readNumber 84 = .ok (.if_icmp .lt 8, 3) := by decide +kernel
theorem dX6_readNumber_87 : decode cX6_readNumber 87 = .ok (.iload_n 3, 1) := by decide +kernel
theorem dX6_readNumber_88 : decode cX6_readNumber 88 = .ok (.iload_n 2, 1) := by decide +kernel
theorem dX6_readNumber_89 : decode cX6_readNumber 89 = .ok (.if_icmp .le 13, 3) := by decide +kernel
theorem dX6_readNumber_92 : decode cX6_readNumber 92 = .ok (.aload_n 0, 1) := by decide +kernel
theorem dX6_readNumber_93 : decode cX6_readNumber 93 = .ok (.aload_n 0, 1) := by decide +kernel
theorem dX6_readNumber_94 : decode cX6_readNumber 94 = .ok (.getfield 25, 3) := by decide +kernel
theorem dX6_readNumber_97 : decode cX6_readNumber 97 = .ok (.putfield 22, 3) := by decide +kernel
theorem dX6_readNumber_100 : decode cX6_readNumber 100 = .ok (.iconst (-1), 1) := by decide +kernel
theorem dX6_readNumber_101 : decode cX6_readNumber 101 = .ok (.ireturn, 1) := by decide +kernel
theorem dX6_readNumber_102 : decode cX6_readNumber 102 = .ok (.iload_n 3, 1) := by decide +kernel
theorem dX6_readNumber_103 : decode cX6_readNumber 103 = .ok (.ireturn, 1) := by decide +kernel
set_option maxRecDepth 20000 in
theorem ggX6_digitHere_X6_letterAt : GoodIn wsX6_digitHere wsX6_letterAt := goodIn_r _ [6, 7, 8, 9, 10, 11, 12, 13, 14, 15, 16, 17, 18] (by decide +kernel) (by decide +kernel)
set_option maxRecDepth 20000 in
theorem gX6_digitHere_X6_letterAt : GoodIn wsX6_digitHere (wsV RX6 67 RX6 yX6_letterAt wsX6_letterAt) := goodIn_app (goodIn_of _ (by decide +kernel)) ggX6_digitHere_X6_letterAt
theorem dX6_digitHere_0 : decode cX6_digitHere 0 = .ok (.aload_n 0, 1) := by decide +kernel
theorem dX6_digitHere_1 : decode cX6_digitHere 1 = .ok (.aload_n 0, 1) := by decide +kernel
theorem dX6_digitHere_2 : decode cX6_digitHere 2 = .ok (.getfield 19, 3) := by decide +kernel
theorem dX6_digitHere_5 : decode cX6_digitHere 5 = .ok (.invokevirtual 67, 3) := by decide +kernel
theorem dX6_digitHere_8 : decode cX6_digitHere 8 = .ok (.istore_n 1, 1) := by decide +kernel
theorem dX6_digitHere_9 : decode cX6_digitHere 9 = .ok (.iload_n 1, 1) := by decide +kernel
theorem dX6_digitHere_10 : decode cX6_digitHere 10 = .ok (.bipush 48, 2) := by decide +kernel
theorem dX6_digitHere_12 : decode cX6_digitHere 12 = .ok (.if_icmp .lt 16, 3) := by decide +kernel
theorem dX6_digitHere_15 : decode cX6_digitHere 15 = .ok (.iload_n 1, 1) := by decide +kernel
theorem dX6_digitHere_16 : decode cX6_digitHere 16 = .ok (.bipush 57, 2) := by decide +kernel
theorem dX6_digitHere_18 : decode cX6_digitHere 18 = .ok (.if_icmp .gt 10, 3) := by decide +kernel
theorem dX6_digitHere_21 : decode cX6_digitHere 21 = .ok (.iload_n 1, 1) := by decide +kernel
theorem dX6_digitHere_22 : decode cX6_digitHere 22 = .ok (.bipush 48, 2) := by decide +kernel
theorem dX6_digitHere_24 : decode cX6_digitHere 24 = .ok (.isub, 1) := by decide +kernel
theorem dX6_digitHere_25 : decode cX6_digitHere 25 = .ok (.goto 4, 3) := by decide +kernel
theorem dX6_digitHere_28 : decode cX6_digitHere 28 = .ok (.iconst (-1), 1) := by decide +kernel
theorem dX6_digitHere_29 : decode cX6_digitHere 29 = .ok (.ireturn, 1) := by decide +kernel
theorem dX7_init_0 : decode cX7_init 0 = .ok (.aload_n 0, 1) := by decide +kernel
theorem dX7_init_1 : decode cX7_init 1 = .ok (.invokespecial 3, 3) := by decide +kernel
theorem dX7_init_4 : decode cX7_init 4 = .ok (.aload_n 0, 1) := by decide +kernel
theorem dX7_init_5 : decode cX7_init 5 = .ok (.sipush 160, 3) := by decide +kernel
theorem dX7_init_8 : decode cX7_init 8 = .ok (.newarray .long, 2) := by decide +kernel
theorem dX7_init_10 : decode cX7_init 10 = .ok (.putfield 9, 3) := by decide +kernel
theorem dX7_init_13 : decode cX7_init 13 = .ok (.aload_n 0, 1) := by decide +kernel
theorem dX7_init_14 : decode cX7_init 14 = .ok (.iconst (-1), 1) := by decide +kernel
theorem dX7_init_15 : decode cX7_init 15 = .ok (.putfield 15, 3) := by decide +kernel
theorem dX7_init_18 : decode cX7_init 18 = .ok (.aload_n 0, 1) := by decide +kernel
theorem dX7_init_19 : decode cX7_init 19 = .ok (.iconst 0, 1) := by decide +kernel
theorem dX7_init_20 : decode cX7_init 20 = .ok (.putfield 19, 3) := by decide +kernel
theorem dX7_init_23 : decode cX7_init 23 = .ok (.return_, 1) := by decide +kernel
theorem dX7_hasRow_0 : decode cX7_hasRow 0 = .ok (.aload_n 0, 1) := by decide +kernel
theorem dX7_hasRow_1 : decode cX7_hasRow 1 = .ok (.getfield 15, 3) := by decide +kernel
theorem dX7_hasRow_4 : decode cX7_hasRow 4 = .ok (.bipush 100, 2) := by decide +kernel
theorem dX7_hasRow_6 : decode cX7_hasRow 6 = .ok (.if_icmp .lt 7, 3) := by decide +kernel
theorem dX7_hasRow_9 : decode cX7_hasRow 9 = .ok (.iconst 1, 1) := by decide +kernel
theorem dX7_hasRow_10 : decode cX7_hasRow 10 = .ok (.goto 4, 3) := by decide +kernel
theorem dX7_hasRow_13 : decode cX7_hasRow 13 = .ok (.iconst 0, 1) := by decide +kernel
theorem dX7_hasRow_14 : decode cX7_hasRow 14 = .ok (.ireturn, 1) := by decide +kernel
theorem dX7_hasPerson_0 : decode cX7_hasPerson 0 = .ok (.aload_n 0, 1) := by decide +kernel
theorem dX7_hasPerson_1 : decode cX7_hasPerson 1 = .ok (.getfield 15, 3) := by decide +kernel
theorem dX7_hasPerson_4 : decode cX7_hasPerson 4 = .ok (.ifCond .lt 16, 3) := by decide +kernel
theorem dX7_hasPerson_7 : decode cX7_hasPerson 7 = .ok (.aload_n 0, 1) := by decide +kernel
theorem dX7_hasPerson_8 : decode cX7_hasPerson 8 = .ok (.getfield 15, 3) := by decide +kernel
theorem dX7_hasPerson_11 : decode cX7_hasPerson 11 = .ok (.bipush 100, 2) := by decide +kernel
theorem dX7_hasPerson_13 : decode cX7_hasPerson 13 = .ok (.if_icmp .ge 7, 3) := by decide +kernel
theorem dX7_hasPerson_16 : decode cX7_hasPerson 16 = .ok (.iconst 1, 1) := by decide +kernel
theorem dX7_hasPerson_17 : decode cX7_hasPerson 17 = .ok (.goto 4, 3) := by decide +kernel
theorem dX7_hasPerson_20 : decode cX7_hasPerson 20 = .ok (.iconst 0, 1) := by decide +kernel
theorem dX7_hasPerson_21 : decode cX7_hasPerson 21 = .ok (.ireturn, 1) := by decide +kernel
set_option maxRecDepth 20000 in
theorem ggX7_hasElement_X7_hasRow : GoodIn wsX7_hasElement wsX7_hasRow := goodIn_r _ [6, 7, 8, 9, 10] (by decide +kernel) (by decide +kernel)
set_option maxRecDepth 20000 in
theorem gX7_hasElement_X7_hasRow : GoodIn wsX7_hasElement (wsV RX7 22 RX7 yX7_hasRow wsX7_hasRow) := goodIn_app (goodIn_of _ (by decide +kernel)) ggX7_hasElement_X7_hasRow
theorem dX7_hasElement_0 : decode cX7_hasElement 0 = .ok (.aload_n 0, 1) := by decide +kernel
theorem dX7_hasElement_1 : decode cX7_hasElement 1 = .ok (.invokevirtual 22, 3) := by decide +kernel
theorem dX7_hasElement_4 : decode cX7_hasElement 4 = .ok (.ifCond .eq 19, 3) := by decide +kernel
theorem dX7_hasElement_7 : decode cX7_hasElement 7 = .ok (.iload_n 1, 1) := by decide +kernel
theorem dX7_hasElement_8 : decode cX7_hasElement 8 = .ok (.ifCond .lt 15, 3) := by decide +kernel
theorem dX7_hasElement_11 : decode cX7_hasElement 11 = .ok (.iload_n 1, 1) := by decide +kernel
theorem dX7_hasElement_12 : decode cX7_hasElement 12 = .ok (.aload_n 0, 1) := by decide +kernel
theorem dX7_hasElement_13 : decode cX7_hasElement 13 = .ok (.getfield 19, 3) := by decide +kernel
theorem dX7_hasElement_16 : decode cX7_hasElement 16 = .ok (.if_icmp .ge 7, 3) := by decide +kernel
theorem dX7_hasElement_19 : decode cX7_hasElement 19 = .ok (.iconst 1, 1) := by decide +kernel
theorem dX7_hasElement_20 : decode cX7_hasElement 20 = .ok (.goto 4, 3) := by decide +kernel
theorem dX7_hasElement_23 : decode cX7_hasElement 23 = .ok (.iconst 0, 1) := by decide +kernel
theorem dX7_hasElement_24 : decode cX7_hasElement 24 = .ok (.ireturn, 1) := by decide +kernel
set_option maxRecDepth 20000 in
theorem ggX7_hasPart_X7_hasRow : GoodIn wsX7_hasPart wsX7_hasRow := goodIn_r _ [6, 7, 8, 9, 10] (by decide +kernel) (by decide +kernel)
set_option maxRecDepth 20000 in
theorem gX7_hasPart_X7_hasRow : GoodIn wsX7_hasPart (wsV RX7 22 RX7 yX7_hasRow wsX7_hasRow) := goodIn_app (goodIn_of _ (by decide +kernel)) ggX7_hasPart_X7_hasRow
theorem dX7_hasPart_0 : decode cX7_hasPart 0 = .ok (.aload_n 0, 1) := by decide +kernel
theorem dX7_hasPart_1 : decode cX7_hasPart 1 = .ok (.invokevirtual 22, 3) := by decide +kernel
theorem dX7_hasPart_4 : decode cX7_hasPart 4 = .ok (.ifCond .eq 29, 3) := by decide +kernel
theorem dX7_hasPart_7 : decode cX7_hasPart 7 = .ok (.iload_n 1, 1) := by decide +kernel
theorem dX7_hasPart_8 : decode cX7_hasPart 8 = .ok (.ifCond .lt 25, 3) := by decide +kernel
theorem dX7_hasPart_11 : decode cX7_hasPart 11 = .ok (.iload_n 2, 1) := by decide +kernel
theorem dX7_hasPart_12 : decode cX7_hasPart 12 = .ok (.ifCond .lt 21, 3) := by decide +kernel
theorem dX7_hasPart_15 : decode cX7_hasPart 15 = .ok (.iload_n 1, 1) := by decide +kernel
theorem dX7_hasPart_16 : decode cX7_hasPart 16 = .ok (.i2l, 1) := by decide +kernel
theorem dX7_hasPart_17 : decode cX7_hasPart 17 = .ok (.iload_n 2, 1) := by decide +kernel
theorem dX7_hasPart_18 : decode cX7_hasPart 18 = .ok (.i2l, 1) := by decide +kernel
theorem dX7_hasPart_19 : decode cX7_hasPart 19 = .ok (.ladd, 1) := by decide +kernel
theorem dX7_hasPart_20 : decode cX7_hasPart 20 = .ok (.aload_n 0, 1) := by decide +kernel
theorem dX7_hasPart_21 : decode cX7_hasPart 21 = .ok (.getfield 19, 3) := by decide +kernel
theorem dX7_hasPart_24 : decode cX7_hasPart 24 = .ok (.i2l, 1) := by decide +kernel
theorem dX7_hasPart_25 : decode cX7_hasPart 25 = .ok (.lcmp, 1) := by decide +kernel
theorem dX7_hasPart_26 : decode cX7_hasPart 26 = .ok (.ifCond .gt 7, 3) := by decide +kernel
theorem dX7_hasPart_29 : decode cX7_hasPart 29 = .ok (.iconst 1, 1) := by decide +kernel
theorem dX7_hasPart_30 : decode cX7_hasPart 30 = .ok (.goto 4, 3) := by decide +kernel
theorem dX7_hasPart_33 : decode cX7_hasPart 33 = .ok (.iconst 0, 1) := by decide +kernel
theorem dX7_hasPart_34 : decode cX7_hasPart 34 = .ok (.ireturn, 1) := by decide +kernel
set_option maxRecDepth 20000 in
theorem ggX7_takeRow_J7_fill_d0a16 : GoodIn wsX7_takeRow wsJ7_fill_d0a16 := goodIn_r _ [11] (by decide +kernel) (by decide +kernel)
set_option maxRecDepth 20000 in
theorem gX7_takeRow_J7_fill_d0a16 : GoodIn wsX7_takeRow (va_wsS RX7 32 yJ7_fill_d0a16 wsJ7_fill_d0a16) := goodIn_app (goodIn_of _ (by decide +kernel)) ggX7_takeRow_J7_fill_d0a16
theorem dX7_takeRow_0 : decode cX7_takeRow 0 = .ok (.aload_n 0, 1) := by decide +kernel
theorem dX7_takeRow_1 : decode cX7_takeRow 1 = .ok (.bipush 100, 2) := by decide +kernel
theorem dX7_takeRow_3 : decode cX7_takeRow 3 = .ok (.iload_n 1, 1) := by decide +kernel
theorem dX7_takeRow_4 : decode cX7_takeRow 4 = .ok (.iadd, 1) := by decide +kernel
theorem dX7_takeRow_5 : decode cX7_takeRow 5 = .ok (.putfield 15, 3) := by decide +kernel
theorem dX7_takeRow_8 : decode cX7_takeRow 8 = .ok (.aload_n 0, 1) := by decide +kernel
theorem dX7_takeRow_9 : decode cX7_takeRow 9 = .ok (.iload_n 2, 1) := by decide +kernel
theorem dX7_takeRow_10 : decode cX7_takeRow 10 = .ok (.sipush 160, 3) := by decide +kernel
theorem dX7_takeRow_13 : decode cX7_takeRow 13 = .ok (.invokestatic 26, 3) := by decide +kernel
theorem dX7_takeRow_16 : decode cX7_takeRow 16 = .ok (.putfield 19, 3) := by decide +kernel
theorem dX7_takeRow_19 : decode cX7_takeRow 19 = .ok (.aload_n 0, 1) := by decide +kernel
theorem dX7_takeRow_20 : decode cX7_takeRow 20 = .ok (.getfield 9, 3) := by decide +kernel
theorem dX7_takeRow_23 : decode cX7_takeRow 23 = .ok (.lconst 0, 1) := by decide +kernel
theorem dX7_takeRow_24 : decode cX7_takeRow 24 = .ok (.invokestatic 32, 3) := by decide +kernel
theorem dX7_takeRow_27 : decode cX7_takeRow 27 = .ok (.return_, 1) := by decide +kernel
set_option maxRecDepth 20000 in
theorem ggX7_put_X7_hasElement : GoodIn wsX7_put wsX7_hasElement := goodIn_r _ [7, 8, 9, 10, 11, 6, 12, 1, 13, 14, 15] (by decide +kernel) (by decide +kernel)
set_option maxRecDepth 20000 in
theorem gX7_put_X7_hasElement : GoodIn wsX7_put (wsV RX7 38 RX7 yX7_hasElement wsX7_hasElement) := goodIn_app (goodIn_of _ (by decide +kernel)) ggX7_put_X7_hasElement
theorem dX7_put_0 : decode cX7_put 0 = .ok (.aload_n 0, 1) := by decide +kernel
theorem dX7_put_1 : decode cX7_put 1 = .ok (.iload_n 1, 1) := by decide +kernel
theorem dX7_put_2 : decode cX7_put 2 = .ok (.invokevirtual 38, 3) := by decide +kernel
theorem dX7_put_5 : decode cX7_put 5 = .ok (.ifCond .ne 4, 3) := by decide +kernel
theorem dX7_put_8 : decode cX7_put 8 = .ok (.return_, 1) := by decide +kernel
theorem dX7_put_9 : decode cX7_put 9 = .ok (.aload_n 0, 1) := by decide +kernel
theorem dX7_put_10 : decode cX7_put 10 = .ok (.getfield 15, 3) := by decide +kernel
theorem dX7_put_13 : decode cX7_put 13 = .ok (.bipush 100, 2) := by decide +kernel
theorem dX7_put_15 : decode cX7_put 15 = .ok (.isub, 1) := by decide +kernel
theorem dX7_put_16 : decode cX7_put 16 = .ok (.tableswitch 66 0 2 #[28, 41, 54], 28) := by decide +kernel
theorem dX7_put_44 : decode cX7_put 44 = .ok (.aload_n 0, 1) := by decide +kernel
theorem dX7_put_45 : decode cX7_put 45 = .ok (.getfield 9, 3) := by decide +kernel
theorem dX7_put_48 : decode cX7_put 48 = .ok (.iload_n 1, 1) := by decide +kernel
theorem dX7_put_49 : decode cX7_put 49 = .ok (.lload_n 2, 1) := by decide +kernel
theorem dX7_put_50 : decode cX7_put 50 = .ok (.l2i, 1) := by decide +kernel
theorem dX7_put_51 : decode cX7_put 51 = .ok (.i2b, 1) := by decide +kernel
theorem dX7_put_52 : decode cX7_put 52 = .ok (.i2l, 1) := by decide +kernel
theorem dX7_put_53 : decode cX7_put 53 = .ok (.lastore, 1) := by decide +kernel
theorem dX7_put_54 : decode cX7_put 54 = .ok (.goto 35, 3) := by decide +kernel
theorem dX7_put_57 : decode cX7_put 57 = .ok (.aload_n 0, 1) := by decide +kernel
theorem dX7_put_58 : decode cX7_put 58 = .ok (.getfield 9, 3) := by decide +kernel
theorem dX7_put_61 : decode cX7_put 61 = .ok (.iload_n 1, 1) := by decide +kernel
theorem dX7_put_62 : decode cX7_put 62 = .ok (.lload_n 2, 1) := by decide +kernel
theorem dX7_put_63 : decode cX7_put 63 = .ok (.l2i, 1) := by decide +kernel
theorem dX7_put_64 : decode cX7_put 64 = .ok (.i2s, 1) := by decide +kernel
theorem dX7_put_65 : decode cX7_put 65 = .ok (.i2l, 1) := by decide +kernel
theorem dX7_put_66 : decode cX7_put 66 = .ok (.lastore, 1) := by decide +kernel
theorem dX7_put_67 : decode cX7_put 67 = .ok (.goto 22, 3) := by decide +kernel
theorem dX7_put_70 : decode cX7_put 70 = .ok (.aload_n 0, 1) := by decide +kernel
theorem dX7_put_71 : decode cX7_put 71 = .ok (.getfield 9, 3) := by decide +kernel
theorem dX7_put_74 : decode cX7_put 74 = .ok (.iload_n 1, 1) := by decide +kernel
theorem dX7_put_75 : decode cX7_put 75 = .ok (.lload_n 2, 1) := by decide +kernel
theorem dX7_put_76 : decode cX7_put 76 = .ok (.l2i, 1) := by decide +kernel
theorem dX7_put_77 : decode cX7_put 77 = .ok (.i2l, 1) := by decide +kernel
theorem dX7_put_78 : decode cX7_put 78 = .ok (.lastore, 1) := by decide +kernel
theorem dX7_put_79 : decode cX7_put 79 = .ok (.goto 10, 3) := by decide +kernel
theorem dX7_put_82 : decode cX7_put 82 = .ok (.aload_n 0, 1) := by decide +kernel
theorem dX7_put_83 : decode cX7_put 83 = .ok (.getfield 9, 3) := by decide +kernel
theorem dX7_put_86 : decode cX7_put 86 = .ok (.iload_n 1, 1) := by decide +kernel
theorem dX7_put_87 : decode cX7_put 87 = .ok (.lload_n 2, 1) := by decide +kernel
theorem dX7_put_88 : decode cX7_put 88 = .ok (.lastore, 1) := by decide +kernel
theorem dX7_put_89 : decode cX7_put 89 = .ok (.return_, 1) := by decide +kernel
set_option maxRecDepth 20000 in
theorem ggX7_elementAt_X7_hasElement : GoodIn wsX7_elementAt wsX7_hasElement := goodIn_r _ [6, 7, 8, 9, 10, 5, 11, 12, 13, 14, 15] (by decide +kernel) (by decide +kernel)
set_option maxRecDepth 20000 in
theorem gX7_elementAt_X7_hasElement : GoodIn wsX7_elementAt (wsV RX7 38 RX7 yX7_hasElement wsX7_hasElement) := goodIn_app (goodIn_of _ (by decide +kernel)) ggX7_elementAt_X7_hasElement
theorem dX7_elementAt_0 : decode cX7_elementAt 0 = .ok (.aload_n 0, 1) := by decide +kernel
theorem dX7_elementAt_1 : decode cX7_elementAt 1 = .ok (.iload_n 1, 1) := by decide +kernel
theorem dX7_elementAt_2 : decode cX7_elementAt 2 = .ok (.invokevirtual 38, 3) := by decide +kernel
theorem dX7_elementAt_5 : decode cX7_elementAt 5 = .ok (.ifCond .eq 12, 3) := by decide +kernel
theorem dX7_elementAt_8 : decode cX7_elementAt 8 = .ok (.aload_n 0, 1) := by decide +kernel
theorem dX7_elementAt_9 : decode cX7_elementAt 9 = .ok (.getfield 9, 3) := by decide +kernel
theorem dX7_elementAt_12 : decode cX7_elementAt 12 = .ok (.iload_n 1, 1) := by decide +kernel
theorem dX7_elementAt_13 : decode cX7_elementAt 13 = .ok (.laload, 1) := by decide +kernel
theorem dX7_elementAt_14 : decode cX7_elementAt 14 = .ok (.goto 4, 3) := by decide +kernel
theorem dX7_elementAt_17 : decode cX7_elementAt 17 = .ok (.lconst 0, 1) := by decide +kernel
theorem dX7_elementAt_18 : decode cX7_elementAt 18 = .ok (.lreturn, 1) := by decide +kernel
set_option maxRecDepth 20000 in
theorem ggX7_intAt_X7_elementAt : GoodIn wsX7_intAt wsX7_elementAt := goodIn_r _ [5, 6, 7, 8, 9, 4, 10, 11, 12, 13, 14, 15, 16, 17, 18, 19] (by decide +kernel) (by decide +kernel)
set_option maxRecDepth 20000 in
theorem gX7_intAt_X7_elementAt : GoodIn wsX7_intAt (wsV RX7 42 RX7 yX7_elementAt wsX7_elementAt) := goodIn_app (goodIn_of _ (by decide +kernel)) ggX7_intAt_X7_elementAt
theorem dX7_intAt_0 : decode cX7_intAt 0 = .ok (.aload_n 0, 1) := by decide +kernel
theorem dX7_intAt_1 : decode cX7_intAt 1 = .ok (.iload_n 1, 1) := by decide +kernel
theorem dX7_intAt_2 : decode cX7_intAt 2 = .ok (.invokevirtual 42, 3) := by decide +kernel
theorem dX7_intAt_5 : decode cX7_intAt 5 = .ok (.l2i, 1) := by decide +kernel
theorem dX7_intAt_6 : decode cX7_intAt 6 = .ok (.ireturn, 1) := by decide +kernel
set_option maxRecDepth 20000 in
theorem ggX8_init_X5_init : GoodIn wsX8_init wsX5_init := goodIn_r _ [4, 5, 6, 7, 8, 9, 10, 11, 12, 13, 14, 15, 16, 17, 18, 19, 20, 21, 22, 23, 24, 25, 26, 27, 28, 29, 30, 31, 32, 33, 34, 35, 36, 37, 38, 39, 40, 41, 42, 43, 44, 45, 46, 47, 48, 49, 50, 51, 52, 53, 54, 55, 56, 57, 58, 59, 60, 61, 62, 63, 64, 65, 66, 67, 68, 69, 70, 71, 72, 73, 74, 75, 76, 77, 78, 79, 80] (by decide +kernel) (by decide +kernel)
set_option maxRecDepth 20000 in
theorem gX8_init_X5_init : GoodIn wsX8_init (wsX5_init) := ggX8_init_X5_init
theorem dX8_init_0 : decode cX8_init 0 = .ok (.aload_n 0, 1) := by decide +kernel
theorem dX8_init_1 : decode cX8_init 1 = .ok (.iload_n 1, 1) := by decide +kernel
theorem dX8_init_2 : decode cX8_init 2 = .ok (.iload_n 2, 1) := by decide +kernel
theorem dX8_init_3 : decode cX8_init 3 = .ok (.aload_n 3, 1) := by decide +kernel
theorem dX8_init_4 : decode cX8_init 4 = .ok (.invokespecial 1, 3) := by decide +kernel
theorem dX8_init_7 : decode cX8_init 7 = .ok (.return_, 1) := by decide +kernel
set_option maxRecDepth 20000 in
theorem ggX8_lossAt_X5_lossAt : GoodIn wsX8_lossAt wsX5_lossAt := goodIn_r _ [6, 7, 8, 9, 10, 11, 12, 13, 14, 15, 16, 17, 18, 19, 20, 21, 22, 23, 24, 25, 26, 27, 28, 29, 30, 31, 32, 33, 34, 35, 36, 37, 38, 39, 40, 41, 42, 43, 44, 45, 46, 47, 48, 49, 50, 51, 52, 53, 54, 55, 56, 57, 58, 59, 60, 61, 62, 63, 64, 65, 66, 67, 68, 69, 70] (by decide +kernel) (by decide +kernel)
set_option maxRecDepth 20000 in
theorem gX8_lossAt_X5_lossAt_s7 : GoodIn wsX8_lossAt (va_wsSU RX8 7 yX5_lossAt wsX5_lossAt) := goodIn_app (goodIn_of _ (by decide +kernel)) ggX8_lossAt_X5_lossAt
theorem dX8_lossAt_0 : decode cX8_lossAt 0 = .ok (.iload_n 1, 1) := by decide +kernel
theorem dX8_lossAt_1 : decode cX8_lossAt 1 = .ok (.iconst 1, 1) := by decide +kernel
theorem dX8_lossAt_2 : decode cX8_lossAt 2 = .ok (.if_icmp .ne 7, 3) := by decide +kernel
theorem dX8_lossAt_5 : decode cX8_lossAt 5 = .ok (.iconst 0, 1) := by decide +kernel
theorem dX8_lossAt_6 : decode cX8_lossAt 6 = .ok (.goto 8, 3) := by decide +kernel
theorem dX8_lossAt_9 : decode cX8_lossAt 9 = .ok (.aload_n 0, 1) := by decide +kernel
theorem dX8_lossAt_10 : decode cX8_lossAt 10 = .ok (.iload_n 1, 1) := by decide +kernel
theorem dX8_lossAt_11 : decode cX8_lossAt 11 = .ok (.invokespecial 7, 3) := by decide +kernel
theorem dX8_lossAt_14 : decode cX8_lossAt 14 = .ok (.ireturn, 1) := by decide +kernel
set_option maxRecDepth 20000 in
theorem ggX8_lives_X9_began : GoodIn wsX8_lives wsX9_began := goodIn_r _ [9, 10, 11, 84, 85] (by decide +kernel) (by decide +kernel)
set_option maxRecDepth 20000 in
theorem gX8_lives_X9_began : GoodIn wsX8_lives (wsV RX8 17 RX9 yX9_began wsX9_began) := goodIn_app (goodIn_of _ (by decide +kernel)) ggX8_lives_X9_began
set_option maxRecDepth 20000 in
theorem ggX8_lives_X5_lives : GoodIn wsX8_lives wsX5_lives := goodIn_r _ [17, 18, 19, 20, 6, 7, 8, 9, 10, 11, 21, 22, 23, 24, 25, 26, 27, 28, 29, 30, 31, 32, 33, 34, 35, 36, 37, 38, 39, 40, 41, 42, 43, 44, 45, 46, 47, 48, 49, 50, 51, 52, 53, 54, 55, 56, 57, 58, 59, 60, 61, 62, 63, 64, 65, 66, 67, 68, 69, 70, 71, 72, 73, 74, 75, 76, 77, 78, 79, 80, 81, 82, 83, 84, 85] (by decide +kernel) (by decide +kernel)
set_option maxRecDepth 20000 in
theorem gX8_lives_X5_lives_s23 : GoodIn wsX8_lives (va_wsSU RX8 23 yX5_lives wsX5_lives) := goodIn_app (goodIn_of _ (by decide +kernel)) ggX8_lives_X5_lives
theorem dX8_lives_0 : decode cX8_lives 0 = .ok (.aload_n 0, 1) := by decide +kernel
theorem dX8_lives_1 : decode cX8_lives 1 = .ok (.getfield 11, 3) := by decide +kernel
theorem dX8_lives_4 : decode cX8_lives 4 = .ok (.bipush 20, 2) := by decide +kernel
theorem dX8_lives_6 : decode cX8_lives 6 = .ok (.invokevirtual 17, 3) := by decide +kernel
theorem dX8_lives_9 : decode cX8_lives 9 = .ok (.aload_n 0, 1) := by decide +kernel
theorem dX8_lives_10 : decode cX8_lives 10 = .ok (.iload_n 1, 1) := by decide +kernel
theorem dX8_lives_11 : decode cX8_lives 11 = .ok (.invokespecial 23, 3) := by decide +kernel
theorem dX8_lives_14 : decode cX8_lives 14 = .ok (.aload_n 0, 1) := by decide +kernel
theorem dX8_lives_15 : decode cX8_lives 15 = .ok (.getfield 26, 3) := by decide +kernel
theorem dX8_lives_18 : decode cX8_lives 18 = .ok (.iadd, 1) := by decide +kernel
theorem dX8_lives_19 : decode cX8_lives 19 = .ok (.ireturn, 1) := by decide +kernel
theorem dX9_init_0 : decode cX9_init 0 = .ok (.aload_n 0, 1) := by decide +kernel
theorem dX9_init_1 : decode cX9_init 1 = .ok (.invokespecial 3, 3) := by decide +kernel
theorem dX9_init_4 : decode cX9_init 4 = .ok (.aload_n 0, 1) := by decide +kernel
theorem dX9_init_5 : decode cX9_init 5 = .ok (.bipush 20, 2) := by decide +kernel
theorem dX9_init_7 : decode cX9_init 7 = .ok (.newarray .int, 2) := by decide +kernel
theorem dX9_init_9 : decode cX9_init 9 = .ok (.putfield 9, 3) := by decide +kernel
theorem dX9_init_12 : decode cX9_init 12 = .ok (.aload_n 0, 1) := by decide +kernel
theorem dX9_init_13 : decode cX9_init 13 = .ok (.iconst 0, 1) := by decide +kernel
theorem dX9_init_14 : decode cX9_init 14 = .ok (.putfield 15, 3) := by decide +kernel
theorem dX9_init_17 : decode cX9_init 17 = .ok (.return_, 1) := by decide +kernel
theorem dX9_clear_0 : decode cX9_clear 0 = .ok (.aload_n 0, 1) := by decide +kernel
theorem dX9_clear_1 : decode cX9_clear 1 = .ok (.iconst 0, 1) := by decide +kernel
theorem dX9_clear_2 : decode cX9_clear 2 = .ok (.putfield 15, 3) := by decide +kernel
theorem dX9_clear_5 : decode cX9_clear 5 = .ok (.return_, 1) := by decide +kernel
theorem dX9_began_0 : decode cX9_began 0 = .ok (.aload_n 0, 1) := by decide +kernel
theorem dX9_began_1 : decode cX9_began 1 = .ok (.getfield 15, 3) := by decide +kernel
theorem dX9_began_4 : decode cX9_began 4 = .ok (.ifCond .lt 22, 3) := by decide +kernel
theorem dX9_began_7 : decode cX9_began 7 = .ok (.aload_n 0, 1) := by decide +kernel
theorem dX9_began_8 : decode cX9_began 8 = .ok (.getfield 15, 3) := by decide +kernel
theorem dX9_began_11 : decode cX9_began 11 = .ok (.bipush 20, 2) := by decide +kernel
theorem dX9_began_13 : decode cX9_began 13 = .ok (.if_icmp .ge 13, 3) := by decide +kernel
theorem dX9_began_16 : decode cX9_began 16 = .ok (.aload_n 0, 1) := by decide +kernel
theorem dX9_began_17 : decode cX9_began 17 = .ok (.getfield 9, 3) := by decide +kernel
theorem dX9_began_20 : decode cX9_began 20 = .ok (.aload_n 0, 1) := by decide +kernel
theorem dX9_began_21 : decode cX9_began 21 = .ok (.getfield 15, 3) := by decide +kernel
theorem dX9_began_24 : decode cX9_began 24 = .ok (.iload_n 1, 1) := by decide +kernel
theorem dX9_began_25 : decode cX9_began 25 = .ok (.iastore, 1) := by decide +kernel
theorem dX9_began_26 : decode cX9_began 26 = .ok (.aload_n 0, 1) := by decide +kernel
theorem dX9_began_27 : decode cX9_began 27 = .ok (.dup, 1) := by decide +kernel
theorem dX9_began_28 : decode cX9_began 28 = .ok (.getfield 15, 3) := by decide +kernel
theorem dX9_began_31 : decode cX9_began 31 = .ok (.iconst 1, 1) := by decide +kernel
theorem dX9_began_32 : decode cX9_began 32 = .ok (.iadd, 1) := by decide +kernel
theorem dX9_began_33 : decode cX9_began 33 = .ok (.putfield 15, 3) := by decide +kernel
theorem dX9_began_36 : decode cX9_began 36 = .ok (.return_, 1) := by decide +kernel
theorem dX9_bodyAt_0 : decode cX9_bodyAt 0 = .ok (.iload_n 1, 1) := by decide +kernel
theorem dX9_bodyAt_1 : decode cX9_bodyAt 1 = .ok (.ifCond .lt 26, 3) := by decide +kernel
theorem dX9_bodyAt_4 : decode cX9_bodyAt 4 = .ok (.iload_n 1, 1) := by decide +kernel
theorem dX9_bodyAt_5 : decode cX9_bodyAt 5 = .ok (.aload_n 0, 1) := by decide +kernel
theorem dX9_bodyAt_6 : decode cX9_bodyAt 6 = .ok (.getfield 15, 3) := by decide +kernel
theorem dX9_bodyAt_9 : decode cX9_bodyAt 9 = .ok (.if_icmp .ge 18, 3) := by decide +kernel
theorem dX9_bodyAt_12 : decode cX9_bodyAt 12 = .ok (.iload_n 1, 1) := by decide +kernel
theorem dX9_bodyAt_13 : decode cX9_bodyAt 13 = .ok (.bipush 20, 2) := by decide +kernel
theorem dX9_bodyAt_15 : decode cX9_bodyAt 15 = .ok (.if_icmp .ge 12, 3) := by decide +kernel
theorem dX9_bodyAt_18 : decode cX9_bodyAt 18 = .ok (.aload_n 0, 1) := by decide +kernel
theorem dX9_bodyAt_19 : decode cX9_bodyAt 19 = .ok (.getfield 9, 3) := by decide +kernel
theorem dX9_bodyAt_22 : decode cX9_bodyAt 22 = .ok (.iload_n 1, 1) := by decide +kernel
theorem dX9_bodyAt_23 : decode cX9_bodyAt 23 = .ok (.iaload, 1) := by decide +kernel
theorem dX9_bodyAt_24 : decode cX9_bodyAt 24 = .ok (.goto 4, 3) := by decide +kernel
theorem dX9_bodyAt_27 : decode cX9_bodyAt 27 = .ok (.iconst (-1), 1) := by decide +kernel
theorem dX9_bodyAt_28 : decode cX9_bodyAt 28 = .ok (.ireturn, 1) := by decide +kernel
set_option maxRecDepth 20000 in
theorem ggX10_init_X2_init : GoodIn wsX10_init wsX2_init := goodIn_r _ [4, 5, 6, 7, 8, 9, 10, 11, 12, 13, 14, 15, 16, 17, 18, 19, 20, 21, 22, 23, 24, 25, 26, 27, 28, 29, 30, 31, 32, 33, 34, 35, 36, 37, 38, 39, 40, 41, 42, 43, 44, 45, 46, 47, 48, 49, 50, 51, 52, 53, 54, 55, 56, 57, 58, 59, 60, 61, 62, 63, 64, 65, 66, 67, 68, 69, 70, 71, 72, 73, 74, 75, 76, 77, 78, 79, 80, 81, 82, 83, 84] (by decide +kernel) (by decide +kernel)
set_option maxRecDepth 20000 in
theorem gX10_init_X2_init : GoodIn wsX10_init (wsX2_init) := ggX10_init_X2_init
theorem dX10_init_0 : decode cX10_init 0 = .ok (.aload_n 0, 1) := by decide +kernel
theorem dX10_init_1 : decode cX10_init 1 = .ok (.iload_n 1, 1) := by decide +kernel
theorem dX10_init_2 : decode cX10_init 2 = .ok (.iload_n 2, 1) := by decide +kernel
theorem dX10_init_3 : decode cX10_init 3 = .ok (.aload_n 3, 1) := by decide +kernel
theorem dX10_init_4 : decode cX10_init 4 = .ok (.invokespecial 3, 3) := by decide +kernel
theorem dX10_init_7 : decode cX10_init 7 = .ok (.return_, 1) := by decide +kernel
set_option maxRecDepth 20000 in
theorem ggX10_lossAt_X2_lossAt : GoodIn wsX10_lossAt wsX2_lossAt := goodIn_r _ [6, 7, 8, 9, 10, 11, 12, 13, 14, 15, 16, 17, 18, 19, 20, 21, 22, 23, 24, 25, 26, 27, 28, 29, 30, 31, 32, 33, 34, 35, 36, 37, 38, 39, 40, 41, 42, 43, 44, 45, 46, 47, 48, 49, 50, 51, 52, 53, 54, 55, 56, 57, 58, 59, 60, 61, 62, 63, 64, 65, 66, 67, 68, 69, 70, 71, 72, 73, 74, 75, 76] (by decide +kernel) (by decide +kernel)
set_option maxRecDepth 20000 in
theorem gX10_lossAt_X2_lossAt_s9 : GoodIn wsX10_lossAt (va_wsSU RX10 9 yX2_lossAt wsX2_lossAt) := goodIn_app (goodIn_of _ (by decide +kernel)) ggX10_lossAt_X2_lossAt
theorem dX10_lossAt_0 : decode cX10_lossAt 0 = .ok (.aload_n 0, 1) := by decide +kernel
theorem dX10_lossAt_1 : decode cX10_lossAt 1 = .ok (.iload_n 1, 1) := by decide +kernel
theorem dX10_lossAt_2 : decode cX10_lossAt 2 = .ok (.invokespecial 9, 3) := by decide +kernel
theorem dX10_lossAt_5 : decode cX10_lossAt 5 = .ok (.istore_n 2, 1) := by decide +kernel
theorem dX10_lossAt_6 : decode cX10_lossAt 6 = .ok (.iload_n 1, 1) := by decide +kernel
theorem dX10_lossAt_7 : decode cX10_lossAt 7 = .ok (.iconst 5, 1) := by decide +kernel
theorem dX10_lossAt_8 : decode cX10_lossAt 8 = .ok (.if_icmp .ne 9, 3) := by decide +kernel
theorem dX10_lossAt_11 : decode cX10_lossAt 11 = .ok (.iconst 2, 1) := by decide +kernel
theorem dX10_lossAt_12 : decode cX10_lossAt 12 = .ok (.iload_n 2, 1) := by decide +kernel
theorem dX10_lossAt_13 : decode cX10_lossAt 13 = .ok (.imul, 1) := by decide +kernel
theorem dX10_lossAt_14 : decode cX10_lossAt 14 = .ok (.goto 4, 3) := by decide +kernel
theorem dX10_lossAt_17 : decode cX10_lossAt 17 = .ok (.iload_n 2, 1) := by decide +kernel
theorem dX10_lossAt_18 : decode cX10_lossAt 18 = .ok (.ireturn, 1) := by decide +kernel
set_option maxRecDepth 20000 in
theorem ggX10_goes_X9_began : GoodIn wsX10_goes wsX9_began := goodIn_r _ [7, 8, 9, 133, 134] (by decide +kernel) (by decide +kernel)
set_option maxRecDepth 20000 in
theorem gX10_goes_X9_began : GoodIn wsX10_goes (wsV RX10 19 RX9 yX9_began wsX9_began) := goodIn_app (goodIn_of _ (by decide +kernel)) ggX10_goes_X9_began
set_option maxRecDepth 20000 in
theorem ggX10_goes_X2_goes : GoodIn wsX10_goes wsX2_goes := goodIn_r _ [15, 16, 17, 18, 4, 5, 6, 7, 8, 9, 19, 20, 21, 22, 23, 24, 25, 26, 27, 28, 29, 30, 31, 32, 33, 34, 35, 36, 37, 38, 39, 40, 41, 42, 43, 44, 45, 46, 47, 48, 49, 50, 51, 52, 53, 54, 55, 56, 57, 58, 59, 60, 61, 62, 63, 64, 65, 66, 67, 68, 69, 70, 71, 72, 73, 74, 75, 76, 77, 78, 79, 80, 81, 82, 83, 84, 85, 86, 87, 88, 89, 90, 91, 92, 93, 94, 95, 96, 97, 98, 99, 100, 101, 102, 103, 104, 105, 106, 107, 108, 109, 110, 111, 112, 113, 114, 115, 116, 117, 118, 119, 120, 121, 122, 123, 124, 125, 126, 127, 128, 129, 130, 131, 132, 133, 134] (by decide +kernel) (by decide +kernel)
set_option maxRecDepth 20000 in
theorem gX10_goes_X2_goes_s25 : GoodIn wsX10_goes (va_wsSU RX10 25 yX2_goes wsX2_goes) := goodIn_app (goodIn_of _ (by decide +kernel)) ggX10_goes_X2_goes
theorem dX10_goes_0 : decode cX10_goes 0 = .ok (.aload_n 0, 1) := by decide +kernel
theorem dX10_goes_1 : decode cX10_goes 1 = .ok (.getfield 13, 3) := by decide +kernel
theorem dX10_goes_4 : decode cX10_goes 4 = .ok (.bipush 40, 2) := by decide +kernel
theorem dX10_goes_6 : decode cX10_goes 6 = .ok (.invokevirtual 19, 3) := by decide +kernel
theorem dX10_goes_9 : decode cX10_goes 9 = .ok (.aload_n 0, 1) := by decide +kernel
theorem dX10_goes_10 : decode cX10_goes 10 = .ok (.iload_n 1, 1) := by decide +kernel
theorem dX10_goes_11 : decode cX10_goes 11 = .ok (.iconst 1, 1) := by decide +kernel
theorem dX10_goes_12 : decode cX10_goes 12 = .ok (.iadd, 1) := by decide +kernel
theorem dX10_goes_13 : decode cX10_goes 13 = .ok (.invokespecial 25, 3) := by decide +kernel
theorem dX10_goes_16 : decode cX10_goes 16 = .ok (.ireturn, 1) := by decide +kernel
