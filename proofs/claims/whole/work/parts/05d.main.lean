set_option maxRecDepth 20000 in
theorem ggX11_init_X9_init : GoodIn wsX11_init wsX9_init := goodIn_r _ [33, 34, 2, 3, 6, 35, 36, 83, 84] (by decide +kernel) (by decide +kernel)
set_option maxRecDepth 20000 in
theorem gX11_init_X9_init_n21 : GoodIn wsX11_init (wsX9_init) := ggX11_init_X9_init
set_option maxRecDepth 20000 in
theorem ggX11_init_X4_init : GoodIn wsX11_init wsX4_init := goodIn_r _ [39, 40, 2, 3, 41, 42, 6, 43, 44, 45, 46, 47, 85, 86, 87, 88, 89, 90] (by decide +kernel) (by decide +kernel)
set_option maxRecDepth 20000 in
theorem gX11_init_X4_init : GoodIn wsX11_init (wsX4_init) := ggX11_init_X4_init
set_option maxRecDepth 20000 in
theorem ggX11_init_X6_init : GoodIn wsX11_init wsX6_init := goodIn_r _ [50, 51, 2, 3, 6, 52, 53, 54, 55, 56, 57, 58, 59, 60, 61, 91, 92, 93, 94, 95, 96, 97, 98, 99, 100] (by decide +kernel) (by decide +kernel)
set_option maxRecDepth 20000 in
theorem gX11_init_X6_init : GoodIn wsX11_init (wsX6_init) := ggX11_init_X6_init
set_option maxRecDepth 20000 in
theorem ggX11_init_X7_init : GoodIn wsX11_init wsX7_init := goodIn_r _ [63, 64, 2, 3, 65, 66, 67, 68, 101, 102, 103] (by decide +kernel) (by decide +kernel)
set_option maxRecDepth 20000 in
theorem gX11_init_X7_init_n75 : GoodIn wsX11_init (wsX7_init) := ggX11_init_X7_init
theorem dX11_init_0 : decode cX11_init 0 = .ok (.aload_n 0, 1) := by decide +kernel
theorem dX11_init_1 : decode cX11_init 1 = .ok (.invokespecial 1, 3) := by decide +kernel
theorem dX11_init_4 : decode cX11_init 4 = .ok (.aload_n 0, 1) := by decide +kernel
theorem dX11_init_5 : decode cX11_init 5 = .ok (.bipush 8, 2) := by decide +kernel
theorem dX11_init_7 : decode cX11_init 7 = .ok (.anewarray 9, 3) := by decide +kernel
theorem dX11_init_10 : decode cX11_init 10 = .ok (.putfield 11, 3) := by decide +kernel
theorem dX11_init_13 : decode cX11_init 13 = .ok (.aload_n 0, 1) := by decide +kernel
theorem dX11_init_14 : decode cX11_init 14 = .ok (.bipush 8, 2) := by decide +kernel
theorem dX11_init_16 : decode cX11_init 16 = .ok (.newarray .int, 2) := by decide +kernel
theorem dX11_init_18 : decode cX11_init 18 = .ok (.putfield 15, 3) := by decide +kernel
theorem dX11_init_21 : decode cX11_init 21 = .ok (.aload_n 0, 1) := by decide +kernel
theorem dX11_init_22 : decode cX11_init 22 = .ok (.new 19, 3) := by decide +kernel
theorem dX11_init_25 : decode cX11_init 25 = .ok (.dup, 1) := by decide +kernel
theorem dX11_init_26 : decode cX11_init 26 = .ok (.invokespecial 21, 3) := by decide +kernel
theorem dX11_init_29 : decode cX11_init 29 = .ok (.putfield 22, 3) := by decide +kernel
theorem dX11_init_32 : decode cX11_init 32 = .ok (.aload_n 0, 1) := by decide +kernel
theorem dX11_init_33 : decode cX11_init 33 = .ok (.new 26, 3) := by decide +kernel
theorem dX11_init_36 : decode cX11_init 36 = .ok (.dup, 1) := by decide +kernel
theorem dX11_init_37 : decode cX11_init 37 = .ok (.aload_n 0, 1) := by decide +kernel
theorem dX11_init_38 : decode cX11_init 38 = .ok (.getfield 22, 3) := by decide +kernel
theorem dX11_init_41 : decode cX11_init 41 = .ok (.invokespecial 28, 3) := by decide +kernel
theorem dX11_init_44 : decode cX11_init 44 = .ok (.putfield 31, 3) := by decide +kernel
theorem dX11_init_47 : decode cX11_init 47 = .ok (.aload_n 0, 1) := by decide +kernel
theorem dX11_init_48 : decode cX11_init 48 = .ok (.new 26, 3) := by decide +kernel
theorem dX11_init_51 : decode cX11_init 51 = .ok (.dup, 1) := by decide +kernel
theorem dX11_init_52 : decode cX11_init 52 = .ok (.aload_n 0, 1) := by decide +kernel
theorem dX11_init_53 : decode cX11_init 53 = .ok (.getfield 22, 3) := by decide +kernel
theorem dX11_init_56 : decode cX11_init 56 = .ok (.invokespecial 28, 3) := by decide +kernel
theorem dX11_init_59 : decode cX11_init 59 = .ok (.putfield 35, 3) := by decide +kernel
theorem dX11_init_62 : decode cX11_init 62 = .ok (.aload_n 0, 1) := by decide +kernel
theorem dX11_init_63 : decode cX11_init 63 = .ok (.new 26, 3) := by decide +kernel
theorem dX11_init_66 : decode cX11_init 66 = .ok (.dup, 1) := by decide +kernel
theorem dX11_init_67 : decode cX11_init 67 = .ok (.aload_n 0, 1) := by decide +kernel
theorem dX11_init_68 : decode cX11_init 68 = .ok (.getfield 22, 3) := by decide +kernel
theorem dX11_init_71 : decode cX11_init 71 = .ok (.invokespecial 28, 3) := by decide +kernel
theorem dX11_init_74 : decode cX11_init 74 = .ok (.putfield 38, 3) := by decide +kernel
theorem dX11_init_77 : decode cX11_init 77 = .ok (.aload_n 0, 1) := by decide +kernel
theorem dX11_init_78 : decode cX11_init 78 = .ok (.new 41, 3) := by decide +kernel
theorem dX11_init_81 : decode cX11_init 81 = .ok (.dup, 1) := by decide +kernel
theorem dX11_init_82 : decode cX11_init 82 = .ok (.aload_n 0, 1) := by decide +kernel
theorem dX11_init_83 : decode cX11_init 83 = .ok (.getfield 35, 3) := by decide +kernel
theorem dX11_init_86 : decode cX11_init 86 = .ok (.invokespecial 43, 3) := by decide +kernel
theorem dX11_init_89 : decode cX11_init 89 = .ok (.putfield 46, 3) := by decide +kernel
theorem dX11_init_92 : decode cX11_init 92 = .ok (.aload_n 0, 1) := by decide +kernel
theorem dX11_init_93 : decode cX11_init 93 = .ok (.bipush 36, 2) := by decide +kernel
theorem dX11_init_95 : decode cX11_init 95 = .ok (.newarray .int, 2) := by decide +kernel
theorem dX11_init_97 : decode cX11_init 97 = .ok (.putfield 50, 3) := by decide +kernel
theorem dX11_init_100 : decode cX11_init 100 = .ok (.aload_n 0, 1) := by decide +kernel
theorem dX11_init_101 : decode cX11_init 101 = .ok (.bipush 6, 2) := by decide +kernel
theorem dX11_init_103 : decode cX11_init 103 = .ok (.newarray .int, 2) := by decide +kernel
theorem dX11_init_105 : decode cX11_init 105 = .ok (.putfield 53, 3) := by decide +kernel
theorem dX11_init_108 : decode cX11_init 108 = .ok (.aload_n 0, 1) := by decide +kernel
theorem dX11_init_109 : decode cX11_init 109 = .ok (.bipush 6, 2) := by decide +kernel
theorem dX11_init_111 : decode cX11_init 111 = .ok (.newarray .int, 2) := by decide +kernel
theorem dX11_init_113 : decode cX11_init 113 = .ok (.putfield 56, 3) := by decide +kernel
theorem dX11_init_116 : decode cX11_init 116 = .ok (.aload_n 0, 1) := by decide +kernel
theorem dX11_init_117 : decode cX11_init 117 = .ok (.bipush 6, 2) := by decide +kernel
theorem dX11_init_119 : decode cX11_init 119 = .ok (.newarray .int, 2) := by decide +kernel
theorem dX11_init_121 : decode cX11_init 121 = .ok (.putfield 59, 3) := by decide +kernel
theorem dX11_init_124 : decode cX11_init 124 = .ok (.aload_n 0, 1) := by decide +kernel
theorem dX11_init_125 : decode cX11_init 125 = .ok (.bipush 7, 2) := by decide +kernel
theorem dX11_init_127 : decode cX11_init 127 = .ok (.bipush 64, 2) := by decide +kernel
theorem dX11_init_129 : decode cX11_init 129 = .ok (.multianewarray 62 2, 4) := by decide +kernel
theorem dX11_init_133 : decode cX11_init 133 = .ok (.putfield 64, 3) := by decide +kernel
theorem dX11_init_136 : decode cX11_init 136 = .ok (.aload_n 0, 1) := by decide +kernel
theorem dX11_init_137 : decode cX11_init 137 = .ok (.iconst 0, 1) := by decide +kernel
theorem dX11_init_138 : decode cX11_init 138 = .ok (.putfield 67, 3) := by decide +kernel
theorem dX11_init_141 : decode cX11_init 141 = .ok (.aload_n 0, 1) := by decide +kernel
theorem dX11_init_142 : decode cX11_init 142 = .ok (.iconst (-1), 1) := by decide +kernel
theorem dX11_init_143 : decode cX11_init 143 = .ok (.putfield 71, 3) := by decide +kernel
theorem dX11_init_146 : decode cX11_init 146 = .ok (.iconst 0, 1) := by decide +kernel
theorem dX11_init_147 : decode cX11_init 147 = .ok (.istore_n 1, 1) := by decide +kernel
theorem dX11_init_148 : decode cX11_init 148 = .ok (.iload_n 1, 1) := by decide +kernel
theorem dX11_init_149 : decode cX11_init 149 = .ok (.bipush 8, 2) := by decide +kernel
theorem dX11_init_151 : decode cX11_init 151 = .ok (.if_icmp .ge 22, 3) := by decide +kernel
theorem dX11_init_154 : decode cX11_init 154 = .ok (.aload_n 0, 1) := by decide +kernel
theorem dX11_init_155 : decode cX11_init 155 = .ok (.getfield 11, 3) := by decide +kernel
theorem dX11_init_158 : decode cX11_init 158 = .ok (.iload_n 1, 1) := by decide +kernel
theorem dX11_init_159 : decode cX11_init 159 = .ok (.new 9, 3) := by decide +kernel
theorem dX11_init_162 : decode cX11_init 162 = .ok (.dup, 1) := by decide +kernel
theorem dX11_init_163 : decode cX11_init 163 = .ok (.invokespecial 75, 3) := by decide +kernel
theorem dX11_init_166 : decode cX11_init 166 = .ok (.aastore, 1) := by decide +kernel
theorem dX11_init_167 : decode cX11_init 167 = .ok (.iinc 1 1, 3) := by decide +kernel
theorem dX11_init_170 : decode cX11_init 170 = .ok (.goto (-22), 3) := by decide +kernel
theorem dX11_init_173 : decode cX11_init 173 = .ok (.return_, 1) := by decide +kernel
set_option maxRecDepth 20000 in
theorem ggX11_row_X11_shelfAt : GoodIn wsX11_row wsX11_shelfAt := goodIn_r _ [5, 6, 32, 33, 34, 35, 36, 37, 38, 39, 40, 41, 42, 43, 44, 45] (by decide +kernel) (by decide +kernel)
set_option maxRecDepth 20000 in
theorem gX11_row_X11_shelfAt : GoodIn wsX11_row (wsV RX11 76 RX11 yX11_shelfAt wsX11_shelfAt) := goodIn_app (goodIn_of _ (by decide +kernel)) ggX11_row_X11_shelfAt
set_option maxRecDepth 20000 in
theorem ggX11_row_X11_refuse : GoodIn wsX11_row wsX11_refuse := goodIn_r _ [10, 11, 12, 13, 4, 14, 15, 32, 33, 34, 35, 36, 37, 38, 39, 40, 41, 42, 43, 44, 45] (by decide +kernel) (by decide +kernel)
set_option maxRecDepth 20000 in
theorem gX11_row_X11_refuse : GoodIn wsX11_row (wsV RX11 80 RX11 yX11_refuse wsX11_refuse) := goodIn_app (goodIn_of _ (by decide +kernel)) ggX11_row_X11_refuse
set_option maxRecDepth 20000 in
theorem ggX11_row_X7_takeRow : GoodIn wsX11_row wsX7_takeRow := goodIn_r _ [20, 21, 22, 23, 24, 25, 26, 27, 28, 29, 30, 31, 46, 47, 48] (by decide +kernel) (by decide +kernel)
set_option maxRecDepth 20000 in
theorem gX11_row_X7_takeRow : GoodIn wsX11_row (wsV RX11 84 RX7 yX7_takeRow wsX7_takeRow) := goodIn_app (goodIn_of _ (by decide +kernel)) ggX11_row_X7_takeRow
theorem dX11_row_0 : decode cX11_row 0 = .ok (.aload_n 0, 1) := by decide +kernel
theorem dX11_row_1 : decode cX11_row 1 = .ok (.iload_n 1, 1) := by decide +kernel
theorem dX11_row_2 : decode cX11_row 2 = .ok (.invokevirtual 76, 3) := by decide +kernel
theorem dX11_row_5 : decode cX11_row 5 = .ok (.astore 4, 2) := by decide +kernel
theorem dX11_row_7 : decode cX11_row 7 = .ok (.aload 4, 2) := by decide +kernel
theorem dX11_row_9 : decode cX11_row 9 = .ok (.ifnonnull 9, 3) := by decide +kernel
theorem dX11_row_12 : decode cX11_row 12 = .ok (.aload_n 0, 1) := by decide +kernel
theorem dX11_row_13 : decode cX11_row 13 = .ok (.iconst (-1), 1) := by decide +kernel
theorem dX11_row_14 : decode cX11_row 14 = .ok (.invokevirtual 80, 3) := by decide +kernel
theorem dX11_row_17 : decode cX11_row 17 = .ok (.ireturn, 1) := by decide +kernel
theorem dX11_row_18 : decode cX11_row 18 = .ok (.iload_n 3, 1) := by decide +kernel
theorem dX11_row_19 : decode cX11_row 19 = .ok (.ifCond .ge 10, 3) := by decide +kernel
theorem dX11_row_22 : decode cX11_row 22 = .ok (.aload_n 0, 1) := by decide +kernel
theorem dX11_row_23 : decode cX11_row 23 = .ok (.bipush (-4), 2) := by decide +kernel
theorem dX11_row_25 : decode cX11_row 25 = .ok (.invokevirtual 80, 3) := by decide +kernel
theorem dX11_row_28 : decode cX11_row 28 = .ok (.ireturn, 1) := by decide +kernel
theorem dX11_row_29 : decode cX11_row 29 = .ok (.iload_n 2, 1) := by decide +kernel
theorem dX11_row_30 : decode cX11_row 30 = .ok (.ifCond .lt 8, 3) := by decide +kernel
theorem dX11_row_33 : decode cX11_row 33 = .ok (.iload_n 2, 1) := by decide +kernel
theorem dX11_row_34 : decode cX11_row 34 = .ok (.iconst 4, 1) := by decide +kernel
theorem dX11_row_35 : decode cX11_row 35 = .ok (.if_icmp .lt 10, 3) := by decide +kernel
theorem dX11_row_38 : decode cX11_row 38 = .ok (.aload_n 0, 1) := by decide +kernel
theorem dX11_row_39 : decode cX11_row 39 = .ok (.bipush (-6), 2) := by decide +kernel
theorem dX11_row_41 : decode cX11_row 41 = .ok (.invokevirtual 80, 3) := by decide +kernel
theorem dX11_row_44 : decode cX11_row 44 = .ok (.ireturn, 1) := by decide +kernel
theorem dX11_row_45 : decode cX11_row 45 = .ok (.iload_n 3, 1) := by decide +kernel
theorem dX11_row_46 : decode cX11_row 46 = .ok (.sipush 160, 3) := by decide +kernel
theorem dX11_row_49 : decode cX11_row 49 = .ok (.if_icmp .le 10, 3) := by decide +kernel
theorem dX11_row_52 : decode cX11_row 52 = .ok (.aload_n 0, 1) := by decide +kernel
theorem dX11_row_53 : decode cX11_row 53 = .ok (.bipush (-7), 2) := by decide +kernel
theorem dX11_row_55 : decode cX11_row 55 = .ok (.invokevirtual 80, 3) := by decide +kernel
theorem dX11_row_58 : decode cX11_row 58 = .ok (.ireturn, 1) := by decide +kernel
theorem dX11_row_59 : decode cX11_row 59 = .ok (.aload 4, 2) := by decide +kernel
theorem dX11_row_61 : decode cX11_row 61 = .ok (.iload_n 2, 1) := by decide +kernel
theorem dX11_row_62 : decode cX11_row 62 = .ok (.iload_n 3, 1) := by decide +kernel
theorem dX11_row_63 : decode cX11_row 63 = .ok (.invokevirtual 84, 3) := by decide +kernel
theorem dX11_row_66 : decode cX11_row 66 = .ok (.iconst 1, 1) := by decide +kernel
theorem dX11_row_67 : decode cX11_row 67 = .ok (.ireturn, 1) := by decide +kernel
set_option maxRecDepth 20000 in
theorem ggX11_set_X11_shelfAt : GoodIn wsX11_set wsX11_shelfAt := goodIn_r _ [5, 6, 41, 42, 43, 44, 45, 46, 47, 48, 49, 50, 51, 52, 53, 54] (by decide +kernel) (by decide +kernel)
set_option maxRecDepth 20000 in
theorem gX11_set_X11_shelfAt : GoodIn wsX11_set (wsV RX11 76 RX11 yX11_shelfAt wsX11_shelfAt) := goodIn_app (goodIn_of _ (by decide +kernel)) ggX11_set_X11_shelfAt
set_option maxRecDepth 20000 in
theorem ggX11_set_X7_hasRow : GoodIn wsX11_set wsX7_hasRow := goodIn_r _ [11, 12, 55, 56, 57] (by decide +kernel) (by decide +kernel)
set_option maxRecDepth 20000 in
theorem gX11_set_X7_hasRow : GoodIn wsX11_set (wsV RX11 88 RX7 yX7_hasRow wsX7_hasRow) := goodIn_app (goodIn_of _ (by decide +kernel)) ggX11_set_X7_hasRow
set_option maxRecDepth 20000 in
theorem ggX11_set_X11_lackOfRow : GoodIn wsX11_set wsX11_lackOfRow := goodIn_r _ [15, 16, 17, 18, 10, 19, 12, 55, 56, 57] (by decide +kernel) (by decide +kernel)
set_option maxRecDepth 20000 in
theorem gX11_set_X11_lackOfRow : GoodIn wsX11_set (va_wsS RX11 92 yX11_lackOfRow wsX11_lackOfRow) := goodIn_app (goodIn_of _ (by decide +kernel)) ggX11_set_X11_lackOfRow
set_option maxRecDepth 20000 in
theorem ggX11_set_X11_refuse : GoodIn wsX11_set wsX11_refuse := goodIn_r _ [23, 24, 25, 26, 4, 27, 28, 41, 42, 43, 44, 45, 46, 47, 48, 49, 50, 51, 52, 53, 54] (by decide +kernel) (by decide +kernel)
set_option maxRecDepth 20000 in
theorem gX11_set_X11_refuse : GoodIn wsX11_set (wsV RX11 80 RX11 yX11_refuse wsX11_refuse) := goodIn_app (goodIn_of _ (by decide +kernel)) ggX11_set_X11_refuse
set_option maxRecDepth 20000 in
theorem ggX11_set_X7_hasElement : GoodIn wsX11_set wsX7_hasElement := goodIn_r _ [32, 33, 34, 8, 9, 10, 11, 12, 55, 56, 57] (by decide +kernel) (by decide +kernel)
set_option maxRecDepth 20000 in
theorem gX11_set_X7_hasElement : GoodIn wsX11_set (wsV RX11 96 RX7 yX7_hasElement wsX7_hasElement) := goodIn_app (goodIn_of _ (by decide +kernel)) ggX11_set_X7_hasElement
set_option maxRecDepth 20000 in
theorem ggX11_set_X7_put : GoodIn wsX11_set wsX7_put := goodIn_r _ [38, 12, 39, 40, 30, 31, 10, 32, 33, 34, 8, 9, 11, 55, 56, 57] (by decide +kernel) (by decide +kernel)
set_option maxRecDepth 20000 in
theorem gX11_set_X7_put : GoodIn wsX11_set (wsV RX11 100 RX7 yX7_put wsX7_put) := goodIn_app (goodIn_of _ (by decide +kernel)) ggX11_set_X7_put
theorem dX11_set_0 : decode cX11_set 0 = .ok (.aload_n 0, 1) := by decide +kernel
theorem dX11_set_1 : decode cX11_set 1 = .ok (.iload_n 1, 1) := by decide +kernel
theorem dX11_set_2 : decode cX11_set 2 = .ok (.invokevirtual 76, 3) := by decide +kernel
theorem dX11_set_5 : decode cX11_set 5 = .ok (.astore 5, 2) := by decide +kernel
theorem dX11_set_7 : decode cX11_set 7 = .ok (.aload 5, 2) := by decide +kernel
theorem dX11_set_9 : decode cX11_set 9 = .ok (.ifnull 11, 3) := by decide +kernel
theorem dX11_set_12 : decode cX11_set 12 = .ok (.aload 5, 2) := by decide +kernel
theorem dX11_set_14 : decode cX11_set 14 = .ok (.invokevirtual 88, 3) := by decide +kernel
theorem dX11_set_17 : decode cX11_set 17 = .ok (.ifCond .ne 13, 3) := by decide +kernel
theorem dX11_set_20 : decode cX11_set 20 = .ok (.aload_n 0, 1) := by decide +kernel
theorem dX11_set_21 : decode cX11_set 21 = .ok (.aload 5, 2) := by decide +kernel
theorem dX11_set_23 : decode cX11_set 23 = .ok (.invokestatic 92, 3) := by decide +kernel
theorem dX11_set_26 : decode cX11_set 26 = .ok (.invokevirtual 80, 3) := by decide +kernel
theorem dX11_set_29 : decode cX11_set 29 = .ok (.ireturn, 1) := by decide +kernel
theorem dX11_set_30 : decode cX11_set 30 = .ok (.aload 5, 2) := by decide +kernel
theorem dX11_set_32 : decode cX11_set 32 = .ok (.iload_n 2, 1) := by decide +kernel
theorem dX11_set_33 : decode cX11_set 33 = .ok (.invokevirtual 96, 3) := by decide +kernel
theorem dX11_set_36 : decode cX11_set 36 = .ok (.ifCond .ne 10, 3) := by decide +kernel
theorem dX11_set_39 : decode cX11_set 39 = .ok (.aload_n 0, 1) := by decide +kernel
theorem dX11_set_40 : decode cX11_set 40 = .ok (.bipush (-5), 2) := by decide +kernel
theorem dX11_set_42 : decode cX11_set 42 = .ok (.invokevirtual 80, 3) := by decide +kernel
theorem dX11_set_45 : decode cX11_set 45 = .ok (.ireturn, 1) := by decide +kernel
theorem dX11_set_46 : decode cX11_set 46 = .ok (.aload 5, 2) := by decide +kernel
theorem dX11_set_48 : decode cX11_set 48 = .ok (.iload_n 2, 1) := by decide +kernel
theorem dX11_set_49 : decode cX11_set 49 = .ok (.lload_n 3, 1) := by decide +kernel
theorem dX11_set_50 : decode cX11_set 50 = .ok (.invokevirtual 100, 3) := by decide +kernel
theorem dX11_set_53 : decode cX11_set 53 = .ok (.iconst 1, 1) := by decide +kernel
theorem dX11_set_54 : decode cX11_set 54 = .ok (.ireturn, 1) := by decide +kernel
set_option maxRecDepth 20000 in
theorem ggX11_copy_X11_shelfAt : GoodIn wsX11_copy wsX11_shelfAt := goodIn_r _ [10, 11, 44, 45, 46, 47, 48, 49, 50, 51, 52, 53, 54, 55, 56, 57] (by decide +kernel) (by decide +kernel)
set_option maxRecDepth 20000 in
theorem gX11_copy_X11_shelfAt : GoodIn wsX11_copy (wsV RX11 76 RX11 yX11_shelfAt wsX11_shelfAt) := goodIn_app (goodIn_of _ (by decide +kernel)) ggX11_copy_X11_shelfAt
set_option maxRecDepth 20000 in
theorem ggX11_copy_X11_refusalOfTwo : GoodIn wsX11_copy wsX11_refusalOfTwo := goodIn_r _ [14, 15, 16, 17, 18, 19, 20, 21, 22, 23, 24, 25, 41, 42, 43] (by decide +kernel) (by decide +kernel)
set_option maxRecDepth 20000 in
theorem gX11_copy_X11_refusalOfTwo : GoodIn wsX11_copy (va_wsS RX11 104 yX11_refusalOfTwo wsX11_refusalOfTwo) := goodIn_app (goodIn_of _ (by decide +kernel)) ggX11_copy_X11_refusalOfTwo
set_option maxRecDepth 20000 in
theorem ggX11_copy_X11_refuse : GoodIn wsX11_copy wsX11_refuse := goodIn_r _ [29, 30, 31, 32, 9, 33, 34, 44, 45, 46, 47, 48, 49, 50, 51, 52, 53, 54, 55, 56, 57] (by decide +kernel) (by decide +kernel)
set_option maxRecDepth 20000 in
theorem gX11_copy_X11_refuse : GoodIn wsX11_copy (wsV RX11 80 RX11 yX11_refuse wsX11_refuse) := goodIn_app (goodIn_of _ (by decide +kernel)) ggX11_copy_X11_refuse
set_option maxRecDepth 20000 in
theorem ggX11_copy_X7_hasPart : GoodIn wsX11_copy wsX7_hasPart := goodIn_r _ [38, 39, 40, 23, 24, 19, 25, 21, 41, 42, 43] (by decide +kernel) (by decide +kernel)
set_option maxRecDepth 20000 in
theorem gX11_copy_X7_hasPart : GoodIn wsX11_copy (wsV RX11 108 RX7 yX7_hasPart wsX7_hasPart) := goodIn_app (goodIn_of _ (by decide +kernel)) ggX11_copy_X7_hasPart
theorem dX11_copy_0 : decode cX11_copy 0 = .ok (.aload_n 0, 1) := by decide +kernel
theorem dX11_copy_1 : decode cX11_copy 1 = .ok (.iload_n 1, 1) := by decide +kernel
theorem dX11_copy_2 : decode cX11_copy 2 = .ok (.invokevirtual 76, 3) := by decide +kernel
theorem dX11_copy_5 : decode cX11_copy 5 = .ok (.astore 6, 2) := by decide +kernel
theorem dX11_copy_7 : decode cX11_copy 7 = .ok (.aload_n 0, 1) := by decide +kernel
theorem dX11_copy_8 : decode cX11_copy 8 = .ok (.iload_n 2, 1) := by decide +kernel
theorem dX11_copy_9 : decode cX11_copy 9 = .ok (.invokevirtual 76, 3) := by decide +kernel
theorem dX11_copy_12 : decode cX11_copy 12 = .ok (.astore 7, 2) := by decide +kernel
theorem dX11_copy_14 : decode cX11_copy 14 = .ok (.aload 6, 2) := by decide +kernel
theorem dX11_copy_16 : decode cX11_copy 16 = .ok (.aload 7, 2) := by decide +kernel
theorem dX11_copy_18 : decode cX11_copy 18 = .ok (.invokestatic 104, 3) := by decide +kernel
theorem dX11_copy_21 : decode cX11_copy 21 = .ok (.istore 8, 2) := by decide +kernel
theorem dX11_copy_23 : decode cX11_copy 23 = .ok (.iload 8, 2) := by decide +kernel
theorem dX11_copy_25 : decode cX11_copy 25 = .ok (.ifCond .ne 13, 3) := by decide +kernel
theorem dX11_copy_28 : decode cX11_copy 28 = .ok (.aload 6, 2) := by decide +kernel
theorem dX11_copy_30 : decode cX11_copy 30 = .ok (.ifnull 8, 3) := by decide +kernel
theorem dX11_copy_33 : decode cX11_copy 33 = .ok (.aload 7, 2) := by decide +kernel
theorem dX11_copy_35 : decode cX11_copy 35 = .ok (.ifnonnull 10, 3) := by decide +kernel
theorem dX11_copy_38 : decode cX11_copy 38 = .ok (.aload_n 0, 1) := by decide +kernel
theorem dX11_copy_39 : decode cX11_copy 39 = .ok (.iload 8, 2) := by decide +kernel
theorem dX11_copy_41 : decode cX11_copy 41 = .ok (.invokevirtual 80, 3) := by decide +kernel
theorem dX11_copy_44 : decode cX11_copy 44 = .ok (.ireturn, 1) := by decide +kernel
theorem dX11_copy_45 : decode cX11_copy 45 = .ok (.iload 5, 2) := by decide +kernel
theorem dX11_copy_47 : decode cX11_copy 47 = .ok (.ifCond .ge 10, 3) := by decide +kernel
theorem dX11_copy_50 : decode cX11_copy 50 = .ok (.aload_n 0, 1) := by decide +kernel
theorem dX11_copy_51 : decode cX11_copy 51 = .ok (.bipush (-4), 2) := by decide +kernel
theorem dX11_copy_53 : decode cX11_copy 53 = .ok (.invokevirtual 80, 3) := by decide +kernel
theorem dX11_copy_56 : decode cX11_copy 56 = .ok (.ireturn, 1) := by decide +kernel
theorem dX11_copy_57 : decode cX11_copy 57 = .ok (.aload 6, 2) := by decide +kernel
theorem dX11_copy_59 : decode cX11_copy 59 = .ok (.iload_n 3, 1) := by decide +kernel
theorem dX11_copy_60 : decode cX11_copy 60 = .ok (.iload 5, 2) := by decide +kernel
theorem dX11_copy_62 : decode cX11_copy 62 = .ok (.invokevirtual 108, 3) := by decide +kernel
theorem dX11_copy_65 : decode cX11_copy 65 = .ok (.ifCond .eq 15, 3) := by decide +kernel
theorem dX11_copy_68 : decode cX11_copy 68 = .ok (.aload 7, 2) := by decide +kernel
theorem dX11_copy_70 : decode cX11_copy 70 = .ok (.iload 4, 2) := by decide +kernel
theorem dX11_copy_72 : decode cX11_copy 72 = .ok (.iload 5, 2) := by decide +kernel
theorem dX11_copy_74 : decode cX11_copy 74 = .ok (.invokevirtual 108, 3) := by decide +kernel
theorem dX11_copy_77 : decode cX11_copy 77 = .ok (.ifCond .ne 10, 3) := by decide +kernel
theorem dX11_copy_80 : decode cX11_copy 80 = .ok (.aload_n 0, 1) := by decide +kernel
theorem dX11_copy_81 : decode cX11_copy 81 = .ok (.bipush (-5), 2) := by decide +kernel
theorem dX11_copy_83 : decode cX11_copy 83 = .ok (.invokevirtual 80, 3) := by decide +kernel
theorem dX11_copy_86 : decode cX11_copy 86 = .ok (.ireturn, 1) := by decide +kernel
theorem dX11_copy_87 : decode cX11_copy 87 = .ok (.aload 6, 2) := by decide +kernel
theorem dX11_copy_89 : decode cX11_copy 89 = .ok (.getfield 112, 3) := by decide +kernel
theorem dX11_copy_92 : decode cX11_copy 92 = .ok (.iload_n 3, 1) := by decide +kernel
theorem dX11_copy_93 : decode cX11_copy 93 = .ok (.aload 7, 2) := by decide +kernel
theorem dX11_copy_95 : decode cX11_copy 95 = .ok (.getfield 112, 3) := by decide +kernel
theorem dX11_copy_98 : decode cX11_copy 98 = .ok (.iload 4, 2) := by decide +kernel
theorem dX11_copy_100 : decode cX11_copy 100 = .ok (.iload 5, 2) := by decide +kernel
theorem dX11_copy_102 : decode cX11_copy 102 = .ok (.invokestatic 116, 3) := by decide +kernel
theorem dX11_copy_105 : decode cX11_copy 105 = .ok (.iconst 1, 1) := by decide +kernel
theorem dX11_copy_106 : decode cX11_copy 106 = .ok (.ireturn, 1) := by decide +kernel
set_option maxRecDepth 20000 in
theorem ggX11_element_X11_shelfAt : GoodIn wsX11_element wsX11_shelfAt := goodIn_r _ [5, 6, 23, 24, 25, 26, 27, 28, 29, 30, 31, 32, 33, 34, 35, 36] (by decide +kernel) (by decide +kernel)
set_option maxRecDepth 20000 in
theorem gX11_element_X11_shelfAt : GoodIn wsX11_element (wsV RX11 76 RX11 yX11_shelfAt wsX11_shelfAt) := goodIn_app (goodIn_of _ (by decide +kernel)) ggX11_element_X11_shelfAt
set_option maxRecDepth 20000 in
theorem ggX11_element_X7_elementAt : GoodIn wsX11_element wsX7_elementAt := goodIn_r _ [11, 12, 13, 14, 15, 10, 16, 17, 18, 19, 20, 21, 22, 37, 38, 39] (by decide +kernel) (by decide +kernel)
set_option maxRecDepth 20000 in
theorem gX11_element_X7_elementAt : GoodIn wsX11_element (wsV RX11 122 RX7 yX7_elementAt wsX7_elementAt) := goodIn_app (goodIn_of _ (by decide +kernel)) ggX11_element_X7_elementAt
theorem dX11_element_0 : decode cX11_element 0 = .ok (.aload_n 0, 1) := by decide +kernel
theorem dX11_element_1 : decode cX11_element 1 = .ok (.iload_n 1, 1) := by decide +kernel
theorem dX11_element_2 : decode cX11_element 2 = .ok (.invokevirtual 76, 3) := by decide +kernel
theorem dX11_element_5 : decode cX11_element 5 = .ok (.astore_n 3, 1) := by decide +kernel
theorem dX11_element_6 : decode cX11_element 6 = .ok (.aload_n 3, 1) := by decide +kernel
theorem dX11_element_7 : decode cX11_element 7 = .ok (.ifnonnull 7, 3) := by decide +kernel
theorem dX11_element_10 : decode cX11_element 10 = .ok (.lconst 0, 1) := by decide +kernel
theorem dX11_element_11 : decode cX11_element 11 = .ok (.goto 8, 3) := by decide +kernel
theorem dX11_element_14 : decode cX11_element 14 = .ok (.aload_n 3, 1) := by decide +kernel
theorem dX11_element_15 : decode cX11_element 15 = .ok (.iload_n 2, 1) := by decide +kernel
theorem dX11_element_16 : decode cX11_element 16 = .ok (.invokevirtual 122, 3) := by decide +kernel
theorem dX11_element_19 : decode cX11_element 19 = .ok (.lreturn, 1) := by decide +kernel
set_option maxRecDepth 20000 in
theorem ggX11_show_X11_shelfAt : GoodIn wsX11_show wsX11_shelfAt := goodIn_r _ [7, 8, 25, 26, 27, 28, 29, 30, 31, 32, 33, 34, 35, 36, 37, 38] (by decide +kernel) (by decide +kernel)
set_option maxRecDepth 20000 in
theorem gX11_show_X11_shelfAt : GoodIn wsX11_show (wsV RX11 76 RX11 yX11_shelfAt wsX11_shelfAt) := goodIn_app (goodIn_of _ (by decide +kernel)) ggX11_show_X11_shelfAt
set_option maxRecDepth 20000 in
theorem ggX11_show_X4_personAt : GoodIn wsX11_show wsX4_personAt := goodIn_r _ [13, 14, 15, 42, 43, 44, 45, 46, 47] (by decide +kernel) (by decide +kernel)
set_option maxRecDepth 20000 in
theorem gX11_show_X4_personAt : GoodIn wsX11_show (wsV RX11 126 RX4 yX4_personAt wsX4_personAt) := goodIn_app (goodIn_of _ (by decide +kernel)) ggX11_show_X4_personAt
set_option maxRecDepth 20000 in
theorem ggX11_show_X11_refuse : GoodIn wsX11_show wsX11_refuse := goodIn_r _ [19, 20, 21, 22, 6, 23, 24, 25, 26, 27, 28, 29, 30, 31, 32, 33, 34, 35, 36, 37, 38] (by decide +kernel) (by decide +kernel)
set_option maxRecDepth 20000 in
theorem gX11_show_X11_refuse : GoodIn wsX11_show (wsV RX11 80 RX11 yX11_refuse wsX11_refuse) := goodIn_app (goodIn_of _ (by decide +kernel)) ggX11_show_X11_refuse
theorem dX11_show_0 : decode cX11_show 0 = .ok (.aload_n 0, 1) := by decide +kernel
theorem dX11_show_1 : decode cX11_show 1 = .ok (.iload_n 1, 1) := by decide +kernel
theorem dX11_show_2 : decode cX11_show 2 = .ok (.invokevirtual 76, 3) := by decide +kernel
theorem dX11_show_5 : decode cX11_show 5 = .ok (.astore_n 3, 1) := by decide +kernel
theorem dX11_show_6 : decode cX11_show 6 = .ok (.aload_n 3, 1) := by decide +kernel
theorem dX11_show_7 : decode cX11_show 7 = .ok (.ifnull 19, 3) := by decide +kernel
theorem dX11_show_10 : decode cX11_show 10 = .ok (.iload_n 2, 1) := by decide +kernel
theorem dX11_show_11 : decode cX11_show 11 = .ok (.iconst (-1), 1) := by decide +kernel
theorem dX11_show_12 : decode cX11_show 12 = .ok (.if_icmp .eq 20, 3) := by decide +kernel
theorem dX11_show_15 : decode cX11_show 15 = .ok (.aload_n 0, 1) := by decide +kernel
theorem dX11_show_16 : decode cX11_show 16 = .ok (.getfield 31, 3) := by decide +kernel
theorem dX11_show_19 : decode cX11_show 19 = .ok (.iload_n 2, 1) := by decide +kernel
theorem dX11_show_20 : decode cX11_show 20 = .ok (.invokevirtual 126, 3) := by decide +kernel
theorem dX11_show_23 : decode cX11_show 23 = .ok (.ifnonnull 9, 3) := by decide +kernel
theorem dX11_show_26 : decode cX11_show 26 = .ok (.aload_n 0, 1) := by decide +kernel
theorem dX11_show_27 : decode cX11_show 27 = .ok (.iconst (-1), 1) := by decide +kernel
theorem dX11_show_28 : decode cX11_show 28 = .ok (.invokevirtual 80, 3) := by decide +kernel
theorem dX11_show_31 : decode cX11_show 31 = .ok (.ireturn, 1) := by decide +kernel
theorem dX11_show_32 : decode cX11_show 32 = .ok (.aload_n 3, 1) := by decide +kernel
theorem dX11_show_33 : decode cX11_show 33 = .ok (.iload_n 2, 1) := by decide +kernel
theorem dX11_show_34 : decode cX11_show 34 = .ok (.putfield 130, 3) := by decide +kernel
theorem dX11_show_37 : decode cX11_show 37 = .ok (.iload_n 2, 1) := by decide +kernel
theorem dX11_show_38 : decode cX11_show 38 = .ok (.iconst (-1), 1) := by decide +kernel
theorem dX11_show_39 : decode cX11_show 39 = .ok (.if_icmp .ne 7, 3) := by decide +kernel
theorem dX11_show_42 : decode cX11_show 42 = .ok (.iconst 0, 1) := by decide +kernel
theorem dX11_show_43 : decode cX11_show 43 = .ok (.goto 4, 3) := by decide +kernel
theorem dX11_show_46 : decode cX11_show 46 = .ok (.iconst 1, 1) := by decide +kernel
theorem dX11_show_47 : decode cX11_show 47 = .ok (.ireturn, 1) := by decide +kernel
set_option maxRecDepth 20000 in
theorem ggX11_holds_X11_shelfAt : GoodIn wsX11_holds wsX11_shelfAt := goodIn_r _ [6, 7, 11, 12, 13, 14, 15, 16, 17, 18, 19, 20, 21, 22, 23, 24] (by decide +kernel) (by decide +kernel)
set_option maxRecDepth 20000 in
theorem gX11_holds_X11_shelfAt : GoodIn wsX11_holds (wsV RX11 76 RX11 yX11_shelfAt wsX11_shelfAt) := goodIn_app (goodIn_of _ (by decide +kernel)) ggX11_holds_X11_shelfAt
theorem dX11_holds_0 : decode cX11_holds 0 = .ok (.aload_n 0, 1) := by decide +kernel
theorem dX11_holds_1 : decode cX11_holds 1 = .ok (.iload_n 1, 1) := by decide +kernel
theorem dX11_holds_2 : decode cX11_holds 2 = .ok (.invokevirtual 76, 3) := by decide +kernel
theorem dX11_holds_5 : decode cX11_holds 5 = .ok (.astore_n 2, 1) := by decide +kernel
theorem dX11_holds_6 : decode cX11_holds 6 = .ok (.aload_n 2, 1) := by decide +kernel
theorem dX11_holds_7 : decode cX11_holds 7 = .ok (.ifnonnull 7, 3) := by decide +kernel
theorem dX11_holds_10 : decode cX11_holds 10 = .ok (.iconst (-1), 1) := by decide +kernel
theorem dX11_holds_11 : decode cX11_holds 11 = .ok (.goto 7, 3) := by decide +kernel
theorem dX11_holds_14 : decode cX11_holds 14 = .ok (.aload_n 2, 1) := by decide +kernel
theorem dX11_holds_15 : decode cX11_holds 15 = .ok (.getfield 130, 3) := by decide +kernel
theorem dX11_holds_18 : decode cX11_holds 18 = .ok (.ireturn, 1) := by decide +kernel
set_option maxRecDepth 20000 in
theorem ggX11_says_X11_shelfAt : GoodIn wsX11_says wsX11_shelfAt := goodIn_r _ [9, 10, 94, 95, 96, 97, 98, 99, 100, 101, 102, 103, 104, 105, 106, 107] (by decide +kernel) (by decide +kernel)
set_option maxRecDepth 20000 in
theorem gX11_says_X11_shelfAt : GoodIn wsX11_says (wsV RX11 76 RX11 yX11_shelfAt wsX11_shelfAt) := goodIn_app (goodIn_of _ (by decide +kernel)) ggX11_says_X11_shelfAt
set_option maxRecDepth 20000 in
theorem ggX11_says_X11_refuse : GoodIn wsX11_says wsX11_refuse := goodIn_r _ [14, 15, 16, 17, 8, 18, 19, 94, 95, 96, 97, 98, 99, 100, 101, 102, 103, 104, 105, 106, 107] (by decide +kernel) (by decide +kernel)
set_option maxRecDepth 20000 in
theorem gX11_says_X11_refuse : GoodIn wsX11_says (wsV RX11 80 RX11 yX11_refuse wsX11_refuse) := goodIn_app (goodIn_of _ (by decide +kernel)) ggX11_says_X11_refuse
set_option maxRecDepth 20000 in
theorem ggX11_says_X7_hasRow : GoodIn wsX11_says wsX7_hasRow := goodIn_r _ [24, 25, 108, 109, 110] (by decide +kernel) (by decide +kernel)
set_option maxRecDepth 20000 in
theorem gX11_says_X7_hasRow : GoodIn wsX11_says (wsV RX11 88 RX7 yX7_hasRow wsX7_hasRow) := goodIn_app (goodIn_of _ (by decide +kernel)) ggX11_says_X7_hasRow
set_option maxRecDepth 20000 in
theorem ggX11_says_X4_personAt : GoodIn wsX11_says wsX4_personAt := goodIn_r _ [30, 31, 32, 174, 175, 176, 177, 178, 179] (by decide +kernel) (by decide +kernel)
set_option maxRecDepth 20000 in
theorem gX11_says_X4_personAt : GoodIn wsX11_says (wsV RX11 126 RX4 yX4_personAt wsX4_personAt) := goodIn_app (goodIn_of _ (by decide +kernel)) ggX11_says_X4_personAt
set_option maxRecDepth 20000 in
theorem ggX11_says_X11_isOfKind : GoodIn wsX11_says wsX11_isOfKind := goodIn_r _ [35, 36, 37, 38, 39, 40, 41] (by decide +kernel) (by decide +kernel)
set_option maxRecDepth 20000 in
theorem gX11_says_X11_isOfKind : GoodIn wsX11_says (va_wsS RX11 133 yX11_isOfKind wsX11_isOfKind) := goodIn_app (goodIn_of _ (by decide +kernel)) ggX11_says_X11_isOfKind
set_option maxRecDepth 20000 in
theorem ggX11_says_X0_lossAt : GoodIn wsX11_says wsX0_lossAt := goodIn_r _ [48, 49, 50, 51, 52, 53, 54, 55, 56, 57, 43, 58, 59, 60, 61, 62, 111, 112, 113, 114, 115, 116, 117, 118, 119, 120, 121, 122, 123, 124, 125, 126, 127, 128, 129, 130, 131, 132, 133, 134, 135, 136, 137, 138, 139, 140, 141, 142, 143, 144, 145, 146, 147, 148, 149, 150, 151, 152, 153, 154, 155, 156, 157, 158, 159, 160, 161, 162, 163, 164, 165, 166, 167, 168, 169, 170, 171, 172, 173] (by decide +kernel) (by decide +kernel)
set_option maxRecDepth 20000 in
theorem gX11_says_X0_lossAt_u145X0 : GoodIn wsX11_says (va_wsO RX11 145 RX0 "CarbonCopies$Person" ⟨"CarbonCopies$Person", "lossAt", "(I)I"⟩ yX0_lossAt wsX0_lossAt) := goodIn_app (goodIn_of _ (by decide +kernel)) ggX11_says_X0_lossAt
set_option maxRecDepth 20000 in
theorem ggX11_says_X1_lossAt : GoodIn wsX11_says wsX1_lossAt := goodIn_r _ [66, 67, 68, 69, 70, 71, 72, 73, 74, 75, 43, 76, 59, 60, 61, 62, 111, 112, 113, 114, 115, 116, 117, 118, 119, 120, 121, 122, 123, 124, 125, 126, 127, 128, 129, 130, 131, 132, 133, 134, 135, 136, 137, 138, 139, 140, 141, 142, 143, 144, 145, 146, 147, 148, 149, 150, 151, 152, 153, 154, 155, 156, 157, 158, 159, 160, 161, 162, 163, 164, 165, 166, 167, 168, 169, 170, 171, 172, 173] (by decide +kernel) (by decide +kernel)
set_option maxRecDepth 20000 in
theorem gX11_says_X1_lossAt_u145X1 : GoodIn wsX11_says (va_wsO RX11 145 RX1 "CarbonCopies$Person" ⟨"CarbonCopies$Person", "lossAt", "(I)I"⟩ yX1_lossAt wsX1_lossAt) := goodIn_app (goodIn_of _ (by decide +kernel)) ggX11_says_X1_lossAt
set_option maxRecDepth 20000 in
theorem ggX11_says_X2_lossAt : GoodIn wsX11_says wsX2_lossAt := goodIn_r _ [80, 81, 43, 82, 59, 60, 61, 62, 111, 112, 113, 114, 115, 116, 117, 118, 119, 120, 121, 122, 123, 124, 125, 126, 127, 128, 129, 130, 131, 132, 133, 134, 135, 136, 137, 138, 139, 140, 141, 142, 143, 144, 145, 146, 147, 148, 149, 150, 151, 152, 153, 154, 155, 156, 157, 158, 159, 160, 161, 162, 163, 164, 165, 166, 167, 168, 169, 170, 171, 172, 173] (by decide +kernel) (by decide +kernel)
set_option maxRecDepth 20000 in
theorem gX11_says_X2_lossAt_u145X2 : GoodIn wsX11_says (va_wsO RX11 145 RX2 "CarbonCopies$Person" ⟨"CarbonCopies$Person", "lossAt", "(I)I"⟩ yX2_lossAt wsX2_lossAt) := goodIn_app (goodIn_of _ (by decide +kernel)) ggX11_says_X2_lossAt
set_option maxRecDepth 20000 in
theorem ggX11_says_X3_lossAt : GoodIn wsX11_says wsX3_lossAt := goodIn_r _ [56, 57, 43, 58, 59, 60, 61, 62, 111, 112, 113, 114, 115, 116, 117, 118, 119, 120, 121, 122, 123, 124, 125, 126, 127, 128, 129, 130, 131, 132, 133, 134, 135, 136, 137, 138, 139, 140, 141, 142, 143, 144, 145, 146, 147, 148, 149, 150, 151, 152, 153, 154, 155, 156, 157, 158, 159, 160, 161, 162, 163, 164, 165, 166, 167, 168, 169, 170, 171, 172, 173] (by decide +kernel) (by decide +kernel)
set_option maxRecDepth 20000 in
theorem gX11_says_X3_lossAt_u145X3 : GoodIn wsX11_says (va_wsO RX11 145 RX3 "CarbonCopies$Person" ⟨"CarbonCopies$Person", "lossAt", "(I)I"⟩ yX3_lossAt wsX3_lossAt) := goodIn_app (goodIn_of _ (by decide +kernel)) ggX11_says_X3_lossAt
set_option maxRecDepth 20000 in
theorem ggX11_says_X5_lossAt : GoodIn wsX11_says wsX5_lossAt := goodIn_r _ [61, 62, 111, 112, 113, 114, 115, 116, 117, 118, 119, 120, 121, 122, 123, 124, 125, 126, 127, 128, 129, 130, 131, 132, 133, 134, 135, 136, 137, 138, 139, 140, 141, 142, 143, 144, 145, 146, 147, 148, 149, 150, 151, 152, 153, 154, 155, 156, 157, 158, 159, 160, 161, 162, 163, 164, 165, 166, 167, 168, 169, 170, 171, 172, 173] (by decide +kernel) (by decide +kernel)
set_option maxRecDepth 20000 in
theorem gX11_says_X5_lossAt : GoodIn wsX11_says (wsV RX11 145 RX5 yX5_lossAt wsX5_lossAt) := goodIn_app (goodIn_of _ (by decide +kernel)) ggX11_says_X5_lossAt
set_option maxRecDepth 20000 in
theorem ggX11_says_X8_lossAt : GoodIn wsX11_says wsX8_lossAt := goodIn_r _ [74, 75, 43, 76, 59, 60, 61, 62, 111, 112, 113, 114, 115, 116, 117, 118, 119, 120, 121, 122, 123, 124, 125, 126, 127, 128, 129, 130, 131, 132, 133, 134, 135, 136, 137, 138, 139, 140, 141, 142, 143, 144, 145, 146, 147, 148, 149, 150, 151, 152, 153, 154, 155, 156, 157, 158, 159, 160, 161, 162, 163, 164, 165, 166, 167, 168, 169, 170, 171, 172, 173] (by decide +kernel) (by decide +kernel)
set_option maxRecDepth 20000 in
theorem gX11_says_X8_lossAt_u145X8 : GoodIn wsX11_says (va_wsO RX11 145 RX8 "CarbonCopies$Person" ⟨"CarbonCopies$Person", "lossAt", "(I)I"⟩ yX8_lossAt wsX8_lossAt) := goodIn_app (goodIn_of _ (by decide +kernel)) ggX11_says_X8_lossAt
set_option maxRecDepth 20000 in
theorem ggX11_says_X10_lossAt : GoodIn wsX11_says wsX10_lossAt := goodIn_r _ [90, 91, 92, 93, 78, 79, 80, 81, 43, 82, 59, 60, 61, 62, 111, 112, 113, 114, 115, 116, 117, 118, 119, 120, 121, 122, 123, 124, 125, 126, 127, 128, 129, 130, 131, 132, 133, 134, 135, 136, 137, 138, 139, 140, 141, 142, 143, 144, 145, 146, 147, 148, 149, 150, 151, 152, 153, 154, 155, 156, 157, 158, 159, 160, 161, 162, 163, 164, 165, 166, 167, 168, 169, 170, 171, 172, 173] (by decide +kernel) (by decide +kernel)
set_option maxRecDepth 20000 in
theorem gX11_says_X10_lossAt_u145X10 : GoodIn wsX11_says (va_wsO RX11 145 RX10 "CarbonCopies$Person" ⟨"CarbonCopies$Person", "lossAt", "(I)I"⟩ yX10_lossAt wsX10_lossAt) := goodIn_app (goodIn_of _ (by decide +kernel)) ggX11_says_X10_lossAt
theorem dX11_says_0 : decode cX11_says 0 = .ok (.aload_n 0, 1) := by decide +kernel
theorem dX11_says_1 : decode cX11_says 1 = .ok (.iload_n 1, 1) := by decide +kernel
theorem dX11_says_2 : decode cX11_says 2 = .ok (.invokevirtual 76, 3) := by decide +kernel
theorem dX11_says_5 : decode cX11_says 5 = .ok (.astore_n 3, 1) := by decide +kernel
theorem dX11_says_6 : decode cX11_says 6 = .ok (.aload_n 3, 1) := by decide +kernel
theorem dX11_says_7 : decode cX11_says 7 = .ok (.ifnull 13, 3) := by decide +kernel
theorem dX11_says_10 : decode cX11_says 10 = .ok (.iload_n 2, 1) := by decide +kernel
theorem dX11_says_11 : decode cX11_says 11 = .ok (.ifCond .lt 9, 3) := by decide +kernel
theorem dX11_says_14 : decode cX11_says 14 = .ok (.iload_n 2, 1) := by decide +kernel
theorem dX11_says_15 : decode cX11_says 15 = .ok (.bipush 7, 2) := by decide +kernel
theorem dX11_says_17 : decode cX11_says 17 = .ok (.if_icmp .lt 9, 3) := by decide +kernel
theorem dX11_says_20 : decode cX11_says 20 = .ok (.aload_n 0, 1) := by decide +kernel
theorem dX11_says_21 : decode cX11_says 21 = .ok (.iconst (-1), 1) := by decide +kernel
theorem dX11_says_22 : decode cX11_says 22 = .ok (.invokevirtual 80, 3) := by decide +kernel
theorem dX11_says_25 : decode cX11_says 25 = .ok (.ireturn, 1) := by decide +kernel
theorem dX11_says_26 : decode cX11_says 26 = .ok (.aload_n 3, 1) := by decide +kernel
theorem dX11_says_27 : decode cX11_says 27 = .ok (.invokevirtual 88, 3) := by decide +kernel
theorem dX11_says_30 : decode cX11_says 30 = .ok (.ifCond .eq 10, 3) := by decide +kernel
theorem dX11_says_33 : decode cX11_says 33 = .ok (.aload_n 0, 1) := by decide +kernel
theorem dX11_says_34 : decode cX11_says 34 = .ok (.bipush (-2), 2) := by decide +kernel
theorem dX11_says_36 : decode cX11_says 36 = .ok (.invokevirtual 80, 3) := by decide +kernel
theorem dX11_says_39 : decode cX11_says 39 = .ok (.ireturn, 1) := by decide +kernel
theorem dX11_says_40 : decode cX11_says 40 = .ok (.aload_n 0, 1) := by decide +kernel
theorem dX11_says_41 : decode cX11_says 41 = .ok (.getfield 31, 3) := by decide +kernel
theorem dX11_says_44 : decode cX11_says 44 = .ok (.aload_n 3, 1) := by decide +kernel
theorem dX11_says_45 : decode cX11_says 45 = .ok (.getfield 130, 3) := by decide +kernel
theorem dX11_says_48 : decode cX11_says 48 = .ok (.invokevirtual 126, 3) := by decide +kernel
theorem dX11_says_51 : decode cX11_says 51 = .ok (.astore 4, 2) := by decide +kernel
theorem dX11_says_53 : decode cX11_says 53 = .ok (.aload 4, 2) := by decide +kernel
theorem dX11_says_55 : decode cX11_says 55 = .ok (.ifnonnull 10, 3) := by decide +kernel
theorem dX11_says_58 : decode cX11_says 58 = .ok (.aload_n 0, 1) := by decide +kernel
theorem dX11_says_59 : decode cX11_says 59 = .ok (.bipush (-3), 2) := by decide +kernel
theorem dX11_says_61 : decode cX11_says 61 = .ok (.invokevirtual 80, 3) := by decide +kernel
theorem dX11_says_64 : decode cX11_says 64 = .ok (.ireturn, 1) := by decide +kernel
theorem dX11_says_65 : decode cX11_says 65 = .ok (.aload 4, 2) := by decide +kernel
theorem dX11_says_67 : decode cX11_says 67 = .ok (.iload_n 2, 1) := by decide +kernel
theorem dX11_says_68 : decode cX11_says 68 = .ok (.invokestatic 133, 3) := by decide +kernel
theorem dX11_says_71 : decode cX11_says 71 = .ok (.ifCond .ne 10, 3) := by decide +kernel
theorem dX11_says_74 : decode cX11_says 74 = .ok (.aload_n 0, 1) := by decide +kernel
theorem dX11_says_75 : decode cX11_says 75 = .ok (.bipush (-2), 2) := by decide +kernel
theorem dX11_says_77 : decode cX11_says 77 = .ok (.invokevirtual 80, 3) := by decide +kernel
theorem dX11_says_80 : decode cX11_says 80 = .ok (.ireturn, 1) := by decide +kernel
theorem dX11_says_81 : decode cX11_says 81 = .ok (.iload_n 2, 1) := by decide +kernel
theorem dX11_says_82 : decode cX11_says 82 = .ok (.tableswitch 61 0 6 #[42, 48, 54, 54, 61, 61, 48], 42) := by decide +kernel
theorem dX11_says_124 : decode cX11_says 124 = .ok (.aload 4, 2) := by decide +kernel
theorem dX11_says_126 : decode cX11_says 126 = .ok (.getfield 137, 3) := by decide +kernel
theorem dX11_says_129 : decode cX11_says 129 = .ok (.ireturn, 1) := by decide +kernel
theorem dX11_says_130 : decode cX11_says 130 = .ok (.aload 4, 2) := by decide +kernel
theorem dX11_says_132 : decode cX11_says 132 = .ok (.getfield 142, 3) := by decide +kernel
theorem dX11_says_135 : decode cX11_says 135 = .ok (.ireturn, 1) := by decide +kernel
theorem dX11_says_136 : decode cX11_says 136 = .ok (.aload 4, 2) := by decide +kernel
theorem dX11_says_138 : decode cX11_says 138 = .ok (.iconst 5, 1) := by decide +kernel
theorem dX11_says_139 : decode cX11_says 139 = .ok (.invokevirtual 145, 3) := by decide +kernel
theorem dX11_says_142 : decode cX11_says 142 = .ok (.ireturn, 1) := by decide +kernel
theorem dX11_says_143 : decode cX11_says 143 = .ok (.aload 4, 2) := by decide +kernel
theorem dX11_says_145 : decode cX11_says 145 = .ok (.iconst 1, 1) := by decide +kernel
theorem dX11_says_146 : decode cX11_says 146 = .ok (.invokevirtual 145, 3) := by decide +kernel
theorem dX11_says_149 : decode cX11_says 149 = .ok (.ireturn, 1) := by decide +kernel
set_option maxRecDepth 20000 in
theorem ggX11_person_X11_refuse : GoodIn wsX11_person wsX11_refuse := goodIn_r _ [6, 7, 8, 9, 5, 10, 11, 107, 108, 109, 110, 111, 112, 113, 114, 115, 116, 117, 118, 119, 120] (by decide +kernel) (by decide +kernel)
set_option maxRecDepth 20000 in
theorem gX11_person_X11_refuse : GoodIn wsX11_person (wsV RX11 80 RX11 yX11_refuse wsX11_refuse) := goodIn_app (goodIn_of _ (by decide +kernel)) ggX11_person_X11_refuse
set_option maxRecDepth 20000 in
theorem ggX11_person_X4_hasRoom : GoodIn wsX11_person wsX4_hasRoom := goodIn_r _ [16, 17, 121, 122, 123, 124, 125, 126] (by decide +kernel) (by decide +kernel)
set_option maxRecDepth 20000 in
theorem gX11_person_X4_hasRoom : GoodIn wsX11_person (wsV RX11 148 RX4 yX4_hasRoom wsX4_hasRoom) := goodIn_app (goodIn_of _ (by decide +kernel)) ggX11_person_X4_hasRoom
set_option maxRecDepth 20000 in
theorem ggX11_person_X4_add : GoodIn wsX11_person wsX4_add := goodIn_r _ [21, 17, 22, 23, 24, 25, 15, 26, 27, 28, 29, 30, 31, 32, 33, 34, 35, 36, 37, 38, 39, 40, 41, 42, 43, 44, 45, 46, 47, 48, 49, 50, 51, 52, 53, 54, 55, 56, 57, 58, 59, 60, 61, 62, 63, 64, 65, 66, 67, 68, 69, 70, 71, 72, 73, 74, 75, 76, 77, 78, 79, 80, 81, 82, 83, 84, 85, 86, 87, 88, 89, 90, 91, 92, 93, 94, 95, 96, 97, 98, 99, 100, 101, 102, 103, 104, 105, 106, 121, 122, 123, 124, 125, 126, 127, 128, 129, 130, 131, 132, 133, 134, 135, 136, 137, 138, 139, 140, 141, 142, 143, 144, 145, 146, 147, 148, 149, 150, 151, 152, 153, 154, 155, 156, 157, 158, 159, 160, 161, 162, 163, 164, 165, 166, 167, 168, 169, 170, 171, 172, 173, 174, 175, 176, 177, 178, 179, 180, 181, 182, 183, 184, 185, 186, 187, 188, 189] (by decide +kernel) (by decide +kernel)
set_option maxRecDepth 20000 in
theorem gX11_person_X4_add : GoodIn wsX11_person (wsV RX11 151 RX4 yX4_add wsX4_add) := goodIn_app (goodIn_of _ (by decide +kernel)) ggX11_person_X4_add
theorem dX11_person_0 : decode cX11_person 0 = .ok (.iload_n 1, 1) := by decide +kernel
theorem dX11_person_1 : decode cX11_person 1 = .ok (.ifCond .lt 9, 3) := by decide +kernel
theorem dX11_person_4 : decode cX11_person 4 = .ok (.iload_n 1, 1) := by decide +kernel
theorem dX11_person_5 : decode cX11_person 5 = .ok (.bipush 7, 2) := by decide +kernel
theorem dX11_person_7 : decode cX11_person 7 = .ok (.if_icmp .lt 9, 3) := by decide +kernel
theorem dX11_person_10 : decode cX11_person 10 = .ok (.aload_n 0, 1) := by decide +kernel
theorem dX11_person_11 : decode cX11_person 11 = .ok (.iconst (-1), 1) := by decide +kernel
theorem dX11_person_12 : decode cX11_person 12 = .ok (.invokevirtual 80, 3) := by decide +kernel
theorem dX11_person_15 : decode cX11_person 15 = .ok (.ireturn, 1) := by decide +kernel
theorem dX11_person_16 : decode cX11_person 16 = .ok (.iload_n 2, 1) := by decide +kernel
theorem dX11_person_17 : decode cX11_person 17 = .ok (.ifCond .lt 20, 3) := by decide +kernel
theorem dX11_person_20 : decode cX11_person 20 = .ok (.iload_n 2, 1) := by decide +kernel
theorem dX11_person_21 : decode cX11_person 21 = .ok (.bipush 9, 2) := by decide +kernel
theorem dX11_person_23 : decode cX11_person 23 = .ok (.if_icmp .gt 14, 3) := by decide +kernel
theorem dX11_person_26 : decode cX11_person 26 = .ok (.iload_n 3, 1) := by decide +kernel
theorem dX11_person_27 : decode cX11_person 27 = .ok (.iconst 1, 1) := by decide +kernel
theorem dX11_person_28 : decode cX11_person 28 = .ok (.if_icmp .lt 9, 3) := by decide +kernel
theorem dX11_person_31 : decode cX11_person 31 = .ok (.iload_n 3, 1) := by decide +kernel
theorem dX11_person_32 : decode cX11_person 32 = .ok (.bipush 20, 2) := by decide +kernel
theorem dX11_person_34 : decode cX11_person 34 = .ok (.if_icmp .le 10, 3) := by decide +kernel
theorem dX11_person_37 : decode cX11_person 37 = .ok (.aload_n 0, 1) := by decide +kernel
theorem dX11_person_38 : decode cX11_person 38 = .ok (.bipush (-6), 2) := by decide +kernel
theorem dX11_person_40 : decode cX11_person 40 = .ok (.invokevirtual 80, 3) := by decide +kernel
theorem dX11_person_43 : decode cX11_person 43 = .ok (.ireturn, 1) := by decide +kernel
theorem dX11_person_44 : decode cX11_person 44 = .ok (.aload_n 0, 1) := by decide +kernel
theorem dX11_person_45 : decode cX11_person 45 = .ok (.getfield 31, 3) := by decide +kernel
theorem dX11_person_48 : decode cX11_person 48 = .ok (.invokevirtual 148, 3) := by decide +kernel
theorem dX11_person_51 : decode cX11_person 51 = .ok (.ifCond .ne 10, 3) := by decide +kernel
theorem dX11_person_54 : decode cX11_person 54 = .ok (.aload_n 0, 1) := by decide +kernel
theorem dX11_person_55 : decode cX11_person 55 = .ok (.bipush (-7), 2) := by decide +kernel
theorem dX11_person_57 : decode cX11_person 57 = .ok (.invokevirtual 80, 3) := by decide +kernel
theorem dX11_person_60 : decode cX11_person 60 = .ok (.ireturn, 1) := by decide +kernel
theorem dX11_person_61 : decode cX11_person 61 = .ok (.aload_n 0, 1) := by decide +kernel
theorem dX11_person_62 : decode cX11_person 62 = .ok (.getfield 31, 3) := by decide +kernel
theorem dX11_person_65 : decode cX11_person 65 = .ok (.iload_n 1, 1) := by decide +kernel
theorem dX11_person_66 : decode cX11_person 66 = .ok (.iload_n 2, 1) := by decide +kernel
theorem dX11_person_67 : decode cX11_person 67 = .ok (.iload_n 3, 1) := by decide +kernel
theorem dX11_person_68 : decode cX11_person 68 = .ok (.invokevirtual 151, 3) := by decide +kernel
theorem dX11_person_71 : decode cX11_person 71 = .ok (.ireturn, 1) := by decide +kernel
set_option maxRecDepth 20000 in
theorem ggX11_ask_X11_refuse : GoodIn wsX11_ask wsX11_refuse := goodIn_r _ [7, 8, 9, 10, 6, 11, 12, 13, 14, 15, 16, 17, 18, 19, 20, 21, 22, 23, 24, 25, 26] (by decide +kernel) (by decide +kernel)
set_option maxRecDepth 20000 in
theorem gX11_ask_X11_refuse : GoodIn wsX11_ask (wsV RX11 80 RX11 yX11_refuse wsX11_refuse) := goodIn_app (goodIn_of _ (by decide +kernel)) ggX11_ask_X11_refuse
theorem dX11_ask_0 : decode cX11_ask 0 = .ok (.iload_n 1, 1) := by decide +kernel
theorem dX11_ask_1 : decode cX11_ask 1 = .ok (.iconst 1, 1) := by decide +kernel
theorem dX11_ask_2 : decode cX11_ask 2 = .ok (.if_icmp .lt 9, 3) := by decide +kernel
theorem dX11_ask_5 : decode cX11_ask 5 = .ok (.iload_n 1, 1) := by decide +kernel
theorem dX11_ask_6 : decode cX11_ask 6 = .ok (.bipush 99, 2) := by decide +kernel
theorem dX11_ask_8 : decode cX11_ask 8 = .ok (.if_icmp .le 10, 3) := by decide +kernel
theorem dX11_ask_11 : decode cX11_ask 11 = .ok (.aload_n 0, 1) := by decide +kernel
theorem dX11_ask_12 : decode cX11_ask 12 = .ok (.bipush (-6), 2) := by decide +kernel
theorem dX11_ask_14 : decode cX11_ask 14 = .ok (.invokevirtual 80, 3) := by decide +kernel
theorem dX11_ask_17 : decode cX11_ask 17 = .ok (.ireturn, 1) := by decide +kernel
theorem dX11_ask_18 : decode cX11_ask 18 = .ok (.aload_n 0, 1) := by decide +kernel
theorem dX11_ask_19 : decode cX11_ask 19 = .ok (.getfield 31, 3) := by decide +kernel
theorem dX11_ask_22 : decode cX11_ask 22 = .ok (.getfield 155, 3) := by decide +kernel
theorem dX11_ask_25 : decode cX11_ask 25 = .ok (.istore_n 2, 1) := by decide +kernel
theorem dX11_ask_26 : decode cX11_ask 26 = .ok (.aload_n 0, 1) := by decide +kernel
theorem dX11_ask_27 : decode cX11_ask 27 = .ok (.getfield 31, 3) := by decide +kernel
theorem dX11_ask_30 : decode cX11_ask 30 = .ok (.iload_n 1, 1) := by decide +kernel
theorem dX11_ask_31 : decode cX11_ask 31 = .ok (.putfield 155, 3) := by decide +kernel
theorem dX11_ask_34 : decode cX11_ask 34 = .ok (.iload_n 2, 1) := by decide +kernel
theorem dX11_ask_35 : decode cX11_ask 35 = .ok (.ireturn, 1) := by decide +kernel
set_option maxRecDepth 20000 in
theorem ggX11_personOf_X4_personAt : GoodIn wsX11_personOf wsX4_personAt := goodIn_r _ [10, 11, 12, 143, 144, 145, 146, 147, 148] (by decide +kernel) (by decide +kernel)
set_option maxRecDepth 20000 in
theorem gX11_personOf_X4_personAt : GoodIn wsX11_personOf (wsV RX11 126 RX4 yX4_personAt wsX4_personAt) := goodIn_app (goodIn_of _ (by decide +kernel)) ggX11_personOf_X4_personAt
set_option maxRecDepth 20000 in
theorem ggX11_personOf_X11_refuse : GoodIn wsX11_personOf wsX11_refuse := goodIn_r _ [17, 18, 19, 20, 16, 21, 22, 66, 67, 68, 69, 70, 71, 72, 73, 74, 75, 76, 77, 78, 79] (by decide +kernel) (by decide +kernel)
set_option maxRecDepth 20000 in
theorem gX11_personOf_X11_refuse : GoodIn wsX11_personOf (wsV RX11 80 RX11 yX11_refuse wsX11_refuse) := goodIn_app (goodIn_of _ (by decide +kernel)) ggX11_personOf_X11_refuse
set_option maxRecDepth 20000 in
theorem ggX11_personOf_X5_readSum : GoodIn wsX11_personOf wsX5_readSum := goodIn_r _ [28, 29, 30, 31, 32, 27, 33, 34, 35, 16, 36, 37, 38, 39, 40, 41, 42, 43, 44, 45, 80, 81, 82, 83, 84, 85, 86, 87, 88, 89, 90, 91, 92, 93, 94, 95, 96, 97, 98, 99, 100, 101, 102, 103, 104, 105, 106, 107, 108, 109, 110, 111, 112, 113, 114, 115, 116, 117, 118, 119, 120, 121, 122, 123, 124, 125, 126, 127, 128, 129, 130, 131, 132, 133, 134, 135, 136, 137, 138, 139, 140, 141, 142] (by decide +kernel) (by decide +kernel)
set_option maxRecDepth 20000 in
theorem gX11_personOf_X5_readSum_u164X0 : GoodIn wsX11_personOf (va_wsU RX11 164 RX0 "CarbonCopies$Person" ⟨"CarbonCopies$Person", "readSum", "()I"⟩ yX5_readSum wsX5_readSum) := goodIn_app (goodIn_of _ (by decide +kernel)) ggX11_personOf_X5_readSum
set_option maxRecDepth 20000 in
theorem gX11_personOf_X5_readSum_u164X1 : GoodIn wsX11_personOf (va_wsU RX11 164 RX1 "CarbonCopies$Person" ⟨"CarbonCopies$Person", "readSum", "()I"⟩ yX5_readSum wsX5_readSum) := goodIn_app (goodIn_of _ (by decide +kernel)) ggX11_personOf_X5_readSum
set_option maxRecDepth 20000 in
theorem gX11_personOf_X5_readSum_u164X2 : GoodIn wsX11_personOf (va_wsU RX11 164 RX2 "CarbonCopies$Person" ⟨"CarbonCopies$Person", "readSum", "()I"⟩ yX5_readSum wsX5_readSum) := goodIn_app (goodIn_of _ (by decide +kernel)) ggX11_personOf_X5_readSum
set_option maxRecDepth 20000 in
theorem gX11_personOf_X5_readSum_u164X3 : GoodIn wsX11_personOf (va_wsU RX11 164 RX3 "CarbonCopies$Person" ⟨"CarbonCopies$Person", "readSum", "()I"⟩ yX5_readSum wsX5_readSum) := goodIn_app (goodIn_of _ (by decide +kernel)) ggX11_personOf_X5_readSum
set_option maxRecDepth 20000 in
theorem gX11_personOf_X5_readSum : GoodIn wsX11_personOf (wsV RX11 164 RX5 yX5_readSum wsX5_readSum) := goodIn_app (goodIn_of _ (by decide +kernel)) ggX11_personOf_X5_readSum
set_option maxRecDepth 20000 in
theorem gX11_personOf_X5_readSum_u164X8 : GoodIn wsX11_personOf (va_wsU RX11 164 RX8 "CarbonCopies$Person" ⟨"CarbonCopies$Person", "readSum", "()I"⟩ yX5_readSum wsX5_readSum) := goodIn_app (goodIn_of _ (by decide +kernel)) ggX11_personOf_X5_readSum
set_option maxRecDepth 20000 in
theorem gX11_personOf_X5_readSum_u164X10 : GoodIn wsX11_personOf (va_wsU RX11 164 RX10 "CarbonCopies$Person" ⟨"CarbonCopies$Person", "readSum", "()I"⟩ yX5_readSum wsX5_readSum) := goodIn_app (goodIn_of _ (by decide +kernel)) ggX11_personOf_X5_readSum
set_option maxRecDepth 20000 in
theorem ggX11_personOf_X5_smearSum : GoodIn wsX11_personOf wsX5_smearSum := goodIn_r _ [57, 58, 80, 81, 82, 83, 84, 85, 86, 87, 88, 89, 90, 91, 92, 93, 94, 95, 96, 97, 98, 99, 100, 101, 102, 103, 104, 105, 106, 107, 108, 109, 110, 111, 112, 113, 114, 115, 116, 117, 118, 119, 120, 121, 122, 123, 124, 125, 126, 127, 128, 129, 130, 131, 132, 133, 134, 135, 136, 137, 138, 139, 140, 141, 142] (by decide +kernel) (by decide +kernel)
set_option maxRecDepth 20000 in
theorem gX11_personOf_X5_smearSum_u168X0 : GoodIn wsX11_personOf (va_wsU RX11 168 RX0 "CarbonCopies$Person" ⟨"CarbonCopies$Person", "smearSum", "()I"⟩ yX5_smearSum wsX5_smearSum) := goodIn_app (goodIn_of _ (by decide +kernel)) ggX11_personOf_X5_smearSum
set_option maxRecDepth 20000 in
theorem gX11_personOf_X5_smearSum_u168X1 : GoodIn wsX11_personOf (va_wsU RX11 168 RX1 "CarbonCopies$Person" ⟨"CarbonCopies$Person", "smearSum", "()I"⟩ yX5_smearSum wsX5_smearSum) := goodIn_app (goodIn_of _ (by decide +kernel)) ggX11_personOf_X5_smearSum
set_option maxRecDepth 20000 in
theorem gX11_personOf_X5_smearSum_u168X2 : GoodIn wsX11_personOf (va_wsU RX11 168 RX2 "CarbonCopies$Person" ⟨"CarbonCopies$Person", "smearSum", "()I"⟩ yX5_smearSum wsX5_smearSum) := goodIn_app (goodIn_of _ (by decide +kernel)) ggX11_personOf_X5_smearSum
set_option maxRecDepth 20000 in
theorem gX11_personOf_X5_smearSum_u168X3 : GoodIn wsX11_personOf (va_wsU RX11 168 RX3 "CarbonCopies$Person" ⟨"CarbonCopies$Person", "smearSum", "()I"⟩ yX5_smearSum wsX5_smearSum) := goodIn_app (goodIn_of _ (by decide +kernel)) ggX11_personOf_X5_smearSum
set_option maxRecDepth 20000 in
theorem gX11_personOf_X5_smearSum : GoodIn wsX11_personOf (wsV RX11 168 RX5 yX5_smearSum wsX5_smearSum) := goodIn_app (goodIn_of _ (by decide +kernel)) ggX11_personOf_X5_smearSum
set_option maxRecDepth 20000 in
theorem gX11_personOf_X5_smearSum_u168X8 : GoodIn wsX11_personOf (va_wsU RX11 168 RX8 "CarbonCopies$Person" ⟨"CarbonCopies$Person", "smearSum", "()I"⟩ yX5_smearSum wsX5_smearSum) := goodIn_app (goodIn_of _ (by decide +kernel)) ggX11_personOf_X5_smearSum
set_option maxRecDepth 20000 in
theorem gX11_personOf_X5_smearSum_u168X10 : GoodIn wsX11_personOf (va_wsU RX11 168 RX10 "CarbonCopies$Person" ⟨"CarbonCopies$Person", "smearSum", "()I"⟩ yX5_smearSum wsX5_smearSum) := goodIn_app (goodIn_of _ (by decide +kernel)) ggX11_personOf_X5_smearSum
theorem dX11_personOf_0 : decode cX11_personOf 0 = .ok (.aload_n 0, 1) := by decide +kernel
theorem dX11_personOf_1 : decode cX11_personOf 1 = .ok (.getfield 31, 3) := by decide +kernel
theorem dX11_personOf_4 : decode cX11_personOf 4 = .ok (.iload_n 1, 1) := by decide +kernel
theorem dX11_personOf_5 : decode cX11_personOf 5 = .ok (.invokevirtual 126, 3) := by decide +kernel
theorem dX11_personOf_8 : decode cX11_personOf 8 = .ok (.astore_n 3, 1) := by decide +kernel
theorem dX11_personOf_9 : decode cX11_personOf 9 = .ok (.aload_n 3, 1) := by decide +kernel
theorem dX11_personOf_10 : decode cX11_personOf 10 = .ok (.ifnonnull 10, 3) := by decide +kernel
theorem dX11_personOf_13 : decode cX11_personOf 13 = .ok (.aload_n 0, 1) := by decide +kernel
theorem dX11_personOf_14 : decode cX11_personOf 14 = .ok (.bipush (-5), 2) := by decide +kernel
theorem dX11_personOf_16 : decode cX11_personOf 16 = .ok (.invokevirtual 80, 3) := by decide +kernel
theorem dX11_personOf_19 : decode cX11_personOf 19 = .ok (.ireturn, 1) := by decide +kernel
theorem dX11_personOf_20 : decode cX11_personOf 20 = .ok (.iload_n 2, 1) := by decide +kernel
theorem dX11_personOf_21 : decode cX11_personOf 21 = .ok (.tableswitch 69 0 5 #[39, 44, 49, 54, 59, 64], 39) := by decide +kernel
theorem dX11_personOf_60 : decode cX11_personOf 60 = .ok (.aload_n 3, 1) := by decide +kernel
theorem dX11_personOf_61 : decode cX11_personOf 61 = .ok (.getfield 158, 3) := by decide +kernel
theorem dX11_personOf_64 : decode cX11_personOf 64 = .ok (.ireturn, 1) := by decide +kernel
theorem dX11_personOf_65 : decode cX11_personOf 65 = .ok (.aload_n 3, 1) := by decide +kernel
theorem dX11_personOf_66 : decode cX11_personOf 66 = .ok (.getfield 161, 3) := by decide +kernel
theorem dX11_personOf_69 : decode cX11_personOf 69 = .ok (.ireturn, 1) := by decide +kernel
theorem dX11_personOf_70 : decode cX11_personOf 70 = .ok (.aload_n 3, 1) := by decide +kernel
theorem dX11_personOf_71 : decode cX11_personOf 71 = .ok (.getfield 137, 3) := by decide +kernel
theorem dX11_personOf_74 : decode cX11_personOf 74 = .ok (.ireturn, 1) := by decide +kernel
theorem dX11_personOf_75 : decode cX11_personOf 75 = .ok (.aload_n 3, 1) := by decide +kernel
theorem dX11_personOf_76 : decode cX11_personOf 76 = .ok (.getfield 142, 3) := by decide +kernel
theorem dX11_personOf_79 : decode cX11_personOf 79 = .ok (.ireturn, 1) := by decide +kernel
theorem dX11_personOf_80 : decode cX11_personOf 80 = .ok (.aload_n 3, 1) := by decide +kernel
theorem dX11_personOf_81 : decode cX11_personOf 81 = .ok (.invokevirtual 164, 3) := by decide +kernel
theorem dX11_personOf_84 : decode cX11_personOf 84 = .ok (.ireturn, 1) := by decide +kernel
theorem dX11_personOf_85 : decode cX11_personOf 85 = .ok (.aload_n 3, 1) := by decide +kernel
theorem dX11_personOf_86 : decode cX11_personOf 86 = .ok (.invokevirtual 168, 3) := by decide +kernel
theorem dX11_personOf_89 : decode cX11_personOf 89 = .ok (.ireturn, 1) := by decide +kernel
theorem dX11_personOf_90 : decode cX11_personOf 90 = .ok (.aload_n 0, 1) := by decide +kernel
theorem dX11_personOf_91 : decode cX11_personOf 91 = .ok (.bipush (-5), 2) := by decide +kernel
theorem dX11_personOf_93 : decode cX11_personOf 93 = .ok (.invokevirtual 80, 3) := by decide +kernel
theorem dX11_personOf_96 : decode cX11_personOf 96 = .ok (.ireturn, 1) := by decide +kernel
set_option maxRecDepth 20000 in
theorem ggX11_copyOf_X4_personAt : GoodIn wsX11_copyOf wsX4_personAt := goodIn_r _ [8, 9, 10, 142, 143, 144, 145, 146, 147] (by decide +kernel) (by decide +kernel)
set_option maxRecDepth 20000 in
theorem gX11_copyOf_X4_personAt : GoodIn wsX11_copyOf (wsV RX11 126 RX4 yX4_personAt wsX4_personAt) := goodIn_app (goodIn_of _ (by decide +kernel)) ggX11_copyOf_X4_personAt
set_option maxRecDepth 20000 in
theorem ggX11_copyOf_X11_isCopy : GoodIn wsX11_copyOf wsX11_isCopy := goodIn_r _ [14] (by decide +kernel) (by decide +kernel)
set_option maxRecDepth 20000 in
theorem gX11_copyOf_X11_isCopy : GoodIn wsX11_copyOf (va_wsS RX11 171 yX11_isCopy wsX11_isCopy) := goodIn_app (goodIn_of _ (by decide +kernel)) ggX11_copyOf_X11_isCopy
set_option maxRecDepth 20000 in
theorem ggX11_copyOf_X11_refuse : GoodIn wsX11_copyOf wsX11_refuse := goodIn_r _ [18, 19, 20, 21, 13, 22, 23, 65, 66, 67, 68, 69, 70, 71, 72, 73, 74, 75, 76, 77, 78] (by decide +kernel) (by decide +kernel)
set_option maxRecDepth 20000 in
theorem gX11_copyOf_X11_refuse : GoodIn wsX11_copyOf (wsV RX11 80 RX11 yX11_refuse wsX11_refuse) := goodIn_app (goodIn_of _ (by decide +kernel)) ggX11_copyOf_X11_refuse
set_option maxRecDepth 20000 in
theorem ggX11_copyOf_X5_hasBits : GoodIn wsX11_copyOf wsX5_hasBits := goodIn_r _ [29, 30, 31, 32, 33, 28, 34, 35, 12, 13, 14, 36, 37, 38, 39, 40, 41, 42, 43, 44, 79, 80, 81, 82, 83, 84, 85, 86, 87, 88, 89, 90, 91, 92, 93, 94, 95, 96, 97, 98, 99, 100, 101, 102, 103, 104, 105, 106, 107, 108, 109, 110, 111, 112, 113, 114, 115, 116, 117, 118, 119, 120, 121, 122, 123, 124, 125, 126, 127, 128, 129, 130, 131, 132, 133, 134, 135, 136, 137, 138, 139, 140, 141] (by decide +kernel) (by decide +kernel)
set_option maxRecDepth 20000 in
theorem gX11_copyOf_X5_hasBits_u177X0 : GoodIn wsX11_copyOf (va_wsU RX11 177 RX0 "CarbonCopies$Person" ⟨"CarbonCopies$Person", "hasBits", "(II)I"⟩ yX5_hasBits wsX5_hasBits) := goodIn_app (goodIn_of _ (by decide +kernel)) ggX11_copyOf_X5_hasBits
set_option maxRecDepth 20000 in
theorem gX11_copyOf_X5_hasBits_u177X1 : GoodIn wsX11_copyOf (va_wsU RX11 177 RX1 "CarbonCopies$Person" ⟨"CarbonCopies$Person", "hasBits", "(II)I"⟩ yX5_hasBits wsX5_hasBits) := goodIn_app (goodIn_of _ (by decide +kernel)) ggX11_copyOf_X5_hasBits
set_option maxRecDepth 20000 in
theorem gX11_copyOf_X5_hasBits_u177X2 : GoodIn wsX11_copyOf (va_wsU RX11 177 RX2 "CarbonCopies$Person" ⟨"CarbonCopies$Person", "hasBits", "(II)I"⟩ yX5_hasBits wsX5_hasBits) := goodIn_app (goodIn_of _ (by decide +kernel)) ggX11_copyOf_X5_hasBits
set_option maxRecDepth 20000 in
theorem gX11_copyOf_X5_hasBits_u177X3 : GoodIn wsX11_copyOf (va_wsU RX11 177 RX3 "CarbonCopies$Person" ⟨"CarbonCopies$Person", "hasBits", "(II)I"⟩ yX5_hasBits wsX5_hasBits) := goodIn_app (goodIn_of _ (by decide +kernel)) ggX11_copyOf_X5_hasBits
set_option maxRecDepth 20000 in
theorem gX11_copyOf_X5_hasBits : GoodIn wsX11_copyOf (wsV RX11 177 RX5 yX5_hasBits wsX5_hasBits) := goodIn_app (goodIn_of _ (by decide +kernel)) ggX11_copyOf_X5_hasBits
set_option maxRecDepth 20000 in
theorem gX11_copyOf_X5_hasBits_u177X8 : GoodIn wsX11_copyOf (va_wsU RX11 177 RX8 "CarbonCopies$Person" ⟨"CarbonCopies$Person", "hasBits", "(II)I"⟩ yX5_hasBits wsX5_hasBits) := goodIn_app (goodIn_of _ (by decide +kernel)) ggX11_copyOf_X5_hasBits
set_option maxRecDepth 20000 in
theorem gX11_copyOf_X5_hasBits_u177X10 : GoodIn wsX11_copyOf (va_wsU RX11 177 RX10 "CarbonCopies$Person" ⟨"CarbonCopies$Person", "hasBits", "(II)I"⟩ yX5_hasBits wsX5_hasBits) := goodIn_app (goodIn_of _ (by decide +kernel)) ggX11_copyOf_X5_hasBits
set_option maxRecDepth 20000 in
theorem ggX11_copyOf_X5_isLeft : GoodIn wsX11_copyOf wsX5_isLeft := goodIn_r _ [56, 57, 12, 13, 14, 79, 80, 81, 82, 83, 84, 85, 86, 87, 88, 89, 90, 91, 92, 93, 94, 95, 96, 97, 98, 99, 100, 101, 102, 103, 104, 105, 106, 107, 108, 109, 110, 111, 112, 113, 114, 115, 116, 117, 118, 119, 120, 121, 122, 123, 124, 125, 126, 127, 128, 129, 130, 131, 132, 133, 134, 135, 136, 137, 138, 139, 140, 141] (by decide +kernel) (by decide +kernel)
set_option maxRecDepth 20000 in
theorem gX11_copyOf_X5_isLeft_u181X0 : GoodIn wsX11_copyOf (va_wsU RX11 181 RX0 "CarbonCopies$Person" ⟨"CarbonCopies$Person", "isLeft", "(I)Z"⟩ yX5_isLeft wsX5_isLeft) := goodIn_app (goodIn_of _ (by decide +kernel)) ggX11_copyOf_X5_isLeft
set_option maxRecDepth 20000 in
theorem gX11_copyOf_X5_isLeft_u181X1 : GoodIn wsX11_copyOf (va_wsU RX11 181 RX1 "CarbonCopies$Person" ⟨"CarbonCopies$Person", "isLeft", "(I)Z"⟩ yX5_isLeft wsX5_isLeft) := goodIn_app (goodIn_of _ (by decide +kernel)) ggX11_copyOf_X5_isLeft
set_option maxRecDepth 20000 in
theorem gX11_copyOf_X5_isLeft_u181X2 : GoodIn wsX11_copyOf (va_wsU RX11 181 RX2 "CarbonCopies$Person" ⟨"CarbonCopies$Person", "isLeft", "(I)Z"⟩ yX5_isLeft wsX5_isLeft) := goodIn_app (goodIn_of _ (by decide +kernel)) ggX11_copyOf_X5_isLeft
set_option maxRecDepth 20000 in
theorem gX11_copyOf_X5_isLeft_u181X3 : GoodIn wsX11_copyOf (va_wsU RX11 181 RX3 "CarbonCopies$Person" ⟨"CarbonCopies$Person", "isLeft", "(I)Z"⟩ yX5_isLeft wsX5_isLeft) := goodIn_app (goodIn_of _ (by decide +kernel)) ggX11_copyOf_X5_isLeft
set_option maxRecDepth 20000 in
theorem gX11_copyOf_X5_isLeft : GoodIn wsX11_copyOf (wsV RX11 181 RX5 yX5_isLeft wsX5_isLeft) := goodIn_app (goodIn_of _ (by decide +kernel)) ggX11_copyOf_X5_isLeft
set_option maxRecDepth 20000 in
theorem gX11_copyOf_X5_isLeft_u181X8 : GoodIn wsX11_copyOf (va_wsU RX11 181 RX8 "CarbonCopies$Person" ⟨"CarbonCopies$Person", "isLeft", "(I)Z"⟩ yX5_isLeft wsX5_isLeft) := goodIn_app (goodIn_of _ (by decide +kernel)) ggX11_copyOf_X5_isLeft
set_option maxRecDepth 20000 in
theorem gX11_copyOf_X5_isLeft_u181X10 : GoodIn wsX11_copyOf (va_wsU RX11 181 RX10 "CarbonCopies$Person" ⟨"CarbonCopies$Person", "isLeft", "(I)Z"⟩ yX5_isLeft wsX5_isLeft) := goodIn_app (goodIn_of _ (by decide +kernel)) ggX11_copyOf_X5_isLeft
theorem dX11_copyOf_0 : decode cX11_copyOf 0 = .ok (.aload_n 0, 1) := by decide +kernel
theorem dX11_copyOf_1 : decode cX11_copyOf 1 = .ok (.getfield 31, 3) := by decide +kernel
theorem dX11_copyOf_4 : decode cX11_copyOf 4 = .ok (.iload_n 1, 1) := by decide +kernel
theorem dX11_copyOf_5 : decode cX11_copyOf 5 = .ok (.invokevirtual 126, 3) := by decide +kernel
theorem dX11_copyOf_8 : decode cX11_copyOf 8 = .ok (.astore 4, 2) := by decide +kernel
theorem dX11_copyOf_10 : decode cX11_copyOf 10 = .ok (.aload 4, 2) := by decide +kernel
theorem dX11_copyOf_12 : decode cX11_copyOf 12 = .ok (.ifnull 10, 3) := by decide +kernel
theorem dX11_copyOf_15 : decode cX11_copyOf 15 = .ok (.iload_n 2, 1) := by decide +kernel
theorem dX11_copyOf_16 : decode cX11_copyOf 16 = .ok (.invokestatic 171, 3) := by decide +kernel
theorem dX11_copyOf_19 : decode cX11_copyOf 19 = .ok (.ifCond .ne 10, 3) := by decide +kernel
theorem dX11_copyOf_22 : decode cX11_copyOf 22 = .ok (.aload_n 0, 1) := by decide +kernel
theorem dX11_copyOf_23 : decode cX11_copyOf 23 = .ok (.bipush (-5), 2) := by decide +kernel
theorem dX11_copyOf_25 : decode cX11_copyOf 25 = .ok (.invokevirtual 80, 3) := by decide +kernel
theorem dX11_copyOf_28 : decode cX11_copyOf 28 = .ok (.ireturn, 1) := by decide +kernel
theorem dX11_copyOf_29 : decode cX11_copyOf 29 = .ok (.iload_n 3, 1) := by decide +kernel
theorem dX11_copyOf_30 : decode cX11_copyOf 30 = .ok (.tableswitch 63 0 2 #[26, 34, 48], 26) := by decide +kernel
theorem dX11_copyOf_56 : decode cX11_copyOf 56 = .ok (.aload 4, 2) := by decide +kernel
theorem dX11_copyOf_58 : decode cX11_copyOf 58 = .ok (.getfield 174, 3) := by decide +kernel
theorem dX11_copyOf_61 : decode cX11_copyOf 61 = .ok (.iload_n 2, 1) := by decide +kernel
theorem dX11_copyOf_62 : decode cX11_copyOf 62 = .ok (.iaload, 1) := by decide +kernel
theorem dX11_copyOf_63 : decode cX11_copyOf 63 = .ok (.ireturn, 1) := by decide +kernel
theorem dX11_copyOf_64 : decode cX11_copyOf 64 = .ok (.aload 4, 2) := by decide +kernel
theorem dX11_copyOf_66 : decode cX11_copyOf 66 = .ok (.iload_n 2, 1) := by decide +kernel
theorem dX11_copyOf_67 : decode cX11_copyOf 67 = .ok (.aload_n 0, 1) := by decide +kernel
theorem dX11_copyOf_68 : decode cX11_copyOf 68 = .ok (.getfield 31, 3) := by decide +kernel
theorem dX11_copyOf_71 : decode cX11_copyOf 71 = .ok (.getfield 155, 3) := by decide +kernel
theorem dX11_copyOf_74 : decode cX11_copyOf 74 = .ok (.invokevirtual 177, 3) := by decide +kernel
theorem dX11_copyOf_77 : decode cX11_copyOf 77 = .ok (.ireturn, 1) := by decide +kernel
theorem dX11_copyOf_78 : decode cX11_copyOf 78 = .ok (.aload 4, 2) := by decide +kernel
theorem dX11_copyOf_80 : decode cX11_copyOf 80 = .ok (.iload_n 2, 1) := by decide +kernel
theorem dX11_copyOf_81 : decode cX11_copyOf 81 = .ok (.invokevirtual 181, 3) := by decide +kernel
theorem dX11_copyOf_84 : decode cX11_copyOf 84 = .ok (.ifCond .eq 7, 3) := by decide +kernel
theorem dX11_copyOf_87 : decode cX11_copyOf 87 = .ok (.iconst 0, 1) := by decide +kernel
theorem dX11_copyOf_88 : decode cX11_copyOf 88 = .ok (.goto 4, 3) := by decide +kernel
theorem dX11_copyOf_91 : decode cX11_copyOf 91 = .ok (.iconst 1, 1) := by decide +kernel
theorem dX11_copyOf_92 : decode cX11_copyOf 92 = .ok (.ireturn, 1) := by decide +kernel
theorem dX11_copyOf_93 : decode cX11_copyOf 93 = .ok (.aload_n 0, 1) := by decide +kernel
theorem dX11_copyOf_94 : decode cX11_copyOf 94 = .ok (.bipush (-5), 2) := by decide +kernel
theorem dX11_copyOf_96 : decode cX11_copyOf 96 = .ok (.invokevirtual 80, 3) := by decide +kernel
theorem dX11_copyOf_99 : decode cX11_copyOf 99 = .ok (.ireturn, 1) := by decide +kernel
set_option maxRecDepth 20000 in
theorem ggX11_strength_X4_personAt : GoodIn wsX11_strength wsX4_personAt := goodIn_r _ [6, 7, 8, 53, 54, 55, 56, 57, 58] (by decide +kernel) (by decide +kernel)
set_option maxRecDepth 20000 in
theorem gX11_strength_X4_personAt : GoodIn wsX11_strength (wsV RX11 126 RX4 yX4_personAt wsX4_personAt) := goodIn_app (goodIn_of _ (by decide +kernel)) ggX11_strength_X4_personAt
set_option maxRecDepth 20000 in
theorem ggX11_strength_X11_isCopy : GoodIn wsX11_strength wsX11_isCopy := goodIn_r _ [12] (by decide +kernel) (by decide +kernel)
set_option maxRecDepth 20000 in
theorem gX11_strength_X11_isCopy : GoodIn wsX11_strength (va_wsS RX11 171 yX11_isCopy wsX11_isCopy) := goodIn_app (goodIn_of _ (by decide +kernel)) ggX11_strength_X11_isCopy
set_option maxRecDepth 20000 in
theorem ggX11_strength_X11_isDeed : GoodIn wsX11_strength wsX11_isDeed := goodIn_r _ [15] (by decide +kernel) (by decide +kernel)
set_option maxRecDepth 20000 in
theorem gX11_strength_X11_isDeed : GoodIn wsX11_strength (va_wsS RX11 184 yX11_isDeed wsX11_isDeed) := goodIn_app (goodIn_of _ (by decide +kernel)) ggX11_strength_X11_isDeed
set_option maxRecDepth 20000 in
theorem ggX11_strength_X11_refuse : GoodIn wsX11_strength wsX11_refuse := goodIn_r _ [19, 20, 21, 22, 11, 23, 24, 39, 40, 41, 42, 43, 44, 45, 46, 47, 48, 49, 50, 51, 52] (by decide +kernel) (by decide +kernel)
set_option maxRecDepth 20000 in
theorem gX11_strength_X11_refuse : GoodIn wsX11_strength (wsV RX11 80 RX11 yX11_refuse wsX11_refuse) := goodIn_app (goodIn_of _ (by decide +kernel)) ggX11_strength_X11_refuse
set_option maxRecDepth 20000 in
theorem ggX11_strength_X5_strengthOf : GoodIn wsX11_strength wsX5_strengthOf := goodIn_r _ [30, 31, 10, 11, 12, 14, 15, 59, 60, 61, 62, 63, 64, 65, 66, 67, 68, 69, 70, 71, 72, 73, 74, 75, 76, 77, 78, 79, 80, 81, 82, 83, 84, 85, 86, 87, 88, 89, 90, 91, 92, 93, 94, 95, 96, 97, 98, 99, 100, 101, 102, 103, 104, 105, 106, 107, 108, 109, 110, 111, 112, 113, 114, 115, 116, 117, 118, 119, 120, 121] (by decide +kernel) (by decide +kernel)
set_option maxRecDepth 20000 in
theorem gX11_strength_X5_strengthOf_u187X0 : GoodIn wsX11_strength (va_wsU RX11 187 RX0 "CarbonCopies$Person" ⟨"CarbonCopies$Person", "strengthOf", "(II)I"⟩ yX5_strengthOf wsX5_strengthOf) := goodIn_app (goodIn_of _ (by decide +kernel)) ggX11_strength_X5_strengthOf
set_option maxRecDepth 20000 in
theorem gX11_strength_X5_strengthOf_u187X1 : GoodIn wsX11_strength (va_wsU RX11 187 RX1 "CarbonCopies$Person" ⟨"CarbonCopies$Person", "strengthOf", "(II)I"⟩ yX5_strengthOf wsX5_strengthOf) := goodIn_app (goodIn_of _ (by decide +kernel)) ggX11_strength_X5_strengthOf
set_option maxRecDepth 20000 in
theorem gX11_strength_X5_strengthOf_u187X2 : GoodIn wsX11_strength (va_wsU RX11 187 RX2 "CarbonCopies$Person" ⟨"CarbonCopies$Person", "strengthOf", "(II)I"⟩ yX5_strengthOf wsX5_strengthOf) := goodIn_app (goodIn_of _ (by decide +kernel)) ggX11_strength_X5_strengthOf
set_option maxRecDepth 20000 in
theorem gX11_strength_X5_strengthOf_u187X3 : GoodIn wsX11_strength (va_wsU RX11 187 RX3 "CarbonCopies$Person" ⟨"CarbonCopies$Person", "strengthOf", "(II)I"⟩ yX5_strengthOf wsX5_strengthOf) := goodIn_app (goodIn_of _ (by decide +kernel)) ggX11_strength_X5_strengthOf
set_option maxRecDepth 20000 in
theorem gX11_strength_X5_strengthOf : GoodIn wsX11_strength (wsV RX11 187 RX5 yX5_strengthOf wsX5_strengthOf) := goodIn_app (goodIn_of _ (by decide +kernel)) ggX11_strength_X5_strengthOf
set_option maxRecDepth 20000 in
theorem gX11_strength_X5_strengthOf_u187X8 : GoodIn wsX11_strength (va_wsU RX11 187 RX8 "CarbonCopies$Person" ⟨"CarbonCopies$Person", "strengthOf", "(II)I"⟩ yX5_strengthOf wsX5_strengthOf) := goodIn_app (goodIn_of _ (by decide +kernel)) ggX11_strength_X5_strengthOf
set_option maxRecDepth 20000 in
theorem gX11_strength_X5_strengthOf_u187X10 : GoodIn wsX11_strength (va_wsU RX11 187 RX10 "CarbonCopies$Person" ⟨"CarbonCopies$Person", "strengthOf", "(II)I"⟩ yX5_strengthOf wsX5_strengthOf) := goodIn_app (goodIn_of _ (by decide +kernel)) ggX11_strength_X5_strengthOf
theorem dX11_strength_0 : decode cX11_strength 0 = .ok (.aload_n 0, 1) := by decide +kernel
theorem dX11_strength_1 : decode cX11_strength 1 = .ok (.getfield 31, 3) := by decide +kernel
theorem dX11_strength_4 : decode cX11_strength 4 = .ok (.iload_n 1, 1) := by decide +kernel
theorem dX11_strength_5 : decode cX11_strength 5 = .ok (.invokevirtual 126, 3) := by decide +kernel
theorem dX11_strength_8 : decode cX11_strength 8 = .ok (.astore 4, 2) := by decide +kernel
theorem dX11_strength_10 : decode cX11_strength 10 = .ok (.aload 4, 2) := by decide +kernel
theorem dX11_strength_12 : decode cX11_strength 12 = .ok (.ifnull 17, 3) := by decide +kernel
theorem dX11_strength_15 : decode cX11_strength 15 = .ok (.iload_n 2, 1) := by decide +kernel
theorem dX11_strength_16 : decode cX11_strength 16 = .ok (.invokestatic 171, 3) := by decide +kernel
theorem dX11_strength_19 : decode cX11_strength 19 = .ok (.ifCond .eq 10, 3) := by decide +kernel
theorem dX11_strength_22 : decode cX11_strength 22 = .ok (.iload_n 3, 1) := by decide +kernel
theorem dX11_strength_23 : decode cX11_strength 23 = .ok (.invokestatic 184, 3) := by decide +kernel
theorem dX11_strength_26 : decode cX11_strength 26 = .ok (.ifCond .ne 10, 3) := by decide +kernel
theorem dX11_strength_29 : decode cX11_strength 29 = .ok (.aload_n 0, 1) := by decide +kernel
theorem dX11_strength_30 : decode cX11_strength 30 = .ok (.bipush (-5), 2) := by decide +kernel
theorem dX11_strength_32 : decode cX11_strength 32 = .ok (.invokevirtual 80, 3) := by decide +kernel
theorem dX11_strength_35 : decode cX11_strength 35 = .ok (.ireturn, 1) := by decide +kernel
theorem dX11_strength_36 : decode cX11_strength 36 = .ok (.aload 4, 2) := by decide +kernel
theorem dX11_strength_38 : decode cX11_strength 38 = .ok (.iload_n 2, 1) := by decide +kernel
theorem dX11_strength_39 : decode cX11_strength 39 = .ok (.iload_n 3, 1) := by decide +kernel
theorem dX11_strength_40 : decode cX11_strength 40 = .ok (.invokevirtual 187, 3) := by decide +kernel
theorem dX11_strength_43 : decode cX11_strength 43 = .ok (.ireturn, 1) := by decide +kernel
set_option maxRecDepth 20000 in
theorem ggX11_drift_X4_personAt : GoodIn wsX11_drift wsX4_personAt := goodIn_r _ [7, 8, 9, 96, 97, 98, 99, 100, 101] (by decide +kernel) (by decide +kernel)
set_option maxRecDepth 20000 in
theorem gX11_drift_X4_personAt : GoodIn wsX11_drift (wsV RX11 126 RX4 yX4_personAt wsX4_personAt) := goodIn_app (goodIn_of _ (by decide +kernel)) ggX11_drift_X4_personAt
set_option maxRecDepth 20000 in
theorem ggX11_drift_X11_isCopy : GoodIn wsX11_drift wsX11_isCopy := goodIn_r _ [13] (by decide +kernel) (by decide +kernel)
set_option maxRecDepth 20000 in
theorem gX11_drift_X11_isCopy : GoodIn wsX11_drift (va_wsS RX11 171 yX11_isCopy wsX11_isCopy) := goodIn_app (goodIn_of _ (by decide +kernel)) ggX11_drift_X11_isCopy
set_option maxRecDepth 20000 in
theorem ggX11_drift_X11_refuseLess : GoodIn wsX11_drift wsX11_refuseLess := goodIn_r _ [17, 18, 19, 20, 21, 22, 23, 24, 25, 26, 27, 28, 29, 30, 31, 32] (by decide +kernel) (by decide +kernel)
set_option maxRecDepth 20000 in
theorem gX11_drift_X11_refuseLess : GoodIn wsX11_drift (wsV RX11 190 RX11 yX11_refuseLess wsX11_refuseLess) := goodIn_app (goodIn_of _ (by decide +kernel)) ggX11_drift_X11_refuseLess
theorem dX11_drift_0 : decode cX11_drift 0 = .ok (.aload_n 0, 1) := by decide +kernel
theorem dX11_drift_1 : decode cX11_drift 1 = .ok (.getfield 31, 3) := by decide +kernel
theorem dX11_drift_4 : decode cX11_drift 4 = .ok (.iload_n 1, 1) := by decide +kernel
theorem dX11_drift_5 : decode cX11_drift 5 = .ok (.invokevirtual 126, 3) := by decide +kernel
theorem dX11_drift_8 : decode cX11_drift 8 = .ok (.astore_n 3, 1) := by decide +kernel
theorem dX11_drift_9 : decode cX11_drift 9 = .ok (.aload_n 3, 1) := by decide +kernel
theorem dX11_drift_10 : decode cX11_drift 10 = .ok (.ifnull 10, 3) := by decide +kernel
theorem dX11_drift_13 : decode cX11_drift 13 = .ok (.iload_n 2, 1) := by decide +kernel
theorem dX11_drift_14 : decode cX11_drift 14 = .ok (.invokestatic 171, 3) := by decide +kernel
theorem dX11_drift_17 : decode cX11_drift 17 = .ok (.ifCond .ne 13, 3) := by decide +kernel
theorem dX11_drift_20 : decode cX11_drift 20 = .ok (.aload_n 0, 1) := by decide +kernel
theorem dX11_drift_21 : decode cX11_drift 21 = .ok (.bipush (-5), 2) := by decide +kernel
theorem dX11_drift_23 : decode cX11_drift 23 = .ok (.sipush 10000, 3) := by decide +kernel
theorem dX11_drift_26 : decode cX11_drift 26 = .ok (.invokevirtual 190, 3) := by decide +kernel
theorem dX11_drift_29 : decode cX11_drift 29 = .ok (.ireturn, 1) := by decide +kernel
theorem dX11_drift_30 : decode cX11_drift 30 = .ok (.aload_n 3, 1) := by decide +kernel
theorem dX11_drift_31 : decode cX11_drift 31 = .ok (.getfield 193, 3) := by decide +kernel
theorem dX11_drift_34 : decode cX11_drift 34 = .ok (.iload_n 2, 1) := by decide +kernel
theorem dX11_drift_35 : decode cX11_drift 35 = .ok (.iaload, 1) := by decide +kernel
theorem dX11_drift_36 : decode cX11_drift 36 = .ok (.ireturn, 1) := by decide +kernel
set_option maxRecDepth 20000 in
theorem ggX11_loss_X4_personAt : GoodIn wsX11_loss wsX4_personAt := goodIn_r _ [6, 7, 8, 85, 86, 87, 88, 89, 90] (by decide +kernel) (by decide +kernel)
set_option maxRecDepth 20000 in
theorem gX11_loss_X4_personAt : GoodIn wsX11_loss (wsV RX11 126 RX4 yX4_personAt wsX4_personAt) := goodIn_app (goodIn_of _ (by decide +kernel)) ggX11_loss_X4_personAt
set_option maxRecDepth 20000 in
theorem ggX11_loss_X11_refuse : GoodIn wsX11_loss wsX11_refuse := goodIn_r _ [13, 14, 15, 16, 12, 17, 18, 71, 72, 73, 74, 75, 76, 77, 78, 79, 80, 81, 82, 83, 84] (by decide +kernel) (by decide +kernel)
set_option maxRecDepth 20000 in
theorem gX11_loss_X11_refuse : GoodIn wsX11_loss (wsV RX11 80 RX11 yX11_refuse wsX11_refuse) := goodIn_app (goodIn_of _ (by decide +kernel)) ggX11_loss_X11_refuse
set_option maxRecDepth 20000 in
theorem ggX11_loss_X0_lossAt : GoodIn wsX11_loss wsX0_lossAt := goodIn_r _ [25, 26, 27, 28, 29, 30, 31, 32, 33, 34, 20, 35, 36, 37, 38, 39, 91, 92, 93, 94, 95, 96, 97, 98, 99, 100, 101, 102, 103, 104, 105, 106, 107, 108, 109, 110, 111, 112, 113, 114, 115, 116, 117, 118, 119, 120, 121, 122, 123, 124, 125, 126, 127, 128, 129, 130, 131, 132, 133, 134, 135, 136, 137, 138, 139, 140, 141, 142, 143, 144, 145, 146, 147, 148, 149, 150, 151, 152, 153] (by decide +kernel) (by decide +kernel)
set_option maxRecDepth 20000 in
theorem gX11_loss_X0_lossAt_u145X0 : GoodIn wsX11_loss (va_wsO RX11 145 RX0 "CarbonCopies$Person" ⟨"CarbonCopies$Person", "lossAt", "(I)I"⟩ yX0_lossAt wsX0_lossAt) := goodIn_app (goodIn_of _ (by decide +kernel)) ggX11_loss_X0_lossAt
set_option maxRecDepth 20000 in
theorem ggX11_loss_X1_lossAt : GoodIn wsX11_loss wsX1_lossAt := goodIn_r _ [43, 44, 45, 46, 47, 48, 49, 50, 51, 52, 20, 53, 36, 37, 38, 39, 91, 92, 93, 94, 95, 96, 97, 98, 99, 100, 101, 102, 103, 104, 105, 106, 107, 108, 109, 110, 111, 112, 113, 114, 115, 116, 117, 118, 119, 120, 121, 122, 123, 124, 125, 126, 127, 128, 129, 130, 131, 132, 133, 134, 135, 136, 137, 138, 139, 140, 141, 142, 143, 144, 145, 146, 147, 148, 149, 150, 151, 152, 153] (by decide +kernel) (by decide +kernel)
set_option maxRecDepth 20000 in
theorem gX11_loss_X1_lossAt_u145X1 : GoodIn wsX11_loss (va_wsO RX11 145 RX1 "CarbonCopies$Person" ⟨"CarbonCopies$Person", "lossAt", "(I)I"⟩ yX1_lossAt wsX1_lossAt) := goodIn_app (goodIn_of _ (by decide +kernel)) ggX11_loss_X1_lossAt
set_option maxRecDepth 20000 in
theorem ggX11_loss_X2_lossAt : GoodIn wsX11_loss wsX2_lossAt := goodIn_r _ [57, 58, 20, 59, 36, 37, 38, 39, 91, 92, 93, 94, 95, 96, 97, 98, 99, 100, 101, 102, 103, 104, 105, 106, 107, 108, 109, 110, 111, 112, 113, 114, 115, 116, 117, 118, 119, 120, 121, 122, 123, 124, 125, 126, 127, 128, 129, 130, 131, 132, 133, 134, 135, 136, 137, 138, 139, 140, 141, 142, 143, 144, 145, 146, 147, 148, 149, 150, 151, 152, 153] (by decide +kernel) (by decide +kernel)
set_option maxRecDepth 20000 in
theorem gX11_loss_X2_lossAt_u145X2 : GoodIn wsX11_loss (va_wsO RX11 145 RX2 "CarbonCopies$Person" ⟨"CarbonCopies$Person", "lossAt", "(I)I"⟩ yX2_lossAt wsX2_lossAt) := goodIn_app (goodIn_of _ (by decide +kernel)) ggX11_loss_X2_lossAt
set_option maxRecDepth 20000 in
theorem ggX11_loss_X3_lossAt : GoodIn wsX11_loss wsX3_lossAt := goodIn_r _ [33, 34, 20, 35, 36, 37, 38, 39, 91, 92, 93, 94, 95, 96, 97, 98, 99, 100, 101, 102, 103, 104, 105, 106, 107, 108, 109, 110, 111, 112, 113, 114, 115, 116, 117, 118, 119, 120, 121, 122, 123, 124, 125, 126, 127, 128, 129, 130, 131, 132, 133, 134, 135, 136, 137, 138, 139, 140, 141, 142, 143, 144, 145, 146, 147, 148, 149, 150, 151, 152, 153] (by decide +kernel) (by decide +kernel)
set_option maxRecDepth 20000 in
theorem gX11_loss_X3_lossAt_u145X3 : GoodIn wsX11_loss (va_wsO RX11 145 RX3 "CarbonCopies$Person" ⟨"CarbonCopies$Person", "lossAt", "(I)I"⟩ yX3_lossAt wsX3_lossAt) := goodIn_app (goodIn_of _ (by decide +kernel)) ggX11_loss_X3_lossAt
set_option maxRecDepth 20000 in
theorem ggX11_loss_X5_lossAt : GoodIn wsX11_loss wsX5_lossAt := goodIn_r _ [38, 39, 91, 92, 93, 94, 95, 96, 97, 98, 99, 100, 101, 102, 103, 104, 105, 106, 107, 108, 109, 110, 111, 112, 113, 114, 115, 116, 117, 118, 119, 120, 121, 122, 123, 124, 125, 126, 127, 128, 129, 130, 131, 132, 133, 134, 135, 136, 137, 138, 139, 140, 141, 142, 143, 144, 145, 146, 147, 148, 149, 150, 151, 152, 153] (by decide +kernel) (by decide +kernel)
set_option maxRecDepth 20000 in
theorem gX11_loss_X5_lossAt : GoodIn wsX11_loss (wsV RX11 145 RX5 yX5_lossAt wsX5_lossAt) := goodIn_app (goodIn_of _ (by decide +kernel)) ggX11_loss_X5_lossAt
set_option maxRecDepth 20000 in
theorem ggX11_loss_X8_lossAt : GoodIn wsX11_loss wsX8_lossAt := goodIn_r _ [51, 52, 20, 53, 36, 37, 38, 39, 91, 92, 93, 94, 95, 96, 97, 98, 99, 100, 101, 102, 103, 104, 105, 106, 107, 108, 109, 110, 111, 112, 113, 114, 115, 116, 117, 118, 119, 120, 121, 122, 123, 124, 125, 126, 127, 128, 129, 130, 131, 132, 133, 134, 135, 136, 137, 138, 139, 140, 141, 142, 143, 144, 145, 146, 147, 148, 149, 150, 151, 152, 153] (by decide +kernel) (by decide +kernel)
set_option maxRecDepth 20000 in
theorem gX11_loss_X8_lossAt_u145X8 : GoodIn wsX11_loss (va_wsO RX11 145 RX8 "CarbonCopies$Person" ⟨"CarbonCopies$Person", "lossAt", "(I)I"⟩ yX8_lossAt wsX8_lossAt) := goodIn_app (goodIn_of _ (by decide +kernel)) ggX11_loss_X8_lossAt
set_option maxRecDepth 20000 in
theorem ggX11_loss_X10_lossAt : GoodIn wsX11_loss wsX10_lossAt := goodIn_r _ [67, 68, 69, 70, 55, 56, 57, 58, 20, 59, 36, 37, 38, 39, 91, 92, 93, 94, 95, 96, 97, 98, 99, 100, 101, 102, 103, 104, 105, 106, 107, 108, 109, 110, 111, 112, 113, 114, 115, 116, 117, 118, 119, 120, 121, 122, 123, 124, 125, 126, 127, 128, 129, 130, 131, 132, 133, 134, 135, 136, 137, 138, 139, 140, 141, 142, 143, 144, 145, 146, 147, 148, 149, 150, 151, 152, 153] (by decide +kernel) (by decide +kernel)
set_option maxRecDepth 20000 in
theorem gX11_loss_X10_lossAt_u145X10 : GoodIn wsX11_loss (va_wsO RX11 145 RX10 "CarbonCopies$Person" ⟨"CarbonCopies$Person", "lossAt", "(I)I"⟩ yX10_lossAt wsX10_lossAt) := goodIn_app (goodIn_of _ (by decide +kernel)) ggX11_loss_X10_lossAt
theorem dX11_loss_0 : decode cX11_loss 0 = .ok (.aload_n 0, 1) := by decide +kernel
theorem dX11_loss_1 : decode cX11_loss 1 = .ok (.getfield 31, 3) := by decide +kernel
theorem dX11_loss_4 : decode cX11_loss 4 = .ok (.iload_n 1, 1) := by decide +kernel
theorem dX11_loss_5 : decode cX11_loss 5 = .ok (.invokevirtual 126, 3) := by decide +kernel
theorem dX11_loss_8 : decode cX11_loss 8 = .ok (.astore_n 3, 1) := by decide +kernel
theorem dX11_loss_9 : decode cX11_loss 9 = .ok (.aload_n 3, 1) := by decide +kernel
theorem dX11_loss_10 : decode cX11_loss 10 = .ok (.ifnonnull 9, 3) := by decide +kernel
theorem dX11_loss_13 : decode cX11_loss 13 = .ok (.aload_n 0, 1) := by decide +kernel
theorem dX11_loss_14 : decode cX11_loss 14 = .ok (.iconst (-1), 1) := by decide +kernel
theorem dX11_loss_15 : decode cX11_loss 15 = .ok (.invokevirtual 80, 3) := by decide +kernel
theorem dX11_loss_18 : decode cX11_loss 18 = .ok (.ireturn, 1) := by decide +kernel
theorem dX11_loss_19 : decode cX11_loss 19 = .ok (.iload_n 2, 1) := by decide +kernel
theorem dX11_loss_20 : decode cX11_loss 20 = .ok (.iconst 1, 1) := by decide +kernel
theorem dX11_loss_21 : decode cX11_loss 21 = .ok (.if_icmp .lt 8, 3) := by decide +kernel
theorem dX11_loss_24 : decode cX11_loss 24 = .ok (.iload_n 2, 1) := by decide +kernel
theorem dX11_loss_25 : decode cX11_loss 25 = .ok (.iconst 5, 1) := by decide +kernel
theorem dX11_loss_26 : decode cX11_loss 26 = .ok (.if_icmp .le 10, 3) := by decide +kernel
theorem dX11_loss_29 : decode cX11_loss 29 = .ok (.aload_n 0, 1) := by decide +kernel
theorem dX11_loss_30 : decode cX11_loss 30 = .ok (.bipush (-6), 2) := by decide +kernel
theorem dX11_loss_32 : decode cX11_loss 32 = .ok (.invokevirtual 80, 3) := by decide +kernel
theorem dX11_loss_35 : decode cX11_loss 35 = .ok (.ireturn, 1) := by decide +kernel
theorem dX11_loss_36 : decode cX11_loss 36 = .ok (.aload_n 3, 1) := by decide +kernel
theorem dX11_loss_37 : decode cX11_loss 37 = .ok (.iload_n 2, 1) := by decide +kernel
theorem dX11_loss_38 : decode cX11_loss 38 = .ok (.invokevirtual 145, 3) := by decide +kernel
theorem dX11_loss_41 : decode cX11_loss 41 = .ok (.ireturn, 1) := by decide +kernel
set_option maxRecDepth 20000 in
theorem ggX11_land_X11_shelfAt : GoodIn wsX11_land wsX11_shelfAt := goodIn_r _ [10, 11, 402, 403, 404, 405, 406, 407, 408, 409, 410, 411, 412, 413, 414, 415] (by decide +kernel) (by decide +kernel)
set_option maxRecDepth 20000 in
theorem gX11_land_X11_shelfAt : GoodIn wsX11_land (wsV RX11 76 RX11 yX11_shelfAt wsX11_shelfAt) := goodIn_app (goodIn_of _ (by decide +kernel)) ggX11_land_X11_shelfAt
set_option maxRecDepth 20000 in
theorem ggX11_land_X7_hasRow : GoodIn wsX11_land wsX7_hasRow := goodIn_r _ [16, 17, 426, 427, 428] (by decide +kernel) (by decide +kernel)
set_option maxRecDepth 20000 in
theorem gX11_land_X7_hasRow : GoodIn wsX11_land (wsV RX11 88 RX7 yX7_hasRow wsX7_hasRow) := goodIn_app (goodIn_of _ (by decide +kernel)) ggX11_land_X7_hasRow
set_option maxRecDepth 20000 in
theorem ggX11_land_X11_lackOfRow : GoodIn wsX11_land wsX11_lackOfRow := goodIn_r _ [20, 21, 22, 23, 15, 24, 17, 426, 427, 428] (by decide +kernel) (by decide +kernel)
set_option maxRecDepth 20000 in
theorem gX11_land_X11_lackOfRow : GoodIn wsX11_land (va_wsS RX11 92 yX11_lackOfRow wsX11_lackOfRow) := goodIn_app (goodIn_of _ (by decide +kernel)) ggX11_land_X11_lackOfRow
set_option maxRecDepth 20000 in
theorem ggX11_land_X11_refuse : GoodIn wsX11_land wsX11_refuse := goodIn_r _ [28, 29, 30, 31, 9, 32, 33, 402, 403, 404, 405, 406, 407, 408, 409, 410, 411, 412, 413, 414, 415] (by decide +kernel) (by decide +kernel)
set_option maxRecDepth 20000 in
theorem gX11_land_X11_refuse : GoodIn wsX11_land (wsV RX11 80 RX11 yX11_refuse wsX11_refuse) := goodIn_app (goodIn_of _ (by decide +kernel)) ggX11_land_X11_refuse
set_option maxRecDepth 20000 in
theorem ggX11_land_X4_takeFrom : GoodIn wsX11_land wsX4_takeFrom := goodIn_r _ [38, 39, 40, 41, 42, 43, 44, 45, 37, 46, 47, 48, 49, 50, 51, 52, 53, 54, 55, 56, 57, 58, 59, 60, 61, 62, 63, 64, 65, 66, 67, 68, 69, 70, 71, 72, 73, 74, 75, 76, 77, 78, 79, 80, 81, 82, 83, 84, 85, 86, 87, 88, 89, 90, 91, 92, 93, 94, 95, 96, 97, 98, 99, 100, 101, 102, 103, 104, 105, 106, 107, 108, 109, 110, 111, 112, 113, 114, 115, 116, 117, 118, 119, 120, 121, 122, 123, 124, 125, 126, 127, 128, 129, 429, 430, 431, 432, 433, 434, 435, 436, 437, 438, 439, 440, 441, 442, 443, 444, 445, 446, 447, 448, 449, 450, 451, 452, 453, 454, 455, 456, 457, 458, 459, 460, 461, 462, 463, 464, 465, 466, 467, 468, 469, 470, 471, 472, 473, 474, 475, 476, 477, 478, 479, 480, 481, 482, 483, 484, 485, 486, 487, 488, 489, 490, 491, 492, 493, 494, 495, 496, 497] (by decide +kernel) (by decide +kernel)
set_option maxRecDepth 20000 in
theorem gX11_land_X4_takeFrom : GoodIn wsX11_land (wsV RX11 196 RX4 yX4_takeFrom wsX4_takeFrom) := goodIn_app (goodIn_of _ (by decide +kernel)) ggX11_land_X4_takeFrom
set_option maxRecDepth 20000 in
theorem ggX11_land_X6_readFrom : GoodIn wsX11_land wsX6_readFrom := goodIn_r _ [134, 135, 136, 137, 138, 139, 140, 141, 142, 143, 144, 145, 146, 15, 147, 148, 149, 150, 151, 152, 153, 154, 155, 156, 157, 158, 13, 14, 16, 17, 159, 160, 161, 133, 162, 163, 164, 165, 166, 167, 168, 169, 170, 171, 172, 173, 174, 175, 176, 177, 178, 179, 180, 181, 182, 183, 184, 185, 186, 187, 188, 189, 190, 191, 192, 193, 194, 195, 196, 197, 198, 199, 200, 201, 202, 203, 204, 205, 206, 207, 208, 209, 210, 211, 212, 213, 214, 215, 216, 217, 218, 219, 220, 221, 222, 223, 224, 225, 226, 227, 228, 229, 230, 231, 232, 233, 234, 235, 236, 237, 238, 239, 240, 241, 242, 243, 244, 245, 246, 247, 248, 249, 250, 251, 252, 44, 45, 37, 46, 41, 47, 253, 254, 255, 256, 257, 258, 259, 260, 261, 262, 263, 264, 265, 266, 267, 268, 269, 270, 271, 272, 273, 274, 275, 276, 277, 278, 279, 280, 281, 282, 48, 49, 50, 51, 42, 52, 53, 54, 55, 56, 57, 58, 59, 60, 61, 62, 63, 64, 65, 66, 67, 68, 69, 70, 71, 72, 73, 74, 75, 76, 77, 78, 79, 80, 81, 82, 83, 84, 85, 86, 87, 88, 89, 90, 91, 92, 93, 94, 95, 96, 97, 98, 99, 100, 101, 102, 103, 104, 105, 106, 107, 108, 109, 110, 111, 112, 113, 283, 284, 285, 286, 287, 288, 289, 290, 291, 292, 293, 294, 295, 296, 297, 298, 299, 300, 301, 302, 303, 304, 305, 306, 307, 308, 9, 309, 310, 311, 312, 313, 314, 315, 316, 317, 318, 319, 320, 321, 322, 323, 324, 325, 326, 327, 328, 329, 330, 331, 332, 333, 334, 335, 336, 337, 338, 339, 340, 341, 342, 343, 344, 345, 346, 347, 348, 349, 350, 351, 352, 353, 354, 355, 356, 357, 358, 359, 360, 361, 362, 363, 364, 365, 366, 367, 368, 369, 370, 371, 372, 373, 374, 375, 376, 377, 378, 379, 380, 381, 382, 383, 384, 385, 386, 387, 388, 389, 390, 391, 392, 393, 394, 395, 396, 397, 398, 399, 400, 401, 426, 427, 428, 416, 417, 418, 419, 420, 421, 422, 423, 424, 425, 429, 430, 431, 432, 433, 434, 435, 436, 437, 438, 439, 440, 441, 442, 443, 444, 445, 446, 447, 448, 449, 450, 451, 452, 453, 454, 455, 456, 457, 458, 459, 460, 461, 462, 463, 464, 465, 466, 467, 468, 469, 470, 471, 472, 473, 474, 475, 476, 477, 478, 479, 480, 481, 482, 483, 484, 485, 486, 487, 488, 489, 490, 491, 492, 493, 494, 495, 496, 497] (by decide +kernel) (by decide +kernel)
set_option maxRecDepth 20000 in
theorem gX11_land_X6_readFrom : GoodIn wsX11_land (wsV RX11 199 RX6 yX6_readFrom wsX6_readFrom) := goodIn_app (goodIn_of _ (by decide +kernel)) ggX11_land_X6_readFrom
theorem dX11_land_0 : decode cX11_land 0 = .ok (.aload_n 0, 1) := by decide +kernel
theorem dX11_land_1 : decode cX11_land 1 = .ok (.iload_n 1, 1) := by decide +kernel
theorem dX11_land_2 : decode cX11_land 2 = .ok (.invokevirtual 76, 3) := by decide +kernel
theorem dX11_land_5 : decode cX11_land 5 = .ok (.astore_n 2, 1) := by decide +kernel
theorem dX11_land_6 : decode cX11_land 6 = .ok (.aload_n 2, 1) := by decide +kernel
theorem dX11_land_7 : decode cX11_land 7 = .ok (.ifnull 10, 3) := by decide +kernel
theorem dX11_land_10 : decode cX11_land 10 = .ok (.aload_n 2, 1) := by decide +kernel
theorem dX11_land_11 : decode cX11_land 11 = .ok (.invokevirtual 88, 3) := by decide +kernel
theorem dX11_land_14 : decode cX11_land 14 = .ok (.ifCond .ne 12, 3) := by decide +kernel
theorem dX11_land_17 : decode cX11_land 17 = .ok (.aload_n 0, 1) := by decide +kernel
theorem dX11_land_18 : decode cX11_land 18 = .ok (.aload_n 2, 1) := by decide +kernel
theorem dX11_land_19 : decode cX11_land 19 = .ok (.invokestatic 92, 3) := by decide +kernel
theorem dX11_land_22 : decode cX11_land 22 = .ok (.invokevirtual 80, 3) := by decide +kernel
theorem dX11_land_25 : decode cX11_land 25 = .ok (.ireturn, 1) := by decide +kernel
theorem dX11_land_26 : decode cX11_land 26 = .ok (.aload_n 0, 1) := by decide +kernel
theorem dX11_land_27 : decode cX11_land 27 = .ok (.getfield 35, 3) := by decide +kernel
theorem dX11_land_30 : decode cX11_land 30 = .ok (.aload_n 0, 1) := by decide +kernel
theorem dX11_land_31 : decode cX11_land 31 = .ok (.getfield 31, 3) := by decide +kernel
theorem dX11_land_34 : decode cX11_land 34 = .ok (.invokevirtual 196, 3) := by decide +kernel
theorem dX11_land_37 : decode cX11_land 37 = .ok (.aload_n 0, 1) := by decide +kernel
theorem dX11_land_38 : decode cX11_land 38 = .ok (.getfield 46, 3) := by decide +kernel
theorem dX11_land_41 : decode cX11_land 41 = .ok (.aload_n 2, 1) := by decide +kernel
theorem dX11_land_42 : decode cX11_land 42 = .ok (.invokevirtual 199, 3) := by decide +kernel
theorem dX11_land_45 : decode cX11_land 45 = .ok (.istore_n 3, 1) := by decide +kernel
theorem dX11_land_46 : decode cX11_land 46 = .ok (.aload_n 0, 1) := by decide +kernel
theorem dX11_land_47 : decode cX11_land 47 = .ok (.aload_n 0, 1) := by decide +kernel
theorem dX11_land_48 : decode cX11_land 48 = .ok (.getfield 46, 3) := by decide +kernel
theorem dX11_land_51 : decode cX11_land 51 = .ok (.getfield 202, 3) := by decide +kernel
theorem dX11_land_54 : decode cX11_land 54 = .ok (.putfield 71, 3) := by decide +kernel
theorem dX11_land_57 : decode cX11_land 57 = .ok (.aload_n 0, 1) := by decide +kernel
theorem dX11_land_58 : decode cX11_land 58 = .ok (.getfield 71, 3) := by decide +kernel
theorem dX11_land_61 : decode cX11_land 61 = .ok (.iconst (-1), 1) := by decide +kernel
theorem dX11_land_62 : decode cX11_land 62 = .ok (.if_icmp .eq 10, 3) := by decide +kernel
theorem dX11_land_65 : decode cX11_land 65 = .ok (.aload_n 0, 1) := by decide +kernel
theorem dX11_land_66 : decode cX11_land 66 = .ok (.bipush (-6), 2) := by decide +kernel
theorem dX11_land_68 : decode cX11_land 68 = .ok (.invokevirtual 80, 3) := by decide +kernel
theorem dX11_land_71 : decode cX11_land 71 = .ok (.ireturn, 1) := by decide +kernel
theorem dX11_land_72 : decode cX11_land 72 = .ok (.aload_n 0, 1) := by decide +kernel
theorem dX11_land_73 : decode cX11_land 73 = .ok (.getfield 31, 3) := by decide +kernel
theorem dX11_land_76 : decode cX11_land 76 = .ok (.aload_n 0, 1) := by decide +kernel
theorem dX11_land_77 : decode cX11_land 77 = .ok (.getfield 35, 3) := by decide +kernel
theorem dX11_land_80 : decode cX11_land 80 = .ok (.invokevirtual 196, 3) := by decide +kernel
theorem dX11_land_83 : decode cX11_land 83 = .ok (.iload_n 3, 1) := by decide +kernel
theorem dX11_land_84 : decode cX11_land 84 = .ok (.ireturn, 1) := by decide +kernel
theorem dX11_fault_0 : decode cX11_fault 0 = .ok (.aload_n 0, 1) := by decide +kernel
theorem dX11_fault_1 : decode cX11_fault 1 = .ok (.getfield 71, 3) := by decide +kernel
theorem dX11_fault_4 : decode cX11_fault 4 = .ok (.ireturn, 1) := by decide +kernel
set_option maxRecDepth 20000 in
theorem ggX11_have_X4_personAt : GoodIn wsX11_have wsX4_personAt := goodIn_r _ [7, 8, 9, 66, 67, 68, 69, 70, 71] (by decide +kernel) (by decide +kernel)
set_option maxRecDepth 20000 in
theorem gX11_have_X4_personAt : GoodIn wsX11_have (wsV RX11 126 RX4 yX4_personAt wsX4_personAt) := goodIn_app (goodIn_of _ (by decide +kernel)) ggX11_have_X4_personAt
set_option maxRecDepth 20000 in
theorem ggX11_have_X11_refuse : GoodIn wsX11_have wsX11_refuse := goodIn_r _ [14, 15, 16, 17, 13, 18, 19, 52, 53, 54, 55, 56, 57, 58, 59, 60, 61, 62, 63, 64, 65] (by decide +kernel) (by decide +kernel)
set_option maxRecDepth 20000 in
theorem gX11_have_X11_refuse : GoodIn wsX11_have (wsV RX11 80 RX11 yX11_refuse wsX11_refuse) := goodIn_app (goodIn_of _ (by decide +kernel)) ggX11_have_X11_refuse
set_option maxRecDepth 20000 in
theorem ggX11_have_X11_isDeed : GoodIn wsX11_have wsX11_isDeed := goodIn_r _ [22] (by decide +kernel) (by decide +kernel)
set_option maxRecDepth 20000 in
theorem gX11_have_X11_isDeed : GoodIn wsX11_have (va_wsS RX11 184 yX11_isDeed wsX11_isDeed) := goodIn_app (goodIn_of _ (by decide +kernel)) ggX11_have_X11_isDeed
set_option maxRecDepth 20000 in
theorem ggX11_have_X5_haveBits : GoodIn wsX11_have wsX5_haveBits := goodIn_r _ [28, 29, 30, 31, 32, 33, 27, 34, 35, 36, 13, 37, 21, 22, 38, 39, 40, 41, 42, 43, 44, 72, 73, 74, 75, 76, 77, 78, 79, 80, 81, 82, 83, 84, 85, 86, 87, 88, 89, 90, 91, 92, 93, 94, 95, 96, 97, 98, 99, 100, 101, 102, 103, 104, 105, 106, 107, 108, 109, 110, 111, 112, 113, 114, 115, 116, 117, 118, 119, 120, 121, 122, 123, 124, 125, 126, 127, 128, 129, 130, 131, 132, 133, 134] (by decide +kernel) (by decide +kernel)
set_option maxRecDepth 20000 in
theorem gX11_have_X5_haveBits_u205X0 : GoodIn wsX11_have (va_wsU RX11 205 RX0 "CarbonCopies$Person" ⟨"CarbonCopies$Person", "haveBits", "(II)I"⟩ yX5_haveBits wsX5_haveBits) := goodIn_app (goodIn_of _ (by decide +kernel)) ggX11_have_X5_haveBits
set_option maxRecDepth 20000 in
theorem gX11_have_X5_haveBits_u205X1 : GoodIn wsX11_have (va_wsU RX11 205 RX1 "CarbonCopies$Person" ⟨"CarbonCopies$Person", "haveBits", "(II)I"⟩ yX5_haveBits wsX5_haveBits) := goodIn_app (goodIn_of _ (by decide +kernel)) ggX11_have_X5_haveBits
set_option maxRecDepth 20000 in
theorem gX11_have_X5_haveBits_u205X2 : GoodIn wsX11_have (va_wsU RX11 205 RX2 "CarbonCopies$Person" ⟨"CarbonCopies$Person", "haveBits", "(II)I"⟩ yX5_haveBits wsX5_haveBits) := goodIn_app (goodIn_of _ (by decide +kernel)) ggX11_have_X5_haveBits
set_option maxRecDepth 20000 in
theorem gX11_have_X5_haveBits_u205X3 : GoodIn wsX11_have (va_wsU RX11 205 RX3 "CarbonCopies$Person" ⟨"CarbonCopies$Person", "haveBits", "(II)I"⟩ yX5_haveBits wsX5_haveBits) := goodIn_app (goodIn_of _ (by decide +kernel)) ggX11_have_X5_haveBits
set_option maxRecDepth 20000 in
theorem gX11_have_X5_haveBits : GoodIn wsX11_have (wsV RX11 205 RX5 yX5_haveBits wsX5_haveBits) := goodIn_app (goodIn_of _ (by decide +kernel)) ggX11_have_X5_haveBits
set_option maxRecDepth 20000 in
theorem gX11_have_X5_haveBits_u205X8 : GoodIn wsX11_have (va_wsU RX11 205 RX8 "CarbonCopies$Person" ⟨"CarbonCopies$Person", "haveBits", "(II)I"⟩ yX5_haveBits wsX5_haveBits) := goodIn_app (goodIn_of _ (by decide +kernel)) ggX11_have_X5_haveBits
set_option maxRecDepth 20000 in
theorem gX11_have_X5_haveBits_u205X10 : GoodIn wsX11_have (va_wsU RX11 205 RX10 "CarbonCopies$Person" ⟨"CarbonCopies$Person", "haveBits", "(II)I"⟩ yX5_haveBits wsX5_haveBits) := goodIn_app (goodIn_of _ (by decide +kernel)) ggX11_have_X5_haveBits
theorem dX11_have_0 : decode cX11_have 0 = .ok (.aload_n 0, 1) := by decide +kernel
theorem dX11_have_1 : decode cX11_have 1 = .ok (.getfield 31, 3) := by decide +kernel
theorem dX11_have_4 : decode cX11_have 4 = .ok (.iload_n 1, 1) := by decide +kernel
theorem dX11_have_5 : decode cX11_have 5 = .ok (.invokevirtual 126, 3) := by decide +kernel
theorem dX11_have_8 : decode cX11_have 8 = .ok (.astore_n 3, 1) := by decide +kernel
theorem dX11_have_9 : decode cX11_have 9 = .ok (.aload_n 3, 1) := by decide +kernel
theorem dX11_have_10 : decode cX11_have 10 = .ok (.ifnonnull 9, 3) := by decide +kernel
theorem dX11_have_13 : decode cX11_have 13 = .ok (.aload_n 0, 1) := by decide +kernel
theorem dX11_have_14 : decode cX11_have 14 = .ok (.iconst (-1), 1) := by decide +kernel
theorem dX11_have_15 : decode cX11_have 15 = .ok (.invokevirtual 80, 3) := by decide +kernel
theorem dX11_have_18 : decode cX11_have 18 = .ok (.ireturn, 1) := by decide +kernel
theorem dX11_have_19 : decode cX11_have 19 = .ok (.iload_n 2, 1) := by decide +kernel
theorem dX11_have_20 : decode cX11_have 20 = .ok (.invokestatic 184, 3) := by decide +kernel
theorem dX11_have_23 : decode cX11_have 23 = .ok (.ifCond .ne 10, 3) := by decide +kernel
theorem dX11_have_26 : decode cX11_have 26 = .ok (.aload_n 0, 1) := by decide +kernel
theorem dX11_have_27 : decode cX11_have 27 = .ok (.bipush (-6), 2) := by decide +kernel
theorem dX11_have_29 : decode cX11_have 29 = .ok (.invokevirtual 80, 3) := by decide +kernel
theorem dX11_have_32 : decode cX11_have 32 = .ok (.ireturn, 1) := by decide +kernel
theorem dX11_have_33 : decode cX11_have 33 = .ok (.aload_n 3, 1) := by decide +kernel
theorem dX11_have_34 : decode cX11_have 34 = .ok (.iload_n 2, 1) := by decide +kernel
theorem dX11_have_35 : decode cX11_have 35 = .ok (.aload_n 0, 1) := by decide +kernel
theorem dX11_have_36 : decode cX11_have 36 = .ok (.getfield 31, 3) := by decide +kernel
theorem dX11_have_39 : decode cX11_have 39 = .ok (.getfield 155, 3) := by decide +kernel
theorem dX11_have_42 : decode cX11_have 42 = .ok (.invokevirtual 205, 3) := by decide +kernel
theorem dX11_have_45 : decode cX11_have 45 = .ok (.ireturn, 1) := by decide +kernel
set_option maxRecDepth 20000 in
theorem ggX11_all_X4_personAt : GoodIn wsX11_all wsX4_personAt := goodIn_r _ [7, 8, 9, 77, 78, 79, 80, 81, 82] (by decide +kernel) (by decide +kernel)
set_option maxRecDepth 20000 in
theorem gX11_all_X4_personAt : GoodIn wsX11_all (wsV RX11 126 RX4 yX4_personAt wsX4_personAt) := goodIn_app (goodIn_of _ (by decide +kernel)) ggX11_all_X4_personAt
set_option maxRecDepth 20000 in
theorem ggX11_all_X11_refuse : GoodIn wsX11_all wsX11_refuse := goodIn_r _ [14, 15, 16, 17, 13, 18, 19, 63, 64, 65, 66, 67, 68, 69, 70, 71, 72, 73, 74, 75, 76] (by decide +kernel) (by decide +kernel)
set_option maxRecDepth 20000 in
theorem gX11_all_X11_refuse : GoodIn wsX11_all (wsV RX11 80 RX11 yX11_refuse wsX11_refuse) := goodIn_app (goodIn_of _ (by decide +kernel)) ggX11_all_X11_refuse
set_option maxRecDepth 20000 in
theorem ggX11_all_X5_allBits : GoodIn wsX11_all wsX5_allBits := goodIn_r _ [25, 26, 27, 28, 29, 30, 24, 31, 32, 33, 34, 35, 36, 37, 38, 13, 39, 40, 41, 42, 43, 44, 45, 46, 47, 48, 49, 50, 51, 52, 53, 54, 55, 83, 84, 85, 86, 87, 88, 89, 90, 91, 92, 93, 94, 95, 96, 97, 98, 99, 100, 101, 102, 103, 104, 105, 106, 107, 108, 109, 110, 111, 112, 113, 114, 115, 116, 117, 118, 119, 120, 121, 122, 123, 124, 125, 126, 127, 128, 129, 130, 131, 132, 133, 134, 135, 136, 137, 138, 139, 140, 141, 142, 143, 144, 145] (by decide +kernel) (by decide +kernel)
set_option maxRecDepth 20000 in
theorem gX11_all_X5_allBits_u208X0 : GoodIn wsX11_all (va_wsU RX11 208 RX0 "CarbonCopies$Person" ⟨"CarbonCopies$Person", "allBits", "(I)I"⟩ yX5_allBits wsX5_allBits) := goodIn_app (goodIn_of _ (by decide +kernel)) ggX11_all_X5_allBits
set_option maxRecDepth 20000 in
theorem gX11_all_X5_allBits_u208X1 : GoodIn wsX11_all (va_wsU RX11 208 RX1 "CarbonCopies$Person" ⟨"CarbonCopies$Person", "allBits", "(I)I"⟩ yX5_allBits wsX5_allBits) := goodIn_app (goodIn_of _ (by decide +kernel)) ggX11_all_X5_allBits
set_option maxRecDepth 20000 in
theorem gX11_all_X5_allBits_u208X2 : GoodIn wsX11_all (va_wsU RX11 208 RX2 "CarbonCopies$Person" ⟨"CarbonCopies$Person", "allBits", "(I)I"⟩ yX5_allBits wsX5_allBits) := goodIn_app (goodIn_of _ (by decide +kernel)) ggX11_all_X5_allBits
set_option maxRecDepth 20000 in
theorem gX11_all_X5_allBits_u208X3 : GoodIn wsX11_all (va_wsU RX11 208 RX3 "CarbonCopies$Person" ⟨"CarbonCopies$Person", "allBits", "(I)I"⟩ yX5_allBits wsX5_allBits) := goodIn_app (goodIn_of _ (by decide +kernel)) ggX11_all_X5_allBits
set_option maxRecDepth 20000 in
theorem gX11_all_X5_allBits : GoodIn wsX11_all (wsV RX11 208 RX5 yX5_allBits wsX5_allBits) := goodIn_app (goodIn_of _ (by decide +kernel)) ggX11_all_X5_allBits
set_option maxRecDepth 20000 in
theorem gX11_all_X5_allBits_u208X8 : GoodIn wsX11_all (va_wsU RX11 208 RX8 "CarbonCopies$Person" ⟨"CarbonCopies$Person", "allBits", "(I)I"⟩ yX5_allBits wsX5_allBits) := goodIn_app (goodIn_of _ (by decide +kernel)) ggX11_all_X5_allBits
set_option maxRecDepth 20000 in
theorem gX11_all_X5_allBits_u208X10 : GoodIn wsX11_all (va_wsU RX11 208 RX10 "CarbonCopies$Person" ⟨"CarbonCopies$Person", "allBits", "(I)I"⟩ yX5_allBits wsX5_allBits) := goodIn_app (goodIn_of _ (by decide +kernel)) ggX11_all_X5_allBits
theorem dX11_all_0 : decode cX11_all 0 = .ok (.aload_n 0, 1) := by decide +kernel
theorem dX11_all_1 : decode cX11_all 1 = .ok (.getfield 31, 3) := by decide +kernel
theorem dX11_all_4 : decode cX11_all 4 = .ok (.iload_n 1, 1) := by decide +kernel
theorem dX11_all_5 : decode cX11_all 5 = .ok (.invokevirtual 126, 3) := by decide +kernel
theorem dX11_all_8 : decode cX11_all 8 = .ok (.astore_n 2, 1) := by decide +kernel
theorem dX11_all_9 : decode cX11_all 9 = .ok (.aload_n 2, 1) := by decide +kernel
theorem dX11_all_10 : decode cX11_all 10 = .ok (.ifnonnull 11, 3) := by decide +kernel
theorem dX11_all_13 : decode cX11_all 13 = .ok (.aload_n 0, 1) := by decide +kernel
theorem dX11_all_14 : decode cX11_all 14 = .ok (.iconst (-1), 1) := by decide +kernel
theorem dX11_all_15 : decode cX11_all 15 = .ok (.invokevirtual 80, 3) := by decide +kernel
theorem dX11_all_18 : decode cX11_all 18 = .ok (.goto 14, 3) := by decide +kernel
theorem dX11_all_21 : decode cX11_all 21 = .ok (.aload_n 2, 1) := by decide +kernel
theorem dX11_all_22 : decode cX11_all 22 = .ok (.aload_n 0, 1) := by decide +kernel
theorem dX11_all_23 : decode cX11_all 23 = .ok (.getfield 31, 3) := by decide +kernel
theorem dX11_all_26 : decode cX11_all 26 = .ok (.getfield 155, 3) := by decide +kernel
theorem dX11_all_29 : decode cX11_all 29 = .ok (.invokevirtual 208, 3) := by decide +kernel
theorem dX11_all_32 : decode cX11_all 32 = .ok (.ireturn, 1) := by decide +kernel
set_option maxRecDepth 20000 in
theorem ggX11_force_X4_personAt : GoodIn wsX11_force wsX4_personAt := goodIn_r _ [6, 7, 8, 146, 147, 148, 149, 150, 151] (by decide +kernel) (by decide +kernel)
set_option maxRecDepth 20000 in
theorem gX11_force_X4_personAt : GoodIn wsX11_force (wsV RX11 126 RX4 yX4_personAt wsX4_personAt) := goodIn_app (goodIn_of _ (by decide +kernel)) ggX11_force_X4_personAt
set_option maxRecDepth 20000 in
theorem ggX11_force_X11_refuseLess : GoodIn wsX11_force wsX11_refuseLess := goodIn_r _ [13, 14, 132, 133, 134, 135, 136, 137, 138, 139, 140, 141, 142, 143, 144, 145] (by decide +kernel) (by decide +kernel)
set_option maxRecDepth 20000 in
theorem gX11_force_X11_refuseLess : GoodIn wsX11_force (wsV RX11 190 RX11 yX11_refuseLess wsX11_refuseLess) := goodIn_app (goodIn_of _ (by decide +kernel)) ggX11_force_X11_refuseLess
set_option maxRecDepth 20000 in
theorem ggX11_force_X11_isDeed : GoodIn wsX11_force wsX11_isDeed := goodIn_r _ [17] (by decide +kernel) (by decide +kernel)
set_option maxRecDepth 20000 in
theorem gX11_force_X11_isDeed : GoodIn wsX11_force (va_wsS RX11 184 yX11_isDeed wsX11_isDeed) := goodIn_app (goodIn_of _ (by decide +kernel)) ggX11_force_X11_isDeed
set_option maxRecDepth 20000 in
theorem ggX11_force_X5_isLeft : GoodIn wsX11_force wsX5_isLeft := goodIn_r _ [23, 24, 25, 12, 26, 152, 153, 154, 155, 156, 157, 158, 159, 160, 161, 162, 163, 164, 165, 166, 167, 168, 169, 170, 171, 172, 173, 174, 175, 176, 177, 178, 179, 180, 181, 182, 183, 184, 185, 186, 187, 188, 189, 190, 191, 192, 193, 194, 195, 196, 197, 198, 199, 200, 201, 202, 203, 204, 205, 206, 207, 208, 209, 210, 211, 212, 213, 214] (by decide +kernel) (by decide +kernel)
set_option maxRecDepth 20000 in
theorem gX11_force_X5_isLeft_u181X0 : GoodIn wsX11_force (va_wsU RX11 181 RX0 "CarbonCopies$Person" ⟨"CarbonCopies$Person", "isLeft", "(I)Z"⟩ yX5_isLeft wsX5_isLeft) := goodIn_app (goodIn_of _ (by decide +kernel)) ggX11_force_X5_isLeft
set_option maxRecDepth 20000 in
theorem gX11_force_X5_isLeft_u181X1 : GoodIn wsX11_force (va_wsU RX11 181 RX1 "CarbonCopies$Person" ⟨"CarbonCopies$Person", "isLeft", "(I)Z"⟩ yX5_isLeft wsX5_isLeft) := goodIn_app (goodIn_of _ (by decide +kernel)) ggX11_force_X5_isLeft
set_option maxRecDepth 20000 in
theorem gX11_force_X5_isLeft_u181X2 : GoodIn wsX11_force (va_wsU RX11 181 RX2 "CarbonCopies$Person" ⟨"CarbonCopies$Person", "isLeft", "(I)Z"⟩ yX5_isLeft wsX5_isLeft) := goodIn_app (goodIn_of _ (by decide +kernel)) ggX11_force_X5_isLeft
set_option maxRecDepth 20000 in
theorem gX11_force_X5_isLeft_u181X3 : GoodIn wsX11_force (va_wsU RX11 181 RX3 "CarbonCopies$Person" ⟨"CarbonCopies$Person", "isLeft", "(I)Z"⟩ yX5_isLeft wsX5_isLeft) := goodIn_app (goodIn_of _ (by decide +kernel)) ggX11_force_X5_isLeft
set_option maxRecDepth 20000 in
theorem gX11_force_X5_isLeft : GoodIn wsX11_force (wsV RX11 181 RX5 yX5_isLeft wsX5_isLeft) := goodIn_app (goodIn_of _ (by decide +kernel)) ggX11_force_X5_isLeft
set_option maxRecDepth 20000 in
theorem gX11_force_X5_isLeft_u181X8 : GoodIn wsX11_force (va_wsU RX11 181 RX8 "CarbonCopies$Person" ⟨"CarbonCopies$Person", "isLeft", "(I)Z"⟩ yX5_isLeft wsX5_isLeft) := goodIn_app (goodIn_of _ (by decide +kernel)) ggX11_force_X5_isLeft
set_option maxRecDepth 20000 in
theorem gX11_force_X5_isLeft_u181X10 : GoodIn wsX11_force (va_wsU RX11 181 RX10 "CarbonCopies$Person" ⟨"CarbonCopies$Person", "isLeft", "(I)Z"⟩ yX5_isLeft wsX5_isLeft) := goodIn_app (goodIn_of _ (by decide +kernel)) ggX11_force_X5_isLeft
set_option maxRecDepth 20000 in
theorem ggX11_force_X11_leastForce : GoodIn wsX11_force wsX11_leastForce := goodIn_r _ [37, 38, 1, 39, 40, 41, 42, 43, 22, 44, 45, 46, 47, 48, 49, 50, 25, 12, 26, 16, 17, 51, 52, 53, 54, 55, 56, 57, 58, 59, 60, 61, 62, 24, 63, 64, 65, 66, 67, 68, 69, 70, 71, 72, 73, 74, 75, 76, 77, 78, 79, 80, 81, 82, 83, 84, 85, 86, 87, 88, 89, 90, 91, 92, 93, 94, 95, 96, 97, 98, 99, 100, 101, 102, 103, 104, 105, 106, 107, 108, 109, 110, 111, 112, 113, 114, 115, 116, 117, 118, 119, 120, 121, 122, 123, 124, 125, 126, 127, 128, 129, 130, 131, 152, 153, 154, 155, 156, 157, 158, 159, 160, 161, 162, 163, 164, 165, 166, 167, 168, 169, 170, 171, 172, 173, 174, 175, 176, 177, 178, 179, 180, 181, 182, 183, 184, 185, 186, 187, 188, 189, 190, 191, 192, 193, 194, 195, 196, 197, 198, 199, 200, 201, 202, 203, 204, 205, 206, 207, 208, 209, 210, 211, 212, 213, 214, 132, 133, 134, 135, 136, 137, 138, 139, 140, 141, 142, 143, 144, 145, 146, 147, 148, 149, 150, 151] (by decide +kernel) (by decide +kernel)
set_option maxRecDepth 20000 in
theorem gX11_force_X11_leastForce : GoodIn wsX11_force (wsV RX11 211 RX11 yX11_leastForce wsX11_leastForce) := goodIn_app (goodIn_of _ (by decide +kernel)) ggX11_force_X11_leastForce
theorem dX11_force_0 : decode cX11_force 0 = .ok (.aload_n 0, 1) := by decide +kernel
theorem dX11_force_1 : decode cX11_force 1 = .ok (.getfield 31, 3) := by decide +kernel
theorem dX11_force_4 : decode cX11_force 4 = .ok (.iload_n 1, 1) := by decide +kernel
theorem dX11_force_5 : decode cX11_force 5 = .ok (.invokevirtual 126, 3) := by decide +kernel
theorem dX11_force_8 : decode cX11_force 8 = .ok (.astore 5, 2) := by decide +kernel
theorem dX11_force_10 : decode cX11_force 10 = .ok (.aload 5, 2) := by decide +kernel
theorem dX11_force_12 : decode cX11_force 12 = .ok (.ifnonnull 11, 3) := by decide +kernel
theorem dX11_force_15 : decode cX11_force 15 = .ok (.aload_n 0, 1) := by decide +kernel
theorem dX11_force_16 : decode cX11_force 16 = .ok (.iconst (-1), 1) := by decide +kernel
theorem dX11_force_17 : decode cX11_force 17 = .ok (.bipush 10, 2) := by decide +kernel
theorem dX11_force_19 : decode cX11_force 19 = .ok (.invokevirtual 190, 3) := by decide +kernel
theorem dX11_force_22 : decode cX11_force 22 = .ok (.ireturn, 1) := by decide +kernel
theorem dX11_force_23 : decode cX11_force 23 = .ok (.iload 4, 2) := by decide +kernel
theorem dX11_force_25 : decode cX11_force 25 = .ok (.ifCond .eq 18, 3) := by decide +kernel
theorem dX11_force_28 : decode cX11_force 28 = .ok (.iload 4, 2) := by decide +kernel
theorem dX11_force_30 : decode cX11_force 30 = .ok (.iconst 1, 1) := by decide +kernel
theorem dX11_force_31 : decode cX11_force 31 = .ok (.if_icmp .eq 12, 3) := by decide +kernel
theorem dX11_force_34 : decode cX11_force 34 = .ok (.aload_n 0, 1) := by decide +kernel
theorem dX11_force_35 : decode cX11_force 35 = .ok (.bipush (-5), 2) := by decide +kernel
theorem dX11_force_37 : decode cX11_force 37 = .ok (.bipush 10, 2) := by decide +kernel
theorem dX11_force_39 : decode cX11_force 39 = .ok (.invokevirtual 190, 3) := by decide +kernel
theorem dX11_force_42 : decode cX11_force 42 = .ok (.ireturn, 1) := by decide +kernel
theorem dX11_force_43 : decode cX11_force 43 = .ok (.iload_n 2, 1) := by decide +kernel
theorem dX11_force_44 : decode cX11_force 44 = .ok (.invokestatic 184, 3) := by decide +kernel
theorem dX11_force_47 : decode cX11_force 47 = .ok (.ifCond .eq 12, 3) := by decide +kernel
theorem dX11_force_50 : decode cX11_force 50 = .ok (.aload 5, 2) := by decide +kernel
theorem dX11_force_52 : decode cX11_force 52 = .ok (.iload_n 3, 1) := by decide +kernel
theorem dX11_force_53 : decode cX11_force 53 = .ok (.invokevirtual 181, 3) := by decide +kernel
theorem dX11_force_56 : decode cX11_force 56 = .ok (.ifCond .ne 12, 3) := by decide +kernel
theorem dX11_force_59 : decode cX11_force 59 = .ok (.aload_n 0, 1) := by decide +kernel
theorem dX11_force_60 : decode cX11_force 60 = .ok (.bipush (-6), 2) := by decide +kernel
theorem dX11_force_62 : decode cX11_force 62 = .ok (.bipush 10, 2) := by decide +kernel
theorem dX11_force_64 : decode cX11_force 64 = .ok (.invokevirtual 190, 3) := by decide +kernel
theorem dX11_force_67 : decode cX11_force 67 = .ok (.ireturn, 1) := by decide +kernel
theorem dX11_force_68 : decode cX11_force 68 = .ok (.aload_n 0, 1) := by decide +kernel
theorem dX11_force_69 : decode cX11_force 69 = .ok (.aload 5, 2) := by decide +kernel
theorem dX11_force_71 : decode cX11_force 71 = .ok (.iload_n 2, 1) := by decide +kernel
theorem dX11_force_72 : decode cX11_force 72 = .ok (.iload_n 3, 1) := by decide +kernel
theorem dX11_force_73 : decode cX11_force 73 = .ok (.iload 4, 2) := by decide +kernel
theorem dX11_force_75 : decode cX11_force 75 = .ok (.iconst 1, 1) := by decide +kernel
theorem dX11_force_76 : decode cX11_force 76 = .ok (.if_icmp .ne 7, 3) := by decide +kernel
theorem dX11_force_79 : decode cX11_force 79 = .ok (.iconst 1, 1) := by decide +kernel
theorem dX11_force_80 : decode cX11_force 80 = .ok (.goto 4, 3) := by decide +kernel
theorem dX11_force_83 : decode cX11_force 83 = .ok (.iconst 0, 1) := by decide +kernel
theorem dX11_force_84 : decode cX11_force 84 = .ok (.invokevirtual 211, 3) := by decide +kernel
theorem dX11_force_87 : decode cX11_force 87 = .ok (.ireturn, 1) := by decide +kernel
set_option maxRecDepth 20000 in
theorem ggX11_got_X4_personAt : GoodIn wsX11_got wsX4_personAt := goodIn_r _ [6, 7, 8, 116, 117, 118, 119, 120, 121] (by decide +kernel) (by decide +kernel)
set_option maxRecDepth 20000 in
theorem gX11_got_X4_personAt : GoodIn wsX11_got (wsV RX11 126 RX4 yX4_personAt wsX4_personAt) := goodIn_app (goodIn_of _ (by decide +kernel)) ggX11_got_X4_personAt
set_option maxRecDepth 20000 in
theorem ggX11_got_X11_refuse : GoodIn wsX11_got wsX11_refuse := goodIn_r _ [13, 14, 15, 16, 12, 17, 18, 102, 103, 104, 105, 106, 107, 108, 109, 110, 111, 112, 113, 114, 115] (by decide +kernel) (by decide +kernel)
set_option maxRecDepth 20000 in
theorem gX11_got_X11_refuse : GoodIn wsX11_got (wsV RX11 80 RX11 yX11_refuse wsX11_refuse) := goodIn_app (goodIn_of _ (by decide +kernel)) ggX11_got_X11_refuse
set_option maxRecDepth 20000 in
theorem ggX11_got_X5_isLeft : GoodIn wsX11_got wsX5_isLeft := goodIn_r _ [24, 25, 26, 12, 27, 122, 123, 124, 125, 126, 127, 128, 129, 130, 131, 132, 133, 134, 135, 136, 137, 138, 139, 140, 141, 142, 143, 144, 145, 146, 147, 148, 149, 150, 151, 152, 153, 154, 155, 156, 157, 158, 159, 160, 161, 162, 163, 164, 165, 166, 167, 168, 169, 170, 171, 172, 173, 174, 175, 176, 177, 178, 179, 180, 181, 182, 183, 184] (by decide +kernel) (by decide +kernel)
set_option maxRecDepth 20000 in
theorem gX11_got_X5_isLeft_u181X0 : GoodIn wsX11_got (va_wsU RX11 181 RX0 "CarbonCopies$Person" ⟨"CarbonCopies$Person", "isLeft", "(I)Z"⟩ yX5_isLeft wsX5_isLeft) := goodIn_app (goodIn_of _ (by decide +kernel)) ggX11_got_X5_isLeft
set_option maxRecDepth 20000 in
theorem gX11_got_X5_isLeft_u181X1 : GoodIn wsX11_got (va_wsU RX11 181 RX1 "CarbonCopies$Person" ⟨"CarbonCopies$Person", "isLeft", "(I)Z"⟩ yX5_isLeft wsX5_isLeft) := goodIn_app (goodIn_of _ (by decide +kernel)) ggX11_got_X5_isLeft
set_option maxRecDepth 20000 in
theorem gX11_got_X5_isLeft_u181X2 : GoodIn wsX11_got (va_wsU RX11 181 RX2 "CarbonCopies$Person" ⟨"CarbonCopies$Person", "isLeft", "(I)Z"⟩ yX5_isLeft wsX5_isLeft) := goodIn_app (goodIn_of _ (by decide +kernel)) ggX11_got_X5_isLeft
set_option maxRecDepth 20000 in
theorem gX11_got_X5_isLeft_u181X3 : GoodIn wsX11_got (va_wsU RX11 181 RX3 "CarbonCopies$Person" ⟨"CarbonCopies$Person", "isLeft", "(I)Z"⟩ yX5_isLeft wsX5_isLeft) := goodIn_app (goodIn_of _ (by decide +kernel)) ggX11_got_X5_isLeft
set_option maxRecDepth 20000 in
theorem gX11_got_X5_isLeft : GoodIn wsX11_got (wsV RX11 181 RX5 yX5_isLeft wsX5_isLeft) := goodIn_app (goodIn_of _ (by decide +kernel)) ggX11_got_X5_isLeft
set_option maxRecDepth 20000 in
theorem gX11_got_X5_isLeft_u181X8 : GoodIn wsX11_got (va_wsU RX11 181 RX8 "CarbonCopies$Person" ⟨"CarbonCopies$Person", "isLeft", "(I)Z"⟩ yX5_isLeft wsX5_isLeft) := goodIn_app (goodIn_of _ (by decide +kernel)) ggX11_got_X5_isLeft
set_option maxRecDepth 20000 in
theorem gX11_got_X5_isLeft_u181X10 : GoodIn wsX11_got (va_wsU RX11 181 RX10 "CarbonCopies$Person" ⟨"CarbonCopies$Person", "isLeft", "(I)Z"⟩ yX5_isLeft wsX5_isLeft) := goodIn_app (goodIn_of _ (by decide +kernel)) ggX11_got_X5_isLeft
set_option maxRecDepth 20000 in
theorem ggX11_got_X5_gotBy : GoodIn wsX11_got wsX5_gotBy := goodIn_r _ [39, 25, 40, 41, 42, 43, 44, 45, 46, 47, 48, 49, 50, 51, 52, 53, 54, 55, 56, 57, 58, 59, 60, 61, 23, 62, 63, 64, 65, 66, 67, 68, 69, 70, 71, 72, 73, 74, 75, 76, 77, 78, 79, 80, 81, 82, 83, 84, 85, 86, 87, 88, 89, 90, 91, 92, 93, 94, 122, 123, 124, 125, 126, 127, 128, 129, 130, 131, 132, 133, 134, 135, 136, 137, 138, 139, 140, 141, 142, 143, 144, 145, 146, 147, 148, 149, 150, 151, 152, 153, 154, 155, 156, 157, 158, 159, 160, 161, 162, 163, 164, 165, 166, 167, 168, 169, 170, 171, 172, 173, 174, 175, 176, 177, 178, 179, 180, 181, 182, 183, 184] (by decide +kernel) (by decide +kernel)
set_option maxRecDepth 20000 in
theorem gX11_got_X5_gotBy_u215X0 : GoodIn wsX11_got (va_wsU RX11 215 RX0 "CarbonCopies$Person" ⟨"CarbonCopies$Person", "gotBy", "(II)I"⟩ yX5_gotBy wsX5_gotBy) := goodIn_app (goodIn_of _ (by decide +kernel)) ggX11_got_X5_gotBy
set_option maxRecDepth 20000 in
theorem gX11_got_X5_gotBy_u215X1 : GoodIn wsX11_got (va_wsU RX11 215 RX1 "CarbonCopies$Person" ⟨"CarbonCopies$Person", "gotBy", "(II)I"⟩ yX5_gotBy wsX5_gotBy) := goodIn_app (goodIn_of _ (by decide +kernel)) ggX11_got_X5_gotBy
set_option maxRecDepth 20000 in
theorem gX11_got_X5_gotBy_u215X2 : GoodIn wsX11_got (va_wsU RX11 215 RX2 "CarbonCopies$Person" ⟨"CarbonCopies$Person", "gotBy", "(II)I"⟩ yX5_gotBy wsX5_gotBy) := goodIn_app (goodIn_of _ (by decide +kernel)) ggX11_got_X5_gotBy
set_option maxRecDepth 20000 in
theorem gX11_got_X5_gotBy_u215X3 : GoodIn wsX11_got (va_wsU RX11 215 RX3 "CarbonCopies$Person" ⟨"CarbonCopies$Person", "gotBy", "(II)I"⟩ yX5_gotBy wsX5_gotBy) := goodIn_app (goodIn_of _ (by decide +kernel)) ggX11_got_X5_gotBy
set_option maxRecDepth 20000 in
theorem gX11_got_X5_gotBy : GoodIn wsX11_got (wsV RX11 215 RX5 yX5_gotBy wsX5_gotBy) := goodIn_app (goodIn_of _ (by decide +kernel)) ggX11_got_X5_gotBy
set_option maxRecDepth 20000 in
theorem gX11_got_X5_gotBy_u215X8 : GoodIn wsX11_got (va_wsU RX11 215 RX8 "CarbonCopies$Person" ⟨"CarbonCopies$Person", "gotBy", "(II)I"⟩ yX5_gotBy wsX5_gotBy) := goodIn_app (goodIn_of _ (by decide +kernel)) ggX11_got_X5_gotBy
set_option maxRecDepth 20000 in
theorem gX11_got_X5_gotBy_u215X10 : GoodIn wsX11_got (va_wsU RX11 215 RX10 "CarbonCopies$Person" ⟨"CarbonCopies$Person", "gotBy", "(II)I"⟩ yX5_gotBy wsX5_gotBy) := goodIn_app (goodIn_of _ (by decide +kernel)) ggX11_got_X5_gotBy
theorem dX11_got_0 : decode cX11_got 0 = .ok (.aload_n 0, 1) := by decide +kernel
theorem dX11_got_1 : decode cX11_got 1 = .ok (.getfield 31, 3) := by decide +kernel
theorem dX11_got_4 : decode cX11_got 4 = .ok (.iload_n 1, 1) := by decide +kernel
theorem dX11_got_5 : decode cX11_got 5 = .ok (.invokevirtual 126, 3) := by decide +kernel
theorem dX11_got_8 : decode cX11_got 8 = .ok (.astore 4, 2) := by decide +kernel
theorem dX11_got_10 : decode cX11_got 10 = .ok (.aload 4, 2) := by decide +kernel
theorem dX11_got_12 : decode cX11_got 12 = .ok (.ifnonnull 9, 3) := by decide +kernel
theorem dX11_got_15 : decode cX11_got 15 = .ok (.aload_n 0, 1) := by decide +kernel
theorem dX11_got_16 : decode cX11_got 16 = .ok (.iconst (-1), 1) := by decide +kernel
theorem dX11_got_17 : decode cX11_got 17 = .ok (.invokevirtual 80, 3) := by decide +kernel
theorem dX11_got_20 : decode cX11_got 20 = .ok (.ireturn, 1) := by decide +kernel
theorem dX11_got_21 : decode cX11_got 21 = .ok (.aload 4, 2) := by decide +kernel
theorem dX11_got_23 : decode cX11_got 23 = .ok (.iload_n 2, 1) := by decide +kernel
theorem dX11_got_24 : decode cX11_got 24 = .ok (.invokevirtual 181, 3) := by decide +kernel
theorem dX11_got_27 : decode cX11_got 27 = .ok (.ifCond .eq 14, 3) := by decide +kernel
theorem dX11_got_30 : decode cX11_got 30 = .ok (.iload_n 3, 1) := by decide +kernel
theorem dX11_got_31 : decode cX11_got 31 = .ok (.iconst 1, 1) := by decide +kernel
theorem dX11_got_32 : decode cX11_got 32 = .ok (.if_icmp .lt 9, 3) := by decide +kernel
theorem dX11_got_35 : decode cX11_got 35 = .ok (.iload_n 3, 1) := by decide +kernel
theorem dX11_got_36 : decode cX11_got 36 = .ok (.bipush 99, 2) := by decide +kernel
theorem dX11_got_38 : decode cX11_got 38 = .ok (.if_icmp .le 10, 3) := by decide +kernel
theorem dX11_got_41 : decode cX11_got 41 = .ok (.aload_n 0, 1) := by decide +kernel
theorem dX11_got_42 : decode cX11_got 42 = .ok (.bipush (-6), 2) := by decide +kernel
theorem dX11_got_44 : decode cX11_got 44 = .ok (.invokevirtual 80, 3) := by decide +kernel
theorem dX11_got_47 : decode cX11_got 47 = .ok (.ireturn, 1) := by decide +kernel
theorem dX11_got_48 : decode cX11_got 48 = .ok (.aload 4, 2) := by decide +kernel
theorem dX11_got_50 : decode cX11_got 50 = .ok (.iload_n 2, 1) := by decide +kernel
theorem dX11_got_51 : decode cX11_got 51 = .ok (.iload_n 3, 1) := by decide +kernel
theorem dX11_got_52 : decode cX11_got 52 = .ok (.invokevirtual 215, 3) := by decide +kernel
theorem dX11_got_55 : decode cX11_got 55 = .ok (.ireturn, 1) := by decide +kernel
set_option maxRecDepth 20000 in
theorem ggX11_which_X11_shelfAt : GoodIn wsX11_which wsX11_shelfAt := goodIn_r _ [7, 8, 95, 96, 97, 98, 99, 100, 101, 102, 103, 104, 105, 106, 107, 108] (by decide +kernel) (by decide +kernel)
set_option maxRecDepth 20000 in
theorem gX11_which_X11_shelfAt : GoodIn wsX11_which (wsV RX11 76 RX11 yX11_shelfAt wsX11_shelfAt) := goodIn_app (goodIn_of _ (by decide +kernel)) ggX11_which_X11_shelfAt
set_option maxRecDepth 20000 in
theorem ggX11_which_X11_refusalOfTold : GoodIn wsX11_which wsX11_refusalOfTold := goodIn_r _ [11, 12, 13, 14, 15, 16, 17, 18, 19, 20, 6, 21, 22, 23, 24, 25, 109, 110, 111] (by decide +kernel) (by decide +kernel)
set_option maxRecDepth 20000 in
theorem gX11_which_X11_refusalOfTold : GoodIn wsX11_which (va_wsS RX11 218 yX11_refusalOfTold wsX11_refusalOfTold) := goodIn_app (goodIn_of _ (by decide +kernel)) ggX11_which_X11_refusalOfTold
set_option maxRecDepth 20000 in
theorem ggX11_which_X11_refuse : GoodIn wsX11_which wsX11_refuse := goodIn_r _ [29, 30, 31, 32, 6, 33, 34, 95, 96, 97, 98, 99, 100, 101, 102, 103, 104, 105, 106, 107, 108] (by decide +kernel) (by decide +kernel)
set_option maxRecDepth 20000 in
theorem gX11_which_X11_refuse : GoodIn wsX11_which (wsV RX11 80 RX11 yX11_refuse wsX11_refuse) := goodIn_app (goodIn_of _ (by decide +kernel)) ggX11_which_X11_refuse
set_option maxRecDepth 20000 in
theorem ggX11_which_X4_findFits : GoodIn wsX11_which wsX4_findFits := goodIn_r _ [39, 40, 41, 42, 43, 38, 44, 45, 46, 47, 48, 49, 50, 51, 52, 53, 6, 54, 55, 56, 57, 58, 59, 60, 61, 62, 63, 64, 65, 66, 67, 68, 69, 70, 71, 72, 73, 74, 75, 76, 77, 78, 79, 80, 81, 82, 16, 83, 84, 85, 86, 87, 88, 89, 90, 91, 92, 93, 94, 14, 15, 17, 18, 112, 113, 114, 115, 116, 117, 118, 119, 120, 121, 122, 123, 124, 125, 126, 127, 128, 129, 130, 131, 132, 133, 134, 135, 136, 137, 138, 139, 140, 141, 142, 143, 144, 145, 146, 147, 148, 149, 150, 151, 152, 153, 154, 155, 156, 157, 158, 159, 160, 161, 162, 163, 164, 165, 166, 167, 168, 169, 170, 171, 172, 173, 174, 175, 176, 177, 178, 179, 180, 109, 110, 111] (by decide +kernel) (by decide +kernel)
set_option maxRecDepth 20000 in
theorem gX11_which_X4_findFits : GoodIn wsX11_which (wsV RX11 222 RX4 yX4_findFits wsX4_findFits) := goodIn_app (goodIn_of _ (by decide +kernel)) ggX11_which_X4_findFits
theorem dX11_which_0 : decode cX11_which 0 = .ok (.aload_n 0, 1) := by decide +kernel
theorem dX11_which_1 : decode cX11_which 1 = .ok (.iload_n 1, 1) := by decide +kernel
theorem dX11_which_2 : decode cX11_which 2 = .ok (.invokevirtual 76, 3) := by decide +kernel
theorem dX11_which_5 : decode cX11_which 5 = .ok (.astore 5, 2) := by decide +kernel
theorem dX11_which_7 : decode cX11_which 7 = .ok (.aload 5, 2) := by decide +kernel
theorem dX11_which_9 : decode cX11_which 9 = .ok (.iload_n 2, 1) := by decide +kernel
theorem dX11_which_10 : decode cX11_which 10 = .ok (.iload_n 3, 1) := by decide +kernel
theorem dX11_which_11 : decode cX11_which 11 = .ok (.invokestatic 218, 3) := by decide +kernel
theorem dX11_which_14 : decode cX11_which 14 = .ok (.istore 6, 2) := by decide +kernel
theorem dX11_which_16 : decode cX11_which 16 = .ok (.aload 5, 2) := by decide +kernel
theorem dX11_which_18 : decode cX11_which 18 = .ok (.ifnull 8, 3) := by decide +kernel
theorem dX11_which_21 : decode cX11_which 21 = .ok (.iload 6, 2) := by decide +kernel
theorem dX11_which_23 : decode cX11_which 23 = .ok (.ifCond .eq 10, 3) := by decide +kernel
theorem dX11_which_26 : decode cX11_which 26 = .ok (.aload_n 0, 1) := by decide +kernel
theorem dX11_which_27 : decode cX11_which 27 = .ok (.iload 6, 2) := by decide +kernel
theorem dX11_which_29 : decode cX11_which 29 = .ok (.invokevirtual 80, 3) := by decide +kernel
theorem dX11_which_32 : decode cX11_which 32 = .ok (.ireturn, 1) := by decide +kernel
theorem dX11_which_33 : decode cX11_which 33 = .ok (.aload_n 0, 1) := by decide +kernel
theorem dX11_which_34 : decode cX11_which 34 = .ok (.getfield 31, 3) := by decide +kernel
theorem dX11_which_37 : decode cX11_which 37 = .ok (.aload 5, 2) := by decide +kernel
theorem dX11_which_39 : decode cX11_which 39 = .ok (.iload_n 2, 1) := by decide +kernel
theorem dX11_which_40 : decode cX11_which 40 = .ok (.iload_n 3, 1) := by decide +kernel
theorem dX11_which_41 : decode cX11_which 41 = .ok (.aload_n 0, 1) := by decide +kernel
theorem dX11_which_42 : decode cX11_which 42 = .ok (.getfield 50, 3) := by decide +kernel
theorem dX11_which_45 : decode cX11_which 45 = .ok (.invokevirtual 222, 3) := by decide +kernel
theorem dX11_which_48 : decode cX11_which 48 = .ok (.istore 7, 2) := by decide +kernel
theorem dX11_which_50 : decode cX11_which 50 = .ok (.iload 4, 2) := by decide +kernel
theorem dX11_which_52 : decode cX11_which 52 = .ok (.iconst (-1), 1) := by decide +kernel
theorem dX11_which_53 : decode cX11_which 53 = .ok (.if_icmp .ne 6, 3) := by decide +kernel
theorem dX11_which_56 : decode cX11_which 56 = .ok (.iload 7, 2) := by decide +kernel
theorem dX11_which_58 : decode cX11_which 58 = .ok (.ireturn, 1) := by decide +kernel
theorem dX11_which_59 : decode cX11_which 59 = .ok (.iload 4, 2) := by decide +kernel
theorem dX11_which_61 : decode cX11_which 61 = .ok (.ifCond .lt 20, 3) := by decide +kernel
theorem dX11_which_64 : decode cX11_which 64 = .ok (.iload 4, 2) := by decide +kernel
theorem dX11_which_66 : decode cX11_which 66 = .ok (.iload 7, 2) := by decide +kernel
theorem dX11_which_68 : decode cX11_which 68 = .ok (.if_icmp .ge 13, 3) := by decide +kernel
theorem dX11_which_71 : decode cX11_which 71 = .ok (.iload 4, 2) := by decide +kernel
theorem dX11_which_73 : decode cX11_which 73 = .ok (.aload_n 0, 1) := by decide +kernel
theorem dX11_which_74 : decode cX11_which 74 = .ok (.getfield 50, 3) := by decide +kernel
theorem dX11_which_77 : decode cX11_which 77 = .ok (.arraylength, 1) := by decide +kernel
theorem dX11_which_78 : decode cX11_which 78 = .ok (.if_icmp .lt 10, 3) := by decide +kernel
theorem dX11_which_81 : decode cX11_which 81 = .ok (.aload_n 0, 1) := by decide +kernel
theorem dX11_which_82 : decode cX11_which 82 = .ok (.bipush (-5), 2) := by decide +kernel
theorem dX11_which_84 : decode cX11_which 84 = .ok (.invokevirtual 80, 3) := by decide +kernel
theorem dX11_which_87 : decode cX11_which 87 = .ok (.ireturn, 1) := by decide +kernel
theorem dX11_which_88 : decode cX11_which 88 = .ok (.aload_n 0, 1) := by decide +kernel
theorem dX11_which_89 : decode cX11_which 89 = .ok (.getfield 50, 3) := by decide +kernel
theorem dX11_which_92 : decode cX11_which 92 = .ok (.iload 4, 2) := by decide +kernel
theorem dX11_which_94 : decode cX11_which 94 = .ok (.iaload, 1) := by decide +kernel
theorem dX11_which_95 : decode cX11_which 95 = .ok (.ireturn, 1) := by decide +kernel
set_option maxRecDepth 20000 in
theorem ggX11_next_X11_shelfAt : GoodIn wsX11_next wsX11_shelfAt := goodIn_r _ [7, 8, 120, 121, 122, 123, 124, 125, 126, 127, 128, 129, 130, 131, 132, 133] (by decide +kernel) (by decide +kernel)
set_option maxRecDepth 20000 in
theorem gX11_next_X11_shelfAt : GoodIn wsX11_next (wsV RX11 76 RX11 yX11_shelfAt wsX11_shelfAt) := goodIn_app (goodIn_of _ (by decide +kernel)) ggX11_next_X11_shelfAt
set_option maxRecDepth 20000 in
theorem ggX11_next_X11_refusalOfTold : GoodIn wsX11_next wsX11_refusalOfTold := goodIn_r _ [11, 12, 13, 14, 15, 16, 17, 18, 19, 20, 6, 21, 22, 23, 24, 25, 134, 135, 136] (by decide +kernel) (by decide +kernel)
set_option maxRecDepth 20000 in
theorem gX11_next_X11_refusalOfTold : GoodIn wsX11_next (va_wsS RX11 218 yX11_refusalOfTold wsX11_refusalOfTold) := goodIn_app (goodIn_of _ (by decide +kernel)) ggX11_next_X11_refusalOfTold
set_option maxRecDepth 20000 in
theorem ggX11_next_X11_refuseLess : GoodIn wsX11_next wsX11_refuseLess := goodIn_r _ [29, 30, 120, 121, 122, 123, 124, 125, 126, 127, 128, 129, 130, 131, 132, 133] (by decide +kernel) (by decide +kernel)
set_option maxRecDepth 20000 in
theorem gX11_next_X11_refuseLess : GoodIn wsX11_next (wsV RX11 190 RX11 yX11_refuseLess wsX11_refuseLess) := goodIn_app (goodIn_of _ (by decide +kernel)) ggX11_next_X11_refuseLess
set_option maxRecDepth 20000 in
theorem ggX11_next_X4_findFits : GoodIn wsX11_next wsX4_findFits := goodIn_r _ [35, 36, 37, 38, 39, 34, 40, 41, 42, 43, 44, 45, 46, 47, 48, 49, 6, 50, 51, 52, 53, 54, 55, 56, 57, 58, 59, 60, 61, 62, 63, 64, 65, 66, 67, 68, 69, 70, 71, 72, 73, 74, 75, 76, 77, 78, 16, 79, 80, 81, 82, 83, 84, 85, 86, 87, 88, 89, 90, 14, 15, 17, 18, 137, 138, 139, 140, 141, 142, 143, 144, 145, 146, 147, 148, 149, 150, 151, 152, 153, 154, 155, 156, 157, 158, 159, 160, 161, 162, 163, 164, 165, 166, 167, 168, 169, 170, 171, 172, 173, 174, 175, 176, 177, 178, 179, 180, 181, 182, 183, 184, 185, 186, 187, 188, 189, 190, 191, 192, 193, 194, 195, 196, 197, 198, 199, 200, 201, 202, 203, 204, 205, 134, 135, 136] (by decide +kernel) (by decide +kernel)
set_option maxRecDepth 20000 in
theorem gX11_next_X4_findFits : GoodIn wsX11_next (wsV RX11 222 RX4 yX4_findFits wsX4_findFits) := goodIn_app (goodIn_of _ (by decide +kernel)) ggX11_next_X4_findFits
set_option maxRecDepth 20000 in
theorem ggX11_next_X11_bestToAsk : GoodIn wsX11_next wsX11_bestToAsk := goodIn_r _ [94, 2, 95, 96, 97, 98, 99, 100, 101, 6, 102, 1, 103, 104, 38, 39, 34, 40, 36, 41, 105, 49, 50, 106, 107, 108, 109, 46, 110, 111, 62, 63, 64, 65, 66, 67, 68, 69, 70, 71, 112, 73, 74, 75, 113, 114, 115, 116, 117, 118, 119, 120, 121, 122, 123, 124, 125, 126, 127, 128, 129, 130, 131, 132, 133, 137, 138, 139, 140, 141, 142, 143, 144, 145, 146, 147, 148, 149, 150, 151, 152, 153, 154, 155, 156, 157, 158, 159, 160, 161, 162, 163, 164, 165, 166, 167, 168, 169, 170, 171, 172, 173, 174, 175, 176, 177, 178, 179, 180, 181, 182, 183, 184, 185, 186, 187, 188, 189, 190, 191, 192, 193, 194, 195, 196, 197, 198, 199, 200, 201, 202, 203, 204, 205] (by decide +kernel) (by decide +kernel)
set_option maxRecDepth 20000 in
theorem gX11_next_X11_bestToAsk : GoodIn wsX11_next (wsV RX11 226 RX11 yX11_bestToAsk wsX11_bestToAsk) := goodIn_app (goodIn_of _ (by decide +kernel)) ggX11_next_X11_bestToAsk
theorem dX11_next_0 : decode cX11_next 0 = .ok (.aload_n 0, 1) := by decide +kernel
theorem dX11_next_1 : decode cX11_next 1 = .ok (.iload_n 1, 1) := by decide +kernel
theorem dX11_next_2 : decode cX11_next 2 = .ok (.invokevirtual 76, 3) := by decide +kernel
theorem dX11_next_5 : decode cX11_next 5 = .ok (.astore 4, 2) := by decide +kernel
theorem dX11_next_7 : decode cX11_next 7 = .ok (.aload 4, 2) := by decide +kernel
theorem dX11_next_9 : decode cX11_next 9 = .ok (.iload_n 2, 1) := by decide +kernel
theorem dX11_next_10 : decode cX11_next 10 = .ok (.iload_n 3, 1) := by decide +kernel
theorem dX11_next_11 : decode cX11_next 11 = .ok (.invokestatic 218, 3) := by decide +kernel
theorem dX11_next_14 : decode cX11_next 14 = .ok (.istore 5, 2) := by decide +kernel
theorem dX11_next_16 : decode cX11_next 16 = .ok (.aload 4, 2) := by decide +kernel
theorem dX11_next_18 : decode cX11_next 18 = .ok (.ifnull 8, 3) := by decide +kernel
theorem dX11_next_21 : decode cX11_next 21 = .ok (.iload 5, 2) := by decide +kernel
theorem dX11_next_23 : decode cX11_next 23 = .ok (.ifCond .eq 12, 3) := by decide +kernel
theorem dX11_next_26 : decode cX11_next 26 = .ok (.aload_n 0, 1) := by decide +kernel
theorem dX11_next_27 : decode cX11_next 27 = .ok (.iload 5, 2) := by decide +kernel
theorem dX11_next_29 : decode cX11_next 29 = .ok (.bipush 10, 2) := by decide +kernel
theorem dX11_next_31 : decode cX11_next 31 = .ok (.invokevirtual 190, 3) := by decide +kernel
theorem dX11_next_34 : decode cX11_next 34 = .ok (.ireturn, 1) := by decide +kernel
theorem dX11_next_35 : decode cX11_next 35 = .ok (.aload_n 0, 1) := by decide +kernel
theorem dX11_next_36 : decode cX11_next 36 = .ok (.getfield 31, 3) := by decide +kernel
theorem dX11_next_39 : decode cX11_next 39 = .ok (.aload 4, 2) := by decide +kernel
theorem dX11_next_41 : decode cX11_next 41 = .ok (.iload_n 2, 1) := by decide +kernel
theorem dX11_next_42 : decode cX11_next 42 = .ok (.iload_n 3, 1) := by decide +kernel
theorem dX11_next_43 : decode cX11_next 43 = .ok (.aload_n 0, 1) := by decide +kernel
theorem dX11_next_44 : decode cX11_next 44 = .ok (.getfield 50, 3) := by decide +kernel
theorem dX11_next_47 : decode cX11_next 47 = .ok (.invokevirtual 222, 3) := by decide +kernel
theorem dX11_next_50 : decode cX11_next 50 = .ok (.istore 6, 2) := by decide +kernel
theorem dX11_next_52 : decode cX11_next 52 = .ok (.iload 6, 2) := by decide +kernel
theorem dX11_next_54 : decode cX11_next 54 = .ok (.iconst 2, 1) := by decide +kernel
theorem dX11_next_55 : decode cX11_next 55 = .ok (.if_icmp .ge 7, 3) := by decide +kernel
theorem dX11_next_58 : decode cX11_next 58 = .ok (.iconst (-1), 1) := by decide +kernel
theorem dX11_next_59 : decode cX11_next 59 = .ok (.goto 10, 3) := by decide +kernel
theorem dX11_next_62 : decode cX11_next 62 = .ok (.aload_n 0, 1) := by decide +kernel
theorem dX11_next_63 : decode cX11_next 63 = .ok (.iload_n 2, 1) := by decide +kernel
theorem dX11_next_64 : decode cX11_next 64 = .ok (.iload 6, 2) := by decide +kernel
theorem dX11_next_66 : decode cX11_next 66 = .ok (.invokevirtual 226, 3) := by decide +kernel
theorem dX11_next_69 : decode cX11_next 69 = .ok (.ireturn, 1) := by decide +kernel
set_option maxRecDepth 20000 in
theorem ggX11_unlike_X11_hasOfTold : GoodIn wsX11_unlike wsX11_hasOfTold := goodIn_r _ [5, 6, 7, 8, 9, 10, 11, 12, 13, 14, 15, 16, 4, 17, 18, 19, 20, 21, 22, 23, 24, 25, 26, 27, 28, 29, 30, 31, 32, 33, 34, 35, 36, 37, 38, 39, 40, 41, 42, 43, 44, 45, 62, 63, 64, 65, 66, 67, 68, 69, 70, 71, 72, 73, 74, 75, 76, 77, 78, 79, 80, 81, 82, 83, 84, 85, 86, 87, 88, 89, 90, 91, 92, 93, 94, 95, 96, 97, 98, 99, 100, 101, 102, 103, 104, 105, 106, 107, 108, 109, 110, 111, 112, 113, 114, 115, 116, 117, 118, 119, 120, 121, 122, 123, 124, 125, 126, 127, 128, 129, 130, 131, 132, 133, 134, 135, 136, 137, 138, 139, 140, 141, 142, 143, 144] (by decide +kernel) (by decide +kernel)
set_option maxRecDepth 20000 in
theorem gX11_unlike_X11_hasOfTold : GoodIn wsX11_unlike (wsV RX11 229 RX11 yX11_hasOfTold wsX11_hasOfTold) := goodIn_app (goodIn_of _ (by decide +kernel)) ggX11_unlike_X11_hasOfTold
set_option maxRecDepth 20000 in
theorem ggX11_unlike_X11_refuse : GoodIn wsX11_unlike wsX11_refuse := goodIn_r _ [49, 50, 51, 52, 4, 53, 54, 62, 63, 64, 65, 66, 67, 68, 69, 70, 71, 72, 73, 74, 75] (by decide +kernel) (by decide +kernel)
set_option maxRecDepth 20000 in
theorem gX11_unlike_X11_refuse : GoodIn wsX11_unlike (wsV RX11 80 RX11 yX11_refuse wsX11_refuse) := goodIn_app (goodIn_of _ (by decide +kernel)) ggX11_unlike_X11_refuse
set_option maxRecDepth 20000 in
theorem ggX11_unlike_J6_bitCount_0f7a4 : GoodIn wsX11_unlike wsJ6_bitCount_0f7a4 := goodIn_r _ [58, 59, 60, 61] (by decide +kernel) (by decide +kernel)
set_option maxRecDepth 20000 in
theorem gX11_unlike_J6_bitCount_0f7a4 : GoodIn wsX11_unlike (va_wsS RX11 232 yJ6_bitCount_0f7a4 wsJ6_bitCount_0f7a4) := goodIn_app (goodIn_of _ (by decide +kernel)) ggX11_unlike_J6_bitCount_0f7a4
theorem dX11_unlike_0 : decode cX11_unlike 0 = .ok (.aload_n 0, 1) := by decide +kernel
theorem dX11_unlike_1 : decode cX11_unlike 1 = .ok (.iload_n 1, 1) := by decide +kernel
theorem dX11_unlike_2 : decode cX11_unlike 2 = .ok (.invokevirtual 229, 3) := by decide +kernel
theorem dX11_unlike_5 : decode cX11_unlike 5 = .ok (.istore_n 3, 1) := by decide +kernel
theorem dX11_unlike_6 : decode cX11_unlike 6 = .ok (.aload_n 0, 1) := by decide +kernel
theorem dX11_unlike_7 : decode cX11_unlike 7 = .ok (.iload_n 2, 1) := by decide +kernel
theorem dX11_unlike_8 : decode cX11_unlike 8 = .ok (.invokevirtual 229, 3) := by decide +kernel
theorem dX11_unlike_11 : decode cX11_unlike 11 = .ok (.istore 4, 2) := by decide +kernel
theorem dX11_unlike_13 : decode cX11_unlike 13 = .ok (.iload_n 3, 1) := by decide +kernel
theorem dX11_unlike_14 : decode cX11_unlike 14 = .ok (.iconst (-1), 1) := by decide +kernel
theorem dX11_unlike_15 : decode cX11_unlike 15 = .ok (.if_icmp .eq 9, 3) := by decide +kernel
theorem dX11_unlike_18 : decode cX11_unlike 18 = .ok (.iload 4, 2) := by decide +kernel
theorem dX11_unlike_20 : decode cX11_unlike 20 = .ok (.iconst (-1), 1) := by decide +kernel
theorem dX11_unlike_21 : decode cX11_unlike 21 = .ok (.if_icmp .ne 10, 3) := by decide +kernel
theorem dX11_unlike_24 : decode cX11_unlike 24 = .ok (.aload_n 0, 1) := by decide +kernel
theorem dX11_unlike_25 : decode cX11_unlike 25 = .ok (.bipush (-6), 2) := by decide +kernel
theorem dX11_unlike_27 : decode cX11_unlike 27 = .ok (.invokevirtual 80, 3) := by decide +kernel
theorem dX11_unlike_30 : decode cX11_unlike 30 = .ok (.ireturn, 1) := by decide +kernel
theorem dX11_unlike_31 : decode cX11_unlike 31 = .ok (.iload_n 3, 1) := by decide +kernel
theorem dX11_unlike_32 : decode cX11_unlike 32 = .ok (.iload 4, 2) := by decide +kernel
theorem dX11_unlike_34 : decode cX11_unlike 34 = .ok (.ixor, 1) := by decide +kernel
theorem dX11_unlike_35 : decode cX11_unlike 35 = .ok (.invokestatic 232, 3) := by decide +kernel
theorem dX11_unlike_38 : decode cX11_unlike 38 = .ok (.ireturn, 1) := by decide +kernel
set_option maxRecDepth 20000 in
theorem ggX11_odd_X4_personAt : GoodIn wsX11_odd wsX4_personAt := goodIn_r _ [6, 7, 8, 89, 90, 91, 92, 93, 94] (by decide +kernel) (by decide +kernel)
set_option maxRecDepth 20000 in
theorem gX11_odd_X4_personAt : GoodIn wsX11_odd (wsV RX11 126 RX4 yX4_personAt wsX4_personAt) := goodIn_app (goodIn_of _ (by decide +kernel)) ggX11_odd_X4_personAt
set_option maxRecDepth 20000 in
theorem ggX11_odd_X11_refuse : GoodIn wsX11_odd wsX11_refuse := goodIn_r _ [13, 14, 15, 16, 12, 17, 18, 75, 76, 77, 78, 79, 80, 81, 82, 83, 84, 85, 86, 87, 88] (by decide +kernel) (by decide +kernel)
set_option maxRecDepth 20000 in
theorem gX11_odd_X11_refuse : GoodIn wsX11_odd (wsV RX11 80 RX11 yX11_refuse wsX11_refuse) := goodIn_app (goodIn_of _ (by decide +kernel)) ggX11_odd_X11_refuse
set_option maxRecDepth 20000 in
theorem ggX11_odd_X5_isGone : GoodIn wsX11_odd wsX5_isGone := goodIn_r _ [24, 25, 95, 96, 97, 98, 99, 100, 101, 102, 103, 104, 105, 106, 107, 108, 109, 110, 111, 112, 113, 114, 115, 116, 117, 118, 119, 120, 121, 122, 123, 124, 125, 126, 127, 128, 129, 130, 131, 132, 133, 134, 135, 136, 137, 138, 139, 140, 141, 142, 143, 144, 145, 146, 147, 148, 149, 150, 151, 152, 153, 154, 155, 156, 157] (by decide +kernel) (by decide +kernel)
set_option maxRecDepth 20000 in
theorem gX11_odd_X5_isGone_u237X0 : GoodIn wsX11_odd (va_wsU RX11 237 RX0 "CarbonCopies$Person" ⟨"CarbonCopies$Person", "isGone", "()Z"⟩ yX5_isGone wsX5_isGone) := goodIn_app (goodIn_of _ (by decide +kernel)) ggX11_odd_X5_isGone
set_option maxRecDepth 20000 in
theorem gX11_odd_X5_isGone_u237X1 : GoodIn wsX11_odd (va_wsU RX11 237 RX1 "CarbonCopies$Person" ⟨"CarbonCopies$Person", "isGone", "()Z"⟩ yX5_isGone wsX5_isGone) := goodIn_app (goodIn_of _ (by decide +kernel)) ggX11_odd_X5_isGone
set_option maxRecDepth 20000 in
theorem gX11_odd_X5_isGone_u237X2 : GoodIn wsX11_odd (va_wsU RX11 237 RX2 "CarbonCopies$Person" ⟨"CarbonCopies$Person", "isGone", "()Z"⟩ yX5_isGone wsX5_isGone) := goodIn_app (goodIn_of _ (by decide +kernel)) ggX11_odd_X5_isGone
set_option maxRecDepth 20000 in
theorem gX11_odd_X5_isGone_u237X3 : GoodIn wsX11_odd (va_wsU RX11 237 RX3 "CarbonCopies$Person" ⟨"CarbonCopies$Person", "isGone", "()Z"⟩ yX5_isGone wsX5_isGone) := goodIn_app (goodIn_of _ (by decide +kernel)) ggX11_odd_X5_isGone
set_option maxRecDepth 20000 in
theorem gX11_odd_X5_isGone : GoodIn wsX11_odd (wsV RX11 237 RX5 yX5_isGone wsX5_isGone) := goodIn_app (goodIn_of _ (by decide +kernel)) ggX11_odd_X5_isGone
set_option maxRecDepth 20000 in
theorem gX11_odd_X5_isGone_u237X8 : GoodIn wsX11_odd (va_wsU RX11 237 RX8 "CarbonCopies$Person" ⟨"CarbonCopies$Person", "isGone", "()Z"⟩ yX5_isGone wsX5_isGone) := goodIn_app (goodIn_of _ (by decide +kernel)) ggX11_odd_X5_isGone
set_option maxRecDepth 20000 in
theorem gX11_odd_X5_isGone_u237X10 : GoodIn wsX11_odd (va_wsU RX11 237 RX10 "CarbonCopies$Person" ⟨"CarbonCopies$Person", "isGone", "()Z"⟩ yX5_isGone wsX5_isGone) := goodIn_app (goodIn_of _ (by decide +kernel)) ggX11_odd_X5_isGone
set_option maxRecDepth 20000 in
theorem ggX11_odd_X11_oddOf : GoodIn wsX11_odd wsX11_oddOf := goodIn_r _ [36, 37, 1, 38, 39, 40, 41, 42, 23, 43, 44, 45, 46, 47, 48, 49, 50, 12, 51, 52, 53, 54, 55, 56, 57, 58, 59, 60, 61, 62, 63, 64, 65, 66, 67, 68, 69, 70, 71, 72, 73, 74, 95, 96, 97, 98, 99, 100, 101, 102, 103, 104, 105, 106, 107, 108, 109, 110, 111, 112, 113, 114, 115, 116, 117, 118, 119, 120, 121, 122, 123, 124, 125, 126, 127, 128, 129, 130, 131, 132, 133, 134, 135, 136, 137, 138, 139, 140, 141, 142, 143, 144, 145, 146, 147, 148, 149, 150, 151, 152, 153, 154, 155, 156, 157, 75, 76, 77, 78, 79, 80, 81, 82, 83, 84, 85, 86, 87, 88, 89, 90, 91, 92, 93, 94] (by decide +kernel) (by decide +kernel)
set_option maxRecDepth 20000 in
theorem gX11_odd_X11_oddOf : GoodIn wsX11_odd (wsV RX11 240 RX11 yX11_oddOf wsX11_oddOf) := goodIn_app (goodIn_of _ (by decide +kernel)) ggX11_odd_X11_oddOf
theorem dX11_odd_0 : decode cX11_odd 0 = .ok (.aload_n 0, 1) := by decide +kernel
theorem dX11_odd_1 : decode cX11_odd 1 = .ok (.getfield 31, 3) := by decide +kernel
theorem dX11_odd_4 : decode cX11_odd 4 = .ok (.iload_n 1, 1) := by decide +kernel
theorem dX11_odd_5 : decode cX11_odd 5 = .ok (.invokevirtual 126, 3) := by decide +kernel
theorem dX11_odd_8 : decode cX11_odd 8 = .ok (.astore_n 2, 1) := by decide +kernel
theorem dX11_odd_9 : decode cX11_odd 9 = .ok (.aload_n 2, 1) := by decide +kernel
theorem dX11_odd_10 : decode cX11_odd 10 = .ok (.ifnonnull 9, 3) := by decide +kernel
theorem dX11_odd_13 : decode cX11_odd 13 = .ok (.aload_n 0, 1) := by decide +kernel
theorem dX11_odd_14 : decode cX11_odd 14 = .ok (.iconst (-1), 1) := by decide +kernel
theorem dX11_odd_15 : decode cX11_odd 15 = .ok (.invokevirtual 80, 3) := by decide +kernel
theorem dX11_odd_18 : decode cX11_odd 18 = .ok (.ireturn, 1) := by decide +kernel
theorem dX11_odd_19 : decode cX11_odd 19 = .ok (.aload_n 2, 1) := by decide +kernel
theorem dX11_odd_20 : decode cX11_odd 20 = .ok (.invokevirtual 237, 3) := by decide +kernel
theorem dX11_odd_23 : decode cX11_odd 23 = .ok (.ifCond .eq 10, 3) := by decide +kernel
theorem dX11_odd_26 : decode cX11_odd 26 = .ok (.aload_n 0, 1) := by decide +kernel
theorem dX11_odd_27 : decode cX11_odd 27 = .ok (.bipush (-6), 2) := by decide +kernel
theorem dX11_odd_29 : decode cX11_odd 29 = .ok (.invokevirtual 80, 3) := by decide +kernel
theorem dX11_odd_32 : decode cX11_odd 32 = .ok (.ireturn, 1) := by decide +kernel
theorem dX11_odd_33 : decode cX11_odd 33 = .ok (.aload_n 0, 1) := by decide +kernel
theorem dX11_odd_34 : decode cX11_odd 34 = .ok (.aload_n 2, 1) := by decide +kernel
theorem dX11_odd_35 : decode cX11_odd 35 = .ok (.invokevirtual 240, 3) := by decide +kernel
theorem dX11_odd_38 : decode cX11_odd 38 = .ok (.ireturn, 1) := by decide +kernel
set_option maxRecDepth 20000 in
theorem ggX11_mend_X4_personAt : GoodIn wsX11_mend wsX4_personAt := goodIn_r _ [7, 8, 9, 85, 86, 87, 88, 89, 90] (by decide +kernel) (by decide +kernel)
set_option maxRecDepth 20000 in
theorem gX11_mend_X4_personAt : GoodIn wsX11_mend (wsV RX11 126 RX4 yX4_personAt wsX4_personAt) := goodIn_app (goodIn_of _ (by decide +kernel)) ggX11_mend_X4_personAt
set_option maxRecDepth 20000 in
theorem ggX11_mend_X11_refuse : GoodIn wsX11_mend wsX11_refuse := goodIn_r _ [14, 15, 16, 17, 13, 18, 19, 71, 72, 73, 74, 75, 76, 77, 78, 79, 80, 81, 82, 83, 84] (by decide +kernel) (by decide +kernel)
set_option maxRecDepth 20000 in
theorem gX11_mend_X11_refuse : GoodIn wsX11_mend (wsV RX11 80 RX11 yX11_refuse wsX11_refuse) := goodIn_app (goodIn_of _ (by decide +kernel)) ggX11_mend_X11_refuse
set_option maxRecDepth 20000 in
theorem ggX11_mend_X5_rubsToMend : GoodIn wsX11_mend wsX5_rubsToMend := goodIn_r _ [25, 26, 27, 28, 29, 30, 24, 31, 32, 33, 34, 35, 36, 37, 38, 13, 39, 40, 41, 42, 43, 44, 45, 46, 47, 48, 49, 50, 51, 52, 53, 54, 55, 56, 57, 58, 59, 60, 61, 62, 91, 92, 93, 94, 95, 96, 97, 98, 99, 100, 101, 102, 103, 104, 105, 106, 107, 108, 109, 110, 111, 112, 113, 114, 115, 116, 117, 118, 119, 120, 121, 122, 123, 124, 125, 126, 127, 128, 129, 130, 131, 132, 133, 134, 135, 136, 137, 138, 139, 140, 141, 142, 143, 144, 145, 146, 147, 148, 149, 150, 151, 152, 153] (by decide +kernel) (by decide +kernel)
set_option maxRecDepth 20000 in
theorem gX11_mend_X5_rubsToMend_u244X0 : GoodIn wsX11_mend (va_wsU RX11 244 RX0 "CarbonCopies$Person" ⟨"CarbonCopies$Person", "rubsToMend", "(II)I"⟩ yX5_rubsToMend wsX5_rubsToMend) := goodIn_app (goodIn_of _ (by decide +kernel)) ggX11_mend_X5_rubsToMend
set_option maxRecDepth 20000 in
theorem gX11_mend_X5_rubsToMend_u244X1 : GoodIn wsX11_mend (va_wsU RX11 244 RX1 "CarbonCopies$Person" ⟨"CarbonCopies$Person", "rubsToMend", "(II)I"⟩ yX5_rubsToMend wsX5_rubsToMend) := goodIn_app (goodIn_of _ (by decide +kernel)) ggX11_mend_X5_rubsToMend
set_option maxRecDepth 20000 in
theorem gX11_mend_X5_rubsToMend_u244X2 : GoodIn wsX11_mend (va_wsU RX11 244 RX2 "CarbonCopies$Person" ⟨"CarbonCopies$Person", "rubsToMend", "(II)I"⟩ yX5_rubsToMend wsX5_rubsToMend) := goodIn_app (goodIn_of _ (by decide +kernel)) ggX11_mend_X5_rubsToMend
set_option maxRecDepth 20000 in
theorem gX11_mend_X5_rubsToMend_u244X3 : GoodIn wsX11_mend (va_wsU RX11 244 RX3 "CarbonCopies$Person" ⟨"CarbonCopies$Person", "rubsToMend", "(II)I"⟩ yX5_rubsToMend wsX5_rubsToMend) := goodIn_app (goodIn_of _ (by decide +kernel)) ggX11_mend_X5_rubsToMend
set_option maxRecDepth 20000 in
theorem gX11_mend_X5_rubsToMend : GoodIn wsX11_mend (wsV RX11 244 RX5 yX5_rubsToMend wsX5_rubsToMend) := goodIn_app (goodIn_of _ (by decide +kernel)) ggX11_mend_X5_rubsToMend
set_option maxRecDepth 20000 in
theorem gX11_mend_X5_rubsToMend_u244X8 : GoodIn wsX11_mend (va_wsU RX11 244 RX8 "CarbonCopies$Person" ⟨"CarbonCopies$Person", "rubsToMend", "(II)I"⟩ yX5_rubsToMend wsX5_rubsToMend) := goodIn_app (goodIn_of _ (by decide +kernel)) ggX11_mend_X5_rubsToMend
set_option maxRecDepth 20000 in
theorem gX11_mend_X5_rubsToMend_u244X10 : GoodIn wsX11_mend (va_wsU RX11 244 RX10 "CarbonCopies$Person" ⟨"CarbonCopies$Person", "rubsToMend", "(II)I"⟩ yX5_rubsToMend wsX5_rubsToMend) := goodIn_app (goodIn_of _ (by decide +kernel)) ggX11_mend_X5_rubsToMend
set_option maxRecDepth 20000 in
theorem ggX11_mend_X11_isDeed : GoodIn wsX11_mend wsX11_isDeed := goodIn_r _ [41] (by decide +kernel) (by decide +kernel)
set_option maxRecDepth 20000 in
theorem gX11_mend_X11_isDeed : GoodIn wsX11_mend (va_wsS RX11 184 yX11_isDeed wsX11_isDeed) := goodIn_app (goodIn_of _ (by decide +kernel)) ggX11_mend_X11_isDeed
theorem dX11_mend_0 : decode cX11_mend 0 = .ok (.aload_n 0, 1) := by decide +kernel
theorem dX11_mend_1 : decode cX11_mend 1 = .ok (.getfield 31, 3) := by decide +kernel
theorem dX11_mend_4 : decode cX11_mend 4 = .ok (.iload_n 1, 1) := by decide +kernel
theorem dX11_mend_5 : decode cX11_mend 5 = .ok (.invokevirtual 126, 3) := by decide +kernel
theorem dX11_mend_8 : decode cX11_mend 8 = .ok (.astore_n 3, 1) := by decide +kernel
theorem dX11_mend_9 : decode cX11_mend 9 = .ok (.aload_n 3, 1) := by decide +kernel
theorem dX11_mend_10 : decode cX11_mend 10 = .ok (.ifnonnull 9, 3) := by decide +kernel
theorem dX11_mend_13 : decode cX11_mend 13 = .ok (.aload_n 0, 1) := by decide +kernel
theorem dX11_mend_14 : decode cX11_mend 14 = .ok (.iconst (-1), 1) := by decide +kernel
theorem dX11_mend_15 : decode cX11_mend 15 = .ok (.invokevirtual 80, 3) := by decide +kernel
theorem dX11_mend_18 : decode cX11_mend 18 = .ok (.ireturn, 1) := by decide +kernel
theorem dX11_mend_19 : decode cX11_mend 19 = .ok (.iload_n 2, 1) := by decide +kernel
theorem dX11_mend_20 : decode cX11_mend 20 = .ok (.iconst (-1), 1) := by decide +kernel
theorem dX11_mend_21 : decode cX11_mend 21 = .ok (.if_icmp .ne 43, 3) := by decide +kernel
theorem dX11_mend_24 : decode cX11_mend 24 = .ok (.iconst 0, 1) := by decide +kernel
theorem dX11_mend_25 : decode cX11_mend 25 = .ok (.istore 4, 2) := by decide +kernel
theorem dX11_mend_27 : decode cX11_mend 27 = .ok (.iconst 0, 1) := by decide +kernel
theorem dX11_mend_28 : decode cX11_mend 28 = .ok (.istore 5, 2) := by decide +kernel
theorem dX11_mend_30 : decode cX11_mend 30 = .ok (.iload 5, 2) := by decide +kernel
theorem dX11_mend_32 : decode cX11_mend 32 = .ok (.bipush 8, 2) := by decide +kernel
theorem dX11_mend_34 : decode cX11_mend 34 = .ok (.if_icmp .ge 27, 3) := by decide +kernel
theorem dX11_mend_37 : decode cX11_mend 37 = .ok (.iload 4, 2) := by decide +kernel
theorem dX11_mend_39 : decode cX11_mend 39 = .ok (.aload_n 3, 1) := by decide +kernel
theorem dX11_mend_40 : decode cX11_mend 40 = .ok (.iload 5, 2) := by decide +kernel
theorem dX11_mend_42 : decode cX11_mend 42 = .ok (.aload_n 0, 1) := by decide +kernel
theorem dX11_mend_43 : decode cX11_mend 43 = .ok (.getfield 31, 3) := by decide +kernel
theorem dX11_mend_46 : decode cX11_mend 46 = .ok (.getfield 155, 3) := by decide +kernel
theorem dX11_mend_49 : decode cX11_mend 49 = .ok (.invokevirtual 244, 3) := by decide +kernel
theorem dX11_mend_52 : decode cX11_mend 52 = .ok (.iadd, 1) := by decide +kernel
theorem dX11_mend_53 : decode cX11_mend 53 = .ok (.istore 4, 2) := by decide +kernel
theorem dX11_mend_55 : decode cX11_mend 55 = .ok (.iinc 5 1, 3) := by decide +kernel
theorem dX11_mend_58 : decode cX11_mend 58 = .ok (.goto (-28), 3) := by decide +kernel
theorem dX11_mend_61 : decode cX11_mend 61 = .ok (.iload 4, 2) := by decide +kernel
theorem dX11_mend_63 : decode cX11_mend 63 = .ok (.ireturn, 1) := by decide +kernel
theorem dX11_mend_64 : decode cX11_mend 64 = .ok (.iload_n 2, 1) := by decide +kernel
theorem dX11_mend_65 : decode cX11_mend 65 = .ok (.invokestatic 184, 3) := by decide +kernel
theorem dX11_mend_68 : decode cX11_mend 68 = .ok (.ifCond .eq 18, 3) := by decide +kernel
theorem dX11_mend_71 : decode cX11_mend 71 = .ok (.aload_n 3, 1) := by decide +kernel
theorem dX11_mend_72 : decode cX11_mend 72 = .ok (.iload_n 2, 1) := by decide +kernel
theorem dX11_mend_73 : decode cX11_mend 73 = .ok (.aload_n 0, 1) := by decide +kernel
theorem dX11_mend_74 : decode cX11_mend 74 = .ok (.getfield 31, 3) := by decide +kernel
theorem dX11_mend_77 : decode cX11_mend 77 = .ok (.getfield 155, 3) := by decide +kernel
theorem dX11_mend_80 : decode cX11_mend 80 = .ok (.invokevirtual 244, 3) := by decide +kernel
theorem dX11_mend_83 : decode cX11_mend 83 = .ok (.goto 9, 3) := by decide +kernel
theorem dX11_mend_86 : decode cX11_mend 86 = .ok (.aload_n 0, 1) := by decide +kernel
theorem dX11_mend_87 : decode cX11_mend 87 = .ok (.bipush (-6), 2) := by decide +kernel
theorem dX11_mend_89 : decode cX11_mend 89 = .ok (.invokevirtual 80, 3) := by decide +kernel
theorem dX11_mend_92 : decode cX11_mend 92 = .ok (.ireturn, 1) := by decide +kernel
set_option maxRecDepth 20000 in
theorem ggX11_paired_X4_personAt : GoodIn wsX11_paired wsX4_personAt := goodIn_r _ [8, 9, 10, 173, 174, 175, 176, 177, 178] (by decide +kernel) (by decide +kernel)
set_option maxRecDepth 20000 in
theorem gX11_paired_X4_personAt : GoodIn wsX11_paired (wsV RX11 126 RX4 yX4_personAt wsX4_personAt) := goodIn_app (goodIn_of _ (by decide +kernel)) ggX11_paired_X4_personAt
set_option maxRecDepth 20000 in
theorem ggX11_paired_X11_refuseLess : GoodIn wsX11_paired wsX11_refuseLess := goodIn_r _ [15, 16, 96, 97, 98, 99, 100, 101, 102, 103, 104, 105, 106, 107, 108, 109] (by decide +kernel) (by decide +kernel)
set_option maxRecDepth 20000 in
theorem gX11_paired_X11_refuseLess : GoodIn wsX11_paired (wsV RX11 190 RX11 yX11_refuseLess wsX11_refuseLess) := goodIn_app (goodIn_of _ (by decide +kernel)) ggX11_paired_X11_refuseLess
set_option maxRecDepth 20000 in
theorem ggX11_paired_X11_pairBest : GoodIn wsX11_paired wsX11_pairBest := goodIn_r _ [20, 21, 1, 22, 23, 24, 3, 25, 26, 27, 28, 29, 30, 31, 32, 33, 34, 35, 36, 37, 14, 38, 39, 40, 41, 42, 43, 44, 45, 46, 47, 48, 49, 50, 51, 52, 53, 54, 55, 56, 57, 58, 59, 60, 61, 62, 63, 64, 65, 66, 67, 68, 69, 70, 71, 72, 73, 74, 75, 76, 77, 78, 79, 80, 81, 82, 83, 84, 85, 86, 87, 88, 89, 90, 91, 92, 93, 94, 96, 97, 98, 99, 100, 101, 102, 103, 104, 105, 106, 107, 108, 109, 173, 174, 175, 176, 177, 178, 110, 111, 112, 113, 114, 115, 116, 117, 118, 119, 120, 121, 122, 123, 124, 125, 126, 127, 128, 129, 130, 131, 132, 133, 134, 135, 136, 137, 138, 139, 140, 141, 142, 143, 144, 145, 146, 147, 148, 149, 150, 151, 152, 153, 154, 155, 156, 157, 158, 159, 160, 161, 162, 163, 164, 165, 166, 167, 168, 169, 170, 171, 172] (by decide +kernel) (by decide +kernel)
set_option maxRecDepth 20000 in
theorem gX11_paired_X11_pairBest : GoodIn wsX11_paired (wsV RX11 247 RX11 yX11_pairBest wsX11_pairBest) := goodIn_app (goodIn_of _ (by decide +kernel)) ggX11_paired_X11_pairBest
set_option maxRecDepth 20000 in
theorem ggX11_paired_X11_isCopy : GoodIn wsX11_paired wsX11_isCopy := goodIn_r _ [38] (by decide +kernel) (by decide +kernel)
set_option maxRecDepth 20000 in
theorem gX11_paired_X11_isCopy : GoodIn wsX11_paired (va_wsS RX11 171 yX11_isCopy wsX11_isCopy) := goodIn_app (goodIn_of _ (by decide +kernel)) ggX11_paired_X11_isCopy
theorem dX11_paired_0 : decode cX11_paired 0 = .ok (.aload_n 0, 1) := by decide +kernel
theorem dX11_paired_1 : decode cX11_paired 1 = .ok (.getfield 31, 3) := by decide +kernel
theorem dX11_paired_4 : decode cX11_paired 4 = .ok (.iload_n 1, 1) := by decide +kernel
theorem dX11_paired_5 : decode cX11_paired 5 = .ok (.invokevirtual 126, 3) := by decide +kernel
theorem dX11_paired_8 : decode cX11_paired 8 = .ok (.astore 4, 2) := by decide +kernel
theorem dX11_paired_10 : decode cX11_paired 10 = .ok (.aload_n 0, 1) := by decide +kernel
theorem dX11_paired_11 : decode cX11_paired 11 = .ok (.getfield 31, 3) := by decide +kernel
theorem dX11_paired_14 : decode cX11_paired 14 = .ok (.iload_n 2, 1) := by decide +kernel
theorem dX11_paired_15 : decode cX11_paired 15 = .ok (.invokevirtual 126, 3) := by decide +kernel
theorem dX11_paired_18 : decode cX11_paired 18 = .ok (.astore 5, 2) := by decide +kernel
theorem dX11_paired_20 : decode cX11_paired 20 = .ok (.aload 4, 2) := by decide +kernel
theorem dX11_paired_22 : decode cX11_paired 22 = .ok (.ifnull 13, 3) := by decide +kernel
theorem dX11_paired_25 : decode cX11_paired 25 = .ok (.aload 5, 2) := by decide +kernel
theorem dX11_paired_27 : decode cX11_paired 27 = .ok (.ifnull 8, 3) := by decide +kernel
theorem dX11_paired_30 : decode cX11_paired 30 = .ok (.iload_n 1, 1) := by decide +kernel
theorem dX11_paired_31 : decode cX11_paired 31 = .ok (.iload_n 2, 1) := by decide +kernel
theorem dX11_paired_32 : decode cX11_paired 32 = .ok (.if_icmp .ne 11, 3) := by decide +kernel
theorem dX11_paired_35 : decode cX11_paired 35 = .ok (.aload_n 0, 1) := by decide +kernel
theorem dX11_paired_36 : decode cX11_paired 36 = .ok (.iconst (-1), 1) := by decide +kernel
theorem dX11_paired_37 : decode cX11_paired 37 = .ok (.bipush 10, 2) := by decide +kernel
theorem dX11_paired_39 : decode cX11_paired 39 = .ok (.invokevirtual 190, 3) := by decide +kernel
theorem dX11_paired_42 : decode cX11_paired 42 = .ok (.ireturn, 1) := by decide +kernel
theorem dX11_paired_43 : decode cX11_paired 43 = .ok (.bipush 6, 2) := by decide +kernel
theorem dX11_paired_45 : decode cX11_paired 45 = .ok (.aload 4, 2) := by decide +kernel
theorem dX11_paired_47 : decode cX11_paired 47 = .ok (.getfield 142, 3) := by decide +kernel
theorem dX11_paired_50 : decode cX11_paired 50 = .ok (.isub, 1) := by decide +kernel
theorem dX11_paired_51 : decode cX11_paired 51 = .ok (.istore 6, 2) := by decide +kernel
theorem dX11_paired_53 : decode cX11_paired 53 = .ok (.iload_n 3, 1) := by decide +kernel
theorem dX11_paired_54 : decode cX11_paired 54 = .ok (.iconst (-1), 1) := by decide +kernel
theorem dX11_paired_55 : decode cX11_paired 55 = .ok (.if_icmp .lt 9, 3) := by decide +kernel
theorem dX11_paired_58 : decode cX11_paired 58 = .ok (.iload_n 3, 1) := by decide +kernel
theorem dX11_paired_59 : decode cX11_paired 59 = .ok (.iload 6, 2) := by decide +kernel
theorem dX11_paired_61 : decode cX11_paired 61 = .ok (.if_icmp .lt 12, 3) := by decide +kernel
theorem dX11_paired_64 : decode cX11_paired 64 = .ok (.aload_n 0, 1) := by decide +kernel
theorem dX11_paired_65 : decode cX11_paired 65 = .ok (.bipush (-5), 2) := by decide +kernel
theorem dX11_paired_67 : decode cX11_paired 67 = .ok (.bipush 10, 2) := by decide +kernel
theorem dX11_paired_69 : decode cX11_paired 69 = .ok (.invokevirtual 190, 3) := by decide +kernel
theorem dX11_paired_72 : decode cX11_paired 72 = .ok (.ireturn, 1) := by decide +kernel
theorem dX11_paired_73 : decode cX11_paired 73 = .ok (.aload_n 0, 1) := by decide +kernel
theorem dX11_paired_74 : decode cX11_paired 74 = .ok (.aload 4, 2) := by decide +kernel
theorem dX11_paired_76 : decode cX11_paired 76 = .ok (.aload 5, 2) := by decide +kernel
theorem dX11_paired_78 : decode cX11_paired 78 = .ok (.invokevirtual 247, 3) := by decide +kernel
theorem dX11_paired_81 : decode cX11_paired 81 = .ok (.istore 7, 2) := by decide +kernel
theorem dX11_paired_83 : decode cX11_paired 83 = .ok (.aload 4, 2) := by decide +kernel
theorem dX11_paired_85 : decode cX11_paired 85 = .ok (.getfield 142, 3) := by decide +kernel
theorem dX11_paired_88 : decode cX11_paired 88 = .ok (.iload_n 3, 1) := by decide +kernel
theorem dX11_paired_89 : decode cX11_paired 89 = .ok (.iadd, 1) := by decide +kernel
theorem dX11_paired_90 : decode cX11_paired 90 = .ok (.istore 8, 2) := by decide +kernel
theorem dX11_paired_92 : decode cX11_paired 92 = .ok (.iload_n 3, 1) := by decide +kernel
theorem dX11_paired_93 : decode cX11_paired 93 = .ok (.iconst (-1), 1) := by decide +kernel
theorem dX11_paired_94 : decode cX11_paired 94 = .ok (.if_icmp .eq 11, 3) := by decide +kernel
theorem dX11_paired_97 : decode cX11_paired 97 = .ok (.iload 8, 2) := by decide +kernel
theorem dX11_paired_99 : decode cX11_paired 99 = .ok (.invokestatic 171, 3) := by decide +kernel
theorem dX11_paired_102 : decode cX11_paired 102 = .ok (.ifCond .ne 8, 3) := by decide +kernel
theorem dX11_paired_105 : decode cX11_paired 105 = .ok (.iload 7, 2) := by decide +kernel
theorem dX11_paired_107 : decode cX11_paired 107 = .ok (.goto 10, 3) := by decide +kernel
theorem dX11_paired_110 : decode cX11_paired 110 = .ok (.aload_n 0, 1) := by decide +kernel
theorem dX11_paired_111 : decode cX11_paired 111 = .ok (.getfield 59, 3) := by decide +kernel
theorem dX11_paired_114 : decode cX11_paired 114 = .ok (.iload 8, 2) := by decide +kernel
theorem dX11_paired_116 : decode cX11_paired 116 = .ok (.iaload, 1) := by decide +kernel
theorem dX11_paired_117 : decode cX11_paired 117 = .ok (.ireturn, 1) := by decide +kernel
set_option maxRecDepth 20000 in
theorem ggX11_bear_X4_personAt : GoodIn wsX11_bear wsX4_personAt := goodIn_r _ [7, 8, 9, 66, 67, 68, 69, 70, 71] (by decide +kernel) (by decide +kernel)
set_option maxRecDepth 20000 in
theorem gX11_bear_X4_personAt : GoodIn wsX11_bear (wsV RX11 126 RX4 yX4_personAt wsX4_personAt) := goodIn_app (goodIn_of _ (by decide +kernel)) ggX11_bear_X4_personAt
set_option maxRecDepth 20000 in
theorem ggX11_bear_X11_refuse : GoodIn wsX11_bear wsX11_refuse := goodIn_r _ [14, 15, 16, 17, 13, 18, 19, 52, 53, 54, 55, 56, 57, 58, 59, 60, 61, 62, 63, 64, 65] (by decide +kernel) (by decide +kernel)
set_option maxRecDepth 20000 in
theorem gX11_bear_X11_refuse : GoodIn wsX11_bear (wsV RX11 80 RX11 yX11_refuse wsX11_refuse) := goodIn_app (goodIn_of _ (by decide +kernel)) ggX11_bear_X11_refuse
set_option maxRecDepth 20000 in
theorem ggX11_bear_X11_isDeed : GoodIn wsX11_bear wsX11_isDeed := goodIn_r _ [22] (by decide +kernel) (by decide +kernel)
set_option maxRecDepth 20000 in
theorem gX11_bear_X11_isDeed : GoodIn wsX11_bear (va_wsS RX11 184 yX11_isDeed wsX11_isDeed) := goodIn_app (goodIn_of _ (by decide +kernel)) ggX11_bear_X11_isDeed
set_option maxRecDepth 20000 in
theorem ggX11_bear_X5_bearing : GoodIn wsX11_bear wsX5_bearing := goodIn_r _ [28, 29, 30, 31, 32, 33, 27, 34, 35, 36, 13, 37, 21, 22, 38, 39, 40, 41, 42, 43, 44, 72, 73, 74, 75, 76, 77, 78, 79, 80, 81, 82, 83, 84, 85, 86, 87, 88, 89, 90, 91, 92, 93, 94, 95, 96, 97, 98, 99, 100, 101, 102, 103, 104, 105, 106, 107, 108, 109, 110, 111, 112, 113, 114, 115, 116, 117, 118, 119, 120, 121, 122, 123, 124, 125, 126, 127, 128, 129, 130, 131, 132, 133, 134] (by decide +kernel) (by decide +kernel)
set_option maxRecDepth 20000 in
theorem gX11_bear_X5_bearing_u251X0 : GoodIn wsX11_bear (va_wsU RX11 251 RX0 "CarbonCopies$Person" ⟨"CarbonCopies$Person", "bearing", "(II)I"⟩ yX5_bearing wsX5_bearing) := goodIn_app (goodIn_of _ (by decide +kernel)) ggX11_bear_X5_bearing
set_option maxRecDepth 20000 in
theorem gX11_bear_X5_bearing_u251X1 : GoodIn wsX11_bear (va_wsU RX11 251 RX1 "CarbonCopies$Person" ⟨"CarbonCopies$Person", "bearing", "(II)I"⟩ yX5_bearing wsX5_bearing) := goodIn_app (goodIn_of _ (by decide +kernel)) ggX11_bear_X5_bearing
set_option maxRecDepth 20000 in
theorem gX11_bear_X5_bearing_u251X2 : GoodIn wsX11_bear (va_wsU RX11 251 RX2 "CarbonCopies$Person" ⟨"CarbonCopies$Person", "bearing", "(II)I"⟩ yX5_bearing wsX5_bearing) := goodIn_app (goodIn_of _ (by decide +kernel)) ggX11_bear_X5_bearing
set_option maxRecDepth 20000 in
theorem gX11_bear_X5_bearing_u251X3 : GoodIn wsX11_bear (va_wsU RX11 251 RX3 "CarbonCopies$Person" ⟨"CarbonCopies$Person", "bearing", "(II)I"⟩ yX5_bearing wsX5_bearing) := goodIn_app (goodIn_of _ (by decide +kernel)) ggX11_bear_X5_bearing
set_option maxRecDepth 20000 in
theorem gX11_bear_X5_bearing : GoodIn wsX11_bear (wsV RX11 251 RX5 yX5_bearing wsX5_bearing) := goodIn_app (goodIn_of _ (by decide +kernel)) ggX11_bear_X5_bearing
set_option maxRecDepth 20000 in
theorem gX11_bear_X5_bearing_u251X8 : GoodIn wsX11_bear (va_wsU RX11 251 RX8 "CarbonCopies$Person" ⟨"CarbonCopies$Person", "bearing", "(II)I"⟩ yX5_bearing wsX5_bearing) := goodIn_app (goodIn_of _ (by decide +kernel)) ggX11_bear_X5_bearing
set_option maxRecDepth 20000 in
theorem gX11_bear_X5_bearing_u251X10 : GoodIn wsX11_bear (va_wsU RX11 251 RX10 "CarbonCopies$Person" ⟨"CarbonCopies$Person", "bearing", "(II)I"⟩ yX5_bearing wsX5_bearing) := goodIn_app (goodIn_of _ (by decide +kernel)) ggX11_bear_X5_bearing
theorem dX11_bear_0 : decode cX11_bear 0 = .ok (.aload_n 0, 1) := by decide +kernel
theorem dX11_bear_1 : decode cX11_bear 1 = .ok (.getfield 31, 3) := by decide +kernel
theorem dX11_bear_4 : decode cX11_bear 4 = .ok (.iload_n 1, 1) := by decide +kernel
theorem dX11_bear_5 : decode cX11_bear 5 = .ok (.invokevirtual 126, 3) := by decide +kernel
theorem dX11_bear_8 : decode cX11_bear 8 = .ok (.astore_n 3, 1) := by decide +kernel
theorem dX11_bear_9 : decode cX11_bear 9 = .ok (.aload_n 3, 1) := by decide +kernel
theorem dX11_bear_10 : decode cX11_bear 10 = .ok (.ifnonnull 9, 3) := by decide +kernel
theorem dX11_bear_13 : decode cX11_bear 13 = .ok (.aload_n 0, 1) := by decide +kernel
theorem dX11_bear_14 : decode cX11_bear 14 = .ok (.iconst (-1), 1) := by decide +kernel
theorem dX11_bear_15 : decode cX11_bear 15 = .ok (.invokevirtual 80, 3) := by decide +kernel
theorem dX11_bear_18 : decode cX11_bear 18 = .ok (.ireturn, 1) := by decide +kernel
theorem dX11_bear_19 : decode cX11_bear 19 = .ok (.iload_n 2, 1) := by decide +kernel
theorem dX11_bear_20 : decode cX11_bear 20 = .ok (.invokestatic 184, 3) := by decide +kernel
theorem dX11_bear_23 : decode cX11_bear 23 = .ok (.ifCond .eq 18, 3) := by decide +kernel
theorem dX11_bear_26 : decode cX11_bear 26 = .ok (.aload_n 3, 1) := by decide +kernel
theorem dX11_bear_27 : decode cX11_bear 27 = .ok (.iload_n 2, 1) := by decide +kernel
theorem dX11_bear_28 : decode cX11_bear 28 = .ok (.aload_n 0, 1) := by decide +kernel
theorem dX11_bear_29 : decode cX11_bear 29 = .ok (.getfield 31, 3) := by decide +kernel
theorem dX11_bear_32 : decode cX11_bear 32 = .ok (.getfield 155, 3) := by decide +kernel
theorem dX11_bear_35 : decode cX11_bear 35 = .ok (.invokevirtual 251, 3) := by decide +kernel
theorem dX11_bear_38 : decode cX11_bear 38 = .ok (.goto 9, 3) := by decide +kernel
theorem dX11_bear_41 : decode cX11_bear 41 = .ok (.aload_n 0, 1) := by decide +kernel
theorem dX11_bear_42 : decode cX11_bear 42 = .ok (.bipush (-6), 2) := by decide +kernel
theorem dX11_bear_44 : decode cX11_bear 44 = .ok (.invokevirtual 80, 3) := by decide +kernel
theorem dX11_bear_47 : decode cX11_bear 47 = .ok (.ireturn, 1) := by decide +kernel
set_option maxRecDepth 20000 in
theorem ggX11_heir_X11_refuse : GoodIn wsX11_heir wsX11_refuse := goodIn_r _ [7, 8, 9, 10, 6, 11, 12, 57, 58, 59, 60, 61, 62, 63, 64, 65, 66, 67, 68, 69, 70] (by decide +kernel) (by decide +kernel)
set_option maxRecDepth 20000 in
theorem gX11_heir_X11_refuse : GoodIn wsX11_heir (wsV RX11 80 RX11 yX11_refuse wsX11_refuse) := goodIn_app (goodIn_of _ (by decide +kernel)) ggX11_heir_X11_refuse
set_option maxRecDepth 20000 in
theorem ggX11_heir_X11_isDeed : GoodIn wsX11_heir wsX11_isDeed := goodIn_r _ [15] (by decide +kernel) (by decide +kernel)
set_option maxRecDepth 20000 in
theorem gX11_heir_X11_isDeed : GoodIn wsX11_heir (va_wsS RX11 184 yX11_isDeed wsX11_isDeed) := goodIn_app (goodIn_of _ (by decide +kernel)) ggX11_heir_X11_isDeed
set_option maxRecDepth 20000 in
theorem ggX11_heir_X4_longestBearer : GoodIn wsX11_heir wsX4_longestBearer := goodIn_r _ [20, 21, 22, 23, 24, 25, 19, 26, 27, 28, 29, 30, 31, 32, 33, 34, 35, 36, 37, 38, 39, 40, 41, 6, 42, 14, 15, 43, 44, 45, 46, 47, 48, 49, 50, 51, 52, 53, 54, 55, 56, 71, 72, 73, 74, 75, 76, 77, 78, 79, 80, 81, 82, 83, 84, 85, 86, 87, 88, 89, 90, 91, 92, 93, 94, 95, 96, 97, 98, 99, 100, 101, 102, 103, 104, 105, 106, 107, 108, 109, 110, 111, 112, 113, 114, 115, 116, 117, 118, 119, 120, 121, 122, 123, 124, 125, 126, 127, 128, 129, 130, 131, 132, 133, 134, 135, 136, 137, 138, 139] (by decide +kernel) (by decide +kernel)
set_option maxRecDepth 20000 in
theorem gX11_heir_X4_longestBearer : GoodIn wsX11_heir (wsV RX11 257 RX4 yX4_longestBearer wsX4_longestBearer) := goodIn_app (goodIn_of _ (by decide +kernel)) ggX11_heir_X4_longestBearer
theorem dX11_heir_0 : decode cX11_heir 0 = .ok (.aload_n 0, 1) := by decide +kernel
theorem dX11_heir_1 : decode cX11_heir 1 = .ok (.getfield 31, 3) := by decide +kernel
theorem dX11_heir_4 : decode cX11_heir 4 = .ok (.getfield 254, 3) := by decide +kernel
theorem dX11_heir_7 : decode cX11_heir 7 = .ok (.ifCond .ne 10, 3) := by decide +kernel
theorem dX11_heir_10 : decode cX11_heir 10 = .ok (.aload_n 0, 1) := by decide +kernel
theorem dX11_heir_11 : decode cX11_heir 11 = .ok (.bipush (-5), 2) := by decide +kernel
theorem dX11_heir_13 : decode cX11_heir 13 = .ok (.invokevirtual 80, 3) := by decide +kernel
theorem dX11_heir_16 : decode cX11_heir 16 = .ok (.ireturn, 1) := by decide +kernel
theorem dX11_heir_17 : decode cX11_heir 17 = .ok (.iload_n 1, 1) := by decide +kernel
theorem dX11_heir_18 : decode cX11_heir 18 = .ok (.invokestatic 184, 3) := by decide +kernel
theorem dX11_heir_21 : decode cX11_heir 21 = .ok (.ifCond .eq 14, 3) := by decide +kernel
theorem dX11_heir_24 : decode cX11_heir 24 = .ok (.aload_n 0, 1) := by decide +kernel
theorem dX11_heir_25 : decode cX11_heir 25 = .ok (.getfield 31, 3) := by decide +kernel
theorem dX11_heir_28 : decode cX11_heir 28 = .ok (.iload_n 1, 1) := by decide +kernel
theorem dX11_heir_29 : decode cX11_heir 29 = .ok (.invokevirtual 257, 3) := by decide +kernel
theorem dX11_heir_32 : decode cX11_heir 32 = .ok (.goto 9, 3) := by decide +kernel
theorem dX11_heir_35 : decode cX11_heir 35 = .ok (.aload_n 0, 1) := by decide +kernel
theorem dX11_heir_36 : decode cX11_heir 36 = .ok (.bipush (-6), 2) := by decide +kernel
theorem dX11_heir_38 : decode cX11_heir 38 = .ok (.invokevirtual 80, 3) := by decide +kernel
theorem dX11_heir_41 : decode cX11_heir 41 = .ok (.ireturn, 1) := by decide +kernel
set_option maxRecDepth 20000 in
theorem ggX11_straight_X4_personAt : GoodIn wsX11_straight wsX4_personAt := goodIn_r _ [6, 7, 8, 71, 72, 73, 74, 75, 76] (by decide +kernel) (by decide +kernel)
set_option maxRecDepth 20000 in
theorem gX11_straight_X4_personAt : GoodIn wsX11_straight (wsV RX11 126 RX4 yX4_personAt wsX4_personAt) := goodIn_app (goodIn_of _ (by decide +kernel)) ggX11_straight_X4_personAt
set_option maxRecDepth 20000 in
theorem ggX11_straight_X11_refuseLess : GoodIn wsX11_straight wsX11_refuseLess := goodIn_r _ [13, 14, 57, 58, 59, 60, 61, 62, 63, 64, 65, 66, 67, 68, 69, 70] (by decide +kernel) (by decide +kernel)
set_option maxRecDepth 20000 in
theorem gX11_straight_X11_refuseLess : GoodIn wsX11_straight (wsV RX11 190 RX11 yX11_refuseLess wsX11_refuseLess) := goodIn_app (goodIn_of _ (by decide +kernel)) ggX11_straight_X11_refuseLess
set_option maxRecDepth 20000 in
theorem ggX11_straight_X5_trueBits : GoodIn wsX11_straight wsX5_trueBits := goodIn_r _ [20, 21, 77, 78, 79, 80, 81, 82, 83, 84, 85, 86, 87, 88, 89, 90, 91, 92, 93, 94, 95, 96, 97, 98, 99, 100, 101, 102, 103, 104, 105, 106, 107, 108, 109, 110, 111, 112, 113, 114, 115, 116, 117, 118, 119, 120, 121, 122, 123, 124, 125, 126, 127, 128, 129, 130, 131, 132, 133, 134, 135, 136, 137, 138, 139] (by decide +kernel) (by decide +kernel)
set_option maxRecDepth 20000 in
theorem gX11_straight_X5_trueBits_u260X0 : GoodIn wsX11_straight (va_wsU RX11 260 RX0 "CarbonCopies$Person" ⟨"CarbonCopies$Person", "trueBits", "()I"⟩ yX5_trueBits wsX5_trueBits) := goodIn_app (goodIn_of _ (by decide +kernel)) ggX11_straight_X5_trueBits
set_option maxRecDepth 20000 in
theorem gX11_straight_X5_trueBits_u260X1 : GoodIn wsX11_straight (va_wsU RX11 260 RX1 "CarbonCopies$Person" ⟨"CarbonCopies$Person", "trueBits", "()I"⟩ yX5_trueBits wsX5_trueBits) := goodIn_app (goodIn_of _ (by decide +kernel)) ggX11_straight_X5_trueBits
set_option maxRecDepth 20000 in
theorem gX11_straight_X5_trueBits_u260X2 : GoodIn wsX11_straight (va_wsU RX11 260 RX2 "CarbonCopies$Person" ⟨"CarbonCopies$Person", "trueBits", "()I"⟩ yX5_trueBits wsX5_trueBits) := goodIn_app (goodIn_of _ (by decide +kernel)) ggX11_straight_X5_trueBits
set_option maxRecDepth 20000 in
theorem gX11_straight_X5_trueBits_u260X3 : GoodIn wsX11_straight (va_wsU RX11 260 RX3 "CarbonCopies$Person" ⟨"CarbonCopies$Person", "trueBits", "()I"⟩ yX5_trueBits wsX5_trueBits) := goodIn_app (goodIn_of _ (by decide +kernel)) ggX11_straight_X5_trueBits
set_option maxRecDepth 20000 in
theorem gX11_straight_X5_trueBits : GoodIn wsX11_straight (wsV RX11 260 RX5 yX5_trueBits wsX5_trueBits) := goodIn_app (goodIn_of _ (by decide +kernel)) ggX11_straight_X5_trueBits
set_option maxRecDepth 20000 in
theorem gX11_straight_X5_trueBits_u260X8 : GoodIn wsX11_straight (va_wsU RX11 260 RX8 "CarbonCopies$Person" ⟨"CarbonCopies$Person", "trueBits", "()I"⟩ yX5_trueBits wsX5_trueBits) := goodIn_app (goodIn_of _ (by decide +kernel)) ggX11_straight_X5_trueBits
set_option maxRecDepth 20000 in
theorem gX11_straight_X5_trueBits_u260X10 : GoodIn wsX11_straight (va_wsU RX11 260 RX10 "CarbonCopies$Person" ⟨"CarbonCopies$Person", "trueBits", "()I"⟩ yX5_trueBits wsX5_trueBits) := goodIn_app (goodIn_of _ (by decide +kernel)) ggX11_straight_X5_trueBits
set_option maxRecDepth 20000 in
theorem ggX11_straight_X5_movesToStraight : GoodIn wsX11_straight wsX5_movesToStraight := goodIn_r _ [33, 21, 34, 35, 36, 37, 77, 78, 79, 80, 81, 82, 83, 84, 85, 86, 87, 88, 89, 90, 91, 92, 93, 94, 95, 96, 97, 98, 99, 100, 101, 102, 103, 104, 105, 106, 107, 108, 109, 110, 111, 112, 113, 114, 115, 116, 117, 118, 119, 120, 121, 122, 123, 124, 125, 126, 127, 128, 129, 130, 131, 132, 133, 134, 135, 136, 137, 138, 139] (by decide +kernel) (by decide +kernel)
set_option maxRecDepth 20000 in
theorem gX11_straight_X5_movesToStraight_u263X0 : GoodIn wsX11_straight (va_wsU RX11 263 RX0 "CarbonCopies$Person" ⟨"CarbonCopies$Person", "movesToStraight", "()I"⟩ yX5_movesToStraight wsX5_movesToStraight) := goodIn_app (goodIn_of _ (by decide +kernel)) ggX11_straight_X5_movesToStraight
set_option maxRecDepth 20000 in
theorem gX11_straight_X5_movesToStraight_u263X1 : GoodIn wsX11_straight (va_wsU RX11 263 RX1 "CarbonCopies$Person" ⟨"CarbonCopies$Person", "movesToStraight", "()I"⟩ yX5_movesToStraight wsX5_movesToStraight) := goodIn_app (goodIn_of _ (by decide +kernel)) ggX11_straight_X5_movesToStraight
set_option maxRecDepth 20000 in
theorem gX11_straight_X5_movesToStraight_u263X2 : GoodIn wsX11_straight (va_wsU RX11 263 RX2 "CarbonCopies$Person" ⟨"CarbonCopies$Person", "movesToStraight", "()I"⟩ yX5_movesToStraight wsX5_movesToStraight) := goodIn_app (goodIn_of _ (by decide +kernel)) ggX11_straight_X5_movesToStraight
set_option maxRecDepth 20000 in
theorem gX11_straight_X5_movesToStraight_u263X3 : GoodIn wsX11_straight (va_wsU RX11 263 RX3 "CarbonCopies$Person" ⟨"CarbonCopies$Person", "movesToStraight", "()I"⟩ yX5_movesToStraight wsX5_movesToStraight) := goodIn_app (goodIn_of _ (by decide +kernel)) ggX11_straight_X5_movesToStraight
set_option maxRecDepth 20000 in
theorem gX11_straight_X5_movesToStraight : GoodIn wsX11_straight (wsV RX11 263 RX5 yX5_movesToStraight wsX5_movesToStraight) := goodIn_app (goodIn_of _ (by decide +kernel)) ggX11_straight_X5_movesToStraight
set_option maxRecDepth 20000 in
theorem gX11_straight_X5_movesToStraight_u263X8 : GoodIn wsX11_straight (va_wsU RX11 263 RX8 "CarbonCopies$Person" ⟨"CarbonCopies$Person", "movesToStraight", "()I"⟩ yX5_movesToStraight wsX5_movesToStraight) := goodIn_app (goodIn_of _ (by decide +kernel)) ggX11_straight_X5_movesToStraight
set_option maxRecDepth 20000 in
theorem gX11_straight_X5_movesToStraight_u263X10 : GoodIn wsX11_straight (va_wsU RX11 263 RX10 "CarbonCopies$Person" ⟨"CarbonCopies$Person", "movesToStraight", "()I"⟩ yX5_movesToStraight wsX5_movesToStraight) := goodIn_app (goodIn_of _ (by decide +kernel)) ggX11_straight_X5_movesToStraight
set_option maxRecDepth 20000 in
theorem ggX11_straight_X5_firstAskew : GoodIn wsX11_straight wsX5_firstAskew := goodIn_r _ [49, 21, 77, 78, 79, 80, 81, 82, 83, 84, 85, 86, 87, 88, 89, 90, 91, 92, 93, 94, 95, 96, 97, 98, 99, 100, 101, 102, 103, 104, 105, 106, 107, 108, 109, 110, 111, 112, 113, 114, 115, 116, 117, 118, 119, 120, 121, 122, 123, 124, 125, 126, 127, 128, 129, 130, 131, 132, 133, 134, 135, 136, 137, 138, 139] (by decide +kernel) (by decide +kernel)
set_option maxRecDepth 20000 in
theorem gX11_straight_X5_firstAskew_u266X0 : GoodIn wsX11_straight (va_wsU RX11 266 RX0 "CarbonCopies$Person" ⟨"CarbonCopies$Person", "firstAskew", "()I"⟩ yX5_firstAskew wsX5_firstAskew) := goodIn_app (goodIn_of _ (by decide +kernel)) ggX11_straight_X5_firstAskew
set_option maxRecDepth 20000 in
theorem gX11_straight_X5_firstAskew_u266X1 : GoodIn wsX11_straight (va_wsU RX11 266 RX1 "CarbonCopies$Person" ⟨"CarbonCopies$Person", "firstAskew", "()I"⟩ yX5_firstAskew wsX5_firstAskew) := goodIn_app (goodIn_of _ (by decide +kernel)) ggX11_straight_X5_firstAskew
set_option maxRecDepth 20000 in
theorem gX11_straight_X5_firstAskew_u266X2 : GoodIn wsX11_straight (va_wsU RX11 266 RX2 "CarbonCopies$Person" ⟨"CarbonCopies$Person", "firstAskew", "()I"⟩ yX5_firstAskew wsX5_firstAskew) := goodIn_app (goodIn_of _ (by decide +kernel)) ggX11_straight_X5_firstAskew
set_option maxRecDepth 20000 in
theorem gX11_straight_X5_firstAskew_u266X3 : GoodIn wsX11_straight (va_wsU RX11 266 RX3 "CarbonCopies$Person" ⟨"CarbonCopies$Person", "firstAskew", "()I"⟩ yX5_firstAskew wsX5_firstAskew) := goodIn_app (goodIn_of _ (by decide +kernel)) ggX11_straight_X5_firstAskew
set_option maxRecDepth 20000 in
theorem gX11_straight_X5_firstAskew : GoodIn wsX11_straight (wsV RX11 266 RX5 yX5_firstAskew wsX5_firstAskew) := goodIn_app (goodIn_of _ (by decide +kernel)) ggX11_straight_X5_firstAskew
set_option maxRecDepth 20000 in
theorem gX11_straight_X5_firstAskew_u266X8 : GoodIn wsX11_straight (va_wsU RX11 266 RX8 "CarbonCopies$Person" ⟨"CarbonCopies$Person", "firstAskew", "()I"⟩ yX5_firstAskew wsX5_firstAskew) := goodIn_app (goodIn_of _ (by decide +kernel)) ggX11_straight_X5_firstAskew
set_option maxRecDepth 20000 in
theorem gX11_straight_X5_firstAskew_u266X10 : GoodIn wsX11_straight (va_wsU RX11 266 RX10 "CarbonCopies$Person" ⟨"CarbonCopies$Person", "firstAskew", "()I"⟩ yX5_firstAskew wsX5_firstAskew) := goodIn_app (goodIn_of _ (by decide +kernel)) ggX11_straight_X5_firstAskew
theorem dX11_straight_0 : decode cX11_straight 0 = .ok (.aload_n 0, 1) := by decide +kernel
theorem dX11_straight_1 : decode cX11_straight 1 = .ok (.getfield 31, 3) := by decide +kernel
theorem dX11_straight_4 : decode cX11_straight 4 = .ok (.iload_n 1, 1) := by decide +kernel
theorem dX11_straight_5 : decode cX11_straight 5 = .ok (.invokevirtual 126, 3) := by decide +kernel
theorem dX11_straight_8 : decode cX11_straight 8 = .ok (.astore_n 3, 1) := by decide +kernel
theorem dX11_straight_9 : decode cX11_straight 9 = .ok (.aload_n 3, 1) := by decide +kernel
theorem dX11_straight_10 : decode cX11_straight 10 = .ok (.ifnonnull 11, 3) := by decide +kernel
theorem dX11_straight_13 : decode cX11_straight 13 = .ok (.aload_n 0, 1) := by decide +kernel
theorem dX11_straight_14 : decode cX11_straight 14 = .ok (.iconst (-1), 1) := by decide +kernel
theorem dX11_straight_15 : decode cX11_straight 15 = .ok (.bipush 10, 2) := by decide +kernel
theorem dX11_straight_17 : decode cX11_straight 17 = .ok (.invokevirtual 190, 3) := by decide +kernel
theorem dX11_straight_20 : decode cX11_straight 20 = .ok (.ireturn, 1) := by decide +kernel
theorem dX11_straight_21 : decode cX11_straight 21 = .ok (.iload_n 2, 1) := by decide +kernel
theorem dX11_straight_22 : decode cX11_straight 22 = .ok (.tableswitch 41 0 2 #[26, 31, 36], 26) := by decide +kernel
theorem dX11_straight_48 : decode cX11_straight 48 = .ok (.aload_n 3, 1) := by decide +kernel
theorem dX11_straight_49 : decode cX11_straight 49 = .ok (.invokevirtual 260, 3) := by decide +kernel
theorem dX11_straight_52 : decode cX11_straight 52 = .ok (.ireturn, 1) := by decide +kernel
theorem dX11_straight_53 : decode cX11_straight 53 = .ok (.aload_n 3, 1) := by decide +kernel
theorem dX11_straight_54 : decode cX11_straight 54 = .ok (.invokevirtual 263, 3) := by decide +kernel
theorem dX11_straight_57 : decode cX11_straight 57 = .ok (.ireturn, 1) := by decide +kernel
theorem dX11_straight_58 : decode cX11_straight 58 = .ok (.aload_n 3, 1) := by decide +kernel
theorem dX11_straight_59 : decode cX11_straight 59 = .ok (.invokevirtual 266, 3) := by decide +kernel
theorem dX11_straight_62 : decode cX11_straight 62 = .ok (.ireturn, 1) := by decide +kernel
theorem dX11_straight_63 : decode cX11_straight 63 = .ok (.aload_n 0, 1) := by decide +kernel
theorem dX11_straight_64 : decode cX11_straight 64 = .ok (.bipush (-5), 2) := by decide +kernel
theorem dX11_straight_66 : decode cX11_straight 66 = .ok (.bipush 10, 2) := by decide +kernel
theorem dX11_straight_68 : decode cX11_straight 68 = .ok (.invokevirtual 190, 3) := by decide +kernel
theorem dX11_straight_71 : decode cX11_straight 71 = .ok (.ireturn, 1) := by decide +kernel
set_option maxRecDepth 20000 in
theorem ggX11_judge_X11_shelfAt : GoodIn wsX11_judge wsX11_shelfAt := goodIn_r _ [6, 7, 66, 67, 68, 69, 70, 71, 72, 73, 74, 75, 76, 77, 78, 79] (by decide +kernel) (by decide +kernel)
set_option maxRecDepth 20000 in
theorem gX11_judge_X11_shelfAt : GoodIn wsX11_judge (wsV RX11 76 RX11 yX11_shelfAt wsX11_shelfAt) := goodIn_app (goodIn_of _ (by decide +kernel)) ggX11_judge_X11_shelfAt
set_option maxRecDepth 20000 in
theorem ggX11_judge_X11_refusalOfLife : GoodIn wsX11_judge wsX11_refusalOfLife := goodIn_r _ [10, 11, 12, 13, 14, 15, 16, 17, 18, 19, 5, 20, 21, 22, 23, 24, 80, 81, 82] (by decide +kernel) (by decide +kernel)
set_option maxRecDepth 20000 in
theorem gX11_judge_X11_refusalOfLife : GoodIn wsX11_judge (va_wsS RX11 269 yX11_refusalOfLife wsX11_refusalOfLife) := goodIn_app (goodIn_of _ (by decide +kernel)) ggX11_judge_X11_refusalOfLife
set_option maxRecDepth 20000 in
theorem ggX11_judge_X11_refuseLess : GoodIn wsX11_judge wsX11_refuseLess := goodIn_r _ [28, 29, 66, 67, 68, 69, 70, 71, 72, 73, 74, 75, 76, 77, 78, 79] (by decide +kernel) (by decide +kernel)
set_option maxRecDepth 20000 in
theorem gX11_judge_X11_refuseLess : GoodIn wsX11_judge (wsV RX11 190 RX11 yX11_refuseLess wsX11_refuseLess) := goodIn_app (goodIn_of _ (by decide +kernel)) ggX11_judge_X11_refuseLess
set_option maxRecDepth 20000 in
theorem ggX11_judge_X4_firstWrong : GoodIn wsX11_judge wsX4_firstWrong := goodIn_r _ [34, 35, 36, 37, 38, 39, 33, 40, 41, 42, 43, 44, 45, 15, 46, 47, 48, 49, 50, 51, 52, 53, 54, 55, 56, 57, 13, 14, 16, 17, 58, 59, 60, 61, 62, 5, 63, 64, 65, 83, 84, 85, 86, 87, 88, 89, 90, 91, 92, 93, 94, 95, 96, 97, 98, 99, 100, 101, 102, 103, 104, 105, 106, 107, 108, 109, 110, 111, 112, 113, 114, 115, 116, 117, 118, 119, 120, 121, 122, 123, 124, 125, 126, 127, 128, 129, 130, 131, 132, 133, 134, 135, 136, 137, 138, 139, 140, 141, 142, 143, 144, 145, 146, 147, 148, 149, 150, 151, 80, 81, 82] (by decide +kernel) (by decide +kernel)
set_option maxRecDepth 20000 in
theorem gX11_judge_X4_firstWrong : GoodIn wsX11_judge (wsV RX11 273 RX4 yX4_firstWrong wsX4_firstWrong) := goodIn_app (goodIn_of _ (by decide +kernel)) ggX11_judge_X4_firstWrong
theorem dX11_judge_0 : decode cX11_judge 0 = .ok (.aload_n 0, 1) := by decide +kernel
theorem dX11_judge_1 : decode cX11_judge 1 = .ok (.iload_n 1, 1) := by decide +kernel
theorem dX11_judge_2 : decode cX11_judge 2 = .ok (.invokevirtual 76, 3) := by decide +kernel
theorem dX11_judge_5 : decode cX11_judge 5 = .ok (.astore_n 3, 1) := by decide +kernel
theorem dX11_judge_6 : decode cX11_judge 6 = .ok (.aload_n 3, 1) := by decide +kernel
theorem dX11_judge_7 : decode cX11_judge 7 = .ok (.iload_n 2, 1) := by decide +kernel
theorem dX11_judge_8 : decode cX11_judge 8 = .ok (.iconst 1, 1) := by decide +kernel
theorem dX11_judge_9 : decode cX11_judge 9 = .ok (.invokestatic 269, 3) := by decide +kernel
theorem dX11_judge_12 : decode cX11_judge 12 = .ok (.istore 4, 2) := by decide +kernel
theorem dX11_judge_14 : decode cX11_judge 14 = .ok (.aload_n 3, 1) := by decide +kernel
theorem dX11_judge_15 : decode cX11_judge 15 = .ok (.ifnull 8, 3) := by decide +kernel
theorem dX11_judge_18 : decode cX11_judge 18 = .ok (.iload 4, 2) := by decide +kernel
theorem dX11_judge_20 : decode cX11_judge 20 = .ok (.ifCond .eq 12, 3) := by decide +kernel
theorem dX11_judge_23 : decode cX11_judge 23 = .ok (.aload_n 0, 1) := by decide +kernel
theorem dX11_judge_24 : decode cX11_judge 24 = .ok (.iload 4, 2) := by decide +kernel
theorem dX11_judge_26 : decode cX11_judge 26 = .ok (.bipush 10, 2) := by decide +kernel
theorem dX11_judge_28 : decode cX11_judge 28 = .ok (.invokevirtual 190, 3) := by decide +kernel
theorem dX11_judge_31 : decode cX11_judge 31 = .ok (.ireturn, 1) := by decide +kernel
theorem dX11_judge_32 : decode cX11_judge 32 = .ok (.aload_n 0, 1) := by decide +kernel
theorem dX11_judge_33 : decode cX11_judge 33 = .ok (.getfield 31, 3) := by decide +kernel
theorem dX11_judge_36 : decode cX11_judge 36 = .ok (.aload_n 3, 1) := by decide +kernel
theorem dX11_judge_37 : decode cX11_judge 37 = .ok (.iload_n 2, 1) := by decide +kernel
theorem dX11_judge_38 : decode cX11_judge 38 = .ok (.invokevirtual 273, 3) := by decide +kernel
theorem dX11_judge_41 : decode cX11_judge 41 = .ok (.ireturn, 1) := by decide +kernel
set_option maxRecDepth 20000 in
theorem ggX11_behind_X11_shelfAt : GoodIn wsX11_behind wsX11_shelfAt := goodIn_r _ [7, 8, 302, 303, 304, 305, 306, 307, 308, 309, 310, 311, 312, 313, 314, 315] (by decide +kernel) (by decide +kernel)
set_option maxRecDepth 20000 in
theorem gX11_behind_X11_shelfAt : GoodIn wsX11_behind (wsV RX11 76 RX11 yX11_shelfAt wsX11_shelfAt) := goodIn_app (goodIn_of _ (by decide +kernel)) ggX11_behind_X11_shelfAt
set_option maxRecDepth 20000 in
theorem ggX11_behind_X11_refusalOfLife : GoodIn wsX11_behind wsX11_refusalOfLife := goodIn_r _ [11, 12, 13, 14, 15, 16, 17, 18, 19, 20, 6, 21, 22, 23, 24, 25, 316, 317, 318] (by decide +kernel) (by decide +kernel)
set_option maxRecDepth 20000 in
theorem gX11_behind_X11_refusalOfLife : GoodIn wsX11_behind (va_wsS RX11 269 yX11_refusalOfLife wsX11_refusalOfLife) := goodIn_app (goodIn_of _ (by decide +kernel)) ggX11_behind_X11_refusalOfLife
set_option maxRecDepth 20000 in
theorem ggX11_behind_X11_refuse : GoodIn wsX11_behind wsX11_refuse := goodIn_r _ [29, 30, 31, 32, 6, 33, 34, 302, 303, 304, 305, 306, 307, 308, 309, 310, 311, 312, 313, 314, 315] (by decide +kernel) (by decide +kernel)
set_option maxRecDepth 20000 in
theorem gX11_behind_X11_refuse : GoodIn wsX11_behind (wsV RX11 80 RX11 yX11_refuse wsX11_refuse) := goodIn_app (goodIn_of _ (by decide +kernel)) ggX11_behind_X11_refuse
set_option maxRecDepth 20000 in
theorem ggX11_behind_X4_firstWrong : GoodIn wsX11_behind wsX4_firstWrong := goodIn_r _ [39, 40, 41, 42, 43, 44, 38, 45, 46, 47, 48, 49, 50, 16, 51, 52, 53, 54, 55, 56, 57, 58, 59, 60, 61, 62, 14, 15, 17, 18, 63, 64, 65, 66, 67, 6, 68, 69, 70, 319, 320, 321, 322, 323, 324, 325, 326, 327, 328, 329, 330, 331, 332, 333, 334, 335, 336, 337, 338, 339, 340, 341, 342, 343, 344, 345, 346, 347, 348, 349, 350, 351, 352, 353, 354, 355, 356, 357, 358, 359, 360, 361, 362, 363, 364, 365, 366, 367, 368, 369, 370, 371, 372, 373, 374, 375, 376, 377, 378, 379, 380, 381, 382, 383, 384, 385, 386, 387, 316, 317, 318] (by decide +kernel) (by decide +kernel)
set_option maxRecDepth 20000 in
theorem gX11_behind_X4_firstWrong : GoodIn wsX11_behind (wsV RX11 273 RX4 yX4_firstWrong wsX4_firstWrong) := goodIn_app (goodIn_of _ (by decide +kernel)) ggX11_behind_X4_firstWrong
set_option maxRecDepth 20000 in
theorem ggX11_behind_X4_takeFrom : GoodIn wsX11_behind wsX4_takeFrom := goodIn_r _ [74, 75, 76, 46, 77, 42, 43, 44, 38, 45, 47, 78, 79, 80, 81, 82, 83, 84, 85, 86, 87, 88, 89, 90, 91, 92, 93, 94, 95, 96, 97, 98, 99, 100, 101, 102, 103, 104, 105, 106, 107, 108, 109, 110, 111, 112, 113, 114, 115, 116, 117, 118, 119, 120, 121, 122, 123, 124, 125, 126, 127, 128, 129, 130, 131, 132, 133, 134, 135, 136, 137, 138, 139, 140, 141, 142, 143, 144, 145, 146, 147, 148, 149, 150, 151, 152, 153, 154, 155, 156, 157, 158, 159, 319, 320, 321, 322, 323, 324, 325, 326, 327, 328, 329, 330, 331, 332, 333, 334, 335, 336, 337, 338, 339, 340, 341, 342, 343, 344, 345, 346, 347, 348, 349, 350, 351, 352, 353, 354, 355, 356, 357, 358, 359, 360, 361, 362, 363, 364, 365, 366, 367, 368, 369, 370, 371, 372, 373, 374, 375, 376, 377, 378, 379, 380, 381, 382, 383, 384, 385, 386, 387] (by decide +kernel) (by decide +kernel)
set_option maxRecDepth 20000 in
theorem gX11_behind_X4_takeFrom : GoodIn wsX11_behind (wsV RX11 196 RX4 yX4_takeFrom wsX4_takeFrom) := goodIn_app (goodIn_of _ (by decide +kernel)) ggX11_behind_X4_takeFrom
set_option maxRecDepth 20000 in
theorem ggX11_behind_X4_liveTold : GoodIn wsX11_behind wsX4_liveTold := goodIn_r _ [163, 41, 48, 49, 50, 16, 51, 52, 53, 54, 55, 56, 57, 58, 59, 60, 61, 62, 14, 15, 17, 18, 42, 43, 44, 38, 45, 46, 47, 164, 165, 166, 167, 103, 168, 114, 115, 169, 170, 171, 172, 69, 6, 70, 67, 68, 173, 174, 175, 176, 177, 178, 179, 180, 181, 182, 183, 184, 119, 185, 186, 187, 116, 188, 189, 190, 191, 192, 193, 194, 195, 196, 197, 97, 198, 199, 200, 201, 202, 203, 204, 94, 205, 206, 207, 208, 209, 118, 210, 211, 100, 212, 213, 214, 215, 216, 217, 218, 84, 219, 220, 221, 222, 223, 88, 224, 225, 226, 227, 228, 229, 230, 231, 232, 91, 233, 234, 235, 236, 237, 238, 239, 240, 241, 242, 243, 244, 245, 246, 247, 248, 249, 250, 251, 252, 253, 254, 255, 256, 257, 258, 259, 260, 261, 262, 263, 264, 265, 325, 326, 327, 328, 329, 330, 331, 332, 333, 334, 335, 336, 337, 338, 339, 340, 341, 342, 343, 344, 345, 346, 347, 348, 349, 350, 351, 352, 353, 354, 355, 356, 357, 358, 359, 360, 361, 362, 363, 364, 365, 366, 367, 368, 369, 370, 371, 372, 373, 374, 375, 376, 377, 378, 379, 380, 381, 382, 383, 384, 385, 386, 387, 316, 317, 318, 319, 320, 321, 322, 323, 324] (by decide +kernel) (by decide +kernel)
set_option maxRecDepth 20000 in
theorem gX11_behind_X4_liveTold : GoodIn wsX11_behind (wsV RX11 277 RX4 yX4_liveTold wsX4_liveTold) := goodIn_app (goodIn_of _ (by decide +kernel)) ggX11_behind_X4_liveTold
set_option maxRecDepth 20000 in
theorem ggX11_behind_X4_strengthTotal : GoodIn wsX11_behind wsX4_strengthTotal := goodIn_r _ [269, 46, 42, 43, 44, 38, 45, 47, 270, 271, 272, 273, 103, 274, 114, 275, 276, 277, 278, 279, 280, 281, 319, 320, 321, 322, 323, 324, 325, 326, 327, 328, 329, 330, 331, 332, 333, 334, 335, 336, 337, 338, 339, 340, 341, 342, 343, 344, 345, 346, 347, 348, 349, 350, 351, 352, 353, 354, 355, 356, 357, 358, 359, 360, 361, 362, 363, 364, 365, 366, 367, 368, 369, 370, 371, 372, 373, 374, 375, 376, 377, 378, 379, 380, 381, 382, 383, 384, 385, 386, 387] (by decide +kernel) (by decide +kernel)
set_option maxRecDepth 20000 in
theorem gX11_behind_X4_strengthTotal : GoodIn wsX11_behind (wsV RX11 281 RX4 yX4_strengthTotal wsX4_strengthTotal) := goodIn_app (goodIn_of _ (by decide +kernel)) ggX11_behind_X4_strengthTotal
set_option maxRecDepth 20000 in
theorem ggX11_behind_X4_deadTotal : GoodIn wsX11_behind wsX4_deadTotal := goodIn_r _ [285, 46, 41, 42, 43, 44, 38, 45, 47, 319, 320, 321, 322, 323, 324, 325, 326, 327, 328, 329, 330, 331, 332, 333, 334, 335, 336, 337, 338, 339, 340, 341, 342, 343, 344, 345, 346, 347, 348, 349, 350, 351, 352, 353, 354, 355, 356, 357, 358, 359, 360, 361, 362, 363, 364, 365, 366, 367, 368, 369, 370, 371, 372, 373, 374, 375, 376, 377, 378, 379, 380, 381, 382, 383, 384, 385, 386, 387] (by decide +kernel) (by decide +kernel)
set_option maxRecDepth 20000 in
theorem gX11_behind_X4_deadTotal : GoodIn wsX11_behind (wsV RX11 284 RX4 yX4_deadTotal wsX4_deadTotal) := goodIn_app (goodIn_of _ (by decide +kernel)) ggX11_behind_X4_deadTotal
set_option maxRecDepth 20000 in
theorem ggX11_behind_X4_smearTotal : GoodIn wsX11_behind wsX4_smearTotal := goodIn_r _ [289, 46, 42, 43, 44, 38, 45, 47, 290, 291, 292, 293, 103, 294, 115, 295, 296, 297, 298, 299, 300, 301, 319, 320, 321, 322, 323, 324, 325, 326, 327, 328, 329, 330, 331, 332, 333, 334, 335, 336, 337, 338, 339, 340, 341, 342, 343, 344, 345, 346, 347, 348, 349, 350, 351, 352, 353, 354, 355, 356, 357, 358, 359, 360, 361, 362, 363, 364, 365, 366, 367, 368, 369, 370, 371, 372, 373, 374, 375, 376, 377, 378, 379, 380, 381, 382, 383, 384, 385, 386, 387] (by decide +kernel) (by decide +kernel)
set_option maxRecDepth 20000 in
theorem gX11_behind_X4_smearTotal : GoodIn wsX11_behind (wsV RX11 287 RX4 yX4_smearTotal wsX4_smearTotal) := goodIn_app (goodIn_of _ (by decide +kernel)) ggX11_behind_X4_smearTotal
theorem dX11_behind_0 : decode cX11_behind 0 = .ok (.aload_n 0, 1) := by decide +kernel
theorem dX11_behind_1 : decode cX11_behind 1 = .ok (.iload_n 1, 1) := by decide +kernel
theorem dX11_behind_2 : decode cX11_behind 2 = .ok (.invokevirtual 76, 3) := by decide +kernel
theorem dX11_behind_5 : decode cX11_behind 5 = .ok (.astore 4, 2) := by decide +kernel
theorem dX11_behind_7 : decode cX11_behind 7 = .ok (.aload 4, 2) := by decide +kernel
theorem dX11_behind_9 : decode cX11_behind 9 = .ok (.iload_n 2, 1) := by decide +kernel
theorem dX11_behind_10 : decode cX11_behind 10 = .ok (.iload_n 3, 1) := by decide +kernel
theorem dX11_behind_11 : decode cX11_behind 11 = .ok (.ifCond .lt 12, 3) := by decide +kernel
theorem dX11_behind_14 : decode cX11_behind 14 = .ok (.iload_n 3, 1) := by decide +kernel
theorem dX11_behind_15 : decode cX11_behind 15 = .ok (.iconst 2, 1) := by decide +kernel
theorem dX11_behind_16 : decode cX11_behind 16 = .ok (.if_icmp .gt 7, 3) := by decide +kernel
theorem dX11_behind_19 : decode cX11_behind 19 = .ok (.iconst 1, 1) := by decide +kernel
theorem dX11_behind_20 : decode cX11_behind 20 = .ok (.goto 4, 3) := by decide +kernel
theorem dX11_behind_23 : decode cX11_behind 23 = .ok (.iconst 0, 1) := by decide +kernel
theorem dX11_behind_24 : decode cX11_behind 24 = .ok (.invokestatic 269, 3) := by decide +kernel
theorem dX11_behind_27 : decode cX11_behind 27 = .ok (.istore 5, 2) := by decide +kernel
theorem dX11_behind_29 : decode cX11_behind 29 = .ok (.aload 4, 2) := by decide +kernel
theorem dX11_behind_31 : decode cX11_behind 31 = .ok (.ifnull 8, 3) := by decide +kernel
theorem dX11_behind_34 : decode cX11_behind 34 = .ok (.iload 5, 2) := by decide +kernel
theorem dX11_behind_36 : decode cX11_behind 36 = .ok (.ifCond .eq 10, 3) := by decide +kernel
theorem dX11_behind_39 : decode cX11_behind 39 = .ok (.aload_n 0, 1) := by decide +kernel
theorem dX11_behind_40 : decode cX11_behind 40 = .ok (.iload 5, 2) := by decide +kernel
theorem dX11_behind_42 : decode cX11_behind 42 = .ok (.invokevirtual 80, 3) := by decide +kernel
theorem dX11_behind_45 : decode cX11_behind 45 = .ok (.ireturn, 1) := by decide +kernel
theorem dX11_behind_46 : decode cX11_behind 46 = .ok (.aload_n 0, 1) := by decide +kernel
theorem dX11_behind_47 : decode cX11_behind 47 = .ok (.getfield 31, 3) := by decide +kernel
theorem dX11_behind_50 : decode cX11_behind 50 = .ok (.aload 4, 2) := by decide +kernel
theorem dX11_behind_52 : decode cX11_behind 52 = .ok (.iload_n 2, 1) := by decide +kernel
theorem dX11_behind_53 : decode cX11_behind 53 = .ok (.invokevirtual 273, 3) := by decide +kernel
theorem dX11_behind_56 : decode cX11_behind 56 = .ok (.iconst (-1), 1) := by decide +kernel
theorem dX11_behind_57 : decode cX11_behind 57 = .ok (.if_icmp .eq 10, 3) := by decide +kernel
theorem dX11_behind_60 : decode cX11_behind 60 = .ok (.aload_n 0, 1) := by decide +kernel
theorem dX11_behind_61 : decode cX11_behind 61 = .ok (.bipush (-6), 2) := by decide +kernel
theorem dX11_behind_63 : decode cX11_behind 63 = .ok (.invokevirtual 80, 3) := by decide +kernel
theorem dX11_behind_66 : decode cX11_behind 66 = .ok (.ireturn, 1) := by decide +kernel
theorem dX11_behind_67 : decode cX11_behind 67 = .ok (.aload_n 0, 1) := by decide +kernel
theorem dX11_behind_68 : decode cX11_behind 68 = .ok (.getfield 35, 3) := by decide +kernel
theorem dX11_behind_71 : decode cX11_behind 71 = .ok (.aload_n 0, 1) := by decide +kernel
theorem dX11_behind_72 : decode cX11_behind 72 = .ok (.getfield 31, 3) := by decide +kernel
theorem dX11_behind_75 : decode cX11_behind 75 = .ok (.invokevirtual 196, 3) := by decide +kernel
theorem dX11_behind_78 : decode cX11_behind 78 = .ok (.aload_n 0, 1) := by decide +kernel
theorem dX11_behind_79 : decode cX11_behind 79 = .ok (.getfield 35, 3) := by decide +kernel
theorem dX11_behind_82 : decode cX11_behind 82 = .ok (.aload 4, 2) := by decide +kernel
theorem dX11_behind_84 : decode cX11_behind 84 = .ok (.iload_n 2, 1) := by decide +kernel
theorem dX11_behind_85 : decode cX11_behind 85 = .ok (.invokevirtual 277, 3) := by decide +kernel
theorem dX11_behind_88 : decode cX11_behind 88 = .ok (.iload_n 3, 1) := by decide +kernel
theorem dX11_behind_89 : decode cX11_behind 89 = .ok (.lookupswitch 43 #[(0, 27), (1, 35)], 27) := by decide +kernel
theorem dX11_behind_116 : decode cX11_behind 116 = .ok (.aload_n 0, 1) := by decide +kernel
theorem dX11_behind_117 : decode cX11_behind 117 = .ok (.getfield 35, 3) := by decide +kernel
theorem dX11_behind_120 : decode cX11_behind 120 = .ok (.invokevirtual 281, 3) := by decide +kernel
theorem dX11_behind_123 : decode cX11_behind 123 = .ok (.ireturn, 1) := by decide +kernel
theorem dX11_behind_124 : decode cX11_behind 124 = .ok (.aload_n 0, 1) := by decide +kernel
theorem dX11_behind_125 : decode cX11_behind 125 = .ok (.getfield 35, 3) := by decide +kernel
theorem dX11_behind_128 : decode cX11_behind 128 = .ok (.invokevirtual 284, 3) := by decide +kernel
theorem dX11_behind_131 : decode cX11_behind 131 = .ok (.ireturn, 1) := by decide +kernel
theorem dX11_behind_132 : decode cX11_behind 132 = .ok (.aload_n 0, 1) := by decide +kernel
theorem dX11_behind_133 : decode cX11_behind 133 = .ok (.getfield 35, 3) := by decide +kernel
theorem dX11_behind_136 : decode cX11_behind 136 = .ok (.invokevirtual 287, 3) := by decide +kernel
theorem dX11_behind_139 : decode cX11_behind 139 = .ok (.ireturn, 1) := by decide +kernel
set_option maxRecDepth 20000 in
theorem ggX11_done_X11_shelfAt : GoodIn wsX11_done wsX11_shelfAt := goodIn_r _ [6, 7, 192, 193, 194, 195, 196, 197, 198, 199, 200, 201, 202, 203, 204, 205] (by decide +kernel) (by decide +kernel)
set_option maxRecDepth 20000 in
theorem gX11_done_X11_shelfAt : GoodIn wsX11_done (wsV RX11 76 RX11 yX11_shelfAt wsX11_shelfAt) := goodIn_app (goodIn_of _ (by decide +kernel)) ggX11_done_X11_shelfAt
set_option maxRecDepth 20000 in
theorem ggX11_done_X11_refusalOfLife : GoodIn wsX11_done wsX11_refusalOfLife := goodIn_r _ [10, 11, 12, 13, 14, 15, 16, 17, 18, 19, 5, 20, 21, 22, 23, 24, 206, 207, 208] (by decide +kernel) (by decide +kernel)
set_option maxRecDepth 20000 in
theorem gX11_done_X11_refusalOfLife : GoodIn wsX11_done (va_wsS RX11 269 yX11_refusalOfLife wsX11_refusalOfLife) := goodIn_app (goodIn_of _ (by decide +kernel)) ggX11_done_X11_refusalOfLife
set_option maxRecDepth 20000 in
theorem ggX11_done_X11_refuse : GoodIn wsX11_done wsX11_refuse := goodIn_r _ [28, 29, 30, 31, 5, 32, 33, 192, 193, 194, 195, 196, 197, 198, 199, 200, 201, 202, 203, 204, 205] (by decide +kernel) (by decide +kernel)
set_option maxRecDepth 20000 in
theorem gX11_done_X11_refuse : GoodIn wsX11_done (wsV RX11 80 RX11 yX11_refuse wsX11_refuse) := goodIn_app (goodIn_of _ (by decide +kernel)) ggX11_done_X11_refuse
set_option maxRecDepth 20000 in
theorem ggX11_done_X4_firstWrong : GoodIn wsX11_done wsX4_firstWrong := goodIn_r _ [38, 39, 40, 41, 42, 43, 37, 44, 45, 46, 47, 48, 49, 15, 50, 51, 52, 53, 54, 55, 56, 57, 58, 59, 60, 61, 13, 14, 16, 17, 62, 63, 64, 65, 66, 5, 67, 68, 69, 209, 210, 211, 212, 213, 214, 215, 216, 217, 218, 219, 220, 221, 222, 223, 224, 225, 226, 227, 228, 229, 230, 231, 232, 233, 234, 235, 236, 237, 238, 239, 240, 241, 242, 243, 244, 245, 246, 247, 248, 249, 250, 251, 252, 253, 254, 255, 256, 257, 258, 259, 260, 261, 262, 263, 264, 265, 266, 267, 268, 269, 270, 271, 272, 273, 274, 275, 276, 277, 206, 207, 208] (by decide +kernel) (by decide +kernel)
set_option maxRecDepth 20000 in
theorem gX11_done_X4_firstWrong : GoodIn wsX11_done (wsV RX11 273 RX4 yX4_firstWrong wsX4_firstWrong) := goodIn_app (goodIn_of _ (by decide +kernel)) ggX11_done_X4_firstWrong
set_option maxRecDepth 20000 in
theorem ggX11_done_X4_liveTold : GoodIn wsX11_done wsX4_liveTold := goodIn_r _ [73, 40, 47, 48, 49, 15, 50, 51, 52, 53, 54, 55, 56, 57, 58, 59, 60, 61, 13, 14, 16, 17, 41, 42, 43, 37, 44, 45, 46, 74, 75, 76, 77, 78, 79, 80, 81, 82, 83, 84, 85, 68, 5, 69, 66, 67, 86, 87, 88, 89, 90, 91, 92, 93, 94, 95, 96, 97, 98, 99, 100, 101, 102, 103, 104, 105, 106, 107, 108, 109, 110, 111, 112, 113, 114, 115, 116, 117, 118, 119, 120, 121, 122, 123, 124, 125, 126, 127, 128, 129, 130, 131, 132, 133, 134, 135, 136, 137, 138, 139, 140, 141, 142, 143, 144, 145, 146, 147, 148, 149, 150, 151, 152, 153, 154, 155, 156, 157, 158, 159, 160, 161, 162, 163, 164, 165, 166, 167, 168, 169, 170, 171, 172, 173, 174, 175, 176, 177, 178, 179, 180, 181, 182, 183, 184, 185, 186, 187, 215, 216, 217, 218, 219, 220, 221, 222, 223, 224, 225, 226, 227, 228, 229, 230, 231, 232, 233, 234, 235, 236, 237, 238, 239, 240, 241, 242, 243, 244, 245, 246, 247, 248, 249, 250, 251, 252, 253, 254, 255, 256, 257, 258, 259, 260, 261, 262, 263, 264, 265, 266, 267, 268, 269, 270, 271, 272, 273, 274, 275, 276, 277, 206, 207, 208, 209, 210, 211, 212, 213, 214] (by decide +kernel) (by decide +kernel)
set_option maxRecDepth 20000 in
theorem gX11_done_X4_liveTold : GoodIn wsX11_done (wsV RX11 277 RX4 yX4_liveTold wsX4_liveTold) := goodIn_app (goodIn_of _ (by decide +kernel)) ggX11_done_X4_liveTold
set_option maxRecDepth 20000 in
theorem ggX11_done_X4_deadTotal : GoodIn wsX11_done wsX4_deadTotal := goodIn_r _ [191, 45, 40, 41, 42, 43, 37, 44, 46, 209, 210, 211, 212, 213, 214, 215, 216, 217, 218, 219, 220, 221, 222, 223, 224, 225, 226, 227, 228, 229, 230, 231, 232, 233, 234, 235, 236, 237, 238, 239, 240, 241, 242, 243, 244, 245, 246, 247, 248, 249, 250, 251, 252, 253, 254, 255, 256, 257, 258, 259, 260, 261, 262, 263, 264, 265, 266, 267, 268, 269, 270, 271, 272, 273, 274, 275, 276, 277] (by decide +kernel) (by decide +kernel)
set_option maxRecDepth 20000 in
theorem gX11_done_X4_deadTotal : GoodIn wsX11_done (wsV RX11 284 RX4 yX4_deadTotal wsX4_deadTotal) := goodIn_app (goodIn_of _ (by decide +kernel)) ggX11_done_X4_deadTotal
theorem dX11_done_0 : decode cX11_done 0 = .ok (.aload_n 0, 1) := by decide +kernel
theorem dX11_done_1 : decode cX11_done 1 = .ok (.iload_n 1, 1) := by decide +kernel
theorem dX11_done_2 : decode cX11_done 2 = .ok (.invokevirtual 76, 3) := by decide +kernel
theorem dX11_done_5 : decode cX11_done 5 = .ok (.astore_n 3, 1) := by decide +kernel
theorem dX11_done_6 : decode cX11_done 6 = .ok (.aload_n 3, 1) := by decide +kernel
theorem dX11_done_7 : decode cX11_done 7 = .ok (.iload_n 2, 1) := by decide +kernel
theorem dX11_done_8 : decode cX11_done 8 = .ok (.iconst 1, 1) := by decide +kernel
theorem dX11_done_9 : decode cX11_done 9 = .ok (.invokestatic 269, 3) := by decide +kernel
theorem dX11_done_12 : decode cX11_done 12 = .ok (.istore 4, 2) := by decide +kernel
theorem dX11_done_14 : decode cX11_done 14 = .ok (.aload_n 3, 1) := by decide +kernel
theorem dX11_done_15 : decode cX11_done 15 = .ok (.ifnull 8, 3) := by decide +kernel
theorem dX11_done_18 : decode cX11_done 18 = .ok (.iload 4, 2) := by decide +kernel
theorem dX11_done_20 : decode cX11_done 20 = .ok (.ifCond .eq 10, 3) := by decide +kernel
theorem dX11_done_23 : decode cX11_done 23 = .ok (.aload_n 0, 1) := by decide +kernel
theorem dX11_done_24 : decode cX11_done 24 = .ok (.iload 4, 2) := by decide +kernel
theorem dX11_done_26 : decode cX11_done 26 = .ok (.invokevirtual 80, 3) := by decide +kernel
theorem dX11_done_29 : decode cX11_done 29 = .ok (.ireturn, 1) := by decide +kernel
theorem dX11_done_30 : decode cX11_done 30 = .ok (.aload_n 0, 1) := by decide +kernel
theorem dX11_done_31 : decode cX11_done 31 = .ok (.getfield 31, 3) := by decide +kernel
theorem dX11_done_34 : decode cX11_done 34 = .ok (.aload_n 3, 1) := by decide +kernel
theorem dX11_done_35 : decode cX11_done 35 = .ok (.iload_n 2, 1) := by decide +kernel
theorem dX11_done_36 : decode cX11_done 36 = .ok (.invokevirtual 273, 3) := by decide +kernel
theorem dX11_done_39 : decode cX11_done 39 = .ok (.iconst (-1), 1) := by decide +kernel
theorem dX11_done_40 : decode cX11_done 40 = .ok (.if_icmp .eq 10, 3) := by decide +kernel
theorem dX11_done_43 : decode cX11_done 43 = .ok (.aload_n 0, 1) := by decide +kernel
theorem dX11_done_44 : decode cX11_done 44 = .ok (.bipush (-6), 2) := by decide +kernel
theorem dX11_done_46 : decode cX11_done 46 = .ok (.invokevirtual 80, 3) := by decide +kernel
theorem dX11_done_49 : decode cX11_done 49 = .ok (.ireturn, 1) := by decide +kernel
theorem dX11_done_50 : decode cX11_done 50 = .ok (.aload_n 0, 1) := by decide +kernel
theorem dX11_done_51 : decode cX11_done 51 = .ok (.getfield 31, 3) := by decide +kernel
theorem dX11_done_54 : decode cX11_done 54 = .ok (.aload_n 3, 1) := by decide +kernel
theorem dX11_done_55 : decode cX11_done 55 = .ok (.iload_n 2, 1) := by decide +kernel
theorem dX11_done_56 : decode cX11_done 56 = .ok (.invokevirtual 277, 3) := by decide +kernel
theorem dX11_done_59 : decode cX11_done 59 = .ok (.aload_n 0, 1) := by decide +kernel
theorem dX11_done_60 : decode cX11_done 60 = .ok (.getfield 31, 3) := by decide +kernel
theorem dX11_done_63 : decode cX11_done 63 = .ok (.invokevirtual 284, 3) := by decide +kernel
theorem dX11_done_66 : decode cX11_done 66 = .ok (.ireturn, 1) := by decide +kernel
set_option maxRecDepth 20000 in
theorem ggX11_press_X4_personAt : GoodIn wsX11_press wsX4_personAt := goodIn_r _ [6, 7, 8, 149, 150, 151, 152, 153, 154] (by decide +kernel) (by decide +kernel)
set_option maxRecDepth 20000 in
theorem gX11_press_X4_personAt : GoodIn wsX11_press (wsV RX11 126 RX4 yX4_personAt wsX4_personAt) := goodIn_app (goodIn_of _ (by decide +kernel)) ggX11_press_X4_personAt
set_option maxRecDepth 20000 in
theorem ggX11_press_X11_refuse : GoodIn wsX11_press wsX11_refuse := goodIn_r _ [13, 14, 15, 16, 12, 17, 18, 135, 136, 137, 138, 139, 140, 141, 142, 143, 144, 145, 146, 147, 148] (by decide +kernel) (by decide +kernel)
set_option maxRecDepth 20000 in
theorem gX11_press_X11_refuse : GoodIn wsX11_press (wsV RX11 80 RX11 yX11_refuse wsX11_refuse) := goodIn_app (goodIn_of _ (by decide +kernel)) ggX11_press_X11_refuse
set_option maxRecDepth 20000 in
theorem ggX11_press_X11_isDeed : GoodIn wsX11_press wsX11_isDeed := goodIn_r _ [21] (by decide +kernel) (by decide +kernel)
set_option maxRecDepth 20000 in
theorem gX11_press_X11_isDeed : GoodIn wsX11_press (va_wsS RX11 184 yX11_isDeed wsX11_isDeed) := goodIn_app (goodIn_of _ (by decide +kernel)) ggX11_press_X11_isDeed
set_option maxRecDepth 20000 in
theorem ggX11_press_X5_isGone : GoodIn wsX11_press wsX5_isGone := goodIn_r _ [27, 28, 155, 156, 157, 158, 159, 160, 161, 162, 163, 164, 165, 166, 167, 168, 169, 170, 171, 172, 173, 174, 175, 176, 177, 178, 179, 180, 181, 182, 183, 184, 185, 186, 187, 188, 189, 190, 191, 192, 193, 194, 195, 196, 197, 198, 199, 200, 201, 202, 203, 204, 205, 206, 207, 208, 209, 210, 211, 212, 213, 214, 215, 216, 217] (by decide +kernel) (by decide +kernel)
set_option maxRecDepth 20000 in
theorem gX11_press_X5_isGone_u237X0 : GoodIn wsX11_press (va_wsU RX11 237 RX0 "CarbonCopies$Person" ⟨"CarbonCopies$Person", "isGone", "()Z"⟩ yX5_isGone wsX5_isGone) := goodIn_app (goodIn_of _ (by decide +kernel)) ggX11_press_X5_isGone
set_option maxRecDepth 20000 in
theorem gX11_press_X5_isGone_u237X1 : GoodIn wsX11_press (va_wsU RX11 237 RX1 "CarbonCopies$Person" ⟨"CarbonCopies$Person", "isGone", "()Z"⟩ yX5_isGone wsX5_isGone) := goodIn_app (goodIn_of _ (by decide +kernel)) ggX11_press_X5_isGone
set_option maxRecDepth 20000 in
theorem gX11_press_X5_isGone_u237X2 : GoodIn wsX11_press (va_wsU RX11 237 RX2 "CarbonCopies$Person" ⟨"CarbonCopies$Person", "isGone", "()Z"⟩ yX5_isGone wsX5_isGone) := goodIn_app (goodIn_of _ (by decide +kernel)) ggX11_press_X5_isGone
set_option maxRecDepth 20000 in
theorem gX11_press_X5_isGone_u237X3 : GoodIn wsX11_press (va_wsU RX11 237 RX3 "CarbonCopies$Person" ⟨"CarbonCopies$Person", "isGone", "()Z"⟩ yX5_isGone wsX5_isGone) := goodIn_app (goodIn_of _ (by decide +kernel)) ggX11_press_X5_isGone
set_option maxRecDepth 20000 in
theorem gX11_press_X5_isGone : GoodIn wsX11_press (wsV RX11 237 RX5 yX5_isGone wsX5_isGone) := goodIn_app (goodIn_of _ (by decide +kernel)) ggX11_press_X5_isGone
set_option maxRecDepth 20000 in
theorem gX11_press_X5_isGone_u237X8 : GoodIn wsX11_press (va_wsU RX11 237 RX8 "CarbonCopies$Person" ⟨"CarbonCopies$Person", "isGone", "()Z"⟩ yX5_isGone wsX5_isGone) := goodIn_app (goodIn_of _ (by decide +kernel)) ggX11_press_X5_isGone
set_option maxRecDepth 20000 in
theorem gX11_press_X5_isGone_u237X10 : GoodIn wsX11_press (va_wsU RX11 237 RX10 "CarbonCopies$Person" ⟨"CarbonCopies$Person", "isGone", "()Z"⟩ yX5_isGone wsX5_isGone) := goodIn_app (goodIn_of _ (by decide +kernel)) ggX11_press_X5_isGone
set_option maxRecDepth 20000 in
theorem ggX11_press_X5_pressWith : GoodIn wsX11_press wsX5_pressWith := goodIn_r _ [40, 28, 41, 42, 43, 44, 45, 46, 47, 48, 49, 20, 12, 21, 50, 51, 52, 53, 26, 54, 55, 56, 57, 58, 59, 60, 61, 62, 63, 64, 65, 66, 67, 68, 69, 70, 71, 72, 73, 74, 75, 76, 77, 78, 79, 80, 81, 82, 83, 84, 85, 86, 87, 88, 89, 90, 91, 92, 93, 94, 95, 96, 97, 98, 99, 100, 101, 102, 103, 104, 105, 106, 107, 108, 109, 110, 111, 112, 113, 114, 115, 116, 117, 118, 119, 120, 121, 122, 123, 124, 125, 126, 127, 155, 156, 157, 158, 159, 160, 161, 162, 163, 164, 165, 166, 167, 168, 169, 170, 171, 172, 173, 174, 175, 176, 177, 178, 179, 180, 181, 182, 183, 184, 185, 186, 187, 188, 189, 190, 191, 192, 193, 194, 195, 196, 197, 198, 199, 200, 201, 202, 203, 204, 205, 206, 207, 208, 209, 210, 211, 212, 213, 214, 215, 216, 217] (by decide +kernel) (by decide +kernel)
set_option maxRecDepth 20000 in
theorem gX11_press_X5_pressWith_u290X0 : GoodIn wsX11_press (va_wsU RX11 290 RX0 "CarbonCopies$Person" ⟨"CarbonCopies$Person", "pressWith", "(II)I"⟩ yX5_pressWith wsX5_pressWith) := goodIn_app (goodIn_of _ (by decide +kernel)) ggX11_press_X5_pressWith
set_option maxRecDepth 20000 in
theorem gX11_press_X5_pressWith_u290X1 : GoodIn wsX11_press (va_wsU RX11 290 RX1 "CarbonCopies$Person" ⟨"CarbonCopies$Person", "pressWith", "(II)I"⟩ yX5_pressWith wsX5_pressWith) := goodIn_app (goodIn_of _ (by decide +kernel)) ggX11_press_X5_pressWith
set_option maxRecDepth 20000 in
theorem gX11_press_X5_pressWith_u290X2 : GoodIn wsX11_press (va_wsU RX11 290 RX2 "CarbonCopies$Person" ⟨"CarbonCopies$Person", "pressWith", "(II)I"⟩ yX5_pressWith wsX5_pressWith) := goodIn_app (goodIn_of _ (by decide +kernel)) ggX11_press_X5_pressWith
set_option maxRecDepth 20000 in
theorem gX11_press_X5_pressWith_u290X3 : GoodIn wsX11_press (va_wsU RX11 290 RX3 "CarbonCopies$Person" ⟨"CarbonCopies$Person", "pressWith", "(II)I"⟩ yX5_pressWith wsX5_pressWith) := goodIn_app (goodIn_of _ (by decide +kernel)) ggX11_press_X5_pressWith
set_option maxRecDepth 20000 in
theorem gX11_press_X5_pressWith : GoodIn wsX11_press (wsV RX11 290 RX5 yX5_pressWith wsX5_pressWith) := goodIn_app (goodIn_of _ (by decide +kernel)) ggX11_press_X5_pressWith
set_option maxRecDepth 20000 in
theorem gX11_press_X5_pressWith_u290X8 : GoodIn wsX11_press (va_wsU RX11 290 RX8 "CarbonCopies$Person" ⟨"CarbonCopies$Person", "pressWith", "(II)I"⟩ yX5_pressWith wsX5_pressWith) := goodIn_app (goodIn_of _ (by decide +kernel)) ggX11_press_X5_pressWith
set_option maxRecDepth 20000 in
theorem gX11_press_X5_pressWith_u290X10 : GoodIn wsX11_press (va_wsU RX11 290 RX10 "CarbonCopies$Person" ⟨"CarbonCopies$Person", "pressWith", "(II)I"⟩ yX5_pressWith wsX5_pressWith) := goodIn_app (goodIn_of _ (by decide +kernel)) ggX11_press_X5_pressWith
theorem dX11_press_0 : decode cX11_press 0 = .ok (.aload_n 0, 1) := by decide +kernel
theorem dX11_press_1 : decode cX11_press 1 = .ok (.getfield 31, 3) := by decide +kernel
theorem dX11_press_4 : decode cX11_press 4 = .ok (.iload_n 1, 1) := by decide +kernel
theorem dX11_press_5 : decode cX11_press 5 = .ok (.invokevirtual 126, 3) := by decide +kernel
theorem dX11_press_8 : decode cX11_press 8 = .ok (.astore 4, 2) := by decide +kernel
theorem dX11_press_10 : decode cX11_press 10 = .ok (.aload 4, 2) := by decide +kernel
theorem dX11_press_12 : decode cX11_press 12 = .ok (.ifnonnull 9, 3) := by decide +kernel
theorem dX11_press_15 : decode cX11_press 15 = .ok (.aload_n 0, 1) := by decide +kernel
theorem dX11_press_16 : decode cX11_press 16 = .ok (.iconst (-1), 1) := by decide +kernel
theorem dX11_press_17 : decode cX11_press 17 = .ok (.invokevirtual 80, 3) := by decide +kernel
theorem dX11_press_20 : decode cX11_press 20 = .ok (.ireturn, 1) := by decide +kernel
theorem dX11_press_21 : decode cX11_press 21 = .ok (.iload_n 2, 1) := by decide +kernel
theorem dX11_press_22 : decode cX11_press 22 = .ok (.invokestatic 184, 3) := by decide +kernel
theorem dX11_press_25 : decode cX11_press 25 = .ok (.ifCond .eq 22, 3) := by decide +kernel
theorem dX11_press_28 : decode cX11_press 28 = .ok (.iload_n 3, 1) := by decide +kernel
theorem dX11_press_29 : decode cX11_press 29 = .ok (.iconst 1, 1) := by decide +kernel
theorem dX11_press_30 : decode cX11_press 30 = .ok (.if_icmp .lt 17, 3) := by decide +kernel
theorem dX11_press_33 : decode cX11_press 33 = .ok (.iload_n 3, 1) := by decide +kernel
theorem dX11_press_34 : decode cX11_press 34 = .ok (.bipush 99, 2) := by decide +kernel
theorem dX11_press_36 : decode cX11_press 36 = .ok (.if_icmp .gt 11, 3) := by decide +kernel
theorem dX11_press_39 : decode cX11_press 39 = .ok (.aload 4, 2) := by decide +kernel
theorem dX11_press_41 : decode cX11_press 41 = .ok (.invokevirtual 237, 3) := by decide +kernel
theorem dX11_press_44 : decode cX11_press 44 = .ok (.ifCond .eq 10, 3) := by decide +kernel
theorem dX11_press_47 : decode cX11_press 47 = .ok (.aload_n 0, 1) := by decide +kernel
theorem dX11_press_48 : decode cX11_press 48 = .ok (.bipush (-6), 2) := by decide +kernel
theorem dX11_press_50 : decode cX11_press 50 = .ok (.invokevirtual 80, 3) := by decide +kernel
theorem dX11_press_53 : decode cX11_press 53 = .ok (.ireturn, 1) := by decide +kernel
theorem dX11_press_54 : decode cX11_press 54 = .ok (.aload 4, 2) := by decide +kernel
theorem dX11_press_56 : decode cX11_press 56 = .ok (.iload_n 2, 1) := by decide +kernel
theorem dX11_press_57 : decode cX11_press 57 = .ok (.iload_n 3, 1) := by decide +kernel
theorem dX11_press_58 : decode cX11_press 58 = .ok (.invokevirtual 290, 3) := by decide +kernel
theorem dX11_press_61 : decode cX11_press 61 = .ok (.ireturn, 1) := by decide +kernel
set_option maxRecDepth 20000 in
theorem ggX11_rub_X4_personAt : GoodIn wsX11_rub wsX4_personAt := goodIn_r _ [6, 7, 8, 70, 71, 72, 73, 74, 75] (by decide +kernel) (by decide +kernel)
set_option maxRecDepth 20000 in
theorem gX11_rub_X4_personAt : GoodIn wsX11_rub (wsV RX11 126 RX4 yX4_personAt wsX4_personAt) := goodIn_app (goodIn_of _ (by decide +kernel)) ggX11_rub_X4_personAt
set_option maxRecDepth 20000 in
theorem ggX11_rub_X11_refuse : GoodIn wsX11_rub wsX11_refuse := goodIn_r _ [13, 14, 15, 16, 12, 17, 18, 56, 57, 58, 59, 60, 61, 62, 63, 64, 65, 66, 67, 68, 69] (by decide +kernel) (by decide +kernel)
set_option maxRecDepth 20000 in
theorem gX11_rub_X11_refuse : GoodIn wsX11_rub (wsV RX11 80 RX11 yX11_refuse wsX11_refuse) := goodIn_app (goodIn_of _ (by decide +kernel)) ggX11_rub_X11_refuse
set_option maxRecDepth 20000 in
theorem ggX11_rub_X5_isLeft : GoodIn wsX11_rub wsX5_isLeft := goodIn_r _ [24, 25, 26, 12, 27, 76, 77, 78, 79, 80, 81, 82, 83, 84, 85, 86, 87, 88, 89, 90, 91, 92, 93, 94, 95, 96, 97, 98, 99, 100, 101, 102, 103, 104, 105, 106, 107, 108, 109, 110, 111, 112, 113, 114, 115, 116, 117, 118, 119, 120, 121, 122, 123, 124, 125, 126, 127, 128, 129, 130, 131, 132, 133, 134, 135, 136, 137, 138] (by decide +kernel) (by decide +kernel)
set_option maxRecDepth 20000 in
theorem gX11_rub_X5_isLeft_u181X0 : GoodIn wsX11_rub (va_wsU RX11 181 RX0 "CarbonCopies$Person" ⟨"CarbonCopies$Person", "isLeft", "(I)Z"⟩ yX5_isLeft wsX5_isLeft) := goodIn_app (goodIn_of _ (by decide +kernel)) ggX11_rub_X5_isLeft
set_option maxRecDepth 20000 in
theorem gX11_rub_X5_isLeft_u181X1 : GoodIn wsX11_rub (va_wsU RX11 181 RX1 "CarbonCopies$Person" ⟨"CarbonCopies$Person", "isLeft", "(I)Z"⟩ yX5_isLeft wsX5_isLeft) := goodIn_app (goodIn_of _ (by decide +kernel)) ggX11_rub_X5_isLeft
set_option maxRecDepth 20000 in
theorem gX11_rub_X5_isLeft_u181X2 : GoodIn wsX11_rub (va_wsU RX11 181 RX2 "CarbonCopies$Person" ⟨"CarbonCopies$Person", "isLeft", "(I)Z"⟩ yX5_isLeft wsX5_isLeft) := goodIn_app (goodIn_of _ (by decide +kernel)) ggX11_rub_X5_isLeft
set_option maxRecDepth 20000 in
theorem gX11_rub_X5_isLeft_u181X3 : GoodIn wsX11_rub (va_wsU RX11 181 RX3 "CarbonCopies$Person" ⟨"CarbonCopies$Person", "isLeft", "(I)Z"⟩ yX5_isLeft wsX5_isLeft) := goodIn_app (goodIn_of _ (by decide +kernel)) ggX11_rub_X5_isLeft
set_option maxRecDepth 20000 in
theorem gX11_rub_X5_isLeft : GoodIn wsX11_rub (wsV RX11 181 RX5 yX5_isLeft wsX5_isLeft) := goodIn_app (goodIn_of _ (by decide +kernel)) ggX11_rub_X5_isLeft
set_option maxRecDepth 20000 in
theorem gX11_rub_X5_isLeft_u181X8 : GoodIn wsX11_rub (va_wsU RX11 181 RX8 "CarbonCopies$Person" ⟨"CarbonCopies$Person", "isLeft", "(I)Z"⟩ yX5_isLeft wsX5_isLeft) := goodIn_app (goodIn_of _ (by decide +kernel)) ggX11_rub_X5_isLeft
set_option maxRecDepth 20000 in
theorem gX11_rub_X5_isLeft_u181X10 : GoodIn wsX11_rub (va_wsU RX11 181 RX10 "CarbonCopies$Person" ⟨"CarbonCopies$Person", "isLeft", "(I)Z"⟩ yX5_isLeft wsX5_isLeft) := goodIn_app (goodIn_of _ (by decide +kernel)) ggX11_rub_X5_isLeft
set_option maxRecDepth 20000 in
theorem ggX11_rub_X11_isDeed : GoodIn wsX11_rub wsX11_isDeed := goodIn_r _ [37] (by decide +kernel) (by decide +kernel)
set_option maxRecDepth 20000 in
theorem gX11_rub_X11_isDeed : GoodIn wsX11_rub (va_wsS RX11 184 yX11_isDeed wsX11_isDeed) := goodIn_app (goodIn_of _ (by decide +kernel)) ggX11_rub_X11_isDeed
set_option maxRecDepth 20000 in
theorem ggX11_rub_X5_rubOn : GoodIn wsX11_rub wsX5_rubOn := goodIn_r _ [42, 43, 44, 45, 46, 47, 48, 26, 12, 27, 36, 37, 76, 77, 78, 79, 80, 81, 82, 83, 84, 85, 86, 87, 88, 89, 90, 91, 92, 93, 94, 95, 96, 97, 98, 99, 100, 101, 102, 103, 104, 105, 106, 107, 108, 109, 110, 111, 112, 113, 114, 115, 116, 117, 118, 119, 120, 121, 122, 123, 124, 125, 126, 127, 128, 129, 130, 131, 132, 133, 134, 135, 136, 137, 138] (by decide +kernel) (by decide +kernel)
set_option maxRecDepth 20000 in
theorem gX11_rub_X5_rubOn_u293X0 : GoodIn wsX11_rub (va_wsU RX11 293 RX0 "CarbonCopies$Person" ⟨"CarbonCopies$Person", "rubOn", "(II)I"⟩ yX5_rubOn wsX5_rubOn) := goodIn_app (goodIn_of _ (by decide +kernel)) ggX11_rub_X5_rubOn
set_option maxRecDepth 20000 in
theorem gX11_rub_X5_rubOn_u293X1 : GoodIn wsX11_rub (va_wsU RX11 293 RX1 "CarbonCopies$Person" ⟨"CarbonCopies$Person", "rubOn", "(II)I"⟩ yX5_rubOn wsX5_rubOn) := goodIn_app (goodIn_of _ (by decide +kernel)) ggX11_rub_X5_rubOn
set_option maxRecDepth 20000 in
theorem gX11_rub_X5_rubOn_u293X2 : GoodIn wsX11_rub (va_wsU RX11 293 RX2 "CarbonCopies$Person" ⟨"CarbonCopies$Person", "rubOn", "(II)I"⟩ yX5_rubOn wsX5_rubOn) := goodIn_app (goodIn_of _ (by decide +kernel)) ggX11_rub_X5_rubOn
set_option maxRecDepth 20000 in
theorem gX11_rub_X5_rubOn_u293X3 : GoodIn wsX11_rub (va_wsU RX11 293 RX3 "CarbonCopies$Person" ⟨"CarbonCopies$Person", "rubOn", "(II)I"⟩ yX5_rubOn wsX5_rubOn) := goodIn_app (goodIn_of _ (by decide +kernel)) ggX11_rub_X5_rubOn
set_option maxRecDepth 20000 in
theorem gX11_rub_X5_rubOn : GoodIn wsX11_rub (wsV RX11 293 RX5 yX5_rubOn wsX5_rubOn) := goodIn_app (goodIn_of _ (by decide +kernel)) ggX11_rub_X5_rubOn
set_option maxRecDepth 20000 in
theorem gX11_rub_X5_rubOn_u293X8 : GoodIn wsX11_rub (va_wsU RX11 293 RX8 "CarbonCopies$Person" ⟨"CarbonCopies$Person", "rubOn", "(II)I"⟩ yX5_rubOn wsX5_rubOn) := goodIn_app (goodIn_of _ (by decide +kernel)) ggX11_rub_X5_rubOn
set_option maxRecDepth 20000 in
theorem gX11_rub_X5_rubOn_u293X10 : GoodIn wsX11_rub (va_wsU RX11 293 RX10 "CarbonCopies$Person" ⟨"CarbonCopies$Person", "rubOn", "(II)I"⟩ yX5_rubOn wsX5_rubOn) := goodIn_app (goodIn_of _ (by decide +kernel)) ggX11_rub_X5_rubOn
theorem dX11_rub_0 : decode cX11_rub 0 = .ok (.aload_n 0, 1) := by decide +kernel
theorem dX11_rub_1 : decode cX11_rub 1 = .ok (.getfield 31, 3) := by decide +kernel
theorem dX11_rub_4 : decode cX11_rub 4 = .ok (.iload_n 1, 1) := by decide +kernel
theorem dX11_rub_5 : decode cX11_rub 5 = .ok (.invokevirtual 126, 3) := by decide +kernel
theorem dX11_rub_8 : decode cX11_rub 8 = .ok (.astore 4, 2) := by decide +kernel
theorem dX11_rub_10 : decode cX11_rub 10 = .ok (.aload 4, 2) := by decide +kernel
theorem dX11_rub_12 : decode cX11_rub 12 = .ok (.ifnonnull 9, 3) := by decide +kernel
theorem dX11_rub_15 : decode cX11_rub 15 = .ok (.aload_n 0, 1) := by decide +kernel
theorem dX11_rub_16 : decode cX11_rub 16 = .ok (.iconst (-1), 1) := by decide +kernel
theorem dX11_rub_17 : decode cX11_rub 17 = .ok (.invokevirtual 80, 3) := by decide +kernel
theorem dX11_rub_20 : decode cX11_rub 20 = .ok (.ireturn, 1) := by decide +kernel
theorem dX11_rub_21 : decode cX11_rub 21 = .ok (.aload 4, 2) := by decide +kernel
theorem dX11_rub_23 : decode cX11_rub 23 = .ok (.iload_n 2, 1) := by decide +kernel
theorem dX11_rub_24 : decode cX11_rub 24 = .ok (.invokevirtual 181, 3) := by decide +kernel
theorem dX11_rub_27 : decode cX11_rub 27 = .ok (.ifCond .eq 10, 3) := by decide +kernel
theorem dX11_rub_30 : decode cX11_rub 30 = .ok (.iload_n 3, 1) := by decide +kernel
theorem dX11_rub_31 : decode cX11_rub 31 = .ok (.invokestatic 184, 3) := by decide +kernel
theorem dX11_rub_34 : decode cX11_rub 34 = .ok (.ifCond .ne 10, 3) := by decide +kernel
theorem dX11_rub_37 : decode cX11_rub 37 = .ok (.aload_n 0, 1) := by decide +kernel
theorem dX11_rub_38 : decode cX11_rub 38 = .ok (.bipush (-6), 2) := by decide +kernel
theorem dX11_rub_40 : decode cX11_rub 40 = .ok (.invokevirtual 80, 3) := by decide +kernel
theorem dX11_rub_43 : decode cX11_rub 43 = .ok (.ireturn, 1) := by decide +kernel
theorem dX11_rub_44 : decode cX11_rub 44 = .ok (.aload 4, 2) := by decide +kernel
theorem dX11_rub_46 : decode cX11_rub 46 = .ok (.iload_n 2, 1) := by decide +kernel
theorem dX11_rub_47 : decode cX11_rub 47 = .ok (.iload_n 3, 1) := by decide +kernel
theorem dX11_rub_48 : decode cX11_rub 48 = .ok (.invokevirtual 293, 3) := by decide +kernel
theorem dX11_rub_51 : decode cX11_rub 51 = .ok (.ireturn, 1) := by decide +kernel
set_option maxRecDepth 20000 in
theorem ggX11_dies_X4_personAt : GoodIn wsX11_dies wsX4_personAt := goodIn_r _ [7, 8, 9, 111, 112, 113, 114, 115, 116] (by decide +kernel) (by decide +kernel)
set_option maxRecDepth 20000 in
theorem gX11_dies_X4_personAt : GoodIn wsX11_dies (wsV RX11 126 RX4 yX4_personAt wsX4_personAt) := goodIn_app (goodIn_of _ (by decide +kernel)) ggX11_dies_X4_personAt
set_option maxRecDepth 20000 in
theorem ggX11_dies_X11_refuse : GoodIn wsX11_dies wsX11_refuse := goodIn_r _ [14, 15, 16, 17, 13, 18, 19, 34, 35, 36, 37, 38, 39, 40, 41, 42, 43, 44, 45, 46, 47] (by decide +kernel) (by decide +kernel)
set_option maxRecDepth 20000 in
theorem gX11_dies_X11_refuse : GoodIn wsX11_dies (wsV RX11 80 RX11 yX11_refuse wsX11_refuse) := goodIn_app (goodIn_of _ (by decide +kernel)) ggX11_dies_X11_refuse
set_option maxRecDepth 20000 in
theorem ggX11_dies_X5_isGone : GoodIn wsX11_dies wsX5_isGone := goodIn_r _ [25, 26, 48, 49, 50, 51, 52, 53, 54, 55, 56, 57, 58, 59, 60, 61, 62, 63, 64, 65, 66, 67, 68, 69, 70, 71, 72, 73, 74, 75, 76, 77, 78, 79, 80, 81, 82, 83, 84, 85, 86, 87, 88, 89, 90, 91, 92, 93, 94, 95, 96, 97, 98, 99, 100, 101, 102, 103, 104, 105, 106, 107, 108, 109, 110] (by decide +kernel) (by decide +kernel)
set_option maxRecDepth 20000 in
theorem gX11_dies_X5_isGone_u237X0 : GoodIn wsX11_dies (va_wsU RX11 237 RX0 "CarbonCopies$Person" ⟨"CarbonCopies$Person", "isGone", "()Z"⟩ yX5_isGone wsX5_isGone) := goodIn_app (goodIn_of _ (by decide +kernel)) ggX11_dies_X5_isGone
set_option maxRecDepth 20000 in
theorem gX11_dies_X5_isGone_u237X1 : GoodIn wsX11_dies (va_wsU RX11 237 RX1 "CarbonCopies$Person" ⟨"CarbonCopies$Person", "isGone", "()Z"⟩ yX5_isGone wsX5_isGone) := goodIn_app (goodIn_of _ (by decide +kernel)) ggX11_dies_X5_isGone
set_option maxRecDepth 20000 in
theorem gX11_dies_X5_isGone_u237X2 : GoodIn wsX11_dies (va_wsU RX11 237 RX2 "CarbonCopies$Person" ⟨"CarbonCopies$Person", "isGone", "()Z"⟩ yX5_isGone wsX5_isGone) := goodIn_app (goodIn_of _ (by decide +kernel)) ggX11_dies_X5_isGone
set_option maxRecDepth 20000 in
theorem gX11_dies_X5_isGone_u237X3 : GoodIn wsX11_dies (va_wsU RX11 237 RX3 "CarbonCopies$Person" ⟨"CarbonCopies$Person", "isGone", "()Z"⟩ yX5_isGone wsX5_isGone) := goodIn_app (goodIn_of _ (by decide +kernel)) ggX11_dies_X5_isGone
set_option maxRecDepth 20000 in
theorem gX11_dies_X5_isGone : GoodIn wsX11_dies (wsV RX11 237 RX5 yX5_isGone wsX5_isGone) := goodIn_app (goodIn_of _ (by decide +kernel)) ggX11_dies_X5_isGone
set_option maxRecDepth 20000 in
theorem gX11_dies_X5_isGone_u237X8 : GoodIn wsX11_dies (va_wsU RX11 237 RX8 "CarbonCopies$Person" ⟨"CarbonCopies$Person", "isGone", "()Z"⟩ yX5_isGone wsX5_isGone) := goodIn_app (goodIn_of _ (by decide +kernel)) ggX11_dies_X5_isGone
set_option maxRecDepth 20000 in
theorem gX11_dies_X5_isGone_u237X10 : GoodIn wsX11_dies (va_wsU RX11 237 RX10 "CarbonCopies$Person" ⟨"CarbonCopies$Person", "isGone", "()Z"⟩ yX5_isGone wsX5_isGone) := goodIn_app (goodIn_of _ (by decide +kernel)) ggX11_dies_X5_isGone
theorem dX11_dies_0 : decode cX11_dies 0 = .ok (.aload_n 0, 1) := by decide +kernel
theorem dX11_dies_1 : decode cX11_dies 1 = .ok (.getfield 31, 3) := by decide +kernel
theorem dX11_dies_4 : decode cX11_dies 4 = .ok (.iload_n 1, 1) := by decide +kernel
theorem dX11_dies_5 : decode cX11_dies 5 = .ok (.invokevirtual 126, 3) := by decide +kernel
theorem dX11_dies_8 : decode cX11_dies 8 = .ok (.astore_n 2, 1) := by decide +kernel
theorem dX11_dies_9 : decode cX11_dies 9 = .ok (.aload_n 2, 1) := by decide +kernel
theorem dX11_dies_10 : decode cX11_dies 10 = .ok (.ifnonnull 9, 3) := by decide +kernel
theorem dX11_dies_13 : decode cX11_dies 13 = .ok (.aload_n 0, 1) := by decide +kernel
theorem dX11_dies_14 : decode cX11_dies 14 = .ok (.iconst (-1), 1) := by decide +kernel
theorem dX11_dies_15 : decode cX11_dies 15 = .ok (.invokevirtual 80, 3) := by decide +kernel
theorem dX11_dies_18 : decode cX11_dies 18 = .ok (.ireturn, 1) := by decide +kernel
theorem dX11_dies_19 : decode cX11_dies 19 = .ok (.aload_n 2, 1) := by decide +kernel
theorem dX11_dies_20 : decode cX11_dies 20 = .ok (.invokevirtual 237, 3) := by decide +kernel
theorem dX11_dies_23 : decode cX11_dies 23 = .ok (.ifCond .eq 10, 3) := by decide +kernel
theorem dX11_dies_26 : decode cX11_dies 26 = .ok (.aload_n 0, 1) := by decide +kernel
theorem dX11_dies_27 : decode cX11_dies 27 = .ok (.bipush (-6), 2) := by decide +kernel
theorem dX11_dies_29 : decode cX11_dies 29 = .ok (.invokevirtual 80, 3) := by decide +kernel
theorem dX11_dies_32 : decode cX11_dies 32 = .ok (.ireturn, 1) := by decide +kernel
theorem dX11_dies_33 : decode cX11_dies 33 = .ok (.aload_n 2, 1) := by decide +kernel
theorem dX11_dies_34 : decode cX11_dies 34 = .ok (.dup, 1) := by decide +kernel
theorem dX11_dies_35 : decode cX11_dies 35 = .ok (.getfield 142, 3) := by decide +kernel
theorem dX11_dies_38 : decode cX11_dies 38 = .ok (.iconst 1, 1) := by decide +kernel
theorem dX11_dies_39 : decode cX11_dies 39 = .ok (.iadd, 1) := by decide +kernel
theorem dX11_dies_40 : decode cX11_dies 40 = .ok (.putfield 142, 3) := by decide +kernel
theorem dX11_dies_43 : decode cX11_dies 43 = .ok (.aload_n 2, 1) := by decide +kernel
theorem dX11_dies_44 : decode cX11_dies 44 = .ok (.getfield 142, 3) := by decide +kernel
theorem dX11_dies_47 : decode cX11_dies 47 = .ok (.ireturn, 1) := by decide +kernel
set_option maxRecDepth 20000 in
theorem ggX11_years_X11_refuse : GoodIn wsX11_years wsX11_refuse := goodIn_r _ [7, 8, 9, 10, 6, 11, 12, 177, 178, 179, 180, 181, 182, 183, 184, 185, 186, 187, 188, 189, 190] (by decide +kernel) (by decide +kernel)
set_option maxRecDepth 20000 in
theorem gX11_years_X11_refuse : GoodIn wsX11_years (wsV RX11 80 RX11 yX11_refuse wsX11_refuse) := goodIn_app (goodIn_of _ (by decide +kernel)) ggX11_years_X11_refuse
set_option maxRecDepth 20000 in
theorem ggX11_years_X4_liveYear : GoodIn wsX11_years wsX4_liveYear := goodIn_r _ [17, 18, 19, 20, 21, 22, 16, 23, 24, 25, 26, 27, 28, 29, 30, 31, 32, 33, 34, 35, 36, 37, 38, 39, 40, 41, 42, 43, 44, 45, 46, 47, 48, 49, 50, 51, 52, 53, 54, 55, 56, 57, 58, 59, 6, 60, 61, 62, 63, 64, 65, 66, 67, 68, 69, 70, 71, 72, 73, 74, 75, 76, 77, 78, 79, 80, 81, 82, 83, 84, 85, 86, 87, 88, 89, 90, 91, 92, 93, 94, 95, 96, 97, 98, 99, 100, 101, 102, 103, 104, 105, 106, 107, 108, 109, 110, 111, 112, 113, 114, 115, 116, 117, 118, 119, 120, 121, 122, 123, 124, 125, 126, 127, 128, 129, 130, 131, 132, 133, 134, 135, 136, 137, 138, 139, 140, 141, 142, 143, 144, 145, 146, 147, 148, 149, 150, 151, 152, 153, 154, 155, 156, 157, 158, 159, 160, 161, 162, 163, 164, 165, 166, 167, 168, 169, 170, 171, 172, 191, 192, 193, 194, 195, 196, 197, 198, 199, 200, 201, 202, 203, 204, 205, 206, 207, 208, 209, 210, 211, 212, 213, 214, 215, 216, 217, 218, 219, 220, 221, 222, 223, 224, 225, 226, 227, 228, 229, 230, 231, 232, 233, 234, 235, 236, 237, 238, 239, 240, 241, 242, 243, 244, 245, 246, 247, 248, 249, 250, 251, 252, 253, 254, 255, 256, 257, 258, 259] (by decide +kernel) (by decide +kernel)
set_option maxRecDepth 20000 in
theorem gX11_years_X4_liveYear : GoodIn wsX11_years (wsV RX11 296 RX4 yX4_liveYear wsX4_liveYear) := goodIn_app (goodIn_of _ (by decide +kernel)) ggX11_years_X4_liveYear
set_option maxRecDepth 20000 in
theorem ggX11_years_X4_deadTotal : GoodIn wsX11_years wsX4_deadTotal := goodIn_r _ [176, 18, 19, 26, 27, 28, 16, 29, 30, 191, 192, 193, 194, 195, 196, 197, 198, 199, 200, 201, 202, 203, 204, 205, 206, 207, 208, 209, 210, 211, 212, 213, 214, 215, 216, 217, 218, 219, 220, 221, 222, 223, 224, 225, 226, 227, 228, 229, 230, 231, 232, 233, 234, 235, 236, 237, 238, 239, 240, 241, 242, 243, 244, 245, 246, 247, 248, 249, 250, 251, 252, 253, 254, 255, 256, 257, 258, 259] (by decide +kernel) (by decide +kernel)
set_option maxRecDepth 20000 in
theorem gX11_years_X4_deadTotal : GoodIn wsX11_years (wsV RX11 284 RX4 yX4_deadTotal wsX4_deadTotal) := goodIn_app (goodIn_of _ (by decide +kernel)) ggX11_years_X4_deadTotal
theorem dX11_years_0 : decode cX11_years 0 = .ok (.aload_n 0, 1) := by decide +kernel
theorem dX11_years_1 : decode cX11_years 1 = .ok (.getfield 31, 3) := by decide +kernel
theorem dX11_years_4 : decode cX11_years 4 = .ok (.getfield 254, 3) := by decide +kernel
theorem dX11_years_7 : decode cX11_years 7 = .ok (.ifCond .ne 10, 3) := by decide +kernel
theorem dX11_years_10 : decode cX11_years 10 = .ok (.aload_n 0, 1) := by decide +kernel
theorem dX11_years_11 : decode cX11_years 11 = .ok (.bipush (-5), 2) := by decide +kernel
theorem dX11_years_13 : decode cX11_years 13 = .ok (.invokevirtual 80, 3) := by decide +kernel
theorem dX11_years_16 : decode cX11_years 16 = .ok (.ireturn, 1) := by decide +kernel
theorem dX11_years_17 : decode cX11_years 17 = .ok (.iload_n 1, 1) := by decide +kernel
theorem dX11_years_18 : decode cX11_years 18 = .ok (.iconst 1, 1) := by decide +kernel
theorem dX11_years_19 : decode cX11_years 19 = .ok (.if_icmp .lt 9, 3) := by decide +kernel
theorem dX11_years_22 : decode cX11_years 22 = .ok (.iload_n 1, 1) := by decide +kernel
theorem dX11_years_23 : decode cX11_years 23 = .ok (.bipush 100, 2) := by decide +kernel
theorem dX11_years_25 : decode cX11_years 25 = .ok (.if_icmp .le 10, 3) := by decide +kernel
theorem dX11_years_28 : decode cX11_years 28 = .ok (.aload_n 0, 1) := by decide +kernel
theorem dX11_years_29 : decode cX11_years 29 = .ok (.bipush (-6), 2) := by decide +kernel
theorem dX11_years_31 : decode cX11_years 31 = .ok (.invokevirtual 80, 3) := by decide +kernel
theorem dX11_years_34 : decode cX11_years 34 = .ok (.ireturn, 1) := by decide +kernel
theorem dX11_years_35 : decode cX11_years 35 = .ok (.iconst 0, 1) := by decide +kernel
theorem dX11_years_36 : decode cX11_years 36 = .ok (.istore_n 2, 1) := by decide +kernel
theorem dX11_years_37 : decode cX11_years 37 = .ok (.iload_n 2, 1) := by decide +kernel
theorem dX11_years_38 : decode cX11_years 38 = .ok (.iload_n 1, 1) := by decide +kernel
theorem dX11_years_39 : decode cX11_years 39 = .ok (.if_icmp .ge 16, 3) := by decide +kernel
theorem dX11_years_42 : decode cX11_years 42 = .ok (.aload_n 0, 1) := by decide +kernel
theorem dX11_years_43 : decode cX11_years 43 = .ok (.getfield 31, 3) := by decide +kernel
theorem dX11_years_46 : decode cX11_years 46 = .ok (.invokevirtual 296, 3) := by decide +kernel
theorem dX11_years_49 : decode cX11_years 49 = .ok (.iinc 2 1, 3) := by decide +kernel
theorem dX11_years_52 : decode cX11_years 52 = .ok (.goto (-15), 3) := by decide +kernel
theorem dX11_years_55 : decode cX11_years 55 = .ok (.aload_n 0, 1) := by decide +kernel
theorem dX11_years_56 : decode cX11_years 56 = .ok (.getfield 31, 3) := by decide +kernel
theorem dX11_years_59 : decode cX11_years 59 = .ok (.invokevirtual 284, 3) := by decide +kernel
theorem dX11_years_62 : decode cX11_years 62 = .ok (.ireturn, 1) := by decide +kernel
theorem dX11_seed_0 : decode cX11_seed 0 = .ok (.aload_n 0, 1) := by decide +kernel
theorem dX11_seed_1 : decode cX11_seed 1 = .ok (.getfield 31, 3) := by decide +kernel
theorem dX11_seed_4 : decode cX11_seed 4 = .ok (.getfield 299, 3) := by decide +kernel
theorem dX11_seed_7 : decode cX11_seed 7 = .ok (.istore_n 2, 1) := by decide +kernel
theorem dX11_seed_8 : decode cX11_seed 8 = .ok (.aload_n 0, 1) := by decide +kernel
theorem dX11_seed_9 : decode cX11_seed 9 = .ok (.getfield 31, 3) := by decide +kernel
theorem dX11_seed_12 : decode cX11_seed 12 = .ok (.iload_n 1, 1) := by decide +kernel
theorem dX11_seed_13 : decode cX11_seed 13 = .ok (.putfield 299, 3) := by decide +kernel
theorem dX11_seed_16 : decode cX11_seed 16 = .ok (.iload_n 2, 1) := by decide +kernel
theorem dX11_seed_17 : decode cX11_seed 17 = .ok (.ireturn, 1) := by decide +kernel
set_option maxRecDepth 20000 in
theorem ggX11_act_X9_clear : GoodIn wsX11_act wsX9_clear := goodIn_r _ [7, 8, 144, 145] (by decide +kernel) (by decide +kernel)
set_option maxRecDepth 20000 in
theorem gX11_act_X9_clear : GoodIn wsX11_act (wsV RX11 302 RX9 yX9_clear wsX9_clear) := goodIn_app (goodIn_of _ (by decide +kernel)) ggX11_act_X9_clear
set_option maxRecDepth 20000 in
theorem ggX11_act_X4_personAt : GoodIn wsX11_act wsX4_personAt := goodIn_r _ [13, 14, 15, 146, 147, 148, 149, 150, 151] (by decide +kernel) (by decide +kernel)
set_option maxRecDepth 20000 in
theorem gX11_act_X4_personAt : GoodIn wsX11_act (wsV RX11 126 RX4 yX4_personAt wsX4_personAt) := goodIn_app (goodIn_of _ (by decide +kernel)) ggX11_act_X4_personAt
set_option maxRecDepth 20000 in
theorem ggX11_act_X3_lives : GoodIn wsX11_act wsX3_lives := goodIn_r _ [22, 23, 24, 25, 26, 27, 28, 29, 6, 30, 8, 31, 32, 17, 33, 34, 35, 36, 37, 38, 39, 152, 153, 154, 155, 156, 157, 158, 159, 160, 161, 162, 163, 164, 165, 166, 167, 168, 169, 170, 171, 172, 173, 174, 175, 176, 177, 178, 179, 180, 181, 182, 183, 184, 185, 186, 187, 188, 189, 190, 191, 192, 193, 194, 195, 196, 197, 198, 199, 200, 201, 202, 203, 204, 205, 206, 207, 208, 209, 210, 211, 212, 213, 214, 144, 145] (by decide +kernel) (by decide +kernel)
set_option maxRecDepth 20000 in
theorem gX11_act_X3_lives_u305X0 : GoodIn wsX11_act (va_wsO RX11 305 RX0 "CarbonCopies$Person" ⟨"CarbonCopies$Person", "lives", "(I)I"⟩ yX3_lives wsX3_lives) := goodIn_app (goodIn_of _ (by decide +kernel)) ggX11_act_X3_lives
set_option maxRecDepth 20000 in
theorem ggX11_act_X1_lives : GoodIn wsX11_act wsX1_lives := goodIn_r _ [43, 44, 45, 46, 28, 29, 6, 30, 8, 31, 47, 48, 49, 50, 51, 52, 53, 54, 55, 56, 57, 58, 17, 59, 34, 35, 36, 37, 38, 39, 152, 153, 154, 155, 156, 157, 158, 159, 160, 161, 162, 163, 164, 165, 166, 167, 168, 169, 170, 171, 172, 173, 174, 175, 176, 177, 178, 179, 180, 181, 182, 183, 184, 185, 186, 187, 188, 189, 190, 191, 192, 193, 194, 195, 196, 197, 198, 199, 200, 201, 202, 203, 204, 205, 206, 207, 208, 209, 210, 211, 212, 213, 214, 144, 145] (by decide +kernel) (by decide +kernel)
set_option maxRecDepth 20000 in
theorem gX11_act_X1_lives_u305X1 : GoodIn wsX11_act (va_wsO RX11 305 RX1 "CarbonCopies$Person" ⟨"CarbonCopies$Person", "lives", "(I)I"⟩ yX1_lives wsX1_lives) := goodIn_app (goodIn_of _ (by decide +kernel)) ggX11_act_X1_lives
set_option maxRecDepth 20000 in
theorem ggX11_act_X5_lives : GoodIn wsX11_act wsX5_lives := goodIn_r _ [36, 37, 38, 39, 28, 29, 6, 30, 8, 31, 152, 153, 154, 155, 156, 157, 158, 159, 160, 161, 162, 163, 164, 165, 166, 167, 168, 169, 170, 171, 172, 173, 174, 175, 176, 177, 178, 179, 180, 181, 182, 183, 184, 185, 186, 187, 188, 189, 190, 191, 192, 193, 194, 195, 196, 197, 198, 199, 200, 201, 202, 203, 204, 205, 206, 207, 208, 209, 210, 211, 212, 213, 214, 144, 145] (by decide +kernel) (by decide +kernel)
set_option maxRecDepth 20000 in
theorem gX11_act_X5_lives_u305X2 : GoodIn wsX11_act (va_wsU RX11 305 RX2 "CarbonCopies$Person" ⟨"CarbonCopies$Person", "lives", "(I)I"⟩ yX5_lives wsX5_lives) := goodIn_app (goodIn_of _ (by decide +kernel)) ggX11_act_X5_lives
set_option maxRecDepth 20000 in
theorem gX11_act_X3_lives_u305X3 : GoodIn wsX11_act (va_wsO RX11 305 RX3 "CarbonCopies$Person" ⟨"CarbonCopies$Person", "lives", "(I)I"⟩ yX3_lives wsX3_lives) := goodIn_app (goodIn_of _ (by decide +kernel)) ggX11_act_X3_lives
set_option maxRecDepth 20000 in
theorem gX11_act_X5_lives : GoodIn wsX11_act (wsV RX11 305 RX5 yX5_lives wsX5_lives) := goodIn_app (goodIn_of _ (by decide +kernel)) ggX11_act_X5_lives
set_option maxRecDepth 20000 in
theorem ggX11_act_X8_lives : GoodIn wsX11_act wsX8_lives := goodIn_r _ [52, 53, 54, 55, 56, 57, 28, 29, 6, 30, 8, 31, 58, 17, 59, 34, 35, 36, 37, 38, 39, 152, 153, 154, 155, 156, 157, 158, 159, 160, 161, 162, 163, 164, 165, 166, 167, 168, 169, 170, 171, 172, 173, 174, 175, 176, 177, 178, 179, 180, 181, 182, 183, 184, 185, 186, 187, 188, 189, 190, 191, 192, 193, 194, 195, 196, 197, 198, 199, 200, 201, 202, 203, 204, 205, 206, 207, 208, 209, 210, 211, 212, 213, 214, 144, 145] (by decide +kernel) (by decide +kernel)
set_option maxRecDepth 20000 in
theorem gX11_act_X8_lives_u305X8 : GoodIn wsX11_act (va_wsO RX11 305 RX8 "CarbonCopies$Person" ⟨"CarbonCopies$Person", "lives", "(I)I"⟩ yX8_lives wsX8_lives) := goodIn_app (goodIn_of _ (by decide +kernel)) ggX11_act_X8_lives
set_option maxRecDepth 20000 in
theorem gX11_act_X5_lives_u305X10 : GoodIn wsX11_act (va_wsU RX11 305 RX10 "CarbonCopies$Person" ⟨"CarbonCopies$Person", "lives", "(I)I"⟩ yX5_lives wsX5_lives) := goodIn_app (goodIn_of _ (by decide +kernel)) ggX11_act_X5_lives
set_option maxRecDepth 20000 in
theorem ggX11_act_X5_goes : GoodIn wsX11_act wsX5_goes := goodIn_r _ [70, 37, 39, 28, 29, 6, 30, 8, 31, 71, 17, 18, 19, 20, 21, 22, 23, 24, 25, 26, 27, 32, 33, 34, 35, 36, 38, 40, 41, 42, 43, 44, 45, 46, 47, 48, 49, 50, 51, 52, 53, 54, 55, 56, 57, 58, 59, 60, 61, 72, 63, 64, 65, 152, 153, 154, 155, 156, 157, 158, 159, 160, 161, 162, 163, 164, 165, 166, 167, 168, 169, 170, 171, 172, 173, 174, 175, 176, 177, 178, 179, 180, 181, 182, 183, 184, 185, 186, 187, 188, 189, 190, 191, 192, 193, 194, 195, 196, 197, 198, 199, 200, 201, 202, 203, 204, 205, 206, 207, 208, 209, 210, 211, 212, 213, 214, 144, 145] (by decide +kernel) (by decide +kernel)
set_option maxRecDepth 20000 in
theorem gX11_act_X5_goes_u308X0 : GoodIn wsX11_act (va_wsU RX11 308 RX0 "CarbonCopies$Person" ⟨"CarbonCopies$Person", "goes", "(I)I"⟩ yX5_goes wsX5_goes) := goodIn_app (goodIn_of _ (by decide +kernel)) ggX11_act_X5_goes
set_option maxRecDepth 20000 in
theorem ggX11_act_X1_goes : GoodIn wsX11_act wsX1_goes := goodIn_r _ [76, 44, 45, 77, 78, 46, 28, 29, 6, 30, 8, 31, 152, 153, 154, 155, 156, 157, 158, 159, 160, 161, 162, 163, 164, 165, 166, 167, 168, 169, 170, 171, 172, 173, 174, 175, 176, 177, 178, 179, 180, 181, 182, 183, 184, 185, 186, 187, 188, 189, 190, 191, 192, 193, 194, 195, 196, 197, 198, 199, 200, 201, 202, 203, 204, 205, 206, 207, 208, 209, 210, 211, 212, 213, 214, 144, 145] (by decide +kernel) (by decide +kernel)
set_option maxRecDepth 20000 in
theorem gX11_act_X1_goes_u308X1 : GoodIn wsX11_act (va_wsO RX11 308 RX1 "CarbonCopies$Person" ⟨"CarbonCopies$Person", "goes", "(I)I"⟩ yX1_goes wsX1_goes) := goodIn_app (goodIn_of _ (by decide +kernel)) ggX11_act_X1_goes
set_option maxRecDepth 20000 in
theorem ggX11_act_X2_goes : GoodIn wsX11_act wsX2_goes := goodIn_r _ [82, 83, 84, 85, 28, 29, 6, 30, 8, 31, 86, 67, 87, 69, 35, 70, 37, 39, 71, 17, 18, 19, 20, 21, 22, 23, 24, 25, 26, 27, 32, 33, 34, 36, 38, 40, 41, 42, 43, 44, 45, 46, 47, 48, 49, 50, 51, 52, 53, 54, 55, 56, 57, 58, 59, 60, 61, 72, 63, 64, 65, 152, 153, 154, 155, 156, 157, 158, 159, 160, 161, 162, 163, 164, 165, 166, 167, 168, 169, 170, 171, 172, 173, 174, 175, 176, 177, 178, 179, 180, 181, 182, 183, 184, 185, 186, 187, 188, 189, 190, 191, 192, 193, 194, 195, 196, 197, 198, 199, 200, 201, 202, 203, 204, 205, 206, 207, 208, 209, 210, 211, 212, 213, 214, 144, 145] (by decide +kernel) (by decide +kernel)
set_option maxRecDepth 20000 in
theorem gX11_act_X2_goes_u308X2 : GoodIn wsX11_act (va_wsO RX11 308 RX2 "CarbonCopies$Person" ⟨"CarbonCopies$Person", "goes", "(I)I"⟩ yX2_goes wsX2_goes) := goodIn_app (goodIn_of _ (by decide +kernel)) ggX11_act_X2_goes
set_option maxRecDepth 20000 in
theorem gX11_act_X5_goes_u308X3 : GoodIn wsX11_act (va_wsU RX11 308 RX3 "CarbonCopies$Person" ⟨"CarbonCopies$Person", "goes", "(I)I"⟩ yX5_goes wsX5_goes) := goodIn_app (goodIn_of _ (by decide +kernel)) ggX11_act_X5_goes
set_option maxRecDepth 20000 in
theorem gX11_act_X5_goes : GoodIn wsX11_act (wsV RX11 308 RX5 yX5_goes wsX5_goes) := goodIn_app (goodIn_of _ (by decide +kernel)) ggX11_act_X5_goes
set_option maxRecDepth 20000 in
theorem gX11_act_X5_goes_u308X8 : GoodIn wsX11_act (va_wsU RX11 308 RX8 "CarbonCopies$Person" ⟨"CarbonCopies$Person", "goes", "(I)I"⟩ yX5_goes wsX5_goes) := goodIn_app (goodIn_of _ (by decide +kernel)) ggX11_act_X5_goes
set_option maxRecDepth 20000 in
theorem ggX11_act_X10_goes : GoodIn wsX11_act wsX10_goes := goodIn_r _ [95, 96, 97, 98, 28, 29, 6, 30, 8, 31, 99, 100, 101, 80, 81, 82, 83, 84, 85, 86, 67, 87, 69, 35, 70, 37, 39, 71, 17, 18, 19, 20, 21, 22, 23, 24, 25, 26, 27, 32, 33, 34, 36, 38, 40, 41, 42, 43, 44, 45, 46, 47, 48, 49, 50, 51, 52, 53, 54, 55, 56, 57, 58, 59, 60, 61, 72, 63, 64, 65, 152, 153, 154, 155, 156, 157, 158, 159, 160, 161, 162, 163, 164, 165, 166, 167, 168, 169, 170, 171, 172, 173, 174, 175, 176, 177, 178, 179, 180, 181, 182, 183, 184, 185, 186, 187, 188, 189, 190, 191, 192, 193, 194, 195, 196, 197, 198, 199, 200, 201, 202, 203, 204, 205, 206, 207, 208, 209, 210, 211, 212, 213, 214, 144, 145] (by decide +kernel) (by decide +kernel)
set_option maxRecDepth 20000 in
theorem gX11_act_X10_goes_u308X10 : GoodIn wsX11_act (va_wsO RX11 308 RX10 "CarbonCopies$Person" ⟨"CarbonCopies$Person", "goes", "(I)I"⟩ yX10_goes wsX10_goes) := goodIn_app (goodIn_of _ (by decide +kernel)) ggX11_act_X10_goes
set_option maxRecDepth 20000 in
theorem ggX11_act_X0_looks : GoodIn wsX11_act wsX0_looks := goodIn_r _ [108, 109, 110, 111, 28, 29, 6, 30, 8, 31, 112, 113, 114, 115, 21, 116, 23, 24, 27, 117, 103, 33, 118, 35, 119, 37, 120, 39, 121, 67, 68, 69, 70, 71, 17, 18, 19, 20, 22, 25, 26, 32, 34, 36, 38, 40, 41, 42, 43, 44, 45, 46, 47, 48, 49, 50, 51, 52, 53, 54, 55, 56, 57, 58, 59, 60, 61, 72, 63, 64, 65, 73, 74, 75, 76, 77, 78, 79, 80, 81, 82, 83, 84, 85, 86, 87, 88, 122, 90, 91, 92, 93, 94, 95, 96, 97, 98, 99, 100, 101, 152, 153, 154, 155, 156, 157, 158, 159, 160, 161, 162, 163, 164, 165, 166, 167, 168, 169, 170, 171, 172, 173, 174, 175, 176, 177, 178, 179, 180, 181, 182, 183, 184, 185, 186, 187, 188, 189, 190, 191, 192, 193, 194, 195, 196, 197, 198, 199, 200, 201, 202, 203, 204, 205, 206, 207, 208, 209, 210, 211, 212, 213, 214, 144, 145] (by decide +kernel) (by decide +kernel)
set_option maxRecDepth 20000 in
theorem gX11_act_X0_looks_u311X0 : GoodIn wsX11_act (va_wsO RX11 311 RX0 "CarbonCopies$Person" ⟨"CarbonCopies$Person", "looks", "(I)I"⟩ yX0_looks wsX0_looks) := goodIn_app (goodIn_of _ (by decide +kernel)) ggX11_act_X0_looks
set_option maxRecDepth 20000 in
theorem ggX11_act_X5_looks : GoodIn wsX11_act wsX5_looks := goodIn_r _ [119, 37, 120, 39, 28, 29, 6, 30, 8, 31, 121, 67, 68, 69, 35, 70, 71, 17, 18, 19, 20, 21, 22, 23, 24, 25, 26, 27, 32, 33, 34, 36, 38, 40, 41, 42, 43, 44, 45, 46, 47, 48, 49, 50, 51, 52, 53, 54, 55, 56, 57, 58, 59, 60, 61, 72, 63, 64, 65, 73, 74, 75, 76, 77, 78, 79, 80, 81, 82, 83, 84, 85, 86, 87, 88, 122, 90, 91, 92, 93, 94, 95, 96, 97, 98, 99, 100, 101, 152, 153, 154, 155, 156, 157, 158, 159, 160, 161, 162, 163, 164, 165, 166, 167, 168, 169, 170, 171, 172, 173, 174, 175, 176, 177, 178, 179, 180, 181, 182, 183, 184, 185, 186, 187, 188, 189, 190, 191, 192, 193, 194, 195, 196, 197, 198, 199, 200, 201, 202, 203, 204, 205, 206, 207, 208, 209, 210, 211, 212, 213, 214, 144, 145] (by decide +kernel) (by decide +kernel)
set_option maxRecDepth 20000 in
theorem gX11_act_X5_looks_u311X1 : GoodIn wsX11_act (va_wsU RX11 311 RX1 "CarbonCopies$Person" ⟨"CarbonCopies$Person", "looks", "(I)I"⟩ yX5_looks wsX5_looks) := goodIn_app (goodIn_of _ (by decide +kernel)) ggX11_act_X5_looks
set_option maxRecDepth 20000 in
theorem gX11_act_X5_looks_u311X2 : GoodIn wsX11_act (va_wsU RX11 311 RX2 "CarbonCopies$Person" ⟨"CarbonCopies$Person", "looks", "(I)I"⟩ yX5_looks wsX5_looks) := goodIn_app (goodIn_of _ (by decide +kernel)) ggX11_act_X5_looks
set_option maxRecDepth 20000 in
theorem ggX11_act_X3_looks : GoodIn wsX11_act wsX3_looks := goodIn_r _ [116, 23, 24, 27, 28, 29, 6, 30, 8, 31, 117, 103, 33, 118, 35, 119, 37, 120, 39, 121, 67, 68, 69, 70, 71, 17, 18, 19, 20, 21, 22, 25, 26, 32, 34, 36, 38, 40, 41, 42, 43, 44, 45, 46, 47, 48, 49, 50, 51, 52, 53, 54, 55, 56, 57, 58, 59, 60, 61, 72, 63, 64, 65, 73, 74, 75, 76, 77, 78, 79, 80, 81, 82, 83, 84, 85, 86, 87, 88, 122, 90, 91, 92, 93, 94, 95, 96, 97, 98, 99, 100, 101, 152, 153, 154, 155, 156, 157, 158, 159, 160, 161, 162, 163, 164, 165, 166, 167, 168, 169, 170, 171, 172, 173, 174, 175, 176, 177, 178, 179, 180, 181, 182, 183, 184, 185, 186, 187, 188, 189, 190, 191, 192, 193, 194, 195, 196, 197, 198, 199, 200, 201, 202, 203, 204, 205, 206, 207, 208, 209, 210, 211, 212, 213, 214, 144, 145] (by decide +kernel) (by decide +kernel)
set_option maxRecDepth 20000 in
theorem gX11_act_X3_looks_u311X3 : GoodIn wsX11_act (va_wsO RX11 311 RX3 "CarbonCopies$Person" ⟨"CarbonCopies$Person", "looks", "(I)I"⟩ yX3_looks wsX3_looks) := goodIn_app (goodIn_of _ (by decide +kernel)) ggX11_act_X3_looks
set_option maxRecDepth 20000 in
theorem gX11_act_X5_looks : GoodIn wsX11_act (wsV RX11 311 RX5 yX5_looks wsX5_looks) := goodIn_app (goodIn_of _ (by decide +kernel)) ggX11_act_X5_looks
set_option maxRecDepth 20000 in
theorem gX11_act_X5_looks_u311X8 : GoodIn wsX11_act (va_wsU RX11 311 RX8 "CarbonCopies$Person" ⟨"CarbonCopies$Person", "looks", "(I)I"⟩ yX5_looks wsX5_looks) := goodIn_app (goodIn_of _ (by decide +kernel)) ggX11_act_X5_looks
set_option maxRecDepth 20000 in
theorem gX11_act_X5_looks_u311X10 : GoodIn wsX11_act (va_wsU RX11 311 RX10 "CarbonCopies$Person" ⟨"CarbonCopies$Person", "looks", "(I)I"⟩ yX5_looks wsX5_looks) := goodIn_app (goodIn_of _ (by decide +kernel)) ggX11_act_X5_looks
theorem dX11_act_0 : decode cX11_act 0 = .ok (.aload_n 0, 1) := by decide +kernel
theorem dX11_act_1 : decode cX11_act 1 = .ok (.getfield 22, 3) := by decide +kernel
theorem dX11_act_4 : decode cX11_act 4 = .ok (.invokevirtual 302, 3) := by decide +kernel
theorem dX11_act_7 : decode cX11_act 7 = .ok (.aload_n 0, 1) := by decide +kernel
theorem dX11_act_8 : decode cX11_act 8 = .ok (.getfield 31, 3) := by decide +kernel
theorem dX11_act_11 : decode cX11_act 11 = .ok (.iload_n 1, 1) := by decide +kernel
theorem dX11_act_12 : decode cX11_act 12 = .ok (.invokevirtual 126, 3) := by decide +kernel
theorem dX11_act_15 : decode cX11_act 15 = .ok (.astore 4, 2) := by decide +kernel
theorem dX11_act_17 : decode cX11_act 17 = .ok (.aload 4, 2) := by decide +kernel
theorem dX11_act_19 : decode cX11_act 19 = .ok (.ifnonnull 5, 3) := by decide +kernel
theorem dX11_act_22 : decode cX11_act 22 = .ok (.iconst 0, 1) := by decide +kernel
theorem dX11_act_23 : decode cX11_act 23 = .ok (.ireturn, 1) := by decide +kernel
theorem dX11_act_24 : decode cX11_act 24 = .ok (.iload_n 2, 1) := by decide +kernel
theorem dX11_act_25 : decode cX11_act 25 = .ok (.tableswitch 48 0 2 #[27, 34, 41], 27) := by decide +kernel
theorem dX11_act_52 : decode cX11_act 52 = .ok (.aload 4, 2) := by decide +kernel
theorem dX11_act_54 : decode cX11_act 54 = .ok (.iload_n 3, 1) := by decide +kernel
theorem dX11_act_55 : decode cX11_act 55 = .ok (.invokevirtual 305, 3) := by decide +kernel
theorem dX11_act_58 : decode cX11_act 58 = .ok (.ireturn, 1) := by decide +kernel
theorem dX11_act_59 : decode cX11_act 59 = .ok (.aload 4, 2) := by decide +kernel
theorem dX11_act_61 : decode cX11_act 61 = .ok (.iload_n 3, 1) := by decide +kernel
theorem dX11_act_62 : decode cX11_act 62 = .ok (.invokevirtual 308, 3) := by decide +kernel
theorem dX11_act_65 : decode cX11_act 65 = .ok (.ireturn, 1) := by decide +kernel
theorem dX11_act_66 : decode cX11_act 66 = .ok (.aload 4, 2) := by decide +kernel
theorem dX11_act_68 : decode cX11_act 68 = .ok (.iload_n 3, 1) := by decide +kernel
theorem dX11_act_69 : decode cX11_act 69 = .ok (.invokevirtual 311, 3) := by decide +kernel
theorem dX11_act_72 : decode cX11_act 72 = .ok (.ireturn, 1) := by decide +kernel
theorem dX11_act_73 : decode cX11_act 73 = .ok (.iconst 0, 1) := by decide +kernel
theorem dX11_act_74 : decode cX11_act 74 = .ok (.ireturn, 1) := by decide +kernel
set_option maxRecDepth 20000 in
theorem ggX11_trace_X9_bodyAt : GoodIn wsX11_trace wsX9_bodyAt := goodIn_r _ [6, 7, 8, 23, 24] (by decide +kernel) (by decide +kernel)
set_option maxRecDepth 20000 in
theorem gX11_trace_X9_bodyAt : GoodIn wsX11_trace (wsV RX11 314 RX9 yX9_bodyAt wsX9_bodyAt) := goodIn_app (goodIn_of _ (by decide +kernel)) ggX11_trace_X9_bodyAt
theorem dX11_trace_0 : decode cX11_trace 0 = .ok (.aload_n 0, 1) := by decide +kernel
theorem dX11_trace_1 : decode cX11_trace 1 = .ok (.getfield 22, 3) := by decide +kernel
theorem dX11_trace_4 : decode cX11_trace 4 = .ok (.iload_n 1, 1) := by decide +kernel
theorem dX11_trace_5 : decode cX11_trace 5 = .ok (.invokevirtual 314, 3) := by decide +kernel
theorem dX11_trace_8 : decode cX11_trace 8 = .ok (.ireturn, 1) := by decide +kernel
set_option maxRecDepth 20000 in
theorem ggX11_image_X4_takeFrom : GoodIn wsX11_image wsX4_takeFrom := goodIn_r _ [9, 10, 11, 12, 13, 14, 15, 16, 8, 17, 18, 19, 20, 21, 22, 23, 24, 25, 26, 27, 28, 29, 30, 31, 32, 33, 34, 35, 36, 37, 38, 39, 40, 41, 42, 43, 44, 45, 46, 47, 48, 49, 50, 51, 52, 53, 54, 55, 56, 57, 58, 59, 60, 61, 62, 63, 64, 65, 66, 67, 68, 69, 70, 71, 72, 73, 74, 75, 76, 77, 78, 79, 80, 81, 82, 83, 84, 85, 86, 87, 88, 89, 90, 91, 92, 93, 94, 95, 96, 97, 98, 99, 100, 115, 116, 117, 118, 119, 120, 121, 122, 123, 124, 125, 126, 127, 128, 129, 130, 131, 132, 133, 134, 135, 136, 137, 138, 139, 140, 141, 142, 143, 144, 145, 146, 147, 148, 149, 150, 151, 152, 153, 154, 155, 156, 157, 158, 159, 160, 161, 162, 163, 164, 165, 166, 167, 168, 169, 170, 171, 172, 173, 174, 175, 176, 177, 178, 179, 180, 181, 182, 183] (by decide +kernel) (by decide +kernel)
set_option maxRecDepth 20000 in
theorem gX11_image_X4_takeFrom : GoodIn wsX11_image (wsV RX11 196 RX4 yX4_takeFrom wsX4_takeFrom) := goodIn_app (goodIn_of _ (by decide +kernel)) ggX11_image_X4_takeFrom
theorem dX11_image_0 : decode cX11_image 0 = .ok (.aload_n 0, 1) := by decide +kernel
theorem dX11_image_1 : decode cX11_image 1 = .ok (.getfield 38, 3) := by decide +kernel
theorem dX11_image_4 : decode cX11_image 4 = .ok (.aload_n 0, 1) := by decide +kernel
theorem dX11_image_5 : decode cX11_image 5 = .ok (.getfield 31, 3) := by decide +kernel
theorem dX11_image_8 : decode cX11_image 8 = .ok (.invokevirtual 196, 3) := by decide +kernel
theorem dX11_image_11 : decode cX11_image 11 = .ok (.aload_n 0, 1) := by decide +kernel
theorem dX11_image_12 : decode cX11_image 12 = .ok (.iconst 1, 1) := by decide +kernel
theorem dX11_image_13 : decode cX11_image 13 = .ok (.putfield 67, 3) := by decide +kernel
theorem dX11_image_16 : decode cX11_image 16 = .ok (.aload_n 0, 1) := by decide +kernel
theorem dX11_image_17 : decode cX11_image 17 = .ok (.getfield 38, 3) := by decide +kernel
theorem dX11_image_20 : decode cX11_image 20 = .ok (.getfield 254, 3) := by decide +kernel
theorem dX11_image_23 : decode cX11_image 23 = .ok (.ireturn, 1) := by decide +kernel
set_option maxRecDepth 20000 in
theorem ggX11_restore_X11_refuse : GoodIn wsX11_restore wsX11_refuse := goodIn_r _ [10, 11, 12, 13, 9, 14, 15, 124, 125, 126, 127, 128, 129, 130, 131, 132, 133, 134, 135, 136, 137] (by decide +kernel) (by decide +kernel)
set_option maxRecDepth 20000 in
theorem gX11_restore_X11_refuse : GoodIn wsX11_restore (wsV RX11 80 RX11 yX11_refuse wsX11_refuse) := goodIn_app (goodIn_of _ (by decide +kernel)) ggX11_restore_X11_refuse
set_option maxRecDepth 20000 in
theorem ggX11_restore_X4_takeFrom : GoodIn wsX11_restore wsX4_takeFrom := goodIn_r _ [20, 21, 22, 23, 24, 25, 26, 27, 19, 28, 29, 30, 31, 32, 33, 34, 35, 36, 37, 38, 39, 40, 41, 42, 43, 44, 45, 46, 47, 48, 49, 50, 51, 52, 53, 54, 55, 56, 57, 58, 59, 60, 61, 62, 63, 64, 65, 66, 67, 68, 69, 70, 71, 72, 73, 74, 75, 76, 77, 78, 79, 80, 81, 82, 83, 84, 85, 86, 87, 88, 89, 90, 91, 92, 93, 94, 95, 96, 97, 98, 99, 100, 101, 102, 103, 104, 105, 106, 107, 108, 109, 110, 111, 141, 142, 143, 144, 145, 146, 147, 148, 149, 150, 151, 152, 153, 154, 155, 156, 157, 158, 159, 160, 161, 162, 163, 164, 165, 166, 167, 168, 169, 170, 171, 172, 173, 174, 175, 176, 177, 178, 179, 180, 181, 182, 183, 184, 185, 186, 187, 188, 189, 190, 191, 192, 193, 194, 195, 196, 197, 198, 199, 200, 201, 202, 203, 204, 205, 206, 207, 208, 209] (by decide +kernel) (by decide +kernel)
set_option maxRecDepth 20000 in
theorem gX11_restore_X4_takeFrom : GoodIn wsX11_restore (wsV RX11 196 RX4 yX4_takeFrom wsX4_takeFrom) := goodIn_app (goodIn_of _ (by decide +kernel)) ggX11_restore_X4_takeFrom
set_option maxRecDepth 20000 in
theorem ggX11_restore_X11_shelfAt : GoodIn wsX11_restore wsX11_shelfAt := goodIn_r _ [115, 116, 124, 125, 126, 127, 128, 129, 130, 131, 132, 133, 134, 135, 136, 137] (by decide +kernel) (by decide +kernel)
set_option maxRecDepth 20000 in
theorem gX11_restore_X11_shelfAt : GoodIn wsX11_restore (wsV RX11 76 RX11 yX11_shelfAt wsX11_shelfAt) := goodIn_app (goodIn_of _ (by decide +kernel)) ggX11_restore_X11_shelfAt
set_option maxRecDepth 20000 in
theorem ggX11_restore_X7_hasPerson : GoodIn wsX11_restore wsX7_hasPerson := goodIn_r _ [121, 122, 138, 139, 140] (by decide +kernel) (by decide +kernel)
set_option maxRecDepth 20000 in
theorem gX11_restore_X7_hasPerson : GoodIn wsX11_restore (wsV RX11 317 RX7 yX7_hasPerson wsX7_hasPerson) := goodIn_app (goodIn_of _ (by decide +kernel)) ggX11_restore_X7_hasPerson
set_option maxRecDepth 20000 in
theorem ggX11_restore_X4_personAt : GoodIn wsX11_restore wsX4_personAt := goodIn_r _ [28, 23, 29, 141, 142, 143, 144, 145, 146] (by decide +kernel) (by decide +kernel)
set_option maxRecDepth 20000 in
theorem gX11_restore_X4_personAt : GoodIn wsX11_restore (wsV RX11 126 RX4 yX4_personAt wsX4_personAt) := goodIn_app (goodIn_of _ (by decide +kernel)) ggX11_restore_X4_personAt
theorem dX11_restore_0 : decode cX11_restore 0 = .ok (.aload_n 0, 1) := by decide +kernel
theorem dX11_restore_1 : decode cX11_restore 1 = .ok (.getfield 67, 3) := by decide +kernel
theorem dX11_restore_4 : decode cX11_restore 4 = .ok (.ifCond .ne 10, 3) := by decide +kernel
theorem dX11_restore_7 : decode cX11_restore 7 = .ok (.aload_n 0, 1) := by decide +kernel
theorem dX11_restore_8 : decode cX11_restore 8 = .ok (.bipush (-6), 2) := by decide +kernel
theorem dX11_restore_10 : decode cX11_restore 10 = .ok (.invokevirtual 80, 3) := by decide +kernel
theorem dX11_restore_13 : decode cX11_restore 13 = .ok (.ireturn, 1) := by decide +kernel
theorem dX11_restore_14 : decode cX11_restore 14 = .ok (.aload_n 0, 1) := by decide +kernel
theorem dX11_restore_15 : decode cX11_restore 15 = .ok (.getfield 31, 3) := by decide +kernel
theorem dX11_restore_18 : decode cX11_restore 18 = .ok (.aload_n 0, 1) := by decide +kernel
theorem dX11_restore_19 : decode cX11_restore 19 = .ok (.getfield 38, 3) := by decide +kernel
theorem dX11_restore_22 : decode cX11_restore 22 = .ok (.invokevirtual 196, 3) := by decide +kernel
theorem dX11_restore_25 : decode cX11_restore 25 = .ok (.iconst 0, 1) := by decide +kernel
theorem dX11_restore_26 : decode cX11_restore 26 = .ok (.istore_n 1, 1) := by decide +kernel
theorem dX11_restore_27 : decode cX11_restore 27 = .ok (.iload_n 1, 1) := by decide +kernel
theorem dX11_restore_28 : decode cX11_restore 28 = .ok (.bipush 8, 2) := by decide +kernel
theorem dX11_restore_30 : decode cX11_restore 30 = .ok (.if_icmp .ge 45, 3) := by decide +kernel
theorem dX11_restore_33 : decode cX11_restore 33 = .ok (.aload_n 0, 1) := by decide +kernel
theorem dX11_restore_34 : decode cX11_restore 34 = .ok (.iload_n 1, 1) := by decide +kernel
theorem dX11_restore_35 : decode cX11_restore 35 = .ok (.invokevirtual 76, 3) := by decide +kernel
theorem dX11_restore_38 : decode cX11_restore 38 = .ok (.astore_n 2, 1) := by decide +kernel
theorem dX11_restore_39 : decode cX11_restore 39 = .ok (.aload_n 2, 1) := by decide +kernel
theorem dX11_restore_40 : decode cX11_restore 40 = .ok (.ifnull 29, 3) := by decide +kernel
theorem dX11_restore_43 : decode cX11_restore 43 = .ok (.aload_n 2, 1) := by decide +kernel
theorem dX11_restore_44 : decode cX11_restore 44 = .ok (.invokevirtual 317, 3) := by decide +kernel
theorem dX11_restore_47 : decode cX11_restore 47 = .ok (.ifCond .eq 22, 3) := by decide +kernel
theorem dX11_restore_50 : decode cX11_restore 50 = .ok (.aload_n 0, 1) := by decide +kernel
theorem dX11_restore_51 : decode cX11_restore 51 = .ok (.getfield 31, 3) := by decide +kernel
theorem dX11_restore_54 : decode cX11_restore 54 = .ok (.aload_n 2, 1) := by decide +kernel
theorem dX11_restore_55 : decode cX11_restore 55 = .ok (.getfield 130, 3) := by decide +kernel
theorem dX11_restore_58 : decode cX11_restore 58 = .ok (.invokevirtual 126, 3) := by decide +kernel
theorem dX11_restore_61 : decode cX11_restore 61 = .ok (.ifnonnull 8, 3) := by decide +kernel
theorem dX11_restore_64 : decode cX11_restore 64 = .ok (.aload_n 2, 1) := by decide +kernel
theorem dX11_restore_65 : decode cX11_restore 65 = .ok (.iconst (-1), 1) := by decide +kernel
theorem dX11_restore_66 : decode cX11_restore 66 = .ok (.putfield 130, 3) := by decide +kernel
theorem dX11_restore_69 : decode cX11_restore 69 = .ok (.iinc 1 1, 3) := by decide +kernel
theorem dX11_restore_72 : decode cX11_restore 72 = .ok (.goto (-45), 3) := by decide +kernel
theorem dX11_restore_75 : decode cX11_restore 75 = .ok (.aload_n 0, 1) := by decide +kernel
theorem dX11_restore_76 : decode cX11_restore 76 = .ok (.getfield 31, 3) := by decide +kernel
theorem dX11_restore_79 : decode cX11_restore 79 = .ok (.getfield 254, 3) := by decide +kernel
theorem dX11_restore_82 : decode cX11_restore 82 = .ok (.ireturn, 1) := by decide +kernel
set_option maxRecDepth 20000 in
theorem ggX11_status_X4_deadTotal : GoodIn wsX11_status wsX4_deadTotal := goodIn_r _ [12, 13, 14, 15, 16, 17, 11, 18, 19, 69, 70, 71, 72, 73, 74, 77, 78, 79, 80, 81, 82, 83, 84, 85, 86, 87, 88, 89, 90, 91, 92, 93, 94, 95, 96, 97, 98, 99, 100, 101, 102, 103, 104, 105, 106, 107, 108, 109, 110, 111, 112, 113, 114, 115, 116, 117, 118, 119, 120, 121, 122, 123, 124, 125, 126, 127, 128, 129, 130, 131, 132, 133, 134, 135, 136, 137, 138, 139] (by decide +kernel) (by decide +kernel)
set_option maxRecDepth 20000 in
theorem gX11_status_X4_deadTotal : GoodIn wsX11_status (wsV RX11 284 RX4 yX4_deadTotal wsX4_deadTotal) := goodIn_app (goodIn_of _ (by decide +kernel)) ggX11_status_X4_deadTotal
set_option maxRecDepth 20000 in
theorem ggX11_status_X4_strengthTotal : GoodIn wsX11_status wsX4_strengthTotal := goodIn_r _ [23, 13, 15, 16, 17, 11, 18, 19, 24, 25, 26, 27, 28, 29, 30, 31, 32, 33, 34, 35, 36, 37, 69, 70, 71, 72, 73, 74, 77, 78, 79, 80, 81, 82, 83, 84, 85, 86, 87, 88, 89, 90, 91, 92, 93, 94, 95, 96, 97, 98, 99, 100, 101, 102, 103, 104, 105, 106, 107, 108, 109, 110, 111, 112, 113, 114, 115, 116, 117, 118, 119, 120, 121, 122, 123, 124, 125, 126, 127, 128, 129, 130, 131, 132, 133, 134, 135, 136, 137, 138, 139] (by decide +kernel) (by decide +kernel)
set_option maxRecDepth 20000 in
theorem gX11_status_X4_strengthTotal : GoodIn wsX11_status (wsV RX11 281 RX4 yX4_strengthTotal wsX4_strengthTotal) := goodIn_app (goodIn_of _ (by decide +kernel)) ggX11_status_X4_strengthTotal
set_option maxRecDepth 20000 in
theorem ggX11_status_X4_smearTotal : GoodIn wsX11_status wsX4_smearTotal := goodIn_r _ [41, 13, 15, 16, 17, 11, 18, 19, 42, 43, 44, 45, 28, 46, 47, 48, 49, 50, 51, 52, 53, 54, 69, 70, 71, 72, 73, 74, 77, 78, 79, 80, 81, 82, 83, 84, 85, 86, 87, 88, 89, 90, 91, 92, 93, 94, 95, 96, 97, 98, 99, 100, 101, 102, 103, 104, 105, 106, 107, 108, 109, 110, 111, 112, 113, 114, 115, 116, 117, 118, 119, 120, 121, 122, 123, 124, 125, 126, 127, 128, 129, 130, 131, 132, 133, 134, 135, 136, 137, 138, 139] (by decide +kernel) (by decide +kernel)
set_option maxRecDepth 20000 in
theorem gX11_status_X4_smearTotal : GoodIn wsX11_status (wsV RX11 287 RX4 yX4_smearTotal wsX4_smearTotal) := goodIn_app (goodIn_of _ (by decide +kernel)) ggX11_status_X4_smearTotal
theorem dX11_status_0 : decode cX11_status 0 = .ok (.iload_n 1, 1) := by decide +kernel
theorem dX11_status_1 : decode cX11_status 1 = .ok (.tableswitch 99 0 6 #[43, 51, 59, 67, 75, 83, 91], 43) := by decide +kernel
theorem dX11_status_44 : decode cX11_status 44 = .ok (.aload_n 0, 1) := by decide +kernel
theorem dX11_status_45 : decode cX11_status 45 = .ok (.getfield 31, 3) := by decide +kernel
theorem dX11_status_48 : decode cX11_status 48 = .ok (.getfield 254, 3) := by decide +kernel
theorem dX11_status_51 : decode cX11_status 51 = .ok (.ireturn, 1) := by decide +kernel
theorem dX11_status_52 : decode cX11_status 52 = .ok (.aload_n 0, 1) := by decide +kernel
theorem dX11_status_53 : decode cX11_status 53 = .ok (.getfield 31, 3) := by decide +kernel
theorem dX11_status_56 : decode cX11_status 56 = .ok (.invokevirtual 284, 3) := by decide +kernel
theorem dX11_status_59 : decode cX11_status 59 = .ok (.ireturn, 1) := by decide +kernel
theorem dX11_status_60 : decode cX11_status 60 = .ok (.aload_n 0, 1) := by decide +kernel
theorem dX11_status_61 : decode cX11_status 61 = .ok (.getfield 31, 3) := by decide +kernel
theorem dX11_status_64 : decode cX11_status 64 = .ok (.getfield 155, 3) := by decide +kernel
theorem dX11_status_67 : decode cX11_status 67 = .ok (.ireturn, 1) := by decide +kernel
theorem dX11_status_68 : decode cX11_status 68 = .ok (.aload_n 0, 1) := by decide +kernel
theorem dX11_status_69 : decode cX11_status 69 = .ok (.getfield 31, 3) := by decide +kernel
theorem dX11_status_72 : decode cX11_status 72 = .ok (.invokevirtual 281, 3) := by decide +kernel
theorem dX11_status_75 : decode cX11_status 75 = .ok (.ireturn, 1) := by decide +kernel
theorem dX11_status_76 : decode cX11_status 76 = .ok (.aload_n 0, 1) := by decide +kernel
theorem dX11_status_77 : decode cX11_status 77 = .ok (.getfield 31, 3) := by decide +kernel
theorem dX11_status_80 : decode cX11_status 80 = .ok (.invokevirtual 287, 3) := by decide +kernel
theorem dX11_status_83 : decode cX11_status 83 = .ok (.ireturn, 1) := by decide +kernel
theorem dX11_status_84 : decode cX11_status 84 = .ok (.aload_n 0, 1) := by decide +kernel
theorem dX11_status_85 : decode cX11_status 85 = .ok (.getfield 31, 3) := by decide +kernel
theorem dX11_status_88 : decode cX11_status 88 = .ok (.getfield 299, 3) := by decide +kernel
theorem dX11_status_91 : decode cX11_status 91 = .ok (.ireturn, 1) := by decide +kernel
theorem dX11_status_92 : decode cX11_status 92 = .ok (.aload_n 0, 1) := by decide +kernel
theorem dX11_status_93 : decode cX11_status 93 = .ok (.getfield 22, 3) := by decide +kernel
theorem dX11_status_96 : decode cX11_status 96 = .ok (.getfield 320, 3) := by decide +kernel
theorem dX11_status_99 : decode cX11_status 99 = .ok (.ireturn, 1) := by decide +kernel
theorem dX11_status_100 : decode cX11_status 100 = .ok (.iload_n 1, 1) := by decide +kernel
theorem dX11_status_101 : decode cX11_status 101 = .ok (.bipush 11, 2) := by decide +kernel
theorem dX11_status_103 : decode cX11_status 103 = .ok (.if_icmp .lt 9, 3) := by decide +kernel
theorem dX11_status_106 : decode cX11_status 106 = .ok (.iload_n 1, 1) := by decide +kernel
theorem dX11_status_107 : decode cX11_status 107 = .ok (.bipush 17, 2) := by decide +kernel
theorem dX11_status_109 : decode cX11_status 109 = .ok (.if_icmp .le 7, 3) := by decide +kernel
theorem dX11_status_112 : decode cX11_status 112 = .ok (.iconst (-1), 1) := by decide +kernel
theorem dX11_status_113 : decode cX11_status 113 = .ok (.goto 12, 3) := by decide +kernel
theorem dX11_status_116 : decode cX11_status 116 = .ok (.aload_n 0, 1) := by decide +kernel
theorem dX11_status_117 : decode cX11_status 117 = .ok (.getfield 15, 3) := by decide +kernel
theorem dX11_status_120 : decode cX11_status 120 = .ok (.iload_n 1, 1) := by decide +kernel
theorem dX11_status_121 : decode cX11_status 121 = .ok (.bipush 10, 2) := by decide +kernel
theorem dX11_status_123 : decode cX11_status 123 = .ok (.isub, 1) := by decide +kernel
theorem dX11_status_124 : decode cX11_status 124 = .ok (.iaload, 1) := by decide +kernel
theorem dX11_status_125 : decode cX11_status 125 = .ok (.ireturn, 1) := by decide +kernel
theorem dX11_isCopy_0 : decode cX11_isCopy 0 = .ok (.iload_n 0, 1) := by decide +kernel
theorem dX11_isCopy_1 : decode cX11_isCopy 1 = .ok (.ifCond .lt 13, 3) := by decide +kernel
theorem dX11_isCopy_4 : decode cX11_isCopy 4 = .ok (.iload_n 0, 1) := by decide +kernel
theorem dX11_isCopy_5 : decode cX11_isCopy 5 = .ok (.bipush 6, 2) := by decide +kernel
theorem dX11_isCopy_7 : decode cX11_isCopy 7 = .ok (.if_icmp .ge 7, 3) := by decide +kernel
theorem dX11_isCopy_10 : decode cX11_isCopy 10 = .ok (.iconst 1, 1) := by decide +kernel
theorem dX11_isCopy_11 : decode cX11_isCopy 11 = .ok (.goto 4, 3) := by decide +kernel
theorem dX11_isCopy_14 : decode cX11_isCopy 14 = .ok (.iconst 0, 1) := by decide +kernel
theorem dX11_isCopy_15 : decode cX11_isCopy 15 = .ok (.ireturn, 1) := by decide +kernel
theorem dX11_isDeed_0 : decode cX11_isDeed 0 = .ok (.iload_n 0, 1) := by decide +kernel
theorem dX11_isDeed_1 : decode cX11_isDeed 1 = .ok (.ifCond .lt 13, 3) := by decide +kernel
theorem dX11_isDeed_4 : decode cX11_isDeed 4 = .ok (.iload_n 0, 1) := by decide +kernel
theorem dX11_isDeed_5 : decode cX11_isDeed 5 = .ok (.bipush 8, 2) := by decide +kernel
theorem dX11_isDeed_7 : decode cX11_isDeed 7 = .ok (.if_icmp .ge 7, 3) := by decide +kernel
theorem dX11_isDeed_10 : decode cX11_isDeed 10 = .ok (.iconst 1, 1) := by decide +kernel
theorem dX11_isDeed_11 : decode cX11_isDeed 11 = .ok (.goto 4, 3) := by decide +kernel
theorem dX11_isDeed_14 : decode cX11_isDeed 14 = .ok (.iconst 0, 1) := by decide +kernel
theorem dX11_isDeed_15 : decode cX11_isDeed 15 = .ok (.ireturn, 1) := by decide +kernel
theorem dX11_isOfKind_0 : decode cX11_isOfKind 0 = .ok (.iload_n 1, 1) := by decide +kernel
theorem dX11_isOfKind_1 : decode cX11_isOfKind 1 = .ok (.tableswitch 75 0 6 #[43, 45, 50, 55, 60, 65, 70], 43) := by decide +kernel
theorem dX11_isOfKind_44 : decode cX11_isOfKind 44 = .ok (.iconst 1, 1) := by decide +kernel
theorem dX11_isOfKind_45 : decode cX11_isOfKind 45 = .ok (.ireturn, 1) := by decide +kernel
theorem dX11_isOfKind_46 : decode cX11_isOfKind 46 = .ok (.aload_n 0, 1) := by decide +kernel
theorem dX11_isOfKind_47 : decode cX11_isOfKind 47 = .ok (.instanceof 321, 3) := by decide +kernel
theorem dX11_isOfKind_50 : decode cX11_isOfKind 50 = .ok (.ireturn, 1) := by decide +kernel
theorem dX11_isOfKind_51 : decode cX11_isOfKind 51 = .ok (.aload_n 0, 1) := by decide +kernel
theorem dX11_isOfKind_52 : decode cX11_isOfKind 52 = .ok (.instanceof 323, 3) := by decide +kernel
theorem dX11_isOfKind_55 : decode cX11_isOfKind 55 = .ok (.ireturn, 1) := by decide +kernel
theorem dX11_isOfKind_56 : decode cX11_isOfKind 56 = .ok (.aload_n 0, 1) := by decide +kernel
theorem dX11_isOfKind_57 : decode cX11_isOfKind 57 = .ok (.instanceof 325, 3) := by decide +kernel
theorem dX11_isOfKind_60 : decode cX11_isOfKind 60 = .ok (.ireturn, 1) := by decide +kernel
theorem dX11_isOfKind_61 : decode cX11_isOfKind 61 = .ok (.aload_n 0, 1) := by decide +kernel
theorem dX11_isOfKind_62 : decode cX11_isOfKind 62 = .ok (.instanceof 327, 3) := by decide +kernel
theorem dX11_isOfKind_65 : decode cX11_isOfKind 65 = .ok (.ireturn, 1) := by decide +kernel
theorem dX11_isOfKind_66 : decode cX11_isOfKind 66 = .ok (.aload_n 0, 1) := by decide +kernel
theorem dX11_isOfKind_67 : decode cX11_isOfKind 67 = .ok (.instanceof 329, 3) := by decide +kernel
theorem dX11_isOfKind_70 : decode cX11_isOfKind 70 = .ok (.ireturn, 1) := by decide +kernel
theorem dX11_isOfKind_71 : decode cX11_isOfKind 71 = .ok (.aload_n 0, 1) := by decide +kernel
theorem dX11_isOfKind_72 : decode cX11_isOfKind 72 = .ok (.instanceof 331, 3) := by decide +kernel
theorem dX11_isOfKind_75 : decode cX11_isOfKind 75 = .ok (.ireturn, 1) := by decide +kernel
theorem dX11_isOfKind_76 : decode cX11_isOfKind 76 = .ok (.iconst 0, 1) := by decide +kernel
theorem dX11_isOfKind_77 : decode cX11_isOfKind 77 = .ok (.ireturn, 1) := by decide +kernel
theorem dX11_shelfAt_0 : decode cX11_shelfAt 0 = .ok (.iload_n 1, 1) := by decide +kernel
theorem dX11_shelfAt_1 : decode cX11_shelfAt 1 = .ok (.ifCond .lt 9, 3) := by decide +kernel
theorem dX11_shelfAt_4 : decode cX11_shelfAt 4 = .ok (.iload_n 1, 1) := by decide +kernel
theorem dX11_shelfAt_5 : decode cX11_shelfAt 5 = .ok (.bipush 8, 2) := by decide +kernel
theorem dX11_shelfAt_7 : decode cX11_shelfAt 7 = .ok (.if_icmp .lt 7, 3) := by decide +kernel
theorem dX11_shelfAt_10 : decode cX11_shelfAt 10 = .ok (.aconst_null, 1) := by decide +kernel
theorem dX11_shelfAt_11 : decode cX11_shelfAt 11 = .ok (.goto 9, 3) := by decide +kernel
theorem dX11_shelfAt_14 : decode cX11_shelfAt 14 = .ok (.aload_n 0, 1) := by decide +kernel
theorem dX11_shelfAt_15 : decode cX11_shelfAt 15 = .ok (.getfield 11, 3) := by decide +kernel
theorem dX11_shelfAt_18 : decode cX11_shelfAt 18 = .ok (.iload_n 1, 1) := by decide +kernel
theorem dX11_shelfAt_19 : decode cX11_shelfAt 19 = .ok (.aaload, 1) := by decide +kernel
theorem dX11_shelfAt_20 : decode cX11_shelfAt 20 = .ok (.areturn, 1) := by decide +kernel
set_option maxRecDepth 20000 in
theorem ggX11_refuse_X11_refuseLess : GoodIn wsX11_refuse wsX11_refuseLess := goodIn_r _ [5, 6, 7, 8, 9, 10, 11, 12, 13, 14, 15, 16, 17, 18, 19, 20] (by decide +kernel) (by decide +kernel)
set_option maxRecDepth 20000 in
theorem gX11_refuse_X11_refuseLess : GoodIn wsX11_refuse (wsV RX11 190 RX11 yX11_refuseLess wsX11_refuseLess) := goodIn_app (goodIn_of _ (by decide +kernel)) ggX11_refuse_X11_refuseLess
theorem dX11_refuse_0 : decode cX11_refuse 0 = .ok (.aload_n 0, 1) := by decide +kernel
theorem dX11_refuse_1 : decode cX11_refuse 1 = .ok (.iload_n 1, 1) := by decide +kernel
theorem dX11_refuse_2 : decode cX11_refuse 2 = .ok (.iconst 0, 1) := by decide +kernel
theorem dX11_refuse_3 : decode cX11_refuse 3 = .ok (.invokevirtual 190, 3) := by decide +kernel
theorem dX11_refuse_6 : decode cX11_refuse 6 = .ok (.ireturn, 1) := by decide +kernel
theorem dX11_refuseLess_0 : decode cX11_refuseLess 0 = .ok (.iload_n 1, 1) := by decide +kernel
theorem dX11_refuseLess_1 : decode cX11_refuseLess 1 = .ok (.iconst (-1), 1) := by decide +kernel
theorem dX11_refuseLess_2 : decode cX11_refuseLess 2 = .ok (.if_icmp .gt 20, 3) := by decide +kernel
theorem dX11_refuseLess_5 : decode cX11_refuseLess 5 = .ok (.iload_n 1, 1) := by decide +kernel
theorem dX11_refuseLess_6 : decode cX11_refuseLess 6 = .ok (.bipush (-7), 2) := by decide +kernel
theorem dX11_refuseLess_8 : decode cX11_refuseLess 8 = .ok (.if_icmp .lt 14, 3) := by decide +kernel
theorem dX11_refuseLess_11 : decode cX11_refuseLess 11 = .ok (.aload_n 0, 1) := by decide +kernel
theorem dX11_refuseLess_12 : decode cX11_refuseLess 12 = .ok (.getfield 15, 3) := by decide +kernel
theorem dX11_refuseLess_15 : decode cX11_refuseLess 15 = .ok (.iload_n 1, 1) := by decide +kernel
theorem dX11_refuseLess_16 : decode cX11_refuseLess 16 = .ok (.ineg, 1) := by decide +kernel
theorem dX11_refuseLess_17 : decode cX11_refuseLess 17 = .ok (.dup2, 1) := by decide +kernel
theorem dX11_refuseLess_18 : decode cX11_refuseLess 18 = .ok (.iaload, 1) := by decide +kernel
theorem dX11_refuseLess_19 : decode cX11_refuseLess 19 = .ok (.iconst 1, 1) := by decide +kernel
theorem dX11_refuseLess_20 : decode cX11_refuseLess 20 = .ok (.iadd, 1) := by decide +kernel
theorem dX11_refuseLess_21 : decode cX11_refuseLess 21 = .ok (.iastore, 1) := by decide +kernel
theorem dX11_refuseLess_22 : decode cX11_refuseLess 22 = .ok (.iload_n 1, 1) := by decide +kernel
theorem dX11_refuseLess_23 : decode cX11_refuseLess 23 = .ok (.iload_n 2, 1) := by decide +kernel
theorem dX11_refuseLess_24 : decode cX11_refuseLess 24 = .ok (.isub, 1) := by decide +kernel
theorem dX11_refuseLess_25 : decode cX11_refuseLess 25 = .ok (.ireturn, 1) := by decide +kernel
set_option maxRecDepth 20000 in
theorem ggX11_lackOfRow_X7_hasPerson : GoodIn wsX11_lackOfRow wsX7_hasPerson := goodIn_r _ [5, 6, 7, 8, 9] (by decide +kernel) (by decide +kernel)
set_option maxRecDepth 20000 in
theorem gX11_lackOfRow_X7_hasPerson : GoodIn wsX11_lackOfRow (wsV RX11 317 RX7 yX7_hasPerson wsX7_hasPerson) := goodIn_app (goodIn_of _ (by decide +kernel)) ggX11_lackOfRow_X7_hasPerson
theorem dX11_lackOfRow_0 : decode cX11_lackOfRow 0 = .ok (.aload_n 0, 1) := by decide +kernel
theorem dX11_lackOfRow_1 : decode cX11_lackOfRow 1 = .ok (.ifnonnull 5, 3) := by decide +kernel
theorem dX11_lackOfRow_4 : decode cX11_lackOfRow 4 = .ok (.iconst (-1), 1) := by decide +kernel
theorem dX11_lackOfRow_5 : decode cX11_lackOfRow 5 = .ok (.ireturn, 1) := by decide +kernel
theorem dX11_lackOfRow_6 : decode cX11_lackOfRow 6 = .ok (.aload_n 0, 1) := by decide +kernel
theorem dX11_lackOfRow_7 : decode cX11_lackOfRow 7 = .ok (.invokevirtual 317, 3) := by decide +kernel
theorem dX11_lackOfRow_10 : decode cX11_lackOfRow 10 = .ok (.ifCond .eq 8, 3) := by decide +kernel
theorem dX11_lackOfRow_13 : decode cX11_lackOfRow 13 = .ok (.bipush (-2), 2) := by decide +kernel
theorem dX11_lackOfRow_15 : decode cX11_lackOfRow 15 = .ok (.goto 5, 3) := by decide +kernel
theorem dX11_lackOfRow_18 : decode cX11_lackOfRow 18 = .ok (.bipush (-3), 2) := by decide +kernel
theorem dX11_lackOfRow_20 : decode cX11_lackOfRow 20 = .ok (.ireturn, 1) := by decide +kernel
set_option maxRecDepth 20000 in
theorem ggX11_refusalOfTwo_X7_hasPerson : GoodIn wsX11_refusalOfTwo wsX7_hasPerson := goodIn_r _ [6, 7, 12, 13, 14] (by decide +kernel) (by decide +kernel)
set_option maxRecDepth 20000 in
theorem gX11_refusalOfTwo_X7_hasPerson : GoodIn wsX11_refusalOfTwo (wsV RX11 317 RX7 yX7_hasPerson wsX7_hasPerson) := goodIn_app (goodIn_of _ (by decide +kernel)) ggX11_refusalOfTwo_X7_hasPerson
set_option maxRecDepth 20000 in
theorem ggX11_refusalOfTwo_X7_hasRow : GoodIn wsX11_refusalOfTwo wsX7_hasRow := goodIn_r _ [11, 7, 12, 13, 14] (by decide +kernel) (by decide +kernel)
set_option maxRecDepth 20000 in
theorem gX11_refusalOfTwo_X7_hasRow : GoodIn wsX11_refusalOfTwo (wsV RX11 88 RX7 yX7_hasRow wsX7_hasRow) := goodIn_app (goodIn_of _ (by decide +kernel)) ggX11_refusalOfTwo_X7_hasRow
theorem dX11_refusalOfTwo_0 : decode cX11_refusalOfTwo 0 = .ok (.aload_n 0, 1) := by decide +kernel
theorem dX11_refusalOfTwo_1 : decode cX11_refusalOfTwo 1 = .ok (.ifnull 7, 3) := by decide +kernel
theorem dX11_refusalOfTwo_4 : decode cX11_refusalOfTwo 4 = .ok (.aload_n 1, 1) := by decide +kernel
theorem dX11_refusalOfTwo_5 : decode cX11_refusalOfTwo 5 = .ok (.ifnonnull 5, 3) := by decide +kernel
theorem dX11_refusalOfTwo_8 : decode cX11_refusalOfTwo 8 = .ok (.iconst (-1), 1) := by decide +kernel
theorem dX11_refusalOfTwo_9 : decode cX11_refusalOfTwo 9 = .ok (.ireturn, 1) := by decide +kernel
theorem dX11_refusalOfTwo_10 : decode cX11_refusalOfTwo 10 = .ok (.aload_n 0, 1) := by decide +kernel
theorem dX11_refusalOfTwo_11 : decode cX11_refusalOfTwo 11 = .ok (.invokevirtual 317, 3) := by decide +kernel
theorem dX11_refusalOfTwo_14 : decode cX11_refusalOfTwo 14 = .ok (.ifCond .ne 10, 3) := by decide +kernel
theorem dX11_refusalOfTwo_17 : decode cX11_refusalOfTwo 17 = .ok (.aload_n 1, 1) := by decide +kernel
theorem dX11_refusalOfTwo_18 : decode cX11_refusalOfTwo 18 = .ok (.invokevirtual 317, 3) := by decide +kernel
theorem dX11_refusalOfTwo_21 : decode cX11_refusalOfTwo 21 = .ok (.ifCond .eq 6, 3) := by decide +kernel
theorem dX11_refusalOfTwo_24 : decode cX11_refusalOfTwo 24 = .ok (.bipush (-2), 2) := by decide +kernel
theorem dX11_refusalOfTwo_26 : decode cX11_refusalOfTwo 26 = .ok (.ireturn, 1) := by decide +kernel
theorem dX11_refusalOfTwo_27 : decode cX11_refusalOfTwo 27 = .ok (.aload_n 0, 1) := by decide +kernel
theorem dX11_refusalOfTwo_28 : decode cX11_refusalOfTwo 28 = .ok (.invokevirtual 88, 3) := by decide +kernel
theorem dX11_refusalOfTwo_31 : decode cX11_refusalOfTwo 31 = .ok (.ifCond .eq 10, 3) := by decide +kernel
theorem dX11_refusalOfTwo_34 : decode cX11_refusalOfTwo 34 = .ok (.aload_n 1, 1) := by decide +kernel
theorem dX11_refusalOfTwo_35 : decode cX11_refusalOfTwo 35 = .ok (.invokevirtual 88, 3) := by decide +kernel
theorem dX11_refusalOfTwo_38 : decode cX11_refusalOfTwo 38 = .ok (.ifCond .ne 6, 3) := by decide +kernel
theorem dX11_refusalOfTwo_41 : decode cX11_refusalOfTwo 41 = .ok (.bipush (-3), 2) := by decide +kernel
theorem dX11_refusalOfTwo_43 : decode cX11_refusalOfTwo 43 = .ok (.ireturn, 1) := by decide +kernel
theorem dX11_refusalOfTwo_44 : decode cX11_refusalOfTwo 44 = .ok (.aload_n 0, 1) := by decide +kernel
theorem dX11_refusalOfTwo_45 : decode cX11_refusalOfTwo 45 = .ok (.getfield 130, 3) := by decide +kernel
theorem dX11_refusalOfTwo_48 : decode cX11_refusalOfTwo 48 = .ok (.aload_n 1, 1) := by decide +kernel
theorem dX11_refusalOfTwo_49 : decode cX11_refusalOfTwo 49 = .ok (.getfield 130, 3) := by decide +kernel
theorem dX11_refusalOfTwo_52 : decode cX11_refusalOfTwo 52 = .ok (.if_icmp .ne 7, 3) := by decide +kernel
theorem dX11_refusalOfTwo_55 : decode cX11_refusalOfTwo 55 = .ok (.iconst 0, 1) := by decide +kernel
theorem dX11_refusalOfTwo_56 : decode cX11_refusalOfTwo 56 = .ok (.goto 5, 3) := by decide +kernel
theorem dX11_refusalOfTwo_59 : decode cX11_refusalOfTwo 59 = .ok (.bipush (-2), 2) := by decide +kernel
theorem dX11_refusalOfTwo_61 : decode cX11_refusalOfTwo 61 = .ok (.ireturn, 1) := by decide +kernel
set_option maxRecDepth 20000 in
theorem ggX11_refusalOfTold_X7_hasRow : GoodIn wsX11_refusalOfTold wsX7_hasRow := goodIn_r _ [6, 7, 16, 17, 18] (by decide +kernel) (by decide +kernel)
set_option maxRecDepth 20000 in
theorem gX11_refusalOfTold_X7_hasRow : GoodIn wsX11_refusalOfTold (wsV RX11 88 RX7 yX7_hasRow wsX7_hasRow) := goodIn_app (goodIn_of _ (by decide +kernel)) ggX11_refusalOfTold_X7_hasRow
set_option maxRecDepth 20000 in
theorem ggX11_refusalOfTold_X11_lackOfRow : GoodIn wsX11_refusalOfTold wsX11_lackOfRow := goodIn_r _ [11, 12, 13, 14, 5, 15, 7, 16, 17, 18] (by decide +kernel) (by decide +kernel)
set_option maxRecDepth 20000 in
theorem gX11_refusalOfTold_X11_lackOfRow : GoodIn wsX11_refusalOfTold (va_wsS RX11 92 yX11_lackOfRow wsX11_lackOfRow) := goodIn_app (goodIn_of _ (by decide +kernel)) ggX11_refusalOfTold_X11_lackOfRow
theorem dX11_refusalOfTold_0 : decode cX11_refusalOfTold 0 = .ok (.aload_n 0, 1) := by decide +kernel
theorem dX11_refusalOfTold_1 : decode cX11_refusalOfTold 1 = .ok (.ifnull 10, 3) := by decide +kernel
theorem dX11_refusalOfTold_4 : decode cX11_refusalOfTold 4 = .ok (.aload_n 0, 1) := by decide +kernel
theorem dX11_refusalOfTold_5 : decode cX11_refusalOfTold 5 = .ok (.invokevirtual 88, 3) := by decide +kernel
theorem dX11_refusalOfTold_8 : decode cX11_refusalOfTold 8 = .ok (.ifCond .ne 8, 3) := by decide +kernel
theorem dX11_refusalOfTold_11 : decode cX11_refusalOfTold 11 = .ok (.aload_n 0, 1) := by decide +kernel
theorem dX11_refusalOfTold_12 : decode cX11_refusalOfTold 12 = .ok (.invokestatic 92, 3) := by decide +kernel
theorem dX11_refusalOfTold_15 : decode cX11_refusalOfTold 15 = .ok (.ireturn, 1) := by decide +kernel
theorem dX11_refusalOfTold_16 : decode cX11_refusalOfTold 16 = .ok (.iload_n 1, 1) := by decide +kernel
theorem dX11_refusalOfTold_17 : decode cX11_refusalOfTold 17 = .ok (.ifCond .ge 6, 3) := by decide +kernel
theorem dX11_refusalOfTold_20 : decode cX11_refusalOfTold 20 = .ok (.bipush (-4), 2) := by decide +kernel
theorem dX11_refusalOfTold_22 : decode cX11_refusalOfTold 22 = .ok (.ireturn, 1) := by decide +kernel
theorem dX11_refusalOfTold_23 : decode cX11_refusalOfTold 23 = .ok (.iload_n 1, 1) := by decide +kernel
theorem dX11_refusalOfTold_24 : decode cX11_refusalOfTold 24 = .ok (.aload_n 0, 1) := by decide +kernel
theorem dX11_refusalOfTold_25 : decode cX11_refusalOfTold 25 = .ok (.getfield 333, 3) := by decide +kernel
theorem dX11_refusalOfTold_28 : decode cX11_refusalOfTold 28 = .ok (.if_icmp .le 6, 3) := by decide +kernel
theorem dX11_refusalOfTold_31 : decode cX11_refusalOfTold 31 = .ok (.bipush (-5), 2) := by decide +kernel
theorem dX11_refusalOfTold_33 : decode cX11_refusalOfTold 33 = .ok (.ireturn, 1) := by decide +kernel
theorem dX11_refusalOfTold_34 : decode cX11_refusalOfTold 34 = .ok (.iload_n 1, 1) := by decide +kernel
theorem dX11_refusalOfTold_35 : decode cX11_refusalOfTold 35 = .ok (.iconst 1, 1) := by decide +kernel
theorem dX11_refusalOfTold_36 : decode cX11_refusalOfTold 36 = .ok (.if_icmp .lt 19, 3) := by decide +kernel
theorem dX11_refusalOfTold_39 : decode cX11_refusalOfTold 39 = .ok (.iload_n 1, 1) := by decide +kernel
theorem dX11_refusalOfTold_40 : decode cX11_refusalOfTold 40 = .ok (.bipush 8, 2) := by decide +kernel
theorem dX11_refusalOfTold_42 : decode cX11_refusalOfTold 42 = .ok (.if_icmp .gt 13, 3) := by decide +kernel
theorem dX11_refusalOfTold_45 : decode cX11_refusalOfTold 45 = .ok (.iload_n 2, 1) := by decide +kernel
theorem dX11_refusalOfTold_46 : decode cX11_refusalOfTold 46 = .ok (.ifCond .lt 9, 3) := by decide +kernel
theorem dX11_refusalOfTold_49 : decode cX11_refusalOfTold 49 = .ok (.iload_n 2, 1) := by decide +kernel
theorem dX11_refusalOfTold_50 : decode cX11_refusalOfTold 50 = .ok (.bipush 20, 2) := by decide +kernel
theorem dX11_refusalOfTold_52 : decode cX11_refusalOfTold 52 = .ok (.if_icmp .le 8, 3) := by decide +kernel
theorem dX11_refusalOfTold_55 : decode cX11_refusalOfTold 55 = .ok (.bipush (-6), 2) := by decide +kernel
theorem dX11_refusalOfTold_57 : decode cX11_refusalOfTold 57 = .ok (.goto 4, 3) := by decide +kernel
theorem dX11_refusalOfTold_60 : decode cX11_refusalOfTold 60 = .ok (.iconst 0, 1) := by decide +kernel
theorem dX11_refusalOfTold_61 : decode cX11_refusalOfTold 61 = .ok (.ireturn, 1) := by decide +kernel
set_option maxRecDepth 20000 in
theorem ggX11_refusalOfLife_X7_hasRow : GoodIn wsX11_refusalOfLife wsX7_hasRow := goodIn_r _ [6, 7, 16, 17, 18] (by decide +kernel) (by decide +kernel)
set_option maxRecDepth 20000 in
theorem gX11_refusalOfLife_X7_hasRow : GoodIn wsX11_refusalOfLife (wsV RX11 88 RX7 yX7_hasRow wsX7_hasRow) := goodIn_app (goodIn_of _ (by decide +kernel)) ggX11_refusalOfLife_X7_hasRow
set_option maxRecDepth 20000 in
theorem ggX11_refusalOfLife_X11_lackOfRow : GoodIn wsX11_refusalOfLife wsX11_lackOfRow := goodIn_r _ [11, 12, 13, 14, 5, 15, 7, 16, 17, 18] (by decide +kernel) (by decide +kernel)
set_option maxRecDepth 20000 in
theorem gX11_refusalOfLife_X11_lackOfRow : GoodIn wsX11_refusalOfLife (va_wsS RX11 92 yX11_lackOfRow wsX11_lackOfRow) := goodIn_app (goodIn_of _ (by decide +kernel)) ggX11_refusalOfLife_X11_lackOfRow
theorem dX11_refusalOfLife_0 : decode cX11_refusalOfLife 0 = .ok (.aload_n 0, 1) := by decide +kernel
theorem dX11_refusalOfLife_1 : decode cX11_refusalOfLife 1 = .ok (.ifnull 10, 3) := by decide +kernel
theorem dX11_refusalOfLife_4 : decode cX11_refusalOfLife 4 = .ok (.aload_n 0, 1) := by decide +kernel
theorem dX11_refusalOfLife_5 : decode cX11_refusalOfLife 5 = .ok (.invokevirtual 88, 3) := by decide +kernel
theorem dX11_refusalOfLife_8 : decode cX11_refusalOfLife 8 = .ok (.ifCond .ne 8, 3) := by decide +kernel
theorem dX11_refusalOfLife_11 : decode cX11_refusalOfLife 11 = .ok (.aload_n 0, 1) := by decide +kernel
theorem dX11_refusalOfLife_12 : decode cX11_refusalOfLife 12 = .ok (.invokestatic 92, 3) := by decide +kernel
theorem dX11_refusalOfLife_15 : decode cX11_refusalOfLife 15 = .ok (.ireturn, 1) := by decide +kernel
theorem dX11_refusalOfLife_16 : decode cX11_refusalOfLife 16 = .ok (.iload_n 1, 1) := by decide +kernel
theorem dX11_refusalOfLife_17 : decode cX11_refusalOfLife 17 = .ok (.ifCond .ge 6, 3) := by decide +kernel
theorem dX11_refusalOfLife_20 : decode cX11_refusalOfLife 20 = .ok (.bipush (-4), 2) := by decide +kernel
theorem dX11_refusalOfLife_22 : decode cX11_refusalOfLife 22 = .ok (.ireturn, 1) := by decide +kernel
theorem dX11_refusalOfLife_23 : decode cX11_refusalOfLife 23 = .ok (.iload_n 1, 1) := by decide +kernel
theorem dX11_refusalOfLife_24 : decode cX11_refusalOfLife 24 = .ok (.aload_n 0, 1) := by decide +kernel
theorem dX11_refusalOfLife_25 : decode cX11_refusalOfLife 25 = .ok (.getfield 333, 3) := by decide +kernel
theorem dX11_refusalOfLife_28 : decode cX11_refusalOfLife 28 = .ok (.if_icmp .gt 7, 3) := by decide +kernel
theorem dX11_refusalOfLife_31 : decode cX11_refusalOfLife 31 = .ok (.iload_n 2, 1) := by decide +kernel
theorem dX11_refusalOfLife_32 : decode cX11_refusalOfLife 32 = .ok (.ifCond .ne 6, 3) := by decide +kernel
theorem dX11_refusalOfLife_35 : decode cX11_refusalOfLife 35 = .ok (.bipush (-5), 2) := by decide +kernel
theorem dX11_refusalOfLife_37 : decode cX11_refusalOfLife 37 = .ok (.ireturn, 1) := by decide +kernel
theorem dX11_refusalOfLife_38 : decode cX11_refusalOfLife 38 = .ok (.iload_n 1, 1) := by decide +kernel
theorem dX11_refusalOfLife_39 : decode cX11_refusalOfLife 39 = .ok (.bipush 40, 2) := by decide +kernel
theorem dX11_refusalOfLife_41 : decode cX11_refusalOfLife 41 = .ok (.if_icmp .le 8, 3) := by decide +kernel
theorem dX11_refusalOfLife_44 : decode cX11_refusalOfLife 44 = .ok (.bipush (-6), 2) := by decide +kernel
theorem dX11_refusalOfLife_46 : decode cX11_refusalOfLife 46 = .ok (.goto 4, 3) := by decide +kernel
theorem dX11_refusalOfLife_49 : decode cX11_refusalOfLife 49 = .ok (.iconst 0, 1) := by decide +kernel
theorem dX11_refusalOfLife_50 : decode cX11_refusalOfLife 50 = .ok (.ireturn, 1) := by decide +kernel
set_option maxRecDepth 20000 in
theorem ggX11_hasOfTold_X4_personAt : GoodIn wsX11_hasOfTold wsX4_personAt := goodIn_r _ [7, 8, 9, 56, 57, 58, 59, 60, 61] (by decide +kernel) (by decide +kernel)
set_option maxRecDepth 20000 in
theorem gX11_hasOfTold_X4_personAt : GoodIn wsX11_hasOfTold (wsV RX11 126 RX4 yX4_personAt wsX4_personAt) := goodIn_app (goodIn_of _ (by decide +kernel)) ggX11_hasOfTold_X4_personAt
set_option maxRecDepth 20000 in
theorem ggX11_hasOfTold_X11_isCopy : GoodIn wsX11_hasOfTold wsX11_isCopy := goodIn_r _ [13] (by decide +kernel) (by decide +kernel)
set_option maxRecDepth 20000 in
theorem gX11_hasOfTold_X11_isCopy : GoodIn wsX11_hasOfTold (va_wsS RX11 171 yX11_isCopy wsX11_isCopy) := goodIn_app (goodIn_of _ (by decide +kernel)) ggX11_hasOfTold_X11_isCopy
set_option maxRecDepth 20000 in
theorem ggX11_hasOfTold_X5_hasBits : GoodIn wsX11_hasOfTold wsX5_hasBits := goodIn_r _ [19, 20, 21, 22, 23, 18, 24, 25, 11, 12, 13, 26, 27, 28, 29, 30, 31, 32, 33, 34, 62, 63, 64, 65, 66, 67, 68, 69, 70, 71, 72, 73, 74, 75, 76, 77, 78, 79, 80, 81, 82, 83, 84, 85, 86, 87, 88, 89, 90, 91, 92, 93, 94, 95, 96, 97, 98, 99, 100, 101, 102, 103, 104, 105, 106, 107, 108, 109, 110, 111, 112, 113, 114, 115, 116, 117, 118, 119, 120, 121, 122, 123, 124] (by decide +kernel) (by decide +kernel)
set_option maxRecDepth 20000 in
theorem gX11_hasOfTold_X5_hasBits_u177X0 : GoodIn wsX11_hasOfTold (va_wsU RX11 177 RX0 "CarbonCopies$Person" ⟨"CarbonCopies$Person", "hasBits", "(II)I"⟩ yX5_hasBits wsX5_hasBits) := goodIn_app (goodIn_of _ (by decide +kernel)) ggX11_hasOfTold_X5_hasBits
set_option maxRecDepth 20000 in
theorem gX11_hasOfTold_X5_hasBits_u177X1 : GoodIn wsX11_hasOfTold (va_wsU RX11 177 RX1 "CarbonCopies$Person" ⟨"CarbonCopies$Person", "hasBits", "(II)I"⟩ yX5_hasBits wsX5_hasBits) := goodIn_app (goodIn_of _ (by decide +kernel)) ggX11_hasOfTold_X5_hasBits
set_option maxRecDepth 20000 in
theorem gX11_hasOfTold_X5_hasBits_u177X2 : GoodIn wsX11_hasOfTold (va_wsU RX11 177 RX2 "CarbonCopies$Person" ⟨"CarbonCopies$Person", "hasBits", "(II)I"⟩ yX5_hasBits wsX5_hasBits) := goodIn_app (goodIn_of _ (by decide +kernel)) ggX11_hasOfTold_X5_hasBits
set_option maxRecDepth 20000 in
theorem gX11_hasOfTold_X5_hasBits_u177X3 : GoodIn wsX11_hasOfTold (va_wsU RX11 177 RX3 "CarbonCopies$Person" ⟨"CarbonCopies$Person", "hasBits", "(II)I"⟩ yX5_hasBits wsX5_hasBits) := goodIn_app (goodIn_of _ (by decide +kernel)) ggX11_hasOfTold_X5_hasBits
set_option maxRecDepth 20000 in
theorem gX11_hasOfTold_X5_hasBits : GoodIn wsX11_hasOfTold (wsV RX11 177 RX5 yX5_hasBits wsX5_hasBits) := goodIn_app (goodIn_of _ (by decide +kernel)) ggX11_hasOfTold_X5_hasBits
set_option maxRecDepth 20000 in
theorem gX11_hasOfTold_X5_hasBits_u177X8 : GoodIn wsX11_hasOfTold (va_wsU RX11 177 RX8 "CarbonCopies$Person" ⟨"CarbonCopies$Person", "hasBits", "(II)I"⟩ yX5_hasBits wsX5_hasBits) := goodIn_app (goodIn_of _ (by decide +kernel)) ggX11_hasOfTold_X5_hasBits
set_option maxRecDepth 20000 in
theorem gX11_hasOfTold_X5_hasBits_u177X10 : GoodIn wsX11_hasOfTold (va_wsU RX11 177 RX10 "CarbonCopies$Person" ⟨"CarbonCopies$Person", "hasBits", "(II)I"⟩ yX5_hasBits wsX5_hasBits) := goodIn_app (goodIn_of _ (by decide +kernel)) ggX11_hasOfTold_X5_hasBits
theorem dX11_hasOfTold_0 : decode cX11_hasOfTold 0 = .ok (.iload_n 1, 1) := by decide +kernel
theorem dX11_hasOfTold_1 : decode cX11_hasOfTold 1 = .ok (.ifCond .ge 5, 3) := by decide +kernel
theorem dX11_hasOfTold_4 : decode cX11_hasOfTold 4 = .ok (.iconst (-1), 1) := by decide +kernel
theorem dX11_hasOfTold_5 : decode cX11_hasOfTold 5 = .ok (.ireturn, 1) := by decide +kernel
theorem dX11_hasOfTold_6 : decode cX11_hasOfTold 6 = .ok (.aload_n 0, 1) := by decide +kernel
theorem dX11_hasOfTold_7 : decode cX11_hasOfTold 7 = .ok (.getfield 31, 3) := by decide +kernel
theorem dX11_hasOfTold_10 : decode cX11_hasOfTold 10 = .ok (.iload_n 1, 1) := by decide +kernel
theorem dX11_hasOfTold_11 : decode cX11_hasOfTold 11 = .ok (.bipush 10, 2) := by decide +kernel
theorem dX11_hasOfTold_13 : decode cX11_hasOfTold 13 = .ok (.idiv, 1) := by decide +kernel
theorem dX11_hasOfTold_14 : decode cX11_hasOfTold 14 = .ok (.invokevirtual 126, 3) := by decide +kernel
theorem dX11_hasOfTold_17 : decode cX11_hasOfTold 17 = .ok (.astore_n 2, 1) := by decide +kernel
theorem dX11_hasOfTold_18 : decode cX11_hasOfTold 18 = .ok (.iload_n 1, 1) := by decide +kernel
theorem dX11_hasOfTold_19 : decode cX11_hasOfTold 19 = .ok (.bipush 10, 2) := by decide +kernel
theorem dX11_hasOfTold_21 : decode cX11_hasOfTold 21 = .ok (.irem, 1) := by decide +kernel
theorem dX11_hasOfTold_22 : decode cX11_hasOfTold 22 = .ok (.istore_n 3, 1) := by decide +kernel
theorem dX11_hasOfTold_23 : decode cX11_hasOfTold 23 = .ok (.aload_n 2, 1) := by decide +kernel
theorem dX11_hasOfTold_24 : decode cX11_hasOfTold 24 = .ok (.ifnull 10, 3) := by decide +kernel
theorem dX11_hasOfTold_27 : decode cX11_hasOfTold 27 = .ok (.iload_n 3, 1) := by decide +kernel
theorem dX11_hasOfTold_28 : decode cX11_hasOfTold 28 = .ok (.invokestatic 171, 3) := by decide +kernel
theorem dX11_hasOfTold_31 : decode cX11_hasOfTold 31 = .ok (.ifCond .ne 7, 3) := by decide +kernel
theorem dX11_hasOfTold_34 : decode cX11_hasOfTold 34 = .ok (.iconst (-1), 1) := by decide +kernel
theorem dX11_hasOfTold_35 : decode cX11_hasOfTold 35 = .ok (.goto 15, 3) := by decide +kernel
theorem dX11_hasOfTold_38 : decode cX11_hasOfTold 38 = .ok (.aload_n 2, 1) := by decide +kernel
theorem dX11_hasOfTold_39 : decode cX11_hasOfTold 39 = .ok (.iload_n 3, 1) := by decide +kernel
theorem dX11_hasOfTold_40 : decode cX11_hasOfTold 40 = .ok (.aload_n 0, 1) := by decide +kernel
theorem dX11_hasOfTold_41 : decode cX11_hasOfTold 41 = .ok (.getfield 31, 3) := by decide +kernel
theorem dX11_hasOfTold_44 : decode cX11_hasOfTold 44 = .ok (.getfield 155, 3) := by decide +kernel
theorem dX11_hasOfTold_47 : decode cX11_hasOfTold 47 = .ok (.invokevirtual 177, 3) := by decide +kernel
theorem dX11_hasOfTold_50 : decode cX11_hasOfTold 50 = .ok (.ireturn, 1) := by decide +kernel
set_option maxRecDepth 20000 in
theorem ggX11_leastForce_X5_haveDown : GoodIn wsX11_leastForce wsX5_haveDown := goodIn_r _ [9, 10, 11, 12, 13, 8, 14, 15, 16, 17, 18, 19, 20, 21, 22, 23, 24, 25, 26, 27, 28, 29, 30, 31, 32, 33, 34, 35, 36, 37, 38, 39, 40, 41, 42, 43, 44, 45, 46, 47, 48, 49, 50, 51, 52, 53, 54, 55, 56, 57, 58, 59, 60, 61, 62, 63, 64, 65, 66, 67, 68, 69, 70, 71, 72, 73, 74, 75, 76, 77, 78, 79, 80, 81, 82, 83, 84, 85, 86, 87, 88, 89, 90, 91, 92, 93, 94, 95, 103, 104, 105, 106, 107, 108, 109, 110, 111, 112, 113, 114, 115, 116, 117, 118, 119, 120, 121, 122, 123, 124, 125, 126, 127, 128, 129, 130, 131, 132, 133, 134, 135, 136, 137, 138, 139, 140, 141, 142, 143, 144, 145, 146, 147, 148, 149, 150, 151, 152, 153, 154, 155, 156, 157, 158, 159, 160, 161, 162, 163, 164, 165] (by decide +kernel) (by decide +kernel)
set_option maxRecDepth 20000 in
theorem gX11_leastForce_X5_haveDown_u336X0 : GoodIn wsX11_leastForce (va_wsU RX11 336 RX0 "CarbonCopies$Person" ⟨"CarbonCopies$Person", "haveDown", "(IIIII)I"⟩ yX5_haveDown wsX5_haveDown) := goodIn_app (goodIn_of _ (by decide +kernel)) ggX11_leastForce_X5_haveDown
set_option maxRecDepth 20000 in
theorem gX11_leastForce_X5_haveDown_u336X1 : GoodIn wsX11_leastForce (va_wsU RX11 336 RX1 "CarbonCopies$Person" ⟨"CarbonCopies$Person", "haveDown", "(IIIII)I"⟩ yX5_haveDown wsX5_haveDown) := goodIn_app (goodIn_of _ (by decide +kernel)) ggX11_leastForce_X5_haveDown
set_option maxRecDepth 20000 in
theorem gX11_leastForce_X5_haveDown_u336X2 : GoodIn wsX11_leastForce (va_wsU RX11 336 RX2 "CarbonCopies$Person" ⟨"CarbonCopies$Person", "haveDown", "(IIIII)I"⟩ yX5_haveDown wsX5_haveDown) := goodIn_app (goodIn_of _ (by decide +kernel)) ggX11_leastForce_X5_haveDown
set_option maxRecDepth 20000 in
theorem gX11_leastForce_X5_haveDown_u336X3 : GoodIn wsX11_leastForce (va_wsU RX11 336 RX3 "CarbonCopies$Person" ⟨"CarbonCopies$Person", "haveDown", "(IIIII)I"⟩ yX5_haveDown wsX5_haveDown) := goodIn_app (goodIn_of _ (by decide +kernel)) ggX11_leastForce_X5_haveDown
set_option maxRecDepth 20000 in
theorem gX11_leastForce_X5_haveDown : GoodIn wsX11_leastForce (wsV RX11 336 RX5 yX5_haveDown wsX5_haveDown) := goodIn_app (goodIn_of _ (by decide +kernel)) ggX11_leastForce_X5_haveDown
set_option maxRecDepth 20000 in
theorem gX11_leastForce_X5_haveDown_u336X8 : GoodIn wsX11_leastForce (va_wsU RX11 336 RX8 "CarbonCopies$Person" ⟨"CarbonCopies$Person", "haveDown", "(IIIII)I"⟩ yX5_haveDown wsX5_haveDown) := goodIn_app (goodIn_of _ (by decide +kernel)) ggX11_leastForce_X5_haveDown
set_option maxRecDepth 20000 in
theorem gX11_leastForce_X5_haveDown_u336X10 : GoodIn wsX11_leastForce (va_wsU RX11 336 RX10 "CarbonCopies$Person" ⟨"CarbonCopies$Person", "haveDown", "(IIIII)I"⟩ yX5_haveDown wsX5_haveDown) := goodIn_app (goodIn_of _ (by decide +kernel)) ggX11_leastForce_X5_haveDown
theorem dX11_leastForce_0 : decode cX11_leastForce 0 = .ok (.iconst 1, 1) := by decide +kernel
theorem dX11_leastForce_1 : decode cX11_leastForce 1 = .ok (.istore 5, 2) := by decide +kernel
theorem dX11_leastForce_3 : decode cX11_leastForce 3 = .ok (.iload 5, 2) := by decide +kernel
theorem dX11_leastForce_5 : decode cX11_leastForce 5 = .ok (.bipush 99, 2) := by decide +kernel
theorem dX11_leastForce_7 : decode cX11_leastForce 7 = .ok (.if_icmp .gt 92, 3) := by decide +kernel
theorem dX11_leastForce_10 : decode cX11_leastForce 10 = .ok (.aload_n 1, 1) := by decide +kernel
theorem dX11_leastForce_11 : decode cX11_leastForce 11 = .ok (.iload_n 2, 1) := by decide +kernel
theorem dX11_leastForce_12 : decode cX11_leastForce 12 = .ok (.aload_n 1, 1) := by decide +kernel
theorem dX11_leastForce_13 : decode cX11_leastForce 13 = .ok (.getfield 142, 3) := by decide +kernel
theorem dX11_leastForce_16 : decode cX11_leastForce 16 = .ok (.iload_n 3, 1) := by decide +kernel
theorem dX11_leastForce_17 : decode cX11_leastForce 17 = .ok (.iload 5, 2) := by decide +kernel
theorem dX11_leastForce_19 : decode cX11_leastForce 19 = .ok (.aload_n 0, 1) := by decide +kernel
theorem dX11_leastForce_20 : decode cX11_leastForce 20 = .ok (.getfield 31, 3) := by decide +kernel
theorem dX11_leastForce_23 : decode cX11_leastForce 23 = .ok (.getfield 155, 3) := by decide +kernel
theorem dX11_leastForce_26 : decode cX11_leastForce 26 = .ok (.invokevirtual 336, 3) := by decide +kernel
theorem dX11_leastForce_29 : decode cX11_leastForce 29 = .ok (.iload_n 3, 1) := by decide +kernel
theorem dX11_leastForce_30 : decode cX11_leastForce 30 = .ok (.aload_n 1, 1) := by decide +kernel
theorem dX11_leastForce_31 : decode cX11_leastForce 31 = .ok (.getfield 142, 3) := by decide +kernel
theorem dX11_leastForce_34 : decode cX11_leastForce 34 = .ok (.isub, 1) := by decide +kernel
theorem dX11_leastForce_35 : decode cX11_leastForce 35 = .ok (.iconst 1, 1) := by decide +kernel
theorem dX11_leastForce_36 : decode cX11_leastForce 36 = .ok (.iadd, 1) := by decide +kernel
theorem dX11_leastForce_37 : decode cX11_leastForce 37 = .ok (.if_icmp .ne 7, 3) := by decide +kernel
theorem dX11_leastForce_40 : decode cX11_leastForce 40 = .ok (.iconst 1, 1) := by decide +kernel
theorem dX11_leastForce_41 : decode cX11_leastForce 41 = .ok (.goto 4, 3) := by decide +kernel
theorem dX11_leastForce_44 : decode cX11_leastForce 44 = .ok (.iconst 0, 1) := by decide +kernel
theorem dX11_leastForce_45 : decode cX11_leastForce 45 = .ok (.istore 6, 2) := by decide +kernel
theorem dX11_leastForce_47 : decode cX11_leastForce 47 = .ok (.aload_n 1, 1) := by decide +kernel
theorem dX11_leastForce_48 : decode cX11_leastForce 48 = .ok (.iload_n 2, 1) := by decide +kernel
theorem dX11_leastForce_49 : decode cX11_leastForce 49 = .ok (.iload_n 3, 1) := by decide +kernel
theorem dX11_leastForce_50 : decode cX11_leastForce 50 = .ok (.iconst 1, 1) := by decide +kernel
theorem dX11_leastForce_51 : decode cX11_leastForce 51 = .ok (.iadd, 1) := by decide +kernel
theorem dX11_leastForce_52 : decode cX11_leastForce 52 = .ok (.iconst 5, 1) := by decide +kernel
theorem dX11_leastForce_53 : decode cX11_leastForce 53 = .ok (.iload 5, 2) := by decide +kernel
theorem dX11_leastForce_55 : decode cX11_leastForce 55 = .ok (.aload_n 0, 1) := by decide +kernel
theorem dX11_leastForce_56 : decode cX11_leastForce 56 = .ok (.getfield 31, 3) := by decide +kernel
theorem dX11_leastForce_59 : decode cX11_leastForce 59 = .ok (.getfield 155, 3) := by decide +kernel
theorem dX11_leastForce_62 : decode cX11_leastForce 62 = .ok (.invokevirtual 336, 3) := by decide +kernel
theorem dX11_leastForce_65 : decode cX11_leastForce 65 = .ok (.ifCond .le 7, 3) := by decide +kernel
theorem dX11_leastForce_68 : decode cX11_leastForce 68 = .ok (.iconst 1, 1) := by decide +kernel
theorem dX11_leastForce_69 : decode cX11_leastForce 69 = .ok (.goto 4, 3) := by decide +kernel
theorem dX11_leastForce_72 : decode cX11_leastForce 72 = .ok (.iconst 0, 1) := by decide +kernel
theorem dX11_leastForce_73 : decode cX11_leastForce 73 = .ok (.istore 7, 2) := by decide +kernel
theorem dX11_leastForce_75 : decode cX11_leastForce 75 = .ok (.iload 6, 2) := by decide +kernel
theorem dX11_leastForce_77 : decode cX11_leastForce 77 = .ok (.ifCond .eq 16, 3) := by decide +kernel
theorem dX11_leastForce_80 : decode cX11_leastForce 80 = .ok (.iload 4, 2) := by decide +kernel
theorem dX11_leastForce_82 : decode cX11_leastForce 82 = .ok (.ifCond .eq 8, 3) := by decide +kernel
theorem dX11_leastForce_85 : decode cX11_leastForce 85 = .ok (.iload 7, 2) := by decide +kernel
theorem dX11_leastForce_87 : decode cX11_leastForce 87 = .ok (.ifCond .ne 6, 3) := by decide +kernel
theorem dX11_leastForce_90 : decode cX11_leastForce 90 = .ok (.iload 5, 2) := by decide +kernel
theorem dX11_leastForce_92 : decode cX11_leastForce 92 = .ok (.ireturn, 1) := by decide +kernel
theorem dX11_leastForce_93 : decode cX11_leastForce 93 = .ok (.iinc 5 1, 3) := by decide +kernel
theorem dX11_leastForce_96 : decode cX11_leastForce 96 = .ok (.goto (-93), 3) := by decide +kernel
theorem dX11_leastForce_99 : decode cX11_leastForce 99 = .ok (.iconst (-1), 1) := by decide +kernel
theorem dX11_leastForce_100 : decode cX11_leastForce 100 = .ok (.ireturn, 1) := by decide +kernel
set_option maxRecDepth 20000 in
theorem ggX11_bestToAsk_X11_hasOfTold : GoodIn wsX11_bestToAsk wsX11_hasOfTold := goodIn_r _ [10, 11, 12, 13, 14, 15, 16, 17, 18, 19, 20, 21, 9, 22, 23, 24, 25, 26, 27, 28, 29, 30, 31, 32, 33, 34, 35, 36, 37, 38, 39, 40, 41, 42, 43, 44, 45, 46, 47, 48, 49, 50, 51, 52, 53, 54, 55, 56, 57, 58, 59, 60, 61, 62, 63, 64, 65, 66, 67, 68, 69, 70, 71, 72, 73, 74, 75, 76, 77, 78, 79, 80, 81, 82, 83, 84, 85, 86, 87, 88, 89, 90, 91, 92, 93, 94, 95, 96, 97, 98, 99, 100, 101, 102, 103, 104, 105, 106, 107, 108, 109, 110, 111, 112, 113, 114, 115, 116, 117, 118, 119, 120, 121, 122, 123, 124, 125, 126, 127, 128, 129, 130, 131, 132, 133] (by decide +kernel) (by decide +kernel)
set_option maxRecDepth 20000 in
theorem gX11_bestToAsk_X11_hasOfTold : GoodIn wsX11_bestToAsk (wsV RX11 229 RX11 yX11_hasOfTold wsX11_hasOfTold) := goodIn_app (goodIn_of _ (by decide +kernel)) ggX11_bestToAsk_X11_hasOfTold
theorem dX11_bestToAsk_0 : decode cX11_bestToAsk 0 = .ok (.iconst (-1), 1) := by decide +kernel
theorem dX11_bestToAsk_1 : decode cX11_bestToAsk 1 = .ok (.istore_n 3, 1) := by decide +kernel
theorem dX11_bestToAsk_2 : decode cX11_bestToAsk 2 = .ok (.iload_n 2, 1) := by decide +kernel
theorem dX11_bestToAsk_3 : decode cX11_bestToAsk 3 = .ok (.iconst 1, 1) := by decide +kernel
theorem dX11_bestToAsk_4 : decode cX11_bestToAsk 4 = .ok (.iadd, 1) := by decide +kernel
theorem dX11_bestToAsk_5 : decode cX11_bestToAsk 5 = .ok (.istore 4, 2) := by decide +kernel
theorem dX11_bestToAsk_7 : decode cX11_bestToAsk 7 = .ok (.iload_n 1, 1) := by decide +kernel
theorem dX11_bestToAsk_8 : decode cX11_bestToAsk 8 = .ok (.istore 5, 2) := by decide +kernel
theorem dX11_bestToAsk_10 : decode cX11_bestToAsk 10 = .ok (.iload 5, 2) := by decide +kernel
theorem dX11_bestToAsk_12 : decode cX11_bestToAsk 12 = .ok (.bipush 8, 2) := by decide +kernel
theorem dX11_bestToAsk_14 : decode cX11_bestToAsk 14 = .ok (.if_icmp .ge 87, 3) := by decide +kernel
theorem dX11_bestToAsk_17 : decode cX11_bestToAsk 17 = .ok (.iconst 0, 1) := by decide +kernel
theorem dX11_bestToAsk_18 : decode cX11_bestToAsk 18 = .ok (.istore 6, 2) := by decide +kernel
theorem dX11_bestToAsk_20 : decode cX11_bestToAsk 20 = .ok (.iconst 0, 1) := by decide +kernel
theorem dX11_bestToAsk_21 : decode cX11_bestToAsk 21 = .ok (.istore 7, 2) := by decide +kernel
theorem dX11_bestToAsk_23 : decode cX11_bestToAsk 23 = .ok (.iload 7, 2) := by decide +kernel
theorem dX11_bestToAsk_25 : decode cX11_bestToAsk 25 = .ok (.iload_n 2, 1) := by decide +kernel
theorem dX11_bestToAsk_26 : decode cX11_bestToAsk 26 = .ok (.if_icmp .ge 44, 3) := by decide +kernel
theorem dX11_bestToAsk_29 : decode cX11_bestToAsk 29 = .ok (.iload 7, 2) := by decide +kernel
theorem dX11_bestToAsk_31 : decode cX11_bestToAsk 31 = .ok (.aload_n 0, 1) := by decide +kernel
theorem dX11_bestToAsk_32 : decode cX11_bestToAsk 32 = .ok (.getfield 50, 3) := by decide +kernel
theorem dX11_bestToAsk_35 : decode cX11_bestToAsk 35 = .ok (.arraylength, 1) := by decide +kernel
theorem dX11_bestToAsk_36 : decode cX11_bestToAsk 36 = .ok (.if_icmp .ge 34, 3) := by decide +kernel
theorem dX11_bestToAsk_39 : decode cX11_bestToAsk 39 = .ok (.aload_n 0, 1) := by decide +kernel
theorem dX11_bestToAsk_40 : decode cX11_bestToAsk 40 = .ok (.aload_n 0, 1) := by decide +kernel
theorem dX11_bestToAsk_41 : decode cX11_bestToAsk 41 = .ok (.getfield 50, 3) := by decide +kernel
theorem dX11_bestToAsk_44 : decode cX11_bestToAsk 44 = .ok (.iload 7, 2) := by decide +kernel
theorem dX11_bestToAsk_46 : decode cX11_bestToAsk 46 = .ok (.iaload, 1) := by decide +kernel
theorem dX11_bestToAsk_47 : decode cX11_bestToAsk 47 = .ok (.invokevirtual 229, 3) := by decide +kernel
theorem dX11_bestToAsk_50 : decode cX11_bestToAsk 50 = .ok (.istore 8, 2) := by decide +kernel
theorem dX11_bestToAsk_52 : decode cX11_bestToAsk 52 = .ok (.iload 6, 2) := by decide +kernel
theorem dX11_bestToAsk_54 : decode cX11_bestToAsk 54 = .ok (.iload 8, 2) := by decide +kernel
theorem dX11_bestToAsk_56 : decode cX11_bestToAsk 56 = .ok (.iload 5, 2) := by decide +kernel
theorem dX11_bestToAsk_58 : decode cX11_bestToAsk 58 = .ok (.ishr, 1) := by decide +kernel
theorem dX11_bestToAsk_59 : decode cX11_bestToAsk 59 = .ok (.iconst 1, 1) := by decide +kernel
theorem dX11_bestToAsk_60 : decode cX11_bestToAsk 60 = .ok (.iand, 1) := by decide +kernel
theorem dX11_bestToAsk_61 : decode cX11_bestToAsk 61 = .ok (.iadd, 1) := by decide +kernel
theorem dX11_bestToAsk_62 : decode cX11_bestToAsk 62 = .ok (.istore 6, 2) := by decide +kernel
theorem dX11_bestToAsk_64 : decode cX11_bestToAsk 64 = .ok (.iinc 7 1, 3) := by decide +kernel
theorem dX11_bestToAsk_67 : decode cX11_bestToAsk 67 = .ok (.goto (-44), 3) := by decide +kernel
theorem dX11_bestToAsk_70 : decode cX11_bestToAsk 70 = .ok (.iload 6, 2) := by decide +kernel
theorem dX11_bestToAsk_72 : decode cX11_bestToAsk 72 = .ok (.iload_n 2, 1) := by decide +kernel
theorem dX11_bestToAsk_73 : decode cX11_bestToAsk 73 = .ok (.iload 6, 2) := by decide +kernel
theorem dX11_bestToAsk_75 : decode cX11_bestToAsk 75 = .ok (.isub, 1) := by decide +kernel
theorem dX11_bestToAsk_76 : decode cX11_bestToAsk 76 = .ok (.invokestatic 340, 3) := by decide +kernel
theorem dX11_bestToAsk_79 : decode cX11_bestToAsk 79 = .ok (.istore 7, 2) := by decide +kernel
theorem dX11_bestToAsk_81 : decode cX11_bestToAsk 81 = .ok (.iload 7, 2) := by decide +kernel
theorem dX11_bestToAsk_83 : decode cX11_bestToAsk 83 = .ok (.iload 4, 2) := by decide +kernel
theorem dX11_bestToAsk_85 : decode cX11_bestToAsk 85 = .ok (.if_icmp .ge 10, 3) := by decide +kernel
theorem dX11_bestToAsk_88 : decode cX11_bestToAsk 88 = .ok (.iload 7, 2) := by decide +kernel
theorem dX11_bestToAsk_90 : decode cX11_bestToAsk 90 = .ok (.istore 4, 2) := by decide +kernel
theorem dX11_bestToAsk_92 : decode cX11_bestToAsk 92 = .ok (.iload 5, 2) := by decide +kernel
theorem dX11_bestToAsk_94 : decode cX11_bestToAsk 94 = .ok (.istore_n 3, 1) := by decide +kernel
theorem dX11_bestToAsk_95 : decode cX11_bestToAsk 95 = .ok (.iinc 5 1, 3) := by decide +kernel
theorem dX11_bestToAsk_98 : decode cX11_bestToAsk 98 = .ok (.goto (-88), 3) := by decide +kernel
theorem dX11_bestToAsk_101 : decode cX11_bestToAsk 101 = .ok (.iload_n 3, 1) := by decide +kernel
theorem dX11_bestToAsk_102 : decode cX11_bestToAsk 102 = .ok (.ireturn, 1) := by decide +kernel
set_option maxRecDepth 20000 in
theorem ggX11_oddOf_X5_hasBits : GoodIn wsX11_oddOf wsX5_hasBits := goodIn_r _ [9, 10, 11, 12, 13, 8, 14, 15, 16, 17, 18, 19, 20, 21, 22, 23, 24, 25, 26, 27, 42, 43, 44, 45, 46, 47, 48, 49, 50, 51, 52, 53, 54, 55, 56, 57, 58, 59, 60, 61, 62, 63, 64, 65, 66, 67, 68, 69, 70, 71, 72, 73, 74, 75, 76, 77, 78, 79, 80, 81, 82, 83, 84, 85, 86, 87, 88, 89, 90, 91, 92, 93, 94, 95, 96, 97, 98, 99, 100, 101, 102, 103, 104] (by decide +kernel) (by decide +kernel)
set_option maxRecDepth 20000 in
theorem gX11_oddOf_X5_hasBits_u177X0 : GoodIn wsX11_oddOf (va_wsU RX11 177 RX0 "CarbonCopies$Person" ⟨"CarbonCopies$Person", "hasBits", "(II)I"⟩ yX5_hasBits wsX5_hasBits) := goodIn_app (goodIn_of _ (by decide +kernel)) ggX11_oddOf_X5_hasBits
set_option maxRecDepth 20000 in
theorem gX11_oddOf_X5_hasBits_u177X1 : GoodIn wsX11_oddOf (va_wsU RX11 177 RX1 "CarbonCopies$Person" ⟨"CarbonCopies$Person", "hasBits", "(II)I"⟩ yX5_hasBits wsX5_hasBits) := goodIn_app (goodIn_of _ (by decide +kernel)) ggX11_oddOf_X5_hasBits
set_option maxRecDepth 20000 in
theorem gX11_oddOf_X5_hasBits_u177X2 : GoodIn wsX11_oddOf (va_wsU RX11 177 RX2 "CarbonCopies$Person" ⟨"CarbonCopies$Person", "hasBits", "(II)I"⟩ yX5_hasBits wsX5_hasBits) := goodIn_app (goodIn_of _ (by decide +kernel)) ggX11_oddOf_X5_hasBits
set_option maxRecDepth 20000 in
theorem gX11_oddOf_X5_hasBits_u177X3 : GoodIn wsX11_oddOf (va_wsU RX11 177 RX3 "CarbonCopies$Person" ⟨"CarbonCopies$Person", "hasBits", "(II)I"⟩ yX5_hasBits wsX5_hasBits) := goodIn_app (goodIn_of _ (by decide +kernel)) ggX11_oddOf_X5_hasBits
set_option maxRecDepth 20000 in
theorem gX11_oddOf_X5_hasBits : GoodIn wsX11_oddOf (wsV RX11 177 RX5 yX5_hasBits wsX5_hasBits) := goodIn_app (goodIn_of _ (by decide +kernel)) ggX11_oddOf_X5_hasBits
set_option maxRecDepth 20000 in
theorem gX11_oddOf_X5_hasBits_u177X8 : GoodIn wsX11_oddOf (va_wsU RX11 177 RX8 "CarbonCopies$Person" ⟨"CarbonCopies$Person", "hasBits", "(II)I"⟩ yX5_hasBits wsX5_hasBits) := goodIn_app (goodIn_of _ (by decide +kernel)) ggX11_oddOf_X5_hasBits
set_option maxRecDepth 20000 in
theorem gX11_oddOf_X5_hasBits_u177X10 : GoodIn wsX11_oddOf (va_wsU RX11 177 RX10 "CarbonCopies$Person" ⟨"CarbonCopies$Person", "hasBits", "(II)I"⟩ yX5_hasBits wsX5_hasBits) := goodIn_app (goodIn_of _ (by decide +kernel)) ggX11_oddOf_X5_hasBits
set_option maxRecDepth 20000 in
theorem ggX11_oddOf_J6_bitCount_0f7a4 : GoodIn wsX11_oddOf wsJ6_bitCount_0f7a4 := goodIn_r _ [38, 39, 40, 41] (by decide +kernel) (by decide +kernel)
set_option maxRecDepth 20000 in
theorem gX11_oddOf_J6_bitCount_0f7a4 : GoodIn wsX11_oddOf (va_wsS RX11 232 yJ6_bitCount_0f7a4 wsJ6_bitCount_0f7a4) := goodIn_app (goodIn_of _ (by decide +kernel)) ggX11_oddOf_J6_bitCount_0f7a4
theorem dX11_oddOf_0 : decode cX11_oddOf 0 = .ok (.aload_n 1, 1) := by decide +kernel
theorem dX11_oddOf_1 : decode cX11_oddOf 1 = .ok (.getfield 142, 3) := by decide +kernel
theorem dX11_oddOf_4 : decode cX11_oddOf 4 = .ok (.istore_n 2, 1) := by decide +kernel
theorem dX11_oddOf_5 : decode cX11_oddOf 5 = .ok (.iconst (-1), 1) := by decide +kernel
theorem dX11_oddOf_6 : decode cX11_oddOf 6 = .ok (.istore_n 3, 1) := by decide +kernel
theorem dX11_oddOf_7 : decode cX11_oddOf 7 = .ok (.aload_n 1, 1) := by decide +kernel
theorem dX11_oddOf_8 : decode cX11_oddOf 8 = .ok (.getfield 142, 3) := by decide +kernel
theorem dX11_oddOf_11 : decode cX11_oddOf 11 = .ok (.istore 4, 2) := by decide +kernel
theorem dX11_oddOf_13 : decode cX11_oddOf 13 = .ok (.iload 4, 2) := by decide +kernel
theorem dX11_oddOf_15 : decode cX11_oddOf 15 = .ok (.bipush 6, 2) := by decide +kernel
theorem dX11_oddOf_17 : decode cX11_oddOf 17 = .ok (.if_icmp .ge 82, 3) := by decide +kernel
theorem dX11_oddOf_20 : decode cX11_oddOf 20 = .ok (.aload_n 1, 1) := by decide +kernel
theorem dX11_oddOf_21 : decode cX11_oddOf 21 = .ok (.iload 4, 2) := by decide +kernel
theorem dX11_oddOf_23 : decode cX11_oddOf 23 = .ok (.aload_n 0, 1) := by decide +kernel
theorem dX11_oddOf_24 : decode cX11_oddOf 24 = .ok (.getfield 31, 3) := by decide +kernel
theorem dX11_oddOf_27 : decode cX11_oddOf 27 = .ok (.getfield 155, 3) := by decide +kernel
theorem dX11_oddOf_30 : decode cX11_oddOf 30 = .ok (.invokevirtual 177, 3) := by decide +kernel
theorem dX11_oddOf_33 : decode cX11_oddOf 33 = .ok (.istore 5, 2) := by decide +kernel
theorem dX11_oddOf_35 : decode cX11_oddOf 35 = .ok (.iconst 0, 1) := by decide +kernel
theorem dX11_oddOf_36 : decode cX11_oddOf 36 = .ok (.istore 6, 2) := by decide +kernel
theorem dX11_oddOf_38 : decode cX11_oddOf 38 = .ok (.aload_n 1, 1) := by decide +kernel
theorem dX11_oddOf_39 : decode cX11_oddOf 39 = .ok (.getfield 142, 3) := by decide +kernel
theorem dX11_oddOf_42 : decode cX11_oddOf 42 = .ok (.istore 7, 2) := by decide +kernel
theorem dX11_oddOf_44 : decode cX11_oddOf 44 = .ok (.iload 7, 2) := by decide +kernel
theorem dX11_oddOf_46 : decode cX11_oddOf 46 = .ok (.bipush 6, 2) := by decide +kernel
theorem dX11_oddOf_48 : decode cX11_oddOf 48 = .ok (.if_icmp .ge 33, 3) := by decide +kernel
theorem dX11_oddOf_51 : decode cX11_oddOf 51 = .ok (.iload 6, 2) := by decide +kernel
theorem dX11_oddOf_53 : decode cX11_oddOf 53 = .ok (.iload 5, 2) := by decide +kernel
theorem dX11_oddOf_55 : decode cX11_oddOf 55 = .ok (.aload_n 1, 1) := by decide +kernel
theorem dX11_oddOf_56 : decode cX11_oddOf 56 = .ok (.iload 7, 2) := by decide +kernel
theorem dX11_oddOf_58 : decode cX11_oddOf 58 = .ok (.aload_n 0, 1) := by decide +kernel
theorem dX11_oddOf_59 : decode cX11_oddOf 59 = .ok (.getfield 31, 3) := by decide +kernel
theorem dX11_oddOf_62 : decode cX11_oddOf 62 = .ok (.getfield 155, 3) := by decide +kernel
theorem dX11_oddOf_65 : decode cX11_oddOf 65 = .ok (.invokevirtual 177, 3) := by decide +kernel
theorem dX11_oddOf_68 : decode cX11_oddOf 68 = .ok (.ixor, 1) := by decide +kernel
theorem dX11_oddOf_69 : decode cX11_oddOf 69 = .ok (.invokestatic 232, 3) := by decide +kernel
theorem dX11_oddOf_72 : decode cX11_oddOf 72 = .ok (.iadd, 1) := by decide +kernel
theorem dX11_oddOf_73 : decode cX11_oddOf 73 = .ok (.istore 6, 2) := by decide +kernel
theorem dX11_oddOf_75 : decode cX11_oddOf 75 = .ok (.iinc 7 1, 3) := by decide +kernel
theorem dX11_oddOf_78 : decode cX11_oddOf 78 = .ok (.goto (-34), 3) := by decide +kernel
theorem dX11_oddOf_81 : decode cX11_oddOf 81 = .ok (.iload 6, 2) := by decide +kernel
theorem dX11_oddOf_83 : decode cX11_oddOf 83 = .ok (.iload_n 3, 1) := by decide +kernel
theorem dX11_oddOf_84 : decode cX11_oddOf 84 = .ok (.if_icmp .le 9, 3) := by decide +kernel
theorem dX11_oddOf_87 : decode cX11_oddOf 87 = .ok (.iload 6, 2) := by decide +kernel
theorem dX11_oddOf_89 : decode cX11_oddOf 89 = .ok (.istore_n 3, 1) := by decide +kernel
theorem dX11_oddOf_90 : decode cX11_oddOf 90 = .ok (.iload 4, 2) := by decide +kernel
theorem dX11_oddOf_92 : decode cX11_oddOf 92 = .ok (.istore_n 2, 1) := by decide +kernel
theorem dX11_oddOf_93 : decode cX11_oddOf 93 = .ok (.iinc 4 1, 3) := by decide +kernel
theorem dX11_oddOf_96 : decode cX11_oddOf 96 = .ok (.goto (-83), 3) := by decide +kernel
theorem dX11_oddOf_99 : decode cX11_oddOf 99 = .ok (.iload_n 2, 1) := by decide +kernel
theorem dX11_oddOf_100 : decode cX11_oddOf 100 = .ok (.ireturn, 1) := by decide +kernel
set_option maxRecDepth 20000 in
theorem ggX11_pairBest_X5_hasBits : GoodIn wsX11_pairBest wsX5_hasBits := goodIn_r _ [12, 13, 14, 15, 16, 11, 17, 18, 19, 20, 21, 22, 23, 24, 25, 26, 27, 28, 29, 30, 98, 99, 100, 101, 102, 103, 104, 105, 106, 107, 108, 109, 110, 111, 112, 113, 114, 115, 116, 117, 118, 119, 120, 121, 122, 123, 124, 125, 126, 127, 128, 129, 130, 131, 132, 133, 134, 135, 136, 137, 138, 139, 140, 141, 142, 143, 144, 145, 146, 147, 148, 149, 150, 151, 152, 153, 154, 155, 156, 157, 158, 159, 160] (by decide +kernel) (by decide +kernel)
set_option maxRecDepth 20000 in
theorem gX11_pairBest_X5_hasBits_u177X0 : GoodIn wsX11_pairBest (va_wsU RX11 177 RX0 "CarbonCopies$Person" ⟨"CarbonCopies$Person", "hasBits", "(II)I"⟩ yX5_hasBits wsX5_hasBits) := goodIn_app (goodIn_of _ (by decide +kernel)) ggX11_pairBest_X5_hasBits
set_option maxRecDepth 20000 in
theorem gX11_pairBest_X5_hasBits_u177X1 : GoodIn wsX11_pairBest (va_wsU RX11 177 RX1 "CarbonCopies$Person" ⟨"CarbonCopies$Person", "hasBits", "(II)I"⟩ yX5_hasBits wsX5_hasBits) := goodIn_app (goodIn_of _ (by decide +kernel)) ggX11_pairBest_X5_hasBits
set_option maxRecDepth 20000 in
theorem gX11_pairBest_X5_hasBits_u177X2 : GoodIn wsX11_pairBest (va_wsU RX11 177 RX2 "CarbonCopies$Person" ⟨"CarbonCopies$Person", "hasBits", "(II)I"⟩ yX5_hasBits wsX5_hasBits) := goodIn_app (goodIn_of _ (by decide +kernel)) ggX11_pairBest_X5_hasBits
set_option maxRecDepth 20000 in
theorem gX11_pairBest_X5_hasBits_u177X3 : GoodIn wsX11_pairBest (va_wsU RX11 177 RX3 "CarbonCopies$Person" ⟨"CarbonCopies$Person", "hasBits", "(II)I"⟩ yX5_hasBits wsX5_hasBits) := goodIn_app (goodIn_of _ (by decide +kernel)) ggX11_pairBest_X5_hasBits
set_option maxRecDepth 20000 in
theorem gX11_pairBest_X5_hasBits : GoodIn wsX11_pairBest (wsV RX11 177 RX5 yX5_hasBits wsX5_hasBits) := goodIn_app (goodIn_of _ (by decide +kernel)) ggX11_pairBest_X5_hasBits
set_option maxRecDepth 20000 in
theorem gX11_pairBest_X5_hasBits_u177X8 : GoodIn wsX11_pairBest (va_wsU RX11 177 RX8 "CarbonCopies$Person" ⟨"CarbonCopies$Person", "hasBits", "(II)I"⟩ yX5_hasBits wsX5_hasBits) := goodIn_app (goodIn_of _ (by decide +kernel)) ggX11_pairBest_X5_hasBits
set_option maxRecDepth 20000 in
theorem gX11_pairBest_X5_hasBits_u177X10 : GoodIn wsX11_pairBest (va_wsU RX11 177 RX10 "CarbonCopies$Person" ⟨"CarbonCopies$Person", "hasBits", "(II)I"⟩ yX5_hasBits wsX5_hasBits) := goodIn_app (goodIn_of _ (by decide +kernel)) ggX11_pairBest_X5_hasBits
set_option maxRecDepth 20000 in
theorem ggX11_pairBest_J7_fill_53178 : GoodIn wsX11_pairBest wsJ7_fill_53178 := goodIn_r _ [41] (by decide +kernel) (by decide +kernel)
set_option maxRecDepth 20000 in
theorem gX11_pairBest_J7_fill_53178 : GoodIn wsX11_pairBest (va_wsS RX11 345 yJ7_fill_53178 wsJ7_fill_53178) := goodIn_app (goodIn_of _ (by decide +kernel)) ggX11_pairBest_J7_fill_53178
set_option maxRecDepth 20000 in
theorem ggX11_pairBest_X5_isLeft : GoodIn wsX11_pairBest wsX5_isLeft := goodIn_r _ [46, 47, 19, 20, 21, 98, 99, 100, 101, 102, 103, 104, 105, 106, 107, 108, 109, 110, 111, 112, 113, 114, 115, 116, 117, 118, 119, 120, 121, 122, 123, 124, 125, 126, 127, 128, 129, 130, 131, 132, 133, 134, 135, 136, 137, 138, 139, 140, 141, 142, 143, 144, 145, 146, 147, 148, 149, 150, 151, 152, 153, 154, 155, 156, 157, 158, 159, 160] (by decide +kernel) (by decide +kernel)
set_option maxRecDepth 20000 in
theorem gX11_pairBest_X5_isLeft_u181X0 : GoodIn wsX11_pairBest (va_wsU RX11 181 RX0 "CarbonCopies$Person" ⟨"CarbonCopies$Person", "isLeft", "(I)Z"⟩ yX5_isLeft wsX5_isLeft) := goodIn_app (goodIn_of _ (by decide +kernel)) ggX11_pairBest_X5_isLeft
set_option maxRecDepth 20000 in
theorem gX11_pairBest_X5_isLeft_u181X1 : GoodIn wsX11_pairBest (va_wsU RX11 181 RX1 "CarbonCopies$Person" ⟨"CarbonCopies$Person", "isLeft", "(I)Z"⟩ yX5_isLeft wsX5_isLeft) := goodIn_app (goodIn_of _ (by decide +kernel)) ggX11_pairBest_X5_isLeft
set_option maxRecDepth 20000 in
theorem gX11_pairBest_X5_isLeft_u181X2 : GoodIn wsX11_pairBest (va_wsU RX11 181 RX2 "CarbonCopies$Person" ⟨"CarbonCopies$Person", "isLeft", "(I)Z"⟩ yX5_isLeft wsX5_isLeft) := goodIn_app (goodIn_of _ (by decide +kernel)) ggX11_pairBest_X5_isLeft
set_option maxRecDepth 20000 in
theorem gX11_pairBest_X5_isLeft_u181X3 : GoodIn wsX11_pairBest (va_wsU RX11 181 RX3 "CarbonCopies$Person" ⟨"CarbonCopies$Person", "isLeft", "(I)Z"⟩ yX5_isLeft wsX5_isLeft) := goodIn_app (goodIn_of _ (by decide +kernel)) ggX11_pairBest_X5_isLeft
set_option maxRecDepth 20000 in
theorem gX11_pairBest_X5_isLeft : GoodIn wsX11_pairBest (wsV RX11 181 RX5 yX5_isLeft wsX5_isLeft) := goodIn_app (goodIn_of _ (by decide +kernel)) ggX11_pairBest_X5_isLeft
set_option maxRecDepth 20000 in
theorem gX11_pairBest_X5_isLeft_u181X8 : GoodIn wsX11_pairBest (va_wsU RX11 181 RX8 "CarbonCopies$Person" ⟨"CarbonCopies$Person", "isLeft", "(I)Z"⟩ yX5_isLeft wsX5_isLeft) := goodIn_app (goodIn_of _ (by decide +kernel)) ggX11_pairBest_X5_isLeft
set_option maxRecDepth 20000 in
theorem gX11_pairBest_X5_isLeft_u181X10 : GoodIn wsX11_pairBest (va_wsU RX11 181 RX10 "CarbonCopies$Person" ⟨"CarbonCopies$Person", "isLeft", "(I)Z"⟩ yX5_isLeft wsX5_isLeft) := goodIn_app (goodIn_of _ (by decide +kernel)) ggX11_pairBest_X5_isLeft
set_option maxRecDepth 20000 in
theorem ggX11_pairBest_X11_bestFrom : GoodIn wsX11_pairBest wsX11_bestFrom := goodIn_r _ [58, 5, 59, 60, 61, 62, 42, 43, 44, 45, 11, 46, 47, 19, 20, 21, 48, 49, 50, 51, 52, 53, 54, 63, 64, 65, 66, 1, 4, 67, 68, 69, 70, 71, 72, 73, 78, 79, 80, 81, 82, 83, 84, 85, 86, 87, 88, 89, 90, 91, 98, 99, 100, 101, 102, 103, 104, 105, 106, 107, 108, 109, 110, 111, 112, 113, 114, 115, 116, 117, 118, 119, 120, 121, 122, 123, 124, 125, 126, 127, 128, 129, 130, 131, 132, 133, 134, 135, 136, 137, 138, 139, 140, 141, 142, 143, 144, 145, 146, 147, 148, 149, 150, 151, 152, 153, 154, 155, 156, 157, 158, 159, 160] (by decide +kernel) (by decide +kernel)
set_option maxRecDepth 20000 in
theorem gX11_pairBest_X11_bestFrom : GoodIn wsX11_pairBest (wsV RX11 351 RX11 yX11_bestFrom wsX11_bestFrom) := goodIn_app (goodIn_of _ (by decide +kernel)) ggX11_pairBest_X11_bestFrom
set_option maxRecDepth 20000 in
theorem ggX11_pairBest_X11_firstBest : GoodIn wsX11_pairBest wsX11_firstBest := goodIn_r _ [77, 5, 42, 43, 44, 45, 11, 46, 47, 19, 20, 21, 48, 49, 50, 51, 52, 53, 54, 63, 64, 65, 66, 1, 4, 67, 68, 69, 70, 71, 72, 73, 78, 79, 80, 81, 82, 83, 84, 85, 86, 87, 88, 89, 90, 91, 98, 99, 100, 101, 102, 103, 104, 105, 106, 107, 108, 109, 110, 111, 112, 113, 114, 115, 116, 117, 118, 119, 120, 121, 122, 123, 124, 125, 126, 127, 128, 129, 130, 131, 132, 133, 134, 135, 136, 137, 138, 139, 140, 141, 142, 143, 144, 145, 146, 147, 148, 149, 150, 151, 152, 153, 154, 155, 156, 157, 158, 159, 160] (by decide +kernel) (by decide +kernel)
set_option maxRecDepth 20000 in
theorem gX11_pairBest_X11_firstBest : GoodIn wsX11_pairBest (wsV RX11 355 RX11 yX11_firstBest wsX11_firstBest) := goodIn_app (goodIn_of _ (by decide +kernel)) ggX11_pairBest_X11_firstBest
theorem dX11_pairBest_0 : decode cX11_pairBest 0 = .ok (.iconst 0, 1) := by decide +kernel
theorem dX11_pairBest_1 : decode cX11_pairBest 1 = .ok (.istore_n 3, 1) := by decide +kernel
theorem dX11_pairBest_2 : decode cX11_pairBest 2 = .ok (.iload_n 3, 1) := by decide +kernel
theorem dX11_pairBest_3 : decode cX11_pairBest 3 = .ok (.bipush 6, 2) := by decide +kernel
theorem dX11_pairBest_5 : decode cX11_pairBest 5 = .ok (.if_icmp .ge 45, 3) := by decide +kernel
theorem dX11_pairBest_8 : decode cX11_pairBest 8 = .ok (.aload_n 0, 1) := by decide +kernel
theorem dX11_pairBest_9 : decode cX11_pairBest 9 = .ok (.getfield 53, 3) := by decide +kernel
theorem dX11_pairBest_12 : decode cX11_pairBest 12 = .ok (.iload_n 3, 1) := by decide +kernel
theorem dX11_pairBest_13 : decode cX11_pairBest 13 = .ok (.aload_n 1, 1) := by decide +kernel
theorem dX11_pairBest_14 : decode cX11_pairBest 14 = .ok (.iload_n 3, 1) := by decide +kernel
theorem dX11_pairBest_15 : decode cX11_pairBest 15 = .ok (.aload_n 0, 1) := by decide +kernel
theorem dX11_pairBest_16 : decode cX11_pairBest 16 = .ok (.getfield 31, 3) := by decide +kernel
theorem dX11_pairBest_19 : decode cX11_pairBest 19 = .ok (.getfield 155, 3) := by decide +kernel
theorem dX11_pairBest_22 : decode cX11_pairBest 22 = .ok (.invokevirtual 177, 3) := by decide +kernel
theorem dX11_pairBest_25 : decode cX11_pairBest 25 = .ok (.iastore, 1) := by decide +kernel
theorem dX11_pairBest_26 : decode cX11_pairBest 26 = .ok (.aload_n 0, 1) := by decide +kernel
theorem dX11_pairBest_27 : decode cX11_pairBest 27 = .ok (.getfield 56, 3) := by decide +kernel
theorem dX11_pairBest_30 : decode cX11_pairBest 30 = .ok (.iload_n 3, 1) := by decide +kernel
theorem dX11_pairBest_31 : decode cX11_pairBest 31 = .ok (.aload_n 2, 1) := by decide +kernel
theorem dX11_pairBest_32 : decode cX11_pairBest 32 = .ok (.iload_n 3, 1) := by decide +kernel
theorem dX11_pairBest_33 : decode cX11_pairBest 33 = .ok (.aload_n 0, 1) := by decide +kernel
theorem dX11_pairBest_34 : decode cX11_pairBest 34 = .ok (.getfield 31, 3) := by decide +kernel
theorem dX11_pairBest_37 : decode cX11_pairBest 37 = .ok (.getfield 155, 3) := by decide +kernel
theorem dX11_pairBest_40 : decode cX11_pairBest 40 = .ok (.invokevirtual 177, 3) := by decide +kernel
theorem dX11_pairBest_43 : decode cX11_pairBest 43 = .ok (.iastore, 1) := by decide +kernel
theorem dX11_pairBest_44 : decode cX11_pairBest 44 = .ok (.iinc 3 1, 3) := by decide +kernel
theorem dX11_pairBest_47 : decode cX11_pairBest 47 = .ok (.goto (-45), 3) := by decide +kernel
theorem dX11_pairBest_50 : decode cX11_pairBest 50 = .ok (.iconst 0, 1) := by decide +kernel
theorem dX11_pairBest_51 : decode cX11_pairBest 51 = .ok (.istore_n 3, 1) := by decide +kernel
theorem dX11_pairBest_52 : decode cX11_pairBest 52 = .ok (.aload_n 0, 1) := by decide +kernel
theorem dX11_pairBest_53 : decode cX11_pairBest 53 = .ok (.getfield 64, 3) := by decide +kernel
theorem dX11_pairBest_56 : decode cX11_pairBest 56 = .ok (.bipush 6, 2) := by decide +kernel
theorem dX11_pairBest_58 : decode cX11_pairBest 58 = .ok (.aaload, 1) := by decide +kernel
theorem dX11_pairBest_59 : decode cX11_pairBest 59 = .ok (.iconst 0, 1) := by decide +kernel
theorem dX11_pairBest_60 : decode cX11_pairBest 60 = .ok (.invokestatic 345, 3) := by decide +kernel
theorem dX11_pairBest_63 : decode cX11_pairBest 63 = .ok (.iconst 5, 1) := by decide +kernel
theorem dX11_pairBest_64 : decode cX11_pairBest 64 = .ok (.istore 4, 2) := by decide +kernel
theorem dX11_pairBest_66 : decode cX11_pairBest 66 = .ok (.iload 4, 2) := by decide +kernel
theorem dX11_pairBest_68 : decode cX11_pairBest 68 = .ok (.ifCond .lt 63, 3) := by decide +kernel
theorem dX11_pairBest_71 : decode cX11_pairBest 71 = .ok (.aload_n 1, 1) := by decide +kernel
theorem dX11_pairBest_72 : decode cX11_pairBest 72 = .ok (.iload 4, 2) := by decide +kernel
theorem dX11_pairBest_74 : decode cX11_pairBest 74 = .ok (.invokevirtual 181, 3) := by decide +kernel
theorem dX11_pairBest_77 : decode cX11_pairBest 77 = .ok (.ifCond .eq 54, 3) := by decide +kernel
theorem dX11_pairBest_80 : decode cX11_pairBest 80 = .ok (.iconst 0, 1) := by decide +kernel
theorem dX11_pairBest_81 : decode cX11_pairBest 81 = .ok (.istore 5, 2) := by decide +kernel
theorem dX11_pairBest_83 : decode cX11_pairBest 83 = .ok (.iload 5, 2) := by decide +kernel
theorem dX11_pairBest_85 : decode cX11_pairBest 85 = .ok (.bipush 64, 2) := by decide +kernel
theorem dX11_pairBest_87 : decode cX11_pairBest 87 = .ok (.if_icmp .ge 28, 3) := by decide +kernel
theorem dX11_pairBest_90 : decode cX11_pairBest 90 = .ok (.aload_n 0, 1) := by decide +kernel
theorem dX11_pairBest_91 : decode cX11_pairBest 91 = .ok (.getfield 64, 3) := by decide +kernel
theorem dX11_pairBest_94 : decode cX11_pairBest 94 = .ok (.iload 4, 2) := by decide +kernel
theorem dX11_pairBest_96 : decode cX11_pairBest 96 = .ok (.aaload, 1) := by decide +kernel
theorem dX11_pairBest_97 : decode cX11_pairBest 97 = .ok (.iload 5, 2) := by decide +kernel
theorem dX11_pairBest_99 : decode cX11_pairBest 99 = .ok (.aload_n 0, 1) := by decide +kernel
theorem dX11_pairBest_100 : decode cX11_pairBest 100 = .ok (.iload 4, 2) := by decide +kernel
theorem dX11_pairBest_102 : decode cX11_pairBest 102 = .ok (.iload 5, 2) := by decide +kernel
theorem dX11_pairBest_104 : decode cX11_pairBest 104 = .ok (.aload_n 2, 1) := by decide +kernel
theorem dX11_pairBest_105 : decode cX11_pairBest 105 = .ok (.invokevirtual 351, 3) := by decide +kernel
theorem dX11_pairBest_108 : decode cX11_pairBest 108 = .ok (.iastore, 1) := by decide +kernel
theorem dX11_pairBest_109 : decode cX11_pairBest 109 = .ok (.iinc 5 1, 3) := by decide +kernel
theorem dX11_pairBest_112 : decode cX11_pairBest 112 = .ok (.goto (-29), 3) := by decide +kernel
theorem dX11_pairBest_115 : decode cX11_pairBest 115 = .ok (.aload_n 0, 1) := by decide +kernel
theorem dX11_pairBest_116 : decode cX11_pairBest 116 = .ok (.getfield 64, 3) := by decide +kernel
theorem dX11_pairBest_119 : decode cX11_pairBest 119 = .ok (.iload 4, 2) := by decide +kernel
theorem dX11_pairBest_121 : decode cX11_pairBest 121 = .ok (.aaload, 1) := by decide +kernel
theorem dX11_pairBest_122 : decode cX11_pairBest 122 = .ok (.iconst 0, 1) := by decide +kernel
theorem dX11_pairBest_123 : decode cX11_pairBest 123 = .ok (.iaload, 1) := by decide +kernel
theorem dX11_pairBest_124 : decode cX11_pairBest 124 = .ok (.istore_n 3, 1) := by decide +kernel
theorem dX11_pairBest_125 : decode cX11_pairBest 125 = .ok (.iinc 4 (-1), 3) := by decide +kernel
theorem dX11_pairBest_128 : decode cX11_pairBest 128 = .ok (.goto (-62), 3) := by decide +kernel
theorem dX11_pairBest_131 : decode cX11_pairBest 131 = .ok (.iconst 0, 1) := by decide +kernel
theorem dX11_pairBest_132 : decode cX11_pairBest 132 = .ok (.istore 4, 2) := by decide +kernel
theorem dX11_pairBest_134 : decode cX11_pairBest 134 = .ok (.iconst 0, 1) := by decide +kernel
theorem dX11_pairBest_135 : decode cX11_pairBest 135 = .ok (.istore 5, 2) := by decide +kernel
theorem dX11_pairBest_137 : decode cX11_pairBest 137 = .ok (.iload 5, 2) := by decide +kernel
theorem dX11_pairBest_139 : decode cX11_pairBest 139 = .ok (.bipush 6, 2) := by decide +kernel
theorem dX11_pairBest_141 : decode cX11_pairBest 141 = .ok (.if_icmp .ge 61, 3) := by decide +kernel
theorem dX11_pairBest_144 : decode cX11_pairBest 144 = .ok (.aload_n 1, 1) := by decide +kernel
theorem dX11_pairBest_145 : decode cX11_pairBest 145 = .ok (.iload 5, 2) := by decide +kernel
theorem dX11_pairBest_147 : decode cX11_pairBest 147 = .ok (.invokevirtual 181, 3) := by decide +kernel
theorem dX11_pairBest_150 : decode cX11_pairBest 150 = .ok (.ifCond .eq 15, 3) := by decide +kernel
theorem dX11_pairBest_153 : decode cX11_pairBest 153 = .ok (.aload_n 0, 1) := by decide +kernel
theorem dX11_pairBest_154 : decode cX11_pairBest 154 = .ok (.iload 5, 2) := by decide +kernel
theorem dX11_pairBest_156 : decode cX11_pairBest 156 = .ok (.iload 4, 2) := by decide +kernel
theorem dX11_pairBest_158 : decode cX11_pairBest 158 = .ok (.aload_n 2, 1) := by decide +kernel
theorem dX11_pairBest_159 : decode cX11_pairBest 159 = .ok (.invokevirtual 355, 3) := by decide +kernel
theorem dX11_pairBest_162 : decode cX11_pairBest 162 = .ok (.goto 4, 3) := by decide +kernel
theorem dX11_pairBest_165 : decode cX11_pairBest 165 = .ok (.iconst (-1), 1) := by decide +kernel
theorem dX11_pairBest_166 : decode cX11_pairBest 166 = .ok (.istore 6, 2) := by decide +kernel
theorem dX11_pairBest_168 : decode cX11_pairBest 168 = .ok (.aload_n 0, 1) := by decide +kernel
theorem dX11_pairBest_169 : decode cX11_pairBest 169 = .ok (.getfield 59, 3) := by decide +kernel
theorem dX11_pairBest_172 : decode cX11_pairBest 172 = .ok (.iload 5, 2) := by decide +kernel
theorem dX11_pairBest_174 : decode cX11_pairBest 174 = .ok (.iload 6, 2) := by decide +kernel
theorem dX11_pairBest_176 : decode cX11_pairBest 176 = .ok (.iastore, 1) := by decide +kernel
theorem dX11_pairBest_177 : decode cX11_pairBest 177 = .ok (.iload 4, 2) := by decide +kernel
theorem dX11_pairBest_179 : decode cX11_pairBest 179 = .ok (.iload 6, 2) := by decide +kernel
theorem dX11_pairBest_181 : decode cX11_pairBest 181 = .ok (.iconst (-1), 1) := by decide +kernel
theorem dX11_pairBest_182 : decode cX11_pairBest 182 = .ok (.if_icmp .ne 7, 3) := by decide +kernel
theorem dX11_pairBest_185 : decode cX11_pairBest 185 = .ok (.iconst 0, 1) := by decide +kernel
theorem dX11_pairBest_186 : decode cX11_pairBest 186 = .ok (.goto 7, 3) := by decide +kernel
theorem dX11_pairBest_189 : decode cX11_pairBest 189 = .ok (.iconst 1, 1) := by decide +kernel
theorem dX11_pairBest_190 : decode cX11_pairBest 190 = .ok (.iload 6, 2) := by decide +kernel
theorem dX11_pairBest_192 : decode cX11_pairBest 192 = .ok (.ishl, 1) := by decide +kernel
theorem dX11_pairBest_193 : decode cX11_pairBest 193 = .ok (.ior, 1) := by decide +kernel
theorem dX11_pairBest_194 : decode cX11_pairBest 194 = .ok (.istore 4, 2) := by decide +kernel
theorem dX11_pairBest_196 : decode cX11_pairBest 196 = .ok (.iinc 5 1, 3) := by decide +kernel
theorem dX11_pairBest_199 : decode cX11_pairBest 199 = .ok (.goto (-62), 3) := by decide +kernel
theorem dX11_pairBest_202 : decode cX11_pairBest 202 = .ok (.iload_n 3, 1) := by decide +kernel
theorem dX11_pairBest_203 : decode cX11_pairBest 203 = .ok (.ireturn, 1) := by decide +kernel
set_option maxRecDepth 20000 in
theorem ggX11_bestFrom_X5_isLeft : GoodIn wsX11_bestFrom wsX5_isLeft := goodIn_r _ [11, 12, 13, 14, 15, 50, 51, 52, 53, 54, 55, 56, 57, 58, 59, 60, 61, 62, 63, 64, 65, 66, 67, 68, 69, 70, 71, 72, 73, 74, 75, 76, 77, 78, 79, 80, 81, 82, 83, 84, 85, 86, 87, 88, 89, 90, 91, 92, 93, 94, 95, 96, 97, 98, 99, 100, 101, 102, 103, 104, 105, 106, 107, 108, 109, 110, 111, 112] (by decide +kernel) (by decide +kernel)
set_option maxRecDepth 20000 in
theorem gX11_bestFrom_X5_isLeft_u181X0 : GoodIn wsX11_bestFrom (va_wsU RX11 181 RX0 "CarbonCopies$Person" ⟨"CarbonCopies$Person", "isLeft", "(I)Z"⟩ yX5_isLeft wsX5_isLeft) := goodIn_app (goodIn_of _ (by decide +kernel)) ggX11_bestFrom_X5_isLeft
set_option maxRecDepth 20000 in
theorem gX11_bestFrom_X5_isLeft_u181X1 : GoodIn wsX11_bestFrom (va_wsU RX11 181 RX1 "CarbonCopies$Person" ⟨"CarbonCopies$Person", "isLeft", "(I)Z"⟩ yX5_isLeft wsX5_isLeft) := goodIn_app (goodIn_of _ (by decide +kernel)) ggX11_bestFrom_X5_isLeft
set_option maxRecDepth 20000 in
theorem gX11_bestFrom_X5_isLeft_u181X2 : GoodIn wsX11_bestFrom (va_wsU RX11 181 RX2 "CarbonCopies$Person" ⟨"CarbonCopies$Person", "isLeft", "(I)Z"⟩ yX5_isLeft wsX5_isLeft) := goodIn_app (goodIn_of _ (by decide +kernel)) ggX11_bestFrom_X5_isLeft
set_option maxRecDepth 20000 in
theorem gX11_bestFrom_X5_isLeft_u181X3 : GoodIn wsX11_bestFrom (va_wsU RX11 181 RX3 "CarbonCopies$Person" ⟨"CarbonCopies$Person", "isLeft", "(I)Z"⟩ yX5_isLeft wsX5_isLeft) := goodIn_app (goodIn_of _ (by decide +kernel)) ggX11_bestFrom_X5_isLeft
set_option maxRecDepth 20000 in
theorem gX11_bestFrom_X5_isLeft : GoodIn wsX11_bestFrom (wsV RX11 181 RX5 yX5_isLeft wsX5_isLeft) := goodIn_app (goodIn_of _ (by decide +kernel)) ggX11_bestFrom_X5_isLeft
set_option maxRecDepth 20000 in
theorem gX11_bestFrom_X5_isLeft_u181X8 : GoodIn wsX11_bestFrom (va_wsU RX11 181 RX8 "CarbonCopies$Person" ⟨"CarbonCopies$Person", "isLeft", "(I)Z"⟩ yX5_isLeft wsX5_isLeft) := goodIn_app (goodIn_of _ (by decide +kernel)) ggX11_bestFrom_X5_isLeft
set_option maxRecDepth 20000 in
theorem gX11_bestFrom_X5_isLeft_u181X10 : GoodIn wsX11_bestFrom (va_wsU RX11 181 RX10 "CarbonCopies$Person" ⟨"CarbonCopies$Person", "isLeft", "(I)Z"⟩ yX5_isLeft wsX5_isLeft) := goodIn_app (goodIn_of _ (by decide +kernel)) ggX11_bestFrom_X5_isLeft
set_option maxRecDepth 20000 in
theorem ggX11_bestFrom_X11_bestWith : GoodIn wsX11_bestFrom wsX11_bestWith := goodIn_r _ [26, 27, 28, 1, 29, 30, 31, 32, 33, 34, 35, 36, 37, 38, 39, 40, 41, 42, 43, 44, 45, 46, 47, 48, 49] (by decide +kernel) (by decide +kernel)
set_option maxRecDepth 20000 in
theorem gX11_bestFrom_X11_bestWith : GoodIn wsX11_bestFrom (wsV RX11 358 RX11 yX11_bestWith wsX11_bestWith) := goodIn_app (goodIn_of _ (by decide +kernel)) ggX11_bestFrom_X11_bestWith
theorem dX11_bestFrom_0 : decode cX11_bestFrom 0 = .ok (.aload_n 0, 1) := by decide +kernel
theorem dX11_bestFrom_1 : decode cX11_bestFrom 1 = .ok (.getfield 64, 3) := by decide +kernel
theorem dX11_bestFrom_4 : decode cX11_bestFrom 4 = .ok (.iload_n 1, 1) := by decide +kernel
theorem dX11_bestFrom_5 : decode cX11_bestFrom 5 = .ok (.iconst 1, 1) := by decide +kernel
theorem dX11_bestFrom_6 : decode cX11_bestFrom 6 = .ok (.iadd, 1) := by decide +kernel
theorem dX11_bestFrom_7 : decode cX11_bestFrom 7 = .ok (.aaload, 1) := by decide +kernel
theorem dX11_bestFrom_8 : decode cX11_bestFrom 8 = .ok (.iload_n 2, 1) := by decide +kernel
theorem dX11_bestFrom_9 : decode cX11_bestFrom 9 = .ok (.iaload, 1) := by decide +kernel
theorem dX11_bestFrom_10 : decode cX11_bestFrom 10 = .ok (.istore 4, 2) := by decide +kernel
theorem dX11_bestFrom_12 : decode cX11_bestFrom 12 = .ok (.iconst 0, 1) := by decide +kernel
theorem dX11_bestFrom_13 : decode cX11_bestFrom 13 = .ok (.istore 5, 2) := by decide +kernel
theorem dX11_bestFrom_15 : decode cX11_bestFrom 15 = .ok (.iload 5, 2) := by decide +kernel
theorem dX11_bestFrom_17 : decode cX11_bestFrom 17 = .ok (.bipush 6, 2) := by decide +kernel
theorem dX11_bestFrom_19 : decode cX11_bestFrom 19 = .ok (.if_icmp .ge 42, 3) := by decide +kernel
theorem dX11_bestFrom_22 : decode cX11_bestFrom 22 = .ok (.aload_n 3, 1) := by decide +kernel
theorem dX11_bestFrom_23 : decode cX11_bestFrom 23 = .ok (.iload 5, 2) := by decide +kernel
theorem dX11_bestFrom_25 : decode cX11_bestFrom 25 = .ok (.invokevirtual 181, 3) := by decide +kernel
theorem dX11_bestFrom_28 : decode cX11_bestFrom 28 = .ok (.ifCond .eq 27, 3) := by decide +kernel
theorem dX11_bestFrom_31 : decode cX11_bestFrom 31 = .ok (.iload_n 2, 1) := by decide +kernel
theorem dX11_bestFrom_32 : decode cX11_bestFrom 32 = .ok (.iload 5, 2) := by decide +kernel
theorem dX11_bestFrom_34 : decode cX11_bestFrom 34 = .ok (.ishr, 1) := by decide +kernel
theorem dX11_bestFrom_35 : decode cX11_bestFrom 35 = .ok (.iconst 1, 1) := by decide +kernel
theorem dX11_bestFrom_36 : decode cX11_bestFrom 36 = .ok (.iand, 1) := by decide +kernel
theorem dX11_bestFrom_37 : decode cX11_bestFrom 37 = .ok (.ifCond .ne 18, 3) := by decide +kernel
theorem dX11_bestFrom_40 : decode cX11_bestFrom 40 = .ok (.iload 4, 2) := by decide +kernel
theorem dX11_bestFrom_42 : decode cX11_bestFrom 42 = .ok (.aload_n 0, 1) := by decide +kernel
theorem dX11_bestFrom_43 : decode cX11_bestFrom 43 = .ok (.iload_n 1, 1) := by decide +kernel
theorem dX11_bestFrom_44 : decode cX11_bestFrom 44 = .ok (.iload_n 2, 1) := by decide +kernel
theorem dX11_bestFrom_45 : decode cX11_bestFrom 45 = .ok (.iload 5, 2) := by decide +kernel
theorem dX11_bestFrom_47 : decode cX11_bestFrom 47 = .ok (.invokevirtual 358, 3) := by decide +kernel
theorem dX11_bestFrom_50 : decode cX11_bestFrom 50 = .ok (.invokestatic 340, 3) := by decide +kernel
theorem dX11_bestFrom_53 : decode cX11_bestFrom 53 = .ok (.istore 4, 2) := by decide +kernel
theorem dX11_bestFrom_55 : decode cX11_bestFrom 55 = .ok (.iinc 5 1, 3) := by decide +kernel
theorem dX11_bestFrom_58 : decode cX11_bestFrom 58 = .ok (.goto (-43), 3) := by decide +kernel
theorem dX11_bestFrom_61 : decode cX11_bestFrom 61 = .ok (.iload 4, 2) := by decide +kernel
theorem dX11_bestFrom_63 : decode cX11_bestFrom 63 = .ok (.ireturn, 1) := by decide +kernel
set_option maxRecDepth 20000 in
theorem ggX11_bestWith_J6_bitCount_0f7a4 : GoodIn wsX11_bestWith wsJ6_bitCount_0f7a4 := goodIn_r _ [7, 8, 9, 10] (by decide +kernel) (by decide +kernel)
set_option maxRecDepth 20000 in
theorem gX11_bestWith_J6_bitCount_0f7a4 : GoodIn wsX11_bestWith (va_wsS RX11 232 yJ6_bitCount_0f7a4 wsJ6_bitCount_0f7a4) := goodIn_app (goodIn_of _ (by decide +kernel)) ggX11_bestWith_J6_bitCount_0f7a4
theorem dX11_bestWith_0 : decode cX11_bestWith 0 = .ok (.aload_n 0, 1) := by decide +kernel
theorem dX11_bestWith_1 : decode cX11_bestWith 1 = .ok (.getfield 53, 3) := by decide +kernel
theorem dX11_bestWith_4 : decode cX11_bestWith 4 = .ok (.iload_n 1, 1) := by decide +kernel
theorem dX11_bestWith_5 : decode cX11_bestWith 5 = .ok (.iaload, 1) := by decide +kernel
theorem dX11_bestWith_6 : decode cX11_bestWith 6 = .ok (.aload_n 0, 1) := by decide +kernel
theorem dX11_bestWith_7 : decode cX11_bestWith 7 = .ok (.getfield 56, 3) := by decide +kernel
theorem dX11_bestWith_10 : decode cX11_bestWith 10 = .ok (.iload_n 3, 1) := by decide +kernel
theorem dX11_bestWith_11 : decode cX11_bestWith 11 = .ok (.iaload, 1) := by decide +kernel
theorem dX11_bestWith_12 : decode cX11_bestWith 12 = .ok (.iand, 1) := by decide +kernel
theorem dX11_bestWith_13 : decode cX11_bestWith 13 = .ok (.invokestatic 232, 3) := by decide +kernel
theorem dX11_bestWith_16 : decode cX11_bestWith 16 = .ok (.istore 4, 2) := by decide +kernel
theorem dX11_bestWith_18 : decode cX11_bestWith 18 = .ok (.iload 4, 2) := by decide +kernel
theorem dX11_bestWith_20 : decode cX11_bestWith 20 = .ok (.aload_n 0, 1) := by decide +kernel
theorem dX11_bestWith_21 : decode cX11_bestWith 21 = .ok (.getfield 64, 3) := by decide +kernel
theorem dX11_bestWith_24 : decode cX11_bestWith 24 = .ok (.iload_n 1, 1) := by decide +kernel
theorem dX11_bestWith_25 : decode cX11_bestWith 25 = .ok (.iconst 1, 1) := by decide +kernel
theorem dX11_bestWith_26 : decode cX11_bestWith 26 = .ok (.iadd, 1) := by decide +kernel
theorem dX11_bestWith_27 : decode cX11_bestWith 27 = .ok (.aaload, 1) := by decide +kernel
theorem dX11_bestWith_28 : decode cX11_bestWith 28 = .ok (.iload_n 2, 1) := by decide +kernel
theorem dX11_bestWith_29 : decode cX11_bestWith 29 = .ok (.iconst 1, 1) := by decide +kernel
theorem dX11_bestWith_30 : decode cX11_bestWith 30 = .ok (.iload_n 3, 1) := by decide +kernel
theorem dX11_bestWith_31 : decode cX11_bestWith 31 = .ok (.ishl, 1) := by decide +kernel
theorem dX11_bestWith_32 : decode cX11_bestWith 32 = .ok (.ior, 1) := by decide +kernel
theorem dX11_bestWith_33 : decode cX11_bestWith 33 = .ok (.iaload, 1) := by decide +kernel
theorem dX11_bestWith_34 : decode cX11_bestWith 34 = .ok (.iadd, 1) := by decide +kernel
theorem dX11_bestWith_35 : decode cX11_bestWith 35 = .ok (.ireturn, 1) := by decide +kernel
set_option maxRecDepth 20000 in
theorem ggX11_firstBest_X5_isLeft : GoodIn wsX11_firstBest wsX5_isLeft := goodIn_r _ [7, 8, 9, 10, 11, 46, 47, 48, 49, 50, 51, 52, 53, 54, 55, 56, 57, 58, 59, 60, 61, 62, 63, 64, 65, 66, 67, 68, 69, 70, 71, 72, 73, 74, 75, 76, 77, 78, 79, 80, 81, 82, 83, 84, 85, 86, 87, 88, 89, 90, 91, 92, 93, 94, 95, 96, 97, 98, 99, 100, 101, 102, 103, 104, 105, 106, 107, 108] (by decide +kernel) (by decide +kernel)
set_option maxRecDepth 20000 in
theorem gX11_firstBest_X5_isLeft_u181X0 : GoodIn wsX11_firstBest (va_wsU RX11 181 RX0 "CarbonCopies$Person" ⟨"CarbonCopies$Person", "isLeft", "(I)Z"⟩ yX5_isLeft wsX5_isLeft) := goodIn_app (goodIn_of _ (by decide +kernel)) ggX11_firstBest_X5_isLeft
set_option maxRecDepth 20000 in
theorem gX11_firstBest_X5_isLeft_u181X1 : GoodIn wsX11_firstBest (va_wsU RX11 181 RX1 "CarbonCopies$Person" ⟨"CarbonCopies$Person", "isLeft", "(I)Z"⟩ yX5_isLeft wsX5_isLeft) := goodIn_app (goodIn_of _ (by decide +kernel)) ggX11_firstBest_X5_isLeft
set_option maxRecDepth 20000 in
theorem gX11_firstBest_X5_isLeft_u181X2 : GoodIn wsX11_firstBest (va_wsU RX11 181 RX2 "CarbonCopies$Person" ⟨"CarbonCopies$Person", "isLeft", "(I)Z"⟩ yX5_isLeft wsX5_isLeft) := goodIn_app (goodIn_of _ (by decide +kernel)) ggX11_firstBest_X5_isLeft
set_option maxRecDepth 20000 in
theorem gX11_firstBest_X5_isLeft_u181X3 : GoodIn wsX11_firstBest (va_wsU RX11 181 RX3 "CarbonCopies$Person" ⟨"CarbonCopies$Person", "isLeft", "(I)Z"⟩ yX5_isLeft wsX5_isLeft) := goodIn_app (goodIn_of _ (by decide +kernel)) ggX11_firstBest_X5_isLeft
set_option maxRecDepth 20000 in
theorem gX11_firstBest_X5_isLeft : GoodIn wsX11_firstBest (wsV RX11 181 RX5 yX5_isLeft wsX5_isLeft) := goodIn_app (goodIn_of _ (by decide +kernel)) ggX11_firstBest_X5_isLeft
set_option maxRecDepth 20000 in
theorem gX11_firstBest_X5_isLeft_u181X8 : GoodIn wsX11_firstBest (va_wsU RX11 181 RX8 "CarbonCopies$Person" ⟨"CarbonCopies$Person", "isLeft", "(I)Z"⟩ yX5_isLeft wsX5_isLeft) := goodIn_app (goodIn_of _ (by decide +kernel)) ggX11_firstBest_X5_isLeft
set_option maxRecDepth 20000 in
theorem gX11_firstBest_X5_isLeft_u181X10 : GoodIn wsX11_firstBest (va_wsU RX11 181 RX10 "CarbonCopies$Person" ⟨"CarbonCopies$Person", "isLeft", "(I)Z"⟩ yX5_isLeft wsX5_isLeft) := goodIn_app (goodIn_of _ (by decide +kernel)) ggX11_firstBest_X5_isLeft
set_option maxRecDepth 20000 in
theorem ggX11_firstBest_X11_bestWith : GoodIn wsX11_firstBest wsX11_bestWith := goodIn_r _ [22, 23, 24, 1, 25, 26, 27, 28, 29, 30, 31, 32, 33, 34, 35, 36, 37, 38, 39, 40, 41, 42, 43, 44, 45] (by decide +kernel) (by decide +kernel)
set_option maxRecDepth 20000 in
theorem gX11_firstBest_X11_bestWith : GoodIn wsX11_firstBest (wsV RX11 358 RX11 yX11_bestWith wsX11_bestWith) := goodIn_app (goodIn_of _ (by decide +kernel)) ggX11_firstBest_X11_bestWith
theorem dX11_firstBest_0 : decode cX11_firstBest 0 = .ok (.aload_n 0, 1) := by decide +kernel
theorem dX11_firstBest_1 : decode cX11_firstBest 1 = .ok (.getfield 64, 3) := by decide +kernel
theorem dX11_firstBest_4 : decode cX11_firstBest 4 = .ok (.iload_n 1, 1) := by decide +kernel
theorem dX11_firstBest_5 : decode cX11_firstBest 5 = .ok (.aaload, 1) := by decide +kernel
theorem dX11_firstBest_6 : decode cX11_firstBest 6 = .ok (.iload_n 2, 1) := by decide +kernel
theorem dX11_firstBest_7 : decode cX11_firstBest 7 = .ok (.iaload, 1) := by decide +kernel
theorem dX11_firstBest_8 : decode cX11_firstBest 8 = .ok (.istore 4, 2) := by decide +kernel
theorem dX11_firstBest_10 : decode cX11_firstBest 10 = .ok (.aload_n 0, 1) := by decide +kernel
theorem dX11_firstBest_11 : decode cX11_firstBest 11 = .ok (.getfield 64, 3) := by decide +kernel
theorem dX11_firstBest_14 : decode cX11_firstBest 14 = .ok (.iload_n 1, 1) := by decide +kernel
theorem dX11_firstBest_15 : decode cX11_firstBest 15 = .ok (.iconst 1, 1) := by decide +kernel
theorem dX11_firstBest_16 : decode cX11_firstBest 16 = .ok (.iadd, 1) := by decide +kernel
theorem dX11_firstBest_17 : decode cX11_firstBest 17 = .ok (.aaload, 1) := by decide +kernel
theorem dX11_firstBest_18 : decode cX11_firstBest 18 = .ok (.iload_n 2, 1) := by decide +kernel
theorem dX11_firstBest_19 : decode cX11_firstBest 19 = .ok (.iaload, 1) := by decide +kernel
theorem dX11_firstBest_20 : decode cX11_firstBest 20 = .ok (.iload 4, 2) := by decide +kernel
theorem dX11_firstBest_22 : decode cX11_firstBest 22 = .ok (.if_icmp .ne 5, 3) := by decide +kernel
theorem dX11_firstBest_25 : decode cX11_firstBest 25 = .ok (.iconst (-1), 1) := by decide +kernel
theorem dX11_firstBest_26 : decode cX11_firstBest 26 = .ok (.ireturn, 1) := by decide +kernel
theorem dX11_firstBest_27 : decode cX11_firstBest 27 = .ok (.iconst 0, 1) := by decide +kernel
theorem dX11_firstBest_28 : decode cX11_firstBest 28 = .ok (.istore 5, 2) := by decide +kernel
theorem dX11_firstBest_30 : decode cX11_firstBest 30 = .ok (.iload 5, 2) := by decide +kernel
theorem dX11_firstBest_32 : decode cX11_firstBest 32 = .ok (.bipush 6, 2) := by decide +kernel
theorem dX11_firstBest_34 : decode cX11_firstBest 34 = .ok (.if_icmp .ge 43, 3) := by decide +kernel
theorem dX11_firstBest_37 : decode cX11_firstBest 37 = .ok (.aload_n 3, 1) := by decide +kernel
theorem dX11_firstBest_38 : decode cX11_firstBest 38 = .ok (.iload 5, 2) := by decide +kernel
theorem dX11_firstBest_40 : decode cX11_firstBest 40 = .ok (.invokevirtual 181, 3) := by decide +kernel
theorem dX11_firstBest_43 : decode cX11_firstBest 43 = .ok (.ifCond .eq 28, 3) := by decide +kernel
theorem dX11_firstBest_46 : decode cX11_firstBest 46 = .ok (.iload_n 2, 1) := by decide +kernel
theorem dX11_firstBest_47 : decode cX11_firstBest 47 = .ok (.iload 5, 2) := by decide +kernel
theorem dX11_firstBest_49 : decode cX11_firstBest 49 = .ok (.ishr, 1) := by decide +kernel
theorem dX11_firstBest_50 : decode cX11_firstBest 50 = .ok (.iconst 1, 1) := by decide +kernel
theorem dX11_firstBest_51 : decode cX11_firstBest 51 = .ok (.iand, 1) := by decide +kernel
theorem dX11_firstBest_52 : decode cX11_firstBest 52 = .ok (.ifCond .ne 19, 3) := by decide +kernel
theorem dX11_firstBest_55 : decode cX11_firstBest 55 = .ok (.aload_n 0, 1) := by decide +kernel
theorem dX11_firstBest_56 : decode cX11_firstBest 56 = .ok (.iload_n 1, 1) := by decide +kernel
theorem dX11_firstBest_57 : decode cX11_firstBest 57 = .ok (.iload_n 2, 1) := by decide +kernel
theorem dX11_firstBest_58 : decode cX11_firstBest 58 = .ok (.iload 5, 2) := by decide +kernel
theorem dX11_firstBest_60 : decode cX11_firstBest 60 = .ok (.invokevirtual 358, 3) := by decide +kernel
theorem dX11_firstBest_63 : decode cX11_firstBest 63 = .ok (.iload 4, 2) := by decide +kernel
theorem dX11_firstBest_65 : decode cX11_firstBest 65 = .ok (.if_icmp .ne 6, 3) := by decide +kernel
theorem dX11_firstBest_68 : decode cX11_firstBest 68 = .ok (.iload 5, 2) := by decide +kernel
theorem dX11_firstBest_70 : decode cX11_firstBest 70 = .ok (.ireturn, 1) := by decide +kernel
theorem dX11_firstBest_71 : decode cX11_firstBest 71 = .ok (.iinc 5 1, 3) := by decide +kernel
theorem dX11_firstBest_74 : decode cX11_firstBest 74 = .ok (.goto (-44), 3) := by decide +kernel
theorem dX11_firstBest_77 : decode cX11_firstBest 77 = .ok (.iconst (-1), 1) := by decide +kernel
theorem dX11_firstBest_78 : decode cX11_firstBest 78 = .ok (.ireturn, 1) := by decide +kernel
