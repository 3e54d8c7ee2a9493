theorem dX12_init_0 : decode cX12_init 0 = .ok (.aload_n 0, 1) := by decide +kernel
theorem dX12_init_1 : decode cX12_init 1 = .ok (.invokespecial 1, 3) := by decide +kernel
theorem dX12_init_4 : decode cX12_init 4 = .ok (.aload_n 0, 1) := by decide +kernel
theorem dX12_init_5 : decode cX12_init 5 = .ok (.bipush 8, 2) := by decide +kernel
theorem dX12_init_7 : decode cX12_init 7 = .ok (.newarray .int, 2) := by decide +kernel
theorem dX12_init_9 : decode cX12_init 9 = .ok (.putfield 7, 3) := by decide +kernel
theorem dX12_init_12 : decode cX12_init 12 = .ok (.aload_n 0, 1) := by decide +kernel
theorem dX12_init_13 : decode cX12_init 13 = .ok (.bipush 8, 2) := by decide +kernel
theorem dX12_init_15 : decode cX12_init 15 = .ok (.newarray .int, 2) := by decide +kernel
theorem dX12_init_17 : decode cX12_init 17 = .ok (.putfield 13, 3) := by decide +kernel
theorem dX12_init_20 : decode cX12_init 20 = .ok (.aload_n 0, 1) := by decide +kernel
theorem dX12_init_21 : decode cX12_init 21 = .ok (.sipush 1280, 3) := by decide +kernel
theorem dX12_init_24 : decode cX12_init 24 = .ok (.newarray .long, 2) := by decide +kernel
theorem dX12_init_26 : decode cX12_init 26 = .ok (.putfield 16, 3) := by decide +kernel
theorem dX12_init_29 : decode cX12_init 29 = .ok (.aload_n 0, 1) := by decide +kernel
theorem dX12_init_30 : decode cX12_init 30 = .ok (.bipush 6, 2) := by decide +kernel
theorem dX12_init_32 : decode cX12_init 32 = .ok (.newarray .int, 2) := by decide +kernel
theorem dX12_init_34 : decode cX12_init 34 = .ok (.putfield 20, 3) := by decide +kernel
theorem dX12_init_37 : decode cX12_init 37 = .ok (.aload_n 0, 1) := by decide +kernel
theorem dX12_init_38 : decode cX12_init 38 = .ok (.bipush 6, 2) := by decide +kernel
theorem dX12_init_40 : decode cX12_init 40 = .ok (.newarray .int, 2) := by decide +kernel
theorem dX12_init_42 : decode cX12_init 42 = .ok (.putfield 23, 3) := by decide +kernel
theorem dX12_init_45 : decode cX12_init 45 = .ok (.aload_n 0, 1) := by decide +kernel
theorem dX12_init_46 : decode cX12_init 46 = .ok (.bipush 6, 2) := by decide +kernel
theorem dX12_init_48 : decode cX12_init 48 = .ok (.newarray .int, 2) := by decide +kernel
theorem dX12_init_50 : decode cX12_init 50 = .ok (.putfield 26, 3) := by decide +kernel
theorem dX12_init_53 : decode cX12_init 53 = .ok (.aload_n 0, 1) := by decide +kernel
theorem dX12_init_54 : decode cX12_init 54 = .ok (.bipush 6, 2) := by decide +kernel
theorem dX12_init_56 : decode cX12_init 56 = .ok (.newarray .int, 2) := by decide +kernel
theorem dX12_init_58 : decode cX12_init 58 = .ok (.putfield 29, 3) := by decide +kernel
theorem dX12_init_61 : decode cX12_init 61 = .ok (.aload_n 0, 1) := by decide +kernel
theorem dX12_init_62 : decode cX12_init 62 = .ok (.bipush 36, 2) := by decide +kernel
theorem dX12_init_64 : decode cX12_init 64 = .ok (.newarray .int, 2) := by decide +kernel
theorem dX12_init_66 : decode cX12_init 66 = .ok (.putfield 32, 3) := by decide +kernel
theorem dX12_init_69 : decode cX12_init 69 = .ok (.aload_n 0, 1) := by decide +kernel
theorem dX12_init_70 : decode cX12_init 70 = .ok (.bipush 36, 2) := by decide +kernel
theorem dX12_init_72 : decode cX12_init 72 = .ok (.newarray .int, 2) := by decide +kernel
theorem dX12_init_74 : decode cX12_init 74 = .ok (.putfield 35, 3) := by decide +kernel
theorem dX12_init_77 : decode cX12_init 77 = .ok (.aload_n 0, 1) := by decide +kernel
theorem dX12_init_78 : decode cX12_init 78 = .ok (.sipush 288, 3) := by decide +kernel
theorem dX12_init_81 : decode cX12_init 81 = .ok (.newarray .int, 2) := by decide +kernel
theorem dX12_init_83 : decode cX12_init 83 = .ok (.putfield 38, 3) := by decide +kernel
theorem dX12_init_86 : decode cX12_init 86 = .ok (.aload_n 0, 1) := by decide +kernel
theorem dX12_init_87 : decode cX12_init 87 = .ok (.iconst 3, 1) := by decide +kernel
theorem dX12_init_88 : decode cX12_init 88 = .ok (.newarray .int, 2) := by decide +kernel
theorem dX12_init_90 : decode cX12_init 90 = .ok (.putfield 41, 3) := by decide +kernel
theorem dX12_init_93 : decode cX12_init 93 = .ok (.aload_n 0, 1) := by decide +kernel
theorem dX12_init_94 : decode cX12_init 94 = .ok (.bipush 20, 2) := by decide +kernel
theorem dX12_init_96 : decode cX12_init 96 = .ok (.newarray .int, 2) := by decide +kernel
theorem dX12_init_98 : decode cX12_init 98 = .ok (.putfield 44, 3) := by decide +kernel
theorem dX12_init_101 : decode cX12_init 101 = .ok (.aload_n 0, 1) := by decide +kernel
theorem dX12_init_102 : decode cX12_init 102 = .ok (.bipush 8, 2) := by decide +kernel
theorem dX12_init_104 : decode cX12_init 104 = .ok (.newarray .int, 2) := by decide +kernel
theorem dX12_init_106 : decode cX12_init 106 = .ok (.putfield 47, 3) := by decide +kernel
theorem dX12_init_109 : decode cX12_init 109 = .ok (.aload_n 0, 1) := by decide +kernel
theorem dX12_init_110 : decode cX12_init 110 = .ok (.sipush 387, 3) := by decide +kernel
theorem dX12_init_113 : decode cX12_init 113 = .ok (.newarray .int, 2) := by decide +kernel
theorem dX12_init_115 : decode cX12_init 115 = .ok (.putfield 50, 3) := by decide +kernel
theorem dX12_init_118 : decode cX12_init 118 = .ok (.aload_n 0, 1) := by decide +kernel
theorem dX12_init_119 : decode cX12_init 119 = .ok (.sipush 387, 3) := by decide +kernel
theorem dX12_init_122 : decode cX12_init 122 = .ok (.newarray .int, 2) := by decide +kernel
theorem dX12_init_124 : decode cX12_init 124 = .ok (.putfield 53, 3) := by decide +kernel
theorem dX12_init_127 : decode cX12_init 127 = .ok (.aload_n 0, 1) := by decide +kernel
theorem dX12_init_128 : decode cX12_init 128 = .ok (.bipush 6, 2) := by decide +kernel
theorem dX12_init_130 : decode cX12_init 130 = .ok (.newarray .int, 2) := by decide +kernel
theorem dX12_init_132 : decode cX12_init 132 = .ok (.putfield 56, 3) := by decide +kernel
theorem dX12_init_135 : decode cX12_init 135 = .ok (.aload_n 0, 1) := by decide +kernel
theorem dX12_init_136 : decode cX12_init 136 = .ok (.bipush 6, 2) := by decide +kernel
theorem dX12_init_138 : decode cX12_init 138 = .ok (.newarray .int, 2) := by decide +kernel
theorem dX12_init_140 : decode cX12_init 140 = .ok (.putfield 59, 3) := by decide +kernel
theorem dX12_init_143 : decode cX12_init 143 = .ok (.aload_n 0, 1) := by decide +kernel
theorem dX12_init_144 : decode cX12_init 144 = .ok (.bipush 6, 2) := by decide +kernel
theorem dX12_init_146 : decode cX12_init 146 = .ok (.newarray .int, 2) := by decide +kernel
theorem dX12_init_148 : decode cX12_init 148 = .ok (.putfield 62, 3) := by decide +kernel
theorem dX12_init_151 : decode cX12_init 151 = .ok (.aload_n 0, 1) := by decide +kernel
theorem dX12_init_152 : decode cX12_init 152 = .ok (.bipush 10, 2) := by decide +kernel
theorem dX12_init_154 : decode cX12_init 154 = .ok (.putfield 65, 3) := by decide +kernel
theorem dX12_init_157 : decode cX12_init 157 = .ok (.aload_n 0, 1) := by decide +kernel
theorem dX12_init_158 : decode cX12_init 158 = .ok (.iconst 1, 1) := by decide +kernel
theorem dX12_init_159 : decode cX12_init 159 = .ok (.putfield 69, 3) := by decide +kernel
theorem dX12_init_162 : decode cX12_init 162 = .ok (.aload_n 0, 1) := by decide +kernel
theorem dX12_init_163 : decode cX12_init 163 = .ok (.iconst (-1), 1) := by decide +kernel
theorem dX12_init_164 : decode cX12_init 164 = .ok (.putfield 72, 3) := by decide +kernel
theorem dX12_init_167 : decode cX12_init 167 = .ok (.iconst 0, 1) := by decide +kernel
theorem dX12_init_168 : decode cX12_init 168 = .ok (.istore_n 1, 1) := by decide +kernel
theorem dX12_init_169 : decode cX12_init 169 = .ok (.iload_n 1, 1) := by decide +kernel
theorem dX12_init_170 : decode cX12_init 170 = .ok (.bipush 8, 2) := by decide +kernel
theorem dX12_init_172 : decode cX12_init 172 = .ok (.if_icmp .ge 16, 3) := by decide +kernel
theorem dX12_init_175 : decode cX12_init 175 = .ok (.aload_n 0, 1) := by decide +kernel
theorem dX12_init_176 : decode cX12_init 176 = .ok (.getfield 7, 3) := by decide +kernel
theorem dX12_init_179 : decode cX12_init 179 = .ok (.iload_n 1, 1) := by decide +kernel
theorem dX12_init_180 : decode cX12_init 180 = .ok (.iconst (-1), 1) := by decide +kernel
theorem dX12_init_181 : decode cX12_init 181 = .ok (.iastore, 1) := by decide +kernel
theorem dX12_init_182 : decode cX12_init 182 = .ok (.iinc 1 1, 3) := by decide +kernel
theorem dX12_init_185 : decode cX12_init 185 = .ok (.goto (-16), 3) := by decide +kernel
theorem dX12_init_188 : decode cX12_init 188 = .ok (.return_, 1) := by decide +kernel
theorem dX12_no_0 : decode cX12_no 0 = .ok (.aload_n 0, 1) := by decide +kernel
theorem dX12_no_1 : decode cX12_no 1 = .ok (.getfield 47, 3) := by decide +kernel
theorem dX12_no_4 : decode cX12_no 4 = .ok (.iload_n 1, 1) := by decide +kernel
theorem dX12_no_5 : decode cX12_no 5 = .ok (.ineg, 1) := by decide +kernel
theorem dX12_no_6 : decode cX12_no 6 = .ok (.dup2, 1) := by decide +kernel
theorem dX12_no_7 : decode cX12_no 7 = .ok (.iaload, 1) := by decide +kernel
theorem dX12_no_8 : decode cX12_no 8 = .ok (.iconst 1, 1) := by decide +kernel
theorem dX12_no_9 : decode cX12_no 9 = .ok (.iadd, 1) := by decide +kernel
theorem dX12_no_10 : decode cX12_no 10 = .ok (.iastore, 1) := by decide +kernel
theorem dX12_no_11 : decode cX12_no 11 = .ok (.iload_n 1, 1) := by decide +kernel
theorem dX12_no_12 : decode cX12_no 12 = .ok (.ireturn, 1) := by decide +kernel
set_option maxRecDepth 20000 in
theorem ggX12_no10_X12_no : GoodIn wsX12_no10 wsX12_no := goodIn_r _ [5, 6, 7, 8, 9, 10, 11, 12, 13, 14, 15, 16, 17, 18, 19, 20, 21, 22, 23, 24, 25, 26, 27, 28, 29, 30, 31, 32, 33] (by decide +kernel) (by decide +kernel)
set_option maxRecDepth 20000 in
theorem gX12_no10_X12_no : GoodIn wsX12_no10 (wsV RX12 75 RX12 yX12_no wsX12_no) := goodIn_app (goodIn_of _ (by decide +kernel)) ggX12_no10_X12_no
theorem dX12_no10_0 : decode cX12_no10 0 = .ok (.aload_n 0, 1) := by decide +kernel
theorem dX12_no10_1 : decode cX12_no10 1 = .ok (.iload_n 1, 1) := by decide +kernel
theorem dX12_no10_2 : decode cX12_no10 2 = .ok (.invokevirtual 75, 3) := by decide +kernel
theorem dX12_no10_5 : decode cX12_no10 5 = .ok (.bipush 10, 2) := by decide +kernel
theorem dX12_no10_7 : decode cX12_no10 7 = .ok (.isub, 1) := by decide +kernel
theorem dX12_no10_8 : decode cX12_no10 8 = .ok (.ireturn, 1) := by decide +kernel
theorem dX12_within_0 : decode cX12_within 0 = .ok (.iload_n 0, 1) := by decide +kernel
theorem dX12_within_1 : decode cX12_within 1 = .ok (.iload_n 1, 1) := by decide +kernel
theorem dX12_within_2 : decode cX12_within 2 = .ok (.if_icmp .lt 12, 3) := by decide +kernel
theorem dX12_within_5 : decode cX12_within 5 = .ok (.iload_n 0, 1) := by decide +kernel
theorem dX12_within_6 : decode cX12_within 6 = .ok (.iload_n 2, 1) := by decide +kernel
theorem dX12_within_7 : decode cX12_within 7 = .ok (.if_icmp .gt 7, 3) := by decide +kernel
theorem dX12_within_10 : decode cX12_within 10 = .ok (.iconst 1, 1) := by decide +kernel
theorem dX12_within_11 : decode cX12_within 11 = .ok (.goto 4, 3) := by decide +kernel
theorem dX12_within_14 : decode cX12_within 14 = .ok (.iconst 0, 1) := by decide +kernel
theorem dX12_within_15 : decode cX12_within 15 = .ok (.ireturn, 1) := by decide +kernel
theorem dX12_has_0 : decode cX12_has 0 = .ok (.iload_n 0, 1) := by decide +kernel
theorem dX12_has_1 : decode cX12_has 1 = .ok (.iload_n 1, 1) := by decide +kernel
theorem dX12_has_2 : decode cX12_has 2 = .ok (.ishr, 1) := by decide +kernel
theorem dX12_has_3 : decode cX12_has 3 = .ok (.iconst 1, 1) := by decide +kernel
theorem dX12_has_4 : decode cX12_has 4 = .ok (.iand, 1) := by decide +kernel
theorem dX12_has_5 : decode cX12_has 5 = .ok (.iconst 1, 1) := by decide +kernel
theorem dX12_has_6 : decode cX12_has 6 = .ok (.if_icmp .ne 7, 3) := by decide +kernel
theorem dX12_has_9 : decode cX12_has 9 = .ok (.iconst 1, 1) := by decide +kernel
theorem dX12_has_10 : decode cX12_has 10 = .ok (.goto 4, 3) := by decide +kernel
theorem dX12_has_13 : decode cX12_has 13 = .ok (.iconst 0, 1) := by decide +kernel
theorem dX12_has_14 : decode cX12_has 14 = .ok (.ireturn, 1) := by decide +kernel
set_option maxRecDepth 20000 in
theorem ggX12_isPerson_X12_within : GoodIn wsX12_isPerson wsX12_within := goodIn_r _ [5] (by decide +kernel) (by decide +kernel)
set_option maxRecDepth 20000 in
theorem gX12_isPerson_X12_within : GoodIn wsX12_isPerson (va_wsS RX12 82 yX12_within wsX12_within) := goodIn_app (goodIn_of _ (by decide +kernel)) ggX12_isPerson_X12_within
theorem dX12_isPerson_0 : decode cX12_isPerson 0 = .ok (.iload_n 1, 1) := by decide +kernel
theorem dX12_isPerson_1 : decode cX12_isPerson 1 = .ok (.iconst 0, 1) := by decide +kernel
theorem dX12_isPerson_2 : decode cX12_isPerson 2 = .ok (.aload_n 0, 1) := by decide +kernel
theorem dX12_isPerson_3 : decode cX12_isPerson 3 = .ok (.getfield 79, 3) := by decide +kernel
theorem dX12_isPerson_6 : decode cX12_isPerson 6 = .ok (.iconst 1, 1) := by decide +kernel
theorem dX12_isPerson_7 : decode cX12_isPerson 7 = .ok (.isub, 1) := by decide +kernel
theorem dX12_isPerson_8 : decode cX12_isPerson 8 = .ok (.invokestatic 82, 3) := by decide +kernel
theorem dX12_isPerson_11 : decode cX12_isPerson 11 = .ok (.ireturn, 1) := by decide +kernel
set_option maxRecDepth 20000 in
theorem ggX12_isCopy_X12_within : GoodIn wsX12_isCopy wsX12_within := goodIn_r _ [4] (by decide +kernel) (by decide +kernel)
set_option maxRecDepth 20000 in
theorem gX12_isCopy_X12_within : GoodIn wsX12_isCopy (va_wsS RX12 82 yX12_within wsX12_within) := goodIn_app (goodIn_of _ (by decide +kernel)) ggX12_isCopy_X12_within
theorem dX12_isCopy_0 : decode cX12_isCopy 0 = .ok (.iload_n 0, 1) := by decide +kernel
theorem dX12_isCopy_1 : decode cX12_isCopy 1 = .ok (.iconst 0, 1) := by decide +kernel
theorem dX12_isCopy_2 : decode cX12_isCopy 2 = .ok (.iconst 5, 1) := by decide +kernel
theorem dX12_isCopy_3 : decode cX12_isCopy 3 = .ok (.invokestatic 82, 3) := by decide +kernel
theorem dX12_isCopy_6 : decode cX12_isCopy 6 = .ok (.ireturn, 1) := by decide +kernel
set_option maxRecDepth 20000 in
theorem ggX12_isDeed_X12_within : GoodIn wsX12_isDeed wsX12_within := goodIn_r _ [4] (by decide +kernel) (by decide +kernel)
set_option maxRecDepth 20000 in
theorem gX12_isDeed_X12_within : GoodIn wsX12_isDeed (va_wsS RX12 82 yX12_within wsX12_within) := goodIn_app (goodIn_of _ (by decide +kernel)) ggX12_isDeed_X12_within
theorem dX12_isDeed_0 : decode cX12_isDeed 0 = .ok (.iload_n 0, 1) := by decide +kernel
theorem dX12_isDeed_1 : decode cX12_isDeed 1 = .ok (.iconst 0, 1) := by decide +kernel
theorem dX12_isDeed_2 : decode cX12_isDeed 2 = .ok (.bipush 7, 2) := by decide +kernel
theorem dX12_isDeed_4 : decode cX12_isDeed 4 = .ok (.invokestatic 82, 3) := by decide +kernel
theorem dX12_isDeed_7 : decode cX12_isDeed 7 = .ok (.ireturn, 1) := by decide +kernel
set_option maxRecDepth 20000 in
theorem ggX12_lives_X12_isCopy : GoodIn wsX12_lives wsX12_isCopy := goodIn_r _ [5, 6, 7, 4, 8] (by decide +kernel) (by decide +kernel)
set_option maxRecDepth 20000 in
theorem gX12_lives_X12_isCopy : GoodIn wsX12_lives (va_wsS RX12 86 yX12_isCopy wsX12_isCopy) := goodIn_app (goodIn_of _ (by decide +kernel)) ggX12_lives_X12_isCopy
theorem dX12_lives_0 : decode cX12_lives 0 = .ok (.iload_n 2, 1) := by decide +kernel
theorem dX12_lives_1 : decode cX12_lives 1 = .ok (.invokestatic 86, 3) := by decide +kernel
theorem dX12_lives_4 : decode cX12_lives 4 = .ok (.ifCond .eq 17, 3) := by decide +kernel
theorem dX12_lives_7 : decode cX12_lives 7 = .ok (.iload_n 2, 1) := by decide +kernel
theorem dX12_lives_8 : decode cX12_lives 8 = .ok (.aload_n 0, 1) := by decide +kernel
theorem dX12_lives_9 : decode cX12_lives 9 = .ok (.getfield 29, 3) := by decide +kernel
theorem dX12_lives_12 : decode cX12_lives 12 = .ok (.iload_n 1, 1) := by decide +kernel
theorem dX12_lives_13 : decode cX12_lives 13 = .ok (.iaload, 1) := by decide +kernel
theorem dX12_lives_14 : decode cX12_lives 14 = .ok (.if_icmp .lt 7, 3) := by decide +kernel
theorem dX12_lives_17 : decode cX12_lives 17 = .ok (.iconst 1, 1) := by decide +kernel
theorem dX12_lives_18 : decode cX12_lives 18 = .ok (.goto 4, 3) := by decide +kernel
theorem dX12_lives_21 : decode cX12_lives 21 = .ok (.iconst 0, 1) := by decide +kernel
theorem dX12_lives_22 : decode cX12_lives 22 = .ok (.ireturn, 1) := by decide +kernel
theorem dX12_isRow_0 : decode cX12_isRow 0 = .ok (.aload_n 0, 1) := by decide +kernel
theorem dX12_isRow_1 : decode cX12_isRow 1 = .ok (.getfield 7, 3) := by decide +kernel
theorem dX12_isRow_4 : decode cX12_isRow 4 = .ok (.iload_n 1, 1) := by decide +kernel
theorem dX12_isRow_5 : decode cX12_isRow 5 = .ok (.iaload, 1) := by decide +kernel
theorem dX12_isRow_6 : decode cX12_isRow 6 = .ok (.bipush 100, 2) := by decide +kernel
theorem dX12_isRow_8 : decode cX12_isRow 8 = .ok (.if_icmp .lt 7, 3) := by decide +kernel
theorem dX12_isRow_11 : decode cX12_isRow 11 = .ok (.iconst 1, 1) := by decide +kernel
theorem dX12_isRow_12 : decode cX12_isRow 12 = .ok (.goto 4, 3) := by decide +kernel
theorem dX12_isRow_15 : decode cX12_isRow 15 = .ok (.iconst 0, 1) := by decide +kernel
theorem dX12_isRow_16 : decode cX12_isRow 16 = .ok (.ireturn, 1) := by decide +kernel
set_option maxRecDepth 20000 in
theorem ggX12_row_X12_within : GoodIn wsX12_row wsX12_within := goodIn_r _ [7] (by decide +kernel) (by decide +kernel)
set_option maxRecDepth 20000 in
theorem gX12_row_X12_within : GoodIn wsX12_row (va_wsS RX12 82 yX12_within wsX12_within) := goodIn_app (goodIn_of _ (by decide +kernel)) ggX12_row_X12_within
set_option maxRecDepth 20000 in
theorem ggX12_row_X12_no : GoodIn wsX12_row wsX12_no := goodIn_r _ [11, 12, 13, 14, 15, 16, 17, 18, 19, 20, 21, 22, 23, 24, 25, 26, 27, 28, 29, 30, 31, 32, 33, 34, 35, 36, 37, 38, 39] (by decide +kernel) (by decide +kernel)
set_option maxRecDepth 20000 in
theorem gX12_row_X12_no : GoodIn wsX12_row (wsV RX12 75 RX12 yX12_no wsX12_no) := goodIn_app (goodIn_of _ (by decide +kernel)) ggX12_row_X12_no
theorem dX12_row_0 : decode cX12_row 0 = .ok (.iload_n 1, 1) := by decide +kernel
theorem dX12_row_1 : decode cX12_row 1 = .ok (.iconst 0, 1) := by decide +kernel
theorem dX12_row_2 : decode cX12_row 2 = .ok (.bipush 7, 2) := by decide +kernel
theorem dX12_row_4 : decode cX12_row 4 = .ok (.invokestatic 82, 3) := by decide +kernel
theorem dX12_row_7 : decode cX12_row 7 = .ok (.ifCond .ne 9, 3) := by decide +kernel
theorem dX12_row_10 : decode cX12_row 10 = .ok (.aload_n 0, 1) := by decide +kernel
theorem dX12_row_11 : decode cX12_row 11 = .ok (.iconst (-1), 1) := by decide +kernel
theorem dX12_row_12 : decode cX12_row 12 = .ok (.invokevirtual 75, 3) := by decide +kernel
theorem dX12_row_15 : decode cX12_row 15 = .ok (.ireturn, 1) := by decide +kernel
theorem dX12_row_16 : decode cX12_row 16 = .ok (.iload_n 3, 1) := by decide +kernel
theorem dX12_row_17 : decode cX12_row 17 = .ok (.ifCond .ge 10, 3) := by decide +kernel
theorem dX12_row_20 : decode cX12_row 20 = .ok (.aload_n 0, 1) := by decide +kernel
theorem dX12_row_21 : decode cX12_row 21 = .ok (.bipush (-4), 2) := by decide +kernel
theorem dX12_row_23 : decode cX12_row 23 = .ok (.invokevirtual 75, 3) := by decide +kernel
theorem dX12_row_26 : decode cX12_row 26 = .ok (.ireturn, 1) := by decide +kernel
theorem dX12_row_27 : decode cX12_row 27 = .ok (.iload_n 2, 1) := by decide +kernel
theorem dX12_row_28 : decode cX12_row 28 = .ok (.iconst 0, 1) := by decide +kernel
theorem dX12_row_29 : decode cX12_row 29 = .ok (.iconst 3, 1) := by decide +kernel
theorem dX12_row_30 : decode cX12_row 30 = .ok (.invokestatic 82, 3) := by decide +kernel
theorem dX12_row_33 : decode cX12_row 33 = .ok (.ifCond .ne 10, 3) := by decide +kernel
theorem dX12_row_36 : decode cX12_row 36 = .ok (.aload_n 0, 1) := by decide +kernel
theorem dX12_row_37 : decode cX12_row 37 = .ok (.bipush (-6), 2) := by decide +kernel
theorem dX12_row_39 : decode cX12_row 39 = .ok (.invokevirtual 75, 3) := by decide +kernel
theorem dX12_row_42 : decode cX12_row 42 = .ok (.ireturn, 1) := by decide +kernel
theorem dX12_row_43 : decode cX12_row 43 = .ok (.iload_n 3, 1) := by decide +kernel
theorem dX12_row_44 : decode cX12_row 44 = .ok (.sipush 160, 3) := by decide +kernel
theorem dX12_row_47 : decode cX12_row 47 = .ok (.if_icmp .le 10, 3) := by decide +kernel
theorem dX12_row_50 : decode cX12_row 50 = .ok (.aload_n 0, 1) := by decide +kernel
theorem dX12_row_51 : decode cX12_row 51 = .ok (.bipush (-7), 2) := by decide +kernel
theorem dX12_row_53 : decode cX12_row 53 = .ok (.invokevirtual 75, 3) := by decide +kernel
theorem dX12_row_56 : decode cX12_row 56 = .ok (.ireturn, 1) := by decide +kernel
theorem dX12_row_57 : decode cX12_row 57 = .ok (.aload_n 0, 1) := by decide +kernel
theorem dX12_row_58 : decode cX12_row 58 = .ok (.getfield 7, 3) := by decide +kernel
theorem dX12_row_61 : decode cX12_row 61 = .ok (.iload_n 1, 1) := by decide +kernel
theorem dX12_row_62 : decode cX12_row 62 = .ok (.bipush 100, 2) := by decide +kernel
theorem dX12_row_64 : decode cX12_row 64 = .ok (.iload_n 2, 1) := by decide +kernel
theorem dX12_row_65 : decode cX12_row 65 = .ok (.iadd, 1) := by decide +kernel
theorem dX12_row_66 : decode cX12_row 66 = .ok (.iastore, 1) := by decide +kernel
theorem dX12_row_67 : decode cX12_row 67 = .ok (.aload_n 0, 1) := by decide +kernel
theorem dX12_row_68 : decode cX12_row 68 = .ok (.getfield 13, 3) := by decide +kernel
theorem dX12_row_71 : decode cX12_row 71 = .ok (.iload_n 1, 1) := by decide +kernel
theorem dX12_row_72 : decode cX12_row 72 = .ok (.iload_n 3, 1) := by decide +kernel
theorem dX12_row_73 : decode cX12_row 73 = .ok (.iastore, 1) := by decide +kernel
theorem dX12_row_74 : decode cX12_row 74 = .ok (.iconst 0, 1) := by decide +kernel
theorem dX12_row_75 : decode cX12_row 75 = .ok (.istore 4, 2) := by decide +kernel
theorem dX12_row_77 : decode cX12_row 77 = .ok (.iload 4, 2) := by decide +kernel
theorem dX12_row_79 : decode cX12_row 79 = .ok (.sipush 160, 3) := by decide +kernel
theorem dX12_row_82 : decode cX12_row 82 = .ok (.if_icmp .ge 23, 3) := by decide +kernel
theorem dX12_row_85 : decode cX12_row 85 = .ok (.aload_n 0, 1) := by decide +kernel
theorem dX12_row_86 : decode cX12_row 86 = .ok (.getfield 16, 3) := by decide +kernel
theorem dX12_row_89 : decode cX12_row 89 = .ok (.sipush 160, 3) := by decide +kernel
theorem dX12_row_92 : decode cX12_row 92 = .ok (.iload_n 1, 1) := by decide +kernel
theorem dX12_row_93 : decode cX12_row 93 = .ok (.imul, 1) := by decide +kernel
theorem dX12_row_94 : decode cX12_row 94 = .ok (.iload 4, 2) := by decide +kernel
theorem dX12_row_96 : decode cX12_row 96 = .ok (.iadd, 1) := by decide +kernel
theorem dX12_row_97 : decode cX12_row 97 = .ok (.lconst 0, 1) := by decide +kernel
theorem dX12_row_98 : decode cX12_row 98 = .ok (.lastore, 1) := by decide +kernel
theorem dX12_row_99 : decode cX12_row 99 = .ok (.iinc 4 1, 3) := by decide +kernel
theorem dX12_row_102 : decode cX12_row 102 = .ok (.goto (-25), 3) := by decide +kernel
theorem dX12_row_105 : decode cX12_row 105 = .ok (.iconst 1, 1) := by decide +kernel
theorem dX12_row_106 : decode cX12_row 106 = .ok (.ireturn, 1) := by decide +kernel
set_option maxRecDepth 20000 in
theorem ggX12_noRow_X12_within : GoodIn wsX12_noRow wsX12_within := goodIn_r _ [5] (by decide +kernel) (by decide +kernel)
set_option maxRecDepth 20000 in
theorem gX12_noRow_X12_within : GoodIn wsX12_noRow (va_wsS RX12 82 yX12_within wsX12_within) := goodIn_app (goodIn_of _ (by decide +kernel)) ggX12_noRow_X12_within
set_option maxRecDepth 20000 in
theorem ggX12_noRow_X12_isRow : GoodIn wsX12_noRow wsX12_isRow := goodIn_r _ [9, 1, 10, 11, 12, 13, 14, 15, 16, 17, 18, 19, 20, 21, 22, 23, 24, 25, 26, 27, 28, 29, 30, 31, 32, 33, 34, 35, 36] (by decide +kernel) (by decide +kernel)
set_option maxRecDepth 20000 in
theorem gX12_noRow_X12_isRow : GoodIn wsX12_noRow (wsV RX12 90 RX12 yX12_isRow wsX12_isRow) := goodIn_app (goodIn_of _ (by decide +kernel)) ggX12_noRow_X12_isRow
theorem dX12_noRow_0 : decode cX12_noRow 0 = .ok (.iload_n 1, 1) := by decide +kernel
theorem dX12_noRow_1 : decode cX12_noRow 1 = .ok (.iconst 0, 1) := by decide +kernel
theorem dX12_noRow_2 : decode cX12_noRow 2 = .ok (.bipush 7, 2) := by decide +kernel
theorem dX12_noRow_4 : decode cX12_noRow 4 = .ok (.invokestatic 82, 3) := by decide +kernel
theorem dX12_noRow_7 : decode cX12_noRow 7 = .ok (.ifCond .ne 5, 3) := by decide +kernel
theorem dX12_noRow_10 : decode cX12_noRow 10 = .ok (.iconst (-1), 1) := by decide +kernel
theorem dX12_noRow_11 : decode cX12_noRow 11 = .ok (.ireturn, 1) := by decide +kernel
theorem dX12_noRow_12 : decode cX12_noRow 12 = .ok (.aload_n 0, 1) := by decide +kernel
theorem dX12_noRow_13 : decode cX12_noRow 13 = .ok (.getfield 7, 3) := by decide +kernel
theorem dX12_noRow_16 : decode cX12_noRow 16 = .ok (.iload_n 1, 1) := by decide +kernel
theorem dX12_noRow_17 : decode cX12_noRow 17 = .ok (.iaload, 1) := by decide +kernel
theorem dX12_noRow_18 : decode cX12_noRow 18 = .ok (.ifCond .lt 14, 3) := by decide +kernel
theorem dX12_noRow_21 : decode cX12_noRow 21 = .ok (.aload_n 0, 1) := by decide +kernel
theorem dX12_noRow_22 : decode cX12_noRow 22 = .ok (.iload_n 1, 1) := by decide +kernel
theorem dX12_noRow_23 : decode cX12_noRow 23 = .ok (.invokevirtual 90, 3) := by decide +kernel
theorem dX12_noRow_26 : decode cX12_noRow 26 = .ok (.ifCond .ne 6, 3) := by decide +kernel
theorem dX12_noRow_29 : decode cX12_noRow 29 = .ok (.bipush (-2), 2) := by decide +kernel
theorem dX12_noRow_31 : decode cX12_noRow 31 = .ok (.ireturn, 1) := by decide +kernel
theorem dX12_noRow_32 : decode cX12_noRow 32 = .ok (.aload_n 0, 1) := by decide +kernel
theorem dX12_noRow_33 : decode cX12_noRow 33 = .ok (.getfield 7, 3) := by decide +kernel
theorem dX12_noRow_36 : decode cX12_noRow 36 = .ok (.iload_n 1, 1) := by decide +kernel
theorem dX12_noRow_37 : decode cX12_noRow 37 = .ok (.iaload, 1) := by decide +kernel
theorem dX12_noRow_38 : decode cX12_noRow 38 = .ok (.ifCond .ge 8, 3) := by decide +kernel
theorem dX12_noRow_41 : decode cX12_noRow 41 = .ok (.bipush (-3), 2) := by decide +kernel
theorem dX12_noRow_43 : decode cX12_noRow 43 = .ok (.goto 4, 3) := by decide +kernel
theorem dX12_noRow_46 : decode cX12_noRow 46 = .ok (.iconst 0, 1) := by decide +kernel
theorem dX12_noRow_47 : decode cX12_noRow 47 = .ok (.ireturn, 1) := by decide +kernel
set_option maxRecDepth 20000 in
theorem ggX12_set_X12_noRow : GoodIn wsX12_set wsX12_noRow := goodIn_r _ [8, 2, 9, 10, 7, 11, 12, 13, 14, 15, 21, 22, 23, 24, 25, 26, 27, 28, 29, 30, 31, 32, 33, 34, 35, 36, 37, 38, 39, 40, 41, 42, 43, 44, 45, 46, 47] (by decide +kernel) (by decide +kernel)
set_option maxRecDepth 20000 in
theorem gX12_set_X12_noRow : GoodIn wsX12_set (wsV RX12 93 RX12 yX12_noRow wsX12_noRow) := goodIn_app (goodIn_of _ (by decide +kernel)) ggX12_set_X12_noRow
set_option maxRecDepth 20000 in
theorem ggX12_set_X12_no : GoodIn wsX12_set wsX12_no := goodIn_r _ [19, 20, 21, 22, 23, 24, 25, 26, 27, 28, 29, 30, 31, 32, 33, 34, 35, 36, 37, 38, 39, 40, 41, 42, 43, 44, 45, 46, 47] (by decide +kernel) (by decide +kernel)
set_option maxRecDepth 20000 in
theorem gX12_set_X12_no : GoodIn wsX12_set (wsV RX12 75 RX12 yX12_no wsX12_no) := goodIn_app (goodIn_of _ (by decide +kernel)) ggX12_set_X12_no
set_option maxRecDepth 20000 in
theorem ggX12_set_X12_within : GoodIn wsX12_set wsX12_within := goodIn_r _ [11] (by decide +kernel) (by decide +kernel)
set_option maxRecDepth 20000 in
theorem gX12_set_X12_within : GoodIn wsX12_set (va_wsS RX12 82 yX12_within wsX12_within) := goodIn_app (goodIn_of _ (by decide +kernel)) ggX12_set_X12_within
theorem dX12_set_0 : decode cX12_set 0 = .ok (.aload_n 0, 1) := by decide +kernel
theorem dX12_set_1 : decode cX12_set 1 = .ok (.iload_n 1, 1) := by decide +kernel
theorem dX12_set_2 : decode cX12_set 2 = .ok (.invokevirtual 93, 3) := by decide +kernel
theorem dX12_set_5 : decode cX12_set 5 = .ok (.istore 5, 2) := by decide +kernel
theorem dX12_set_7 : decode cX12_set 7 = .ok (.iload 5, 2) := by decide +kernel
theorem dX12_set_9 : decode cX12_set 9 = .ok (.ifCond .ge 10, 3) := by decide +kernel
theorem dX12_set_12 : decode cX12_set 12 = .ok (.aload_n 0, 1) := by decide +kernel
theorem dX12_set_13 : decode cX12_set 13 = .ok (.iload 5, 2) := by decide +kernel
theorem dX12_set_15 : decode cX12_set 15 = .ok (.invokevirtual 75, 3) := by decide +kernel
theorem dX12_set_18 : decode cX12_set 18 = .ok (.ireturn, 1) := by decide +kernel
theorem dX12_set_19 : decode cX12_set 19 = .ok (.iload_n 2, 1) := by decide +kernel
theorem dX12_set_20 : decode cX12_set 20 = .ok (.iconst 0, 1) := by decide +kernel
theorem dX12_set_21 : decode cX12_set 21 = .ok (.aload_n 0, 1) := by decide +kernel
theorem dX12_set_22 : decode cX12_set 22 = .ok (.getfield 13, 3) := by decide +kernel
theorem dX12_set_25 : decode cX12_set 25 = .ok (.iload_n 1, 1) := by decide +kernel
theorem dX12_set_26 : decode cX12_set 26 = .ok (.iaload, 1) := by decide +kernel
theorem dX12_set_27 : decode cX12_set 27 = .ok (.iconst 1, 1) := by decide +kernel
theorem dX12_set_28 : decode cX12_set 28 = .ok (.isub, 1) := by decide +kernel
theorem dX12_set_29 : decode cX12_set 29 = .ok (.invokestatic 82, 3) := by decide +kernel
theorem dX12_set_32 : decode cX12_set 32 = .ok (.ifCond .ne 10, 3) := by decide +kernel
theorem dX12_set_35 : decode cX12_set 35 = .ok (.aload_n 0, 1) := by decide +kernel
theorem dX12_set_36 : decode cX12_set 36 = .ok (.bipush (-5), 2) := by decide +kernel
theorem dX12_set_38 : decode cX12_set 38 = .ok (.invokevirtual 75, 3) := by decide +kernel
theorem dX12_set_41 : decode cX12_set 41 = .ok (.ireturn, 1) := by decide +kernel
theorem dX12_set_42 : decode cX12_set 42 = .ok (.aload_n 0, 1) := by decide +kernel
theorem dX12_set_43 : decode cX12_set 43 = .ok (.getfield 7, 3) := by decide +kernel
theorem dX12_set_46 : decode cX12_set 46 = .ok (.iload_n 1, 1) := by decide +kernel
theorem dX12_set_47 : decode cX12_set 47 = .ok (.iaload, 1) := by decide +kernel
theorem dX12_set_48 : decode cX12_set 48 = .ok (.bipush 100, 2) := by decide +kernel
theorem dX12_set_50 : decode cX12_set 50 = .ok (.isub, 1) := by decide +kernel
theorem dX12_set_51 : decode cX12_set 51 = .ok (.istore 6, 2) := by decide +kernel
theorem dX12_set_53 : decode cX12_set 53 = .ok (.aload_n 0, 1) := by decide +kernel
theorem dX12_set_54 : decode cX12_set 54 = .ok (.getfield 16, 3) := by decide +kernel
theorem dX12_set_57 : decode cX12_set 57 = .ok (.sipush 160, 3) := by decide +kernel
theorem dX12_set_60 : decode cX12_set 60 = .ok (.iload_n 1, 1) := by decide +kernel
theorem dX12_set_61 : decode cX12_set 61 = .ok (.imul, 1) := by decide +kernel
theorem dX12_set_62 : decode cX12_set 62 = .ok (.iload_n 2, 1) := by decide +kernel
theorem dX12_set_63 : decode cX12_set 63 = .ok (.iadd, 1) := by decide +kernel
theorem dX12_set_64 : decode cX12_set 64 = .ok (.iload 6, 2) := by decide +kernel
theorem dX12_set_66 : decode cX12_set 66 = .ok (.ifCond .ne 10, 3) := by decide +kernel
theorem dX12_set_69 : decode cX12_set 69 = .ok (.lload_n 3, 1) := by decide +kernel
theorem dX12_set_70 : decode cX12_set 70 = .ok (.l2i, 1) := by decide +kernel
theorem dX12_set_71 : decode cX12_set 71 = .ok (.i2b, 1) := by decide +kernel
theorem dX12_set_72 : decode cX12_set 72 = .ok (.i2l, 1) := by decide +kernel
theorem dX12_set_73 : decode cX12_set 73 = .ok (.goto 29, 3) := by decide +kernel
theorem dX12_set_76 : decode cX12_set 76 = .ok (.iload 6, 2) := by decide +kernel
theorem dX12_set_78 : decode cX12_set 78 = .ok (.iconst 1, 1) := by decide +kernel
theorem dX12_set_79 : decode cX12_set 79 = .ok (.if_icmp .ne 10, 3) := by decide +kernel
theorem dX12_set_82 : decode cX12_set 82 = .ok (.lload_n 3, 1) := by decide +kernel
theorem dX12_set_83 : decode cX12_set 83 = .ok (.l2i, 1) := by decide +kernel
theorem dX12_set_84 : decode cX12_set 84 = .ok (.i2s, 1) := by decide +kernel
theorem dX12_set_85 : decode cX12_set 85 = .ok (.i2l, 1) := by decide +kernel
theorem dX12_set_86 : decode cX12_set 86 = .ok (.goto 16, 3) := by decide +kernel
theorem dX12_set_89 : decode cX12_set 89 = .ok (.iload 6, 2) := by decide +kernel
theorem dX12_set_91 : decode cX12_set 91 = .ok (.iconst 2, 1) := by decide +kernel
theorem dX12_set_92 : decode cX12_set 92 = .ok (.if_icmp .ne 9, 3) := by decide +kernel
theorem dX12_set_95 : decode cX12_set 95 = .ok (.lload_n 3, 1) := by decide +kernel
theorem dX12_set_96 : decode cX12_set 96 = .ok (.l2i, 1) := by decide +kernel
theorem dX12_set_97 : decode cX12_set 97 = .ok (.i2l, 1) := by decide +kernel
theorem dX12_set_98 : decode cX12_set 98 = .ok (.goto 4, 3) := by decide +kernel
theorem dX12_set_101 : decode cX12_set 101 = .ok (.lload_n 3, 1) := by decide +kernel
theorem dX12_set_102 : decode cX12_set 102 = .ok (.lastore, 1) := by decide +kernel
theorem dX12_set_103 : decode cX12_set 103 = .ok (.iconst 1, 1) := by decide +kernel
theorem dX12_set_104 : decode cX12_set 104 = .ok (.ireturn, 1) := by decide +kernel
set_option maxRecDepth 20000 in
theorem ggX12_copy_X12_within : GoodIn wsX12_copy wsX12_within := goodIn_r _ [7] (by decide +kernel) (by decide +kernel)
set_option maxRecDepth 20000 in
theorem gX12_copy_X12_within : GoodIn wsX12_copy (va_wsS RX12 82 yX12_within wsX12_within) := goodIn_app (goodIn_of _ (by decide +kernel)) ggX12_copy_X12_within
set_option maxRecDepth 20000 in
theorem ggX12_copy_X12_no : GoodIn wsX12_copy wsX12_no := goodIn_r _ [11, 12, 17, 18, 19, 20, 21, 22, 23, 24, 25, 26, 27, 28, 29, 30, 31, 32, 33, 34, 35, 36, 37, 38, 39, 40, 41, 42, 43] (by decide +kernel) (by decide +kernel)
set_option maxRecDepth 20000 in
theorem gX12_copy_X12_no : GoodIn wsX12_copy (wsV RX12 75 RX12 yX12_no wsX12_no) := goodIn_app (goodIn_of _ (by decide +kernel)) ggX12_copy_X12_no
set_option maxRecDepth 20000 in
theorem ggX12_copy_X12_isRow : GoodIn wsX12_copy wsX12_isRow := goodIn_r _ [16, 1, 17, 18, 19, 20, 21, 22, 23, 24, 25, 26, 27, 28, 29, 30, 31, 32, 33, 34, 35, 36, 37, 38, 39, 40, 41, 42, 43] (by decide +kernel) (by decide +kernel)
set_option maxRecDepth 20000 in
theorem gX12_copy_X12_isRow : GoodIn wsX12_copy (wsV RX12 90 RX12 yX12_isRow wsX12_isRow) := goodIn_app (goodIn_of _ (by decide +kernel)) ggX12_copy_X12_isRow
theorem dX12_copy_0 : decode cX12_copy 0 = .ok (.iload_n 1, 1) := by decide +kernel
theorem dX12_copy_1 : decode cX12_copy 1 = .ok (.iconst 0, 1) := by decide +kernel
theorem dX12_copy_2 : decode cX12_copy 2 = .ok (.bipush 7, 2) := by decide +kernel
theorem dX12_copy_4 : decode cX12_copy 4 = .ok (.invokestatic 82, 3) := by decide +kernel
theorem dX12_copy_7 : decode cX12_copy 7 = .ok (.ifCond .eq 13, 3) := by decide +kernel
theorem dX12_copy_10 : decode cX12_copy 10 = .ok (.iload_n 2, 1) := by decide +kernel
theorem dX12_copy_11 : decode cX12_copy 11 = .ok (.iconst 0, 1) := by decide +kernel
theorem dX12_copy_12 : decode cX12_copy 12 = .ok (.bipush 7, 2) := by decide +kernel
theorem dX12_copy_14 : decode cX12_copy 14 = .ok (.invokestatic 82, 3) := by decide +kernel
theorem dX12_copy_17 : decode cX12_copy 17 = .ok (.ifCond .ne 9, 3) := by decide +kernel
theorem dX12_copy_20 : decode cX12_copy 20 = .ok (.aload_n 0, 1) := by decide +kernel
theorem dX12_copy_21 : decode cX12_copy 21 = .ok (.iconst (-1), 1) := by decide +kernel
theorem dX12_copy_22 : decode cX12_copy 22 = .ok (.invokevirtual 75, 3) := by decide +kernel
theorem dX12_copy_25 : decode cX12_copy 25 = .ok (.ireturn, 1) := by decide +kernel
theorem dX12_copy_26 : decode cX12_copy 26 = .ok (.aload_n 0, 1) := by decide +kernel
theorem dX12_copy_27 : decode cX12_copy 27 = .ok (.getfield 7, 3) := by decide +kernel
theorem dX12_copy_30 : decode cX12_copy 30 = .ok (.iload_n 1, 1) := by decide +kernel
theorem dX12_copy_31 : decode cX12_copy 31 = .ok (.iaload, 1) := by decide +kernel
theorem dX12_copy_32 : decode cX12_copy 32 = .ok (.ifCond .lt 11, 3) := by decide +kernel
theorem dX12_copy_35 : decode cX12_copy 35 = .ok (.aload_n 0, 1) := by decide +kernel
theorem dX12_copy_36 : decode cX12_copy 36 = .ok (.iload_n 1, 1) := by decide +kernel
theorem dX12_copy_37 : decode cX12_copy 37 = .ok (.invokevirtual 90, 3) := by decide +kernel
theorem dX12_copy_40 : decode cX12_copy 40 = .ok (.ifCond .eq 51, 3) := by decide +kernel
theorem dX12_copy_43 : decode cX12_copy 43 = .ok (.aload_n 0, 1) := by decide +kernel
theorem dX12_copy_44 : decode cX12_copy 44 = .ok (.getfield 7, 3) := by decide +kernel
theorem dX12_copy_47 : decode cX12_copy 47 = .ok (.iload_n 2, 1) := by decide +kernel
theorem dX12_copy_48 : decode cX12_copy 48 = .ok (.iaload, 1) := by decide +kernel
theorem dX12_copy_49 : decode cX12_copy 49 = .ok (.ifCond .lt 11, 3) := by decide +kernel
theorem dX12_copy_52 : decode cX12_copy 52 = .ok (.aload_n 0, 1) := by decide +kernel
theorem dX12_copy_53 : decode cX12_copy 53 = .ok (.iload_n 2, 1) := by decide +kernel
theorem dX12_copy_54 : decode cX12_copy 54 = .ok (.invokevirtual 90, 3) := by decide +kernel
theorem dX12_copy_57 : decode cX12_copy 57 = .ok (.ifCond .eq 34, 3) := by decide +kernel
theorem dX12_copy_60 : decode cX12_copy 60 = .ok (.aload_n 0, 1) := by decide +kernel
theorem dX12_copy_61 : decode cX12_copy 61 = .ok (.iload_n 1, 1) := by decide +kernel
theorem dX12_copy_62 : decode cX12_copy 62 = .ok (.invokevirtual 90, 3) := by decide +kernel
theorem dX12_copy_65 : decode cX12_copy 65 = .ok (.ifCond .eq 33, 3) := by decide +kernel
theorem dX12_copy_68 : decode cX12_copy 68 = .ok (.aload_n 0, 1) := by decide +kernel
theorem dX12_copy_69 : decode cX12_copy 69 = .ok (.iload_n 2, 1) := by decide +kernel
theorem dX12_copy_70 : decode cX12_copy 70 = .ok (.invokevirtual 90, 3) := by decide +kernel
theorem dX12_copy_73 : decode cX12_copy 73 = .ok (.ifCond .eq 25, 3) := by decide +kernel
theorem dX12_copy_76 : decode cX12_copy 76 = .ok (.aload_n 0, 1) := by decide +kernel
theorem dX12_copy_77 : decode cX12_copy 77 = .ok (.getfield 7, 3) := by decide +kernel
theorem dX12_copy_80 : decode cX12_copy 80 = .ok (.iload_n 1, 1) := by decide +kernel
theorem dX12_copy_81 : decode cX12_copy 81 = .ok (.iaload, 1) := by decide +kernel
theorem dX12_copy_82 : decode cX12_copy 82 = .ok (.aload_n 0, 1) := by decide +kernel
theorem dX12_copy_83 : decode cX12_copy 83 = .ok (.getfield 7, 3) := by decide +kernel
theorem dX12_copy_86 : decode cX12_copy 86 = .ok (.iload_n 2, 1) := by decide +kernel
theorem dX12_copy_87 : decode cX12_copy 87 = .ok (.iaload, 1) := by decide +kernel
theorem dX12_copy_88 : decode cX12_copy 88 = .ok (.if_icmp .eq 10, 3) := by decide +kernel
theorem dX12_copy_91 : decode cX12_copy 91 = .ok (.aload_n 0, 1) := by decide +kernel
theorem dX12_copy_92 : decode cX12_copy 92 = .ok (.bipush (-2), 2) := by decide +kernel
theorem dX12_copy_94 : decode cX12_copy 94 = .ok (.invokevirtual 75, 3) := by decide +kernel
theorem dX12_copy_97 : decode cX12_copy 97 = .ok (.ireturn, 1) := by decide +kernel
theorem dX12_copy_98 : decode cX12_copy 98 = .ok (.aload_n 0, 1) := by decide +kernel
theorem dX12_copy_99 : decode cX12_copy 99 = .ok (.getfield 7, 3) := by decide +kernel
theorem dX12_copy_102 : decode cX12_copy 102 = .ok (.iload_n 1, 1) := by decide +kernel
theorem dX12_copy_103 : decode cX12_copy 103 = .ok (.iaload, 1) := by decide +kernel
theorem dX12_copy_104 : decode cX12_copy 104 = .ok (.ifCond .lt 12, 3) := by decide +kernel
theorem dX12_copy_107 : decode cX12_copy 107 = .ok (.aload_n 0, 1) := by decide +kernel
theorem dX12_copy_108 : decode cX12_copy 108 = .ok (.getfield 7, 3) := by decide +kernel
theorem dX12_copy_111 : decode cX12_copy 111 = .ok (.iload_n 2, 1) := by decide +kernel
theorem dX12_copy_112 : decode cX12_copy 112 = .ok (.iaload, 1) := by decide +kernel
theorem dX12_copy_113 : decode cX12_copy 113 = .ok (.ifCond .ge 10, 3) := by decide +kernel
theorem dX12_copy_116 : decode cX12_copy 116 = .ok (.aload_n 0, 1) := by decide +kernel
theorem dX12_copy_117 : decode cX12_copy 117 = .ok (.bipush (-3), 2) := by decide +kernel
theorem dX12_copy_119 : decode cX12_copy 119 = .ok (.invokevirtual 75, 3) := by decide +kernel
theorem dX12_copy_122 : decode cX12_copy 122 = .ok (.ireturn, 1) := by decide +kernel
theorem dX12_copy_123 : decode cX12_copy 123 = .ok (.iload 5, 2) := by decide +kernel
theorem dX12_copy_125 : decode cX12_copy 125 = .ok (.ifCond .ge 10, 3) := by decide +kernel
theorem dX12_copy_128 : decode cX12_copy 128 = .ok (.aload_n 0, 1) := by decide +kernel
theorem dX12_copy_129 : decode cX12_copy 129 = .ok (.bipush (-4), 2) := by decide +kernel
theorem dX12_copy_131 : decode cX12_copy 131 = .ok (.invokevirtual 75, 3) := by decide +kernel
theorem dX12_copy_134 : decode cX12_copy 134 = .ok (.ireturn, 1) := by decide +kernel
theorem dX12_copy_135 : decode cX12_copy 135 = .ok (.iload_n 3, 1) := by decide +kernel
theorem dX12_copy_136 : decode cX12_copy 136 = .ok (.ifCond .lt 43, 3) := by decide +kernel
theorem dX12_copy_139 : decode cX12_copy 139 = .ok (.iload 4, 2) := by decide +kernel
theorem dX12_copy_141 : decode cX12_copy 141 = .ok (.ifCond .lt 38, 3) := by decide +kernel
theorem dX12_copy_144 : decode cX12_copy 144 = .ok (.iload_n 3, 1) := by decide +kernel
theorem dX12_copy_145 : decode cX12_copy 145 = .ok (.i2l, 1) := by decide +kernel
theorem dX12_copy_146 : decode cX12_copy 146 = .ok (.iload 5, 2) := by decide +kernel
theorem dX12_copy_148 : decode cX12_copy 148 = .ok (.i2l, 1) := by decide +kernel
theorem dX12_copy_149 : decode cX12_copy 149 = .ok (.ladd, 1) := by decide +kernel
theorem dX12_copy_150 : decode cX12_copy 150 = .ok (.aload_n 0, 1) := by decide +kernel
theorem dX12_copy_151 : decode cX12_copy 151 = .ok (.getfield 13, 3) := by decide +kernel
theorem dX12_copy_154 : decode cX12_copy 154 = .ok (.iload_n 1, 1) := by decide +kernel
theorem dX12_copy_155 : decode cX12_copy 155 = .ok (.iaload, 1) := by decide +kernel
theorem dX12_copy_156 : decode cX12_copy 156 = .ok (.i2l, 1) := by decide +kernel
theorem dX12_copy_157 : decode cX12_copy 157 = .ok (.lcmp, 1) := by decide +kernel
theorem dX12_copy_158 : decode cX12_copy 158 = .ok (.ifCond .gt 21, 3) := by decide +kernel
theorem dX12_copy_161 : decode cX12_copy 161 = .ok (.iload 4, 2) := by decide +kernel
theorem dX12_copy_163 : decode cX12_copy 163 = .ok (.i2l, 1) := by decide +kernel
theorem dX12_copy_164 : decode cX12_copy 164 = .ok (.iload 5, 2) := by decide +kernel
theorem dX12_copy_166 : decode cX12_copy 166 = .ok (.i2l, 1) := by decide +kernel
theorem dX12_copy_167 : decode cX12_copy 167 = .ok (.ladd, 1) := by decide +kernel
theorem dX12_copy_168 : decode cX12_copy 168 = .ok (.aload_n 0, 1) := by decide +kernel
theorem dX12_copy_169 : decode cX12_copy 169 = .ok (.getfield 13, 3) := by decide +kernel
theorem dX12_copy_172 : decode cX12_copy 172 = .ok (.iload_n 2, 1) := by decide +kernel
theorem dX12_copy_173 : decode cX12_copy 173 = .ok (.iaload, 1) := by decide +kernel
theorem dX12_copy_174 : decode cX12_copy 174 = .ok (.i2l, 1) := by decide +kernel
theorem dX12_copy_175 : decode cX12_copy 175 = .ok (.lcmp, 1) := by decide +kernel
theorem dX12_copy_176 : decode cX12_copy 176 = .ok (.ifCond .le 10, 3) := by decide +kernel
theorem dX12_copy_179 : decode cX12_copy 179 = .ok (.aload_n 0, 1) := by decide +kernel
theorem dX12_copy_180 : decode cX12_copy 180 = .ok (.bipush (-5), 2) := by decide +kernel
theorem dX12_copy_182 : decode cX12_copy 182 = .ok (.invokevirtual 75, 3) := by decide +kernel
theorem dX12_copy_185 : decode cX12_copy 185 = .ok (.ireturn, 1) := by decide +kernel
theorem dX12_copy_186 : decode cX12_copy 186 = .ok (.iload_n 1, 1) := by decide +kernel
theorem dX12_copy_187 : decode cX12_copy 187 = .ok (.iload_n 2, 1) := by decide +kernel
theorem dX12_copy_188 : decode cX12_copy 188 = .ok (.if_icmp .ne 60, 3) := by decide +kernel
theorem dX12_copy_191 : decode cX12_copy 191 = .ok (.iload_n 3, 1) := by decide +kernel
theorem dX12_copy_192 : decode cX12_copy 192 = .ok (.iload 4, 2) := by decide +kernel
theorem dX12_copy_194 : decode cX12_copy 194 = .ok (.if_icmp .ge 54, 3) := by decide +kernel
theorem dX12_copy_197 : decode cX12_copy 197 = .ok (.iload 5, 2) := by decide +kernel
theorem dX12_copy_199 : decode cX12_copy 199 = .ok (.iconst 1, 1) := by decide +kernel
theorem dX12_copy_200 : decode cX12_copy 200 = .ok (.isub, 1) := by decide +kernel
theorem dX12_copy_201 : decode cX12_copy 201 = .ok (.istore 6, 2) := by decide +kernel
theorem dX12_copy_203 : decode cX12_copy 203 = .ok (.iload 6, 2) := by decide +kernel
theorem dX12_copy_205 : decode cX12_copy 205 = .ok (.ifCond .lt 40, 3) := by decide +kernel
theorem dX12_copy_208 : decode cX12_copy 208 = .ok (.aload_n 0, 1) := by decide +kernel
theorem dX12_copy_209 : decode cX12_copy 209 = .ok (.getfield 16, 3) := by decide +kernel
theorem dX12_copy_212 : decode cX12_copy 212 = .ok (.sipush 160, 3) := by decide +kernel
theorem dX12_copy_215 : decode cX12_copy 215 = .ok (.iload_n 2, 1) := by decide +kernel
theorem dX12_copy_216 : decode cX12_copy 216 = .ok (.imul, 1) := by decide +kernel
theorem dX12_copy_217 : decode cX12_copy 217 = .ok (.iload 4, 2) := by decide +kernel
theorem dX12_copy_219 : decode cX12_copy 219 = .ok (.iadd, 1) := by decide +kernel
theorem dX12_copy_220 : decode cX12_copy 220 = .ok (.iload 6, 2) := by decide +kernel
theorem dX12_copy_222 : decode cX12_copy 222 = .ok (.iadd, 1) := by decide +kernel
theorem dX12_copy_223 : decode cX12_copy 223 = .ok (.aload_n 0, 1) := by decide +kernel
theorem dX12_copy_224 : decode cX12_copy 224 = .ok (.getfield 16, 3) := by decide +kernel
theorem dX12_copy_227 : decode cX12_copy 227 = .ok (.sipush 160, 3) := by decide +kernel
theorem dX12_copy_230 : decode cX12_copy 230 = .ok (.iload_n 1, 1) := by decide +kernel
theorem dX12_copy_231 : decode cX12_copy 231 = .ok (.imul, 1) := by decide +kernel
theorem dX12_copy_232 : decode cX12_copy 232 = .ok (.iload_n 3, 1) := by decide +kernel
theorem dX12_copy_233 : decode cX12_copy 233 = .ok (.iadd, 1) := by decide +kernel
theorem dX12_copy_234 : decode cX12_copy 234 = .ok (.iload 6, 2) := by decide +kernel
theorem dX12_copy_236 : decode cX12_copy 236 = .ok (.iadd, 1) := by decide +kernel
theorem dX12_copy_237 : decode cX12_copy 237 = .ok (.laload, 1) := by decide +kernel
theorem dX12_copy_238 : decode cX12_copy 238 = .ok (.lastore, 1) := by decide +kernel
theorem dX12_copy_239 : decode cX12_copy 239 = .ok (.iinc 6 (-1), 3) := by decide +kernel
theorem dX12_copy_242 : decode cX12_copy 242 = .ok (.goto (-39), 3) := by decide +kernel
theorem dX12_copy_245 : decode cX12_copy 245 = .ok (.goto 50, 3) := by decide +kernel
theorem dX12_copy_248 : decode cX12_copy 248 = .ok (.iconst 0, 1) := by decide +kernel
theorem dX12_copy_249 : decode cX12_copy 249 = .ok (.istore 6, 2) := by decide +kernel
theorem dX12_copy_251 : decode cX12_copy 251 = .ok (.iload 6, 2) := by decide +kernel
theorem dX12_copy_253 : decode cX12_copy 253 = .ok (.iload 5, 2) := by decide +kernel
theorem dX12_copy_255 : decode cX12_copy 255 = .ok (.if_icmp .ge 40, 3) := by decide +kernel
theorem dX12_copy_258 : decode cX12_copy 258 = .ok (.aload_n 0, 1) := by decide +kernel
theorem dX12_copy_259 : decode cX12_copy 259 = .ok (.getfield 16, 3) := by decide +kernel
theorem dX12_copy_262 : decode cX12_copy 262 = .ok (.sipush 160, 3) := by decide +kernel
theorem dX12_copy_265 : decode cX12_copy 265 = .ok (.iload_n 2, 1) := by decide +kernel
theorem dX12_copy_266 : decode cX12_copy 266 = .ok (.imul, 1) := by decide +kernel
theorem dX12_copy_267 : decode cX12_copy 267 = .ok (.iload 4, 2) := by decide +kernel
theorem dX12_copy_269 : decode cX12_copy 269 = .ok (.iadd, 1) := by decide +kernel
theorem dX12_copy_270 : decode cX12_copy 270 = .ok (.iload 6, 2) := by decide +kernel
theorem dX12_copy_272 : decode cX12_copy 272 = .ok (.iadd, 1) := by decide +kernel
theorem dX12_copy_273 : decode cX12_copy 273 = .ok (.aload_n 0, 1) := by decide +kernel
theorem dX12_copy_274 : decode cX12_copy 274 = .ok (.getfield 16, 3) := by decide +kernel
theorem dX12_copy_277 : decode cX12_copy 277 = .ok (.sipush 160, 3) := by decide +kernel
theorem dX12_copy_280 : decode cX12_copy 280 = .ok (.iload_n 1, 1) := by decide +kernel
theorem dX12_copy_281 : decode cX12_copy 281 = .ok (.imul, 1) := by decide +kernel
theorem dX12_copy_282 : decode cX12_copy 282 = .ok (.iload_n 3, 1) := by decide +kernel
theorem dX12_copy_283 : decode cX12_copy 283 = .ok (.iadd, 1) := by decide +kernel
theorem dX12_copy_284 : decode cX12_copy 284 = .ok (.iload 6, 2) := by decide +kernel
theorem dX12_copy_286 : decode cX12_copy 286 = .ok (.iadd, 1) := by decide +kernel
theorem dX12_copy_287 : decode cX12_copy 287 = .ok (.laload, 1) := by decide +kernel
theorem dX12_copy_288 : decode cX12_copy 288 = .ok (.lastore, 1) := by decide +kernel
theorem dX12_copy_289 : decode cX12_copy 289 = .ok (.iinc 6 1, 3) := by decide +kernel
theorem dX12_copy_292 : decode cX12_copy 292 = .ok (.goto (-41), 3) := by decide +kernel
theorem dX12_copy_295 : decode cX12_copy 295 = .ok (.iconst 1, 1) := by decide +kernel
theorem dX12_copy_296 : decode cX12_copy 296 = .ok (.ireturn, 1) := by decide +kernel
set_option maxRecDepth 20000 in
theorem ggX12_element_X12_within : GoodIn wsX12_element wsX12_within := goodIn_r _ [6] (by decide +kernel) (by decide +kernel)
set_option maxRecDepth 20000 in
theorem gX12_element_X12_within : GoodIn wsX12_element (va_wsS RX12 82 yX12_within wsX12_within) := goodIn_app (goodIn_of _ (by decide +kernel)) ggX12_element_X12_within
set_option maxRecDepth 20000 in
theorem ggX12_element_X12_isRow : GoodIn wsX12_element wsX12_isRow := goodIn_r _ [10, 11, 12, 13, 14, 15, 16, 17, 18, 19, 20, 21, 22, 23, 24, 25, 26, 27, 28, 29, 30, 31, 32, 33, 34, 35, 36, 37, 38] (by decide +kernel) (by decide +kernel)
set_option maxRecDepth 20000 in
theorem gX12_element_X12_isRow : GoodIn wsX12_element (wsV RX12 90 RX12 yX12_isRow wsX12_isRow) := goodIn_app (goodIn_of _ (by decide +kernel)) ggX12_element_X12_isRow
theorem dX12_element_0 : decode cX12_element 0 = .ok (.iload_n 1, 1) := by decide +kernel
theorem dX12_element_1 : decode cX12_element 1 = .ok (.iconst 0, 1) := by decide +kernel
theorem dX12_element_2 : decode cX12_element 2 = .ok (.bipush 7, 2) := by decide +kernel
theorem dX12_element_4 : decode cX12_element 4 = .ok (.invokestatic 82, 3) := by decide +kernel
theorem dX12_element_7 : decode cX12_element 7 = .ok (.ifCond .eq 42, 3) := by decide +kernel
theorem dX12_element_10 : decode cX12_element 10 = .ok (.aload_n 0, 1) := by decide +kernel
theorem dX12_element_11 : decode cX12_element 11 = .ok (.iload_n 1, 1) := by decide +kernel
theorem dX12_element_12 : decode cX12_element 12 = .ok (.invokevirtual 90, 3) := by decide +kernel
theorem dX12_element_15 : decode cX12_element 15 = .ok (.ifCond .eq 34, 3) := by decide +kernel
theorem dX12_element_18 : decode cX12_element 18 = .ok (.iload_n 2, 1) := by decide +kernel
theorem dX12_element_19 : decode cX12_element 19 = .ok (.iconst 0, 1) := by decide +kernel
theorem dX12_element_20 : decode cX12_element 20 = .ok (.aload_n 0, 1) := by decide +kernel
theorem dX12_element_21 : decode cX12_element 21 = .ok (.getfield 13, 3) := by decide +kernel
theorem dX12_element_24 : decode cX12_element 24 = .ok (.iload_n 1, 1) := by decide +kernel
theorem dX12_element_25 : decode cX12_element 25 = .ok (.iaload, 1) := by decide +kernel
theorem dX12_element_26 : decode cX12_element 26 = .ok (.iconst 1, 1) := by decide +kernel
theorem dX12_element_27 : decode cX12_element 27 = .ok (.isub, 1) := by decide +kernel
theorem dX12_element_28 : decode cX12_element 28 = .ok (.invokestatic 82, 3) := by decide +kernel
theorem dX12_element_31 : decode cX12_element 31 = .ok (.ifCond .eq 18, 3) := by decide +kernel
theorem dX12_element_34 : decode cX12_element 34 = .ok (.aload_n 0, 1) := by decide +kernel
theorem dX12_element_35 : decode cX12_element 35 = .ok (.getfield 16, 3) := by decide +kernel
theorem dX12_element_38 : decode cX12_element 38 = .ok (.sipush 160, 3) := by decide +kernel
theorem dX12_element_41 : decode cX12_element 41 = .ok (.iload_n 1, 1) := by decide +kernel
theorem dX12_element_42 : decode cX12_element 42 = .ok (.imul, 1) := by decide +kernel
theorem dX12_element_43 : decode cX12_element 43 = .ok (.iload_n 2, 1) := by decide +kernel
theorem dX12_element_44 : decode cX12_element 44 = .ok (.iadd, 1) := by decide +kernel
theorem dX12_element_45 : decode cX12_element 45 = .ok (.laload, 1) := by decide +kernel
theorem dX12_element_46 : decode cX12_element 46 = .ok (.goto 4, 3) := by decide +kernel
theorem dX12_element_49 : decode cX12_element 49 = .ok (.lconst 0, 1) := by decide +kernel
theorem dX12_element_50 : decode cX12_element 50 = .ok (.lreturn, 1) := by decide +kernel
set_option maxRecDepth 20000 in
theorem ggX12_show_X12_within : GoodIn wsX12_show wsX12_within := goodIn_r _ [5] (by decide +kernel) (by decide +kernel)
set_option maxRecDepth 20000 in
theorem gX12_show_X12_within : GoodIn wsX12_show (va_wsS RX12 82 yX12_within wsX12_within) := goodIn_app (goodIn_of _ (by decide +kernel)) ggX12_show_X12_within
set_option maxRecDepth 20000 in
theorem ggX12_show_X12_isPerson : GoodIn wsX12_show wsX12_isPerson := goodIn_r _ [9, 10, 2, 3, 4, 5, 16, 17, 18, 19, 20, 21, 22, 23, 24, 25, 26, 27, 28, 29, 30, 31, 32, 33, 34, 35, 36, 37, 38, 39, 40, 41, 42] (by decide +kernel) (by decide +kernel)
set_option maxRecDepth 20000 in
theorem gX12_show_X12_isPerson : GoodIn wsX12_show (wsV RX12 96 RX12 yX12_isPerson wsX12_isPerson) := goodIn_app (goodIn_of _ (by decide +kernel)) ggX12_show_X12_isPerson
set_option maxRecDepth 20000 in
theorem ggX12_show_X12_no : GoodIn wsX12_show wsX12_no := goodIn_r _ [14, 15, 16, 17, 18, 19, 20, 21, 22, 23, 24, 25, 26, 27, 28, 29, 30, 31, 32, 33, 34, 35, 36, 37, 38, 39, 40, 41, 42] (by decide +kernel) (by decide +kernel)
set_option maxRecDepth 20000 in
theorem gX12_show_X12_no : GoodIn wsX12_show (wsV RX12 75 RX12 yX12_no wsX12_no) := goodIn_app (goodIn_of _ (by decide +kernel)) ggX12_show_X12_no
theorem dX12_show_0 : decode cX12_show 0 = .ok (.iload_n 1, 1) := by decide +kernel
theorem dX12_show_1 : decode cX12_show 1 = .ok (.iconst 0, 1) := by decide +kernel
theorem dX12_show_2 : decode cX12_show 2 = .ok (.bipush 7, 2) := by decide +kernel
theorem dX12_show_4 : decode cX12_show 4 = .ok (.invokestatic 82, 3) := by decide +kernel
theorem dX12_show_7 : decode cX12_show 7 = .ok (.ifCond .eq 16, 3) := by decide +kernel
theorem dX12_show_10 : decode cX12_show 10 = .ok (.iload_n 2, 1) := by decide +kernel
theorem dX12_show_11 : decode cX12_show 11 = .ok (.iconst (-1), 1) := by decide +kernel
theorem dX12_show_12 : decode cX12_show 12 = .ok (.if_icmp .eq 17, 3) := by decide +kernel
theorem dX12_show_15 : decode cX12_show 15 = .ok (.aload_n 0, 1) := by decide +kernel
theorem dX12_show_16 : decode cX12_show 16 = .ok (.iload_n 2, 1) := by decide +kernel
theorem dX12_show_17 : decode cX12_show 17 = .ok (.invokevirtual 96, 3) := by decide +kernel
theorem dX12_show_20 : decode cX12_show 20 = .ok (.ifCond .ne 9, 3) := by decide +kernel
theorem dX12_show_23 : decode cX12_show 23 = .ok (.aload_n 0, 1) := by decide +kernel
theorem dX12_show_24 : decode cX12_show 24 = .ok (.iconst (-1), 1) := by decide +kernel
theorem dX12_show_25 : decode cX12_show 25 = .ok (.invokevirtual 75, 3) := by decide +kernel
theorem dX12_show_28 : decode cX12_show 28 = .ok (.ireturn, 1) := by decide +kernel
theorem dX12_show_29 : decode cX12_show 29 = .ok (.aload_n 0, 1) := by decide +kernel
theorem dX12_show_30 : decode cX12_show 30 = .ok (.getfield 7, 3) := by decide +kernel
theorem dX12_show_33 : decode cX12_show 33 = .ok (.iload_n 1, 1) := by decide +kernel
theorem dX12_show_34 : decode cX12_show 34 = .ok (.iload_n 2, 1) := by decide +kernel
theorem dX12_show_35 : decode cX12_show 35 = .ok (.iastore, 1) := by decide +kernel
theorem dX12_show_36 : decode cX12_show 36 = .ok (.iload_n 2, 1) := by decide +kernel
theorem dX12_show_37 : decode cX12_show 37 = .ok (.iconst (-1), 1) := by decide +kernel
theorem dX12_show_38 : decode cX12_show 38 = .ok (.if_icmp .ne 7, 3) := by decide +kernel
theorem dX12_show_41 : decode cX12_show 41 = .ok (.iconst 0, 1) := by decide +kernel
theorem dX12_show_42 : decode cX12_show 42 = .ok (.goto 4, 3) := by decide +kernel
theorem dX12_show_45 : decode cX12_show 45 = .ok (.iconst 1, 1) := by decide +kernel
theorem dX12_show_46 : decode cX12_show 46 = .ok (.ireturn, 1) := by decide +kernel
set_option maxRecDepth 20000 in
theorem ggX12_holds_X12_within : GoodIn wsX12_holds wsX12_within := goodIn_r _ [5] (by decide +kernel) (by decide +kernel)
set_option maxRecDepth 20000 in
theorem gX12_holds_X12_within : GoodIn wsX12_holds (va_wsS RX12 82 yX12_within wsX12_within) := goodIn_app (goodIn_of _ (by decide +kernel)) ggX12_holds_X12_within
theorem dX12_holds_0 : decode cX12_holds 0 = .ok (.iload_n 1, 1) := by decide +kernel
theorem dX12_holds_1 : decode cX12_holds 1 = .ok (.iconst 0, 1) := by decide +kernel
theorem dX12_holds_2 : decode cX12_holds 2 = .ok (.bipush 7, 2) := by decide +kernel
theorem dX12_holds_4 : decode cX12_holds 4 = .ok (.invokestatic 82, 3) := by decide +kernel
theorem dX12_holds_7 : decode cX12_holds 7 = .ok (.ifCond .eq 12, 3) := by decide +kernel
theorem dX12_holds_10 : decode cX12_holds 10 = .ok (.aload_n 0, 1) := by decide +kernel
theorem dX12_holds_11 : decode cX12_holds 11 = .ok (.getfield 7, 3) := by decide +kernel
theorem dX12_holds_14 : decode cX12_holds 14 = .ok (.iload_n 1, 1) := by decide +kernel
theorem dX12_holds_15 : decode cX12_holds 15 = .ok (.iaload, 1) := by decide +kernel
theorem dX12_holds_16 : decode cX12_holds 16 = .ok (.goto 4, 3) := by decide +kernel
theorem dX12_holds_19 : decode cX12_holds 19 = .ok (.iconst (-1), 1) := by decide +kernel
theorem dX12_holds_20 : decode cX12_holds 20 = .ok (.ireturn, 1) := by decide +kernel
theorem dX12_above_0 : decode cX12_above 0 = .ok (.iload_n 0, 1) := by decide +kernel
theorem dX12_above_1 : decode cX12_above 1 = .ok (.iconst 3, 1) := by decide +kernel
theorem dX12_above_2 : decode cX12_above 2 = .ok (.if_icmp .ne 7, 3) := by decide +kernel
theorem dX12_above_5 : decode cX12_above 5 = .ok (.iconst 2, 1) := by decide +kernel
theorem dX12_above_6 : decode cX12_above 6 = .ok (.goto 23, 3) := by decide +kernel
theorem dX12_above_9 : decode cX12_above 9 = .ok (.iload_n 0, 1) := by decide +kernel
theorem dX12_above_10 : decode cX12_above 10 = .ok (.iconst 5, 1) := by decide +kernel
theorem dX12_above_11 : decode cX12_above 11 = .ok (.if_icmp .ne 7, 3) := by decide +kernel
theorem dX12_above_14 : decode cX12_above 14 = .ok (.iconst 4, 1) := by decide +kernel
theorem dX12_above_15 : decode cX12_above 15 = .ok (.goto 14, 3) := by decide +kernel
theorem dX12_above_18 : decode cX12_above 18 = .ok (.iload_n 0, 1) := by decide +kernel
theorem dX12_above_19 : decode cX12_above 19 = .ok (.bipush 6, 2) := by decide +kernel
theorem dX12_above_21 : decode cX12_above 21 = .ok (.if_icmp .ne 7, 3) := by decide +kernel
theorem dX12_above_24 : decode cX12_above 24 = .ok (.iconst 1, 1) := by decide +kernel
theorem dX12_above_25 : decode cX12_above 25 = .ok (.goto 4, 3) := by decide +kernel
theorem dX12_above_28 : decode cX12_above 28 = .ok (.iconst 0, 1) := by decide +kernel
theorem dX12_above_29 : decode cX12_above 29 = .ok (.ireturn, 1) := by decide +kernel
set_option maxRecDepth 20000 in
theorem ggX12_isUnder_X12_above : GoodIn wsX12_isUnder wsX12_above := goodIn_r _ [4] (by decide +kernel) (by decide +kernel)
set_option maxRecDepth 20000 in
theorem gX12_isUnder_X12_above : GoodIn wsX12_isUnder (va_wsS RX12 99 yX12_above wsX12_above) := goodIn_app (goodIn_of _ (by decide +kernel)) ggX12_isUnder_X12_above
theorem dX12_isUnder_0 : decode cX12_isUnder 0 = .ok (.iload_n 0, 1) := by decide +kernel
theorem dX12_isUnder_1 : decode cX12_isUnder 1 = .ok (.istore_n 2, 1) := by decide +kernel
theorem dX12_isUnder_2 : decode cX12_isUnder 2 = .ok (.iload_n 2, 1) := by decide +kernel
theorem dX12_isUnder_3 : decode cX12_isUnder 3 = .ok (.iload_n 1, 1) := by decide +kernel
theorem dX12_isUnder_4 : decode cX12_isUnder 4 = .ok (.if_icmp .eq 15, 3) := by decide +kernel
theorem dX12_isUnder_7 : decode cX12_isUnder 7 = .ok (.iload_n 2, 1) := by decide +kernel
theorem dX12_isUnder_8 : decode cX12_isUnder 8 = .ok (.ifCond .le 11, 3) := by decide +kernel
theorem dX12_isUnder_11 : decode cX12_isUnder 11 = .ok (.iload_n 2, 1) := by decide +kernel
theorem dX12_isUnder_12 : decode cX12_isUnder 12 = .ok (.invokestatic 99, 3) := by decide +kernel
theorem dX12_isUnder_15 : decode cX12_isUnder 15 = .ok (.istore_n 2, 1) := by decide +kernel
theorem dX12_isUnder_16 : decode cX12_isUnder 16 = .ok (.goto (-14), 3) := by decide +kernel
theorem dX12_isUnder_19 : decode cX12_isUnder 19 = .ok (.iload_n 2, 1) := by decide +kernel
theorem dX12_isUnder_20 : decode cX12_isUnder 20 = .ok (.iload_n 1, 1) := by decide +kernel
theorem dX12_isUnder_21 : decode cX12_isUnder 21 = .ok (.if_icmp .ne 7, 3) := by decide +kernel
theorem dX12_isUnder_24 : decode cX12_isUnder 24 = .ok (.iconst 1, 1) := by decide +kernel
theorem dX12_isUnder_25 : decode cX12_isUnder 25 = .ok (.goto 4, 3) := by decide +kernel
theorem dX12_isUnder_28 : decode cX12_isUnder 28 = .ok (.iconst 0, 1) := by decide +kernel
theorem dX12_isUnder_29 : decode cX12_isUnder 29 = .ok (.ireturn, 1) := by decide +kernel
set_option maxRecDepth 20000 in
theorem ggX12_says_X12_within : GoodIn wsX12_says wsX12_within := goodIn_r _ [8] (by decide +kernel) (by decide +kernel)
set_option maxRecDepth 20000 in
theorem gX12_says_X12_within : GoodIn wsX12_says (va_wsS RX12 82 yX12_within wsX12_within) := goodIn_app (goodIn_of _ (by decide +kernel)) ggX12_says_X12_within
set_option maxRecDepth 20000 in
theorem ggX12_says_X12_no : GoodIn wsX12_says wsX12_no := goodIn_r _ [12, 13, 29, 30, 31, 32, 33, 34, 35, 36, 37, 38, 39, 40, 41, 42, 43, 44, 45, 46, 47, 48, 49, 50, 51, 52, 53, 54, 55] (by decide +kernel) (by decide +kernel)
set_option maxRecDepth 20000 in
theorem gX12_says_X12_no : GoodIn wsX12_says (wsV RX12 75 RX12 yX12_no wsX12_no) := goodIn_app (goodIn_of _ (by decide +kernel)) ggX12_says_X12_no
set_option maxRecDepth 20000 in
theorem ggX12_says_X12_isRow : GoodIn wsX12_says wsX12_isRow := goodIn_r _ [17, 1, 29, 30, 31, 32, 33, 34, 35, 36, 37, 38, 39, 40, 41, 42, 43, 44, 45, 46, 47, 48, 49, 50, 51, 52, 53, 54, 55] (by decide +kernel) (by decide +kernel)
set_option maxRecDepth 20000 in
theorem gX12_says_X12_isRow : GoodIn wsX12_says (wsV RX12 90 RX12 yX12_isRow wsX12_isRow) := goodIn_app (goodIn_of _ (by decide +kernel)) ggX12_says_X12_isRow
set_option maxRecDepth 20000 in
theorem ggX12_says_X12_isUnder : GoodIn wsX12_says wsX12_isUnder := goodIn_r _ [20, 21, 22, 7, 23] (by decide +kernel) (by decide +kernel)
set_option maxRecDepth 20000 in
theorem gX12_says_X12_isUnder : GoodIn wsX12_says (va_wsS RX12 102 yX12_isUnder wsX12_isUnder) := goodIn_app (goodIn_of _ (by decide +kernel)) ggX12_says_X12_isUnder
set_option maxRecDepth 20000 in
theorem ggX12_says_X12_lossAt : GoodIn wsX12_says wsX12_lossAt := goodIn_r _ [27, 2, 3, 28, 29, 30, 31, 32, 33, 34, 35, 36, 37, 38, 39, 40, 41, 42, 43, 44, 45, 46, 47, 48, 49, 50, 51, 52, 53, 54, 55] (by decide +kernel) (by decide +kernel)
set_option maxRecDepth 20000 in
theorem gX12_says_X12_lossAt : GoodIn wsX12_says (wsV RX12 106 RX12 yX12_lossAt wsX12_lossAt) := goodIn_app (goodIn_of _ (by decide +kernel)) ggX12_says_X12_lossAt
theorem dX12_says_0 : decode cX12_says 0 = .ok (.iload_n 1, 1) := by decide +kernel
theorem dX12_says_1 : decode cX12_says 1 = .ok (.iconst 0, 1) := by decide +kernel
theorem dX12_says_2 : decode cX12_says 2 = .ok (.bipush 7, 2) := by decide +kernel
theorem dX12_says_4 : decode cX12_says 4 = .ok (.invokestatic 82, 3) := by decide +kernel
theorem dX12_says_7 : decode cX12_says 7 = .ok (.ifCond .eq 13, 3) := by decide +kernel
theorem dX12_says_10 : decode cX12_says 10 = .ok (.iload_n 2, 1) := by decide +kernel
theorem dX12_says_11 : decode cX12_says 11 = .ok (.iconst 0, 1) := by decide +kernel
theorem dX12_says_12 : decode cX12_says 12 = .ok (.bipush 6, 2) := by decide +kernel
theorem dX12_says_14 : decode cX12_says 14 = .ok (.invokestatic 82, 3) := by decide +kernel
theorem dX12_says_17 : decode cX12_says 17 = .ok (.ifCond .ne 9, 3) := by decide +kernel
theorem dX12_says_20 : decode cX12_says 20 = .ok (.aload_n 0, 1) := by decide +kernel
theorem dX12_says_21 : decode cX12_says 21 = .ok (.iconst (-1), 1) := by decide +kernel
theorem dX12_says_22 : decode cX12_says 22 = .ok (.invokevirtual 75, 3) := by decide +kernel
theorem dX12_says_25 : decode cX12_says 25 = .ok (.ireturn, 1) := by decide +kernel
theorem dX12_says_26 : decode cX12_says 26 = .ok (.aload_n 0, 1) := by decide +kernel
theorem dX12_says_27 : decode cX12_says 27 = .ok (.getfield 7, 3) := by decide +kernel
theorem dX12_says_30 : decode cX12_says 30 = .ok (.iload_n 1, 1) := by decide +kernel
theorem dX12_says_31 : decode cX12_says 31 = .ok (.iaload, 1) := by decide +kernel
theorem dX12_says_32 : decode cX12_says 32 = .ok (.istore_n 3, 1) := by decide +kernel
theorem dX12_says_33 : decode cX12_says 33 = .ok (.iload_n 3, 1) := by decide +kernel
theorem dX12_says_34 : decode cX12_says 34 = .ok (.ifCond .lt 31, 3) := by decide +kernel
theorem dX12_says_37 : decode cX12_says 37 = .ok (.aload_n 0, 1) := by decide +kernel
theorem dX12_says_38 : decode cX12_says 38 = .ok (.iload_n 1, 1) := by decide +kernel
theorem dX12_says_39 : decode cX12_says 39 = .ok (.invokevirtual 90, 3) := by decide +kernel
theorem dX12_says_42 : decode cX12_says 42 = .ok (.ifCond .ne 16, 3) := by decide +kernel
theorem dX12_says_45 : decode cX12_says 45 = .ok (.aload_n 0, 1) := by decide +kernel
theorem dX12_says_46 : decode cX12_says 46 = .ok (.getfield 20, 3) := by decide +kernel
theorem dX12_says_49 : decode cX12_says 49 = .ok (.iload_n 3, 1) := by decide +kernel
theorem dX12_says_50 : decode cX12_says 50 = .ok (.iaload, 1) := by decide +kernel
theorem dX12_says_51 : decode cX12_says 51 = .ok (.iload_n 2, 1) := by decide +kernel
theorem dX12_says_52 : decode cX12_says 52 = .ok (.invokestatic 102, 3) := by decide +kernel
theorem dX12_says_55 : decode cX12_says 55 = .ok (.ifCond .ne 10, 3) := by decide +kernel
theorem dX12_says_58 : decode cX12_says 58 = .ok (.aload_n 0, 1) := by decide +kernel
theorem dX12_says_59 : decode cX12_says 59 = .ok (.bipush (-2), 2) := by decide +kernel
theorem dX12_says_61 : decode cX12_says 61 = .ok (.invokevirtual 75, 3) := by decide +kernel
theorem dX12_says_64 : decode cX12_says 64 = .ok (.ireturn, 1) := by decide +kernel
theorem dX12_says_65 : decode cX12_says 65 = .ok (.iload_n 3, 1) := by decide +kernel
theorem dX12_says_66 : decode cX12_says 66 = .ok (.ifCond .ge 10, 3) := by decide +kernel
theorem dX12_says_69 : decode cX12_says 69 = .ok (.aload_n 0, 1) := by decide +kernel
theorem dX12_says_70 : decode cX12_says 70 = .ok (.bipush (-3), 2) := by decide +kernel
theorem dX12_says_72 : decode cX12_says 72 = .ok (.invokevirtual 75, 3) := by decide +kernel
theorem dX12_says_75 : decode cX12_says 75 = .ok (.ireturn, 1) := by decide +kernel
theorem dX12_says_76 : decode cX12_says 76 = .ok (.iload_n 2, 1) := by decide +kernel
theorem dX12_says_77 : decode cX12_says 77 = .ok (.tableswitch 64 0 6 #[43, 50, 57, 57, 64, 64, 50], 43) := by decide +kernel
theorem dX12_says_120 : decode cX12_says 120 = .ok (.aload_n 0, 1) := by decide +kernel
theorem dX12_says_121 : decode cX12_says 121 = .ok (.getfield 26, 3) := by decide +kernel
theorem dX12_says_124 : decode cX12_says 124 = .ok (.iload_n 3, 1) := by decide +kernel
theorem dX12_says_125 : decode cX12_says 125 = .ok (.iaload, 1) := by decide +kernel
theorem dX12_says_126 : decode cX12_says 126 = .ok (.ireturn, 1) := by decide +kernel
theorem dX12_says_127 : decode cX12_says 127 = .ok (.aload_n 0, 1) := by decide +kernel
theorem dX12_says_128 : decode cX12_says 128 = .ok (.getfield 29, 3) := by decide +kernel
theorem dX12_says_131 : decode cX12_says 131 = .ok (.iload_n 3, 1) := by decide +kernel
theorem dX12_says_132 : decode cX12_says 132 = .ok (.iaload, 1) := by decide +kernel
theorem dX12_says_133 : decode cX12_says 133 = .ok (.ireturn, 1) := by decide +kernel
theorem dX12_says_134 : decode cX12_says 134 = .ok (.aload_n 0, 1) := by decide +kernel
theorem dX12_says_135 : decode cX12_says 135 = .ok (.iload_n 3, 1) := by decide +kernel
theorem dX12_says_136 : decode cX12_says 136 = .ok (.iconst 5, 1) := by decide +kernel
theorem dX12_says_137 : decode cX12_says 137 = .ok (.invokevirtual 106, 3) := by decide +kernel
theorem dX12_says_140 : decode cX12_says 140 = .ok (.ireturn, 1) := by decide +kernel
theorem dX12_says_141 : decode cX12_says 141 = .ok (.aload_n 0, 1) := by decide +kernel
theorem dX12_says_142 : decode cX12_says 142 = .ok (.iload_n 3, 1) := by decide +kernel
theorem dX12_says_143 : decode cX12_says 143 = .ok (.iconst 1, 1) := by decide +kernel
theorem dX12_says_144 : decode cX12_says 144 = .ok (.invokevirtual 106, 3) := by decide +kernel
theorem dX12_says_147 : decode cX12_says 147 = .ok (.ireturn, 1) := by decide +kernel
theorem dX12_newPerson_0 : decode cX12_newPerson 0 = .ok (.aload_n 0, 1) := by decide +kernel
theorem dX12_newPerson_1 : decode cX12_newPerson 1 = .ok (.getfield 20, 3) := by decide +kernel
theorem dX12_newPerson_4 : decode cX12_newPerson 4 = .ok (.aload_n 0, 1) := by decide +kernel
theorem dX12_newPerson_5 : decode cX12_newPerson 5 = .ok (.getfield 79, 3) := by decide +kernel
theorem dX12_newPerson_8 : decode cX12_newPerson 8 = .ok (.iload_n 1, 1) := by decide +kernel
theorem dX12_newPerson_9 : decode cX12_newPerson 9 = .ok (.iastore, 1) := by decide +kernel
theorem dX12_newPerson_10 : decode cX12_newPerson 10 = .ok (.aload_n 0, 1) := by decide +kernel
theorem dX12_newPerson_11 : decode cX12_newPerson 11 = .ok (.getfield 23, 3) := by decide +kernel
theorem dX12_newPerson_14 : decode cX12_newPerson 14 = .ok (.aload_n 0, 1) := by decide +kernel
theorem dX12_newPerson_15 : decode cX12_newPerson 15 = .ok (.getfield 79, 3) := by decide +kernel
theorem dX12_newPerson_18 : decode cX12_newPerson 18 = .ok (.iload_n 2, 1) := by decide +kernel
theorem dX12_newPerson_19 : decode cX12_newPerson 19 = .ok (.iastore, 1) := by decide +kernel
theorem dX12_newPerson_20 : decode cX12_newPerson 20 = .ok (.aload_n 0, 1) := by decide +kernel
theorem dX12_newPerson_21 : decode cX12_newPerson 21 = .ok (.getfield 26, 3) := by decide +kernel
theorem dX12_newPerson_24 : decode cX12_newPerson 24 = .ok (.aload_n 0, 1) := by decide +kernel
theorem dX12_newPerson_25 : decode cX12_newPerson 25 = .ok (.getfield 79, 3) := by decide +kernel
theorem dX12_newPerson_28 : decode cX12_newPerson 28 = .ok (.iload_n 3, 1) := by decide +kernel
theorem dX12_newPerson_29 : decode cX12_newPerson 29 = .ok (.iastore, 1) := by decide +kernel
theorem dX12_newPerson_30 : decode cX12_newPerson 30 = .ok (.aload_n 0, 1) := by decide +kernel
theorem dX12_newPerson_31 : decode cX12_newPerson 31 = .ok (.getfield 29, 3) := by decide +kernel
theorem dX12_newPerson_34 : decode cX12_newPerson 34 = .ok (.aload_n 0, 1) := by decide +kernel
theorem dX12_newPerson_35 : decode cX12_newPerson 35 = .ok (.getfield 79, 3) := by decide +kernel
theorem dX12_newPerson_38 : decode cX12_newPerson 38 = .ok (.iconst 0, 1) := by decide +kernel
theorem dX12_newPerson_39 : decode cX12_newPerson 39 = .ok (.iastore, 1) := by decide +kernel
theorem dX12_newPerson_40 : decode cX12_newPerson 40 = .ok (.iconst 0, 1) := by decide +kernel
theorem dX12_newPerson_41 : decode cX12_newPerson 41 = .ok (.istore 4, 2) := by decide +kernel
theorem dX12_newPerson_43 : decode cX12_newPerson 43 = .ok (.iload 4, 2) := by decide +kernel
theorem dX12_newPerson_45 : decode cX12_newPerson 45 = .ok (.bipush 6, 2) := by decide +kernel
theorem dX12_newPerson_47 : decode cX12_newPerson 47 = .ok (.if_icmp .ge 41, 3) := by decide +kernel
theorem dX12_newPerson_50 : decode cX12_newPerson 50 = .ok (.aload_n 0, 1) := by decide +kernel
theorem dX12_newPerson_51 : decode cX12_newPerson 51 = .ok (.getfield 32, 3) := by decide +kernel
theorem dX12_newPerson_54 : decode cX12_newPerson 54 = .ok (.bipush 6, 2) := by decide +kernel
theorem dX12_newPerson_56 : decode cX12_newPerson 56 = .ok (.aload_n 0, 1) := by decide +kernel
theorem dX12_newPerson_57 : decode cX12_newPerson 57 = .ok (.getfield 79, 3) := by decide +kernel
theorem dX12_newPerson_60 : decode cX12_newPerson 60 = .ok (.imul, 1) := by decide +kernel
theorem dX12_newPerson_61 : decode cX12_newPerson 61 = .ok (.iload 4, 2) := by decide +kernel
theorem dX12_newPerson_63 : decode cX12_newPerson 63 = .ok (.iadd, 1) := by decide +kernel
theorem dX12_newPerson_64 : decode cX12_newPerson 64 = .ok (.iconst 0, 1) := by decide +kernel
theorem dX12_newPerson_65 : decode cX12_newPerson 65 = .ok (.iastore, 1) := by decide +kernel
theorem dX12_newPerson_66 : decode cX12_newPerson 66 = .ok (.aload_n 0, 1) := by decide +kernel
theorem dX12_newPerson_67 : decode cX12_newPerson 67 = .ok (.getfield 35, 3) := by decide +kernel
theorem dX12_newPerson_70 : decode cX12_newPerson 70 = .ok (.bipush 6, 2) := by decide +kernel
theorem dX12_newPerson_72 : decode cX12_newPerson 72 = .ok (.aload_n 0, 1) := by decide +kernel
theorem dX12_newPerson_73 : decode cX12_newPerson 73 = .ok (.getfield 79, 3) := by decide +kernel
theorem dX12_newPerson_76 : decode cX12_newPerson 76 = .ok (.imul, 1) := by decide +kernel
theorem dX12_newPerson_77 : decode cX12_newPerson 77 = .ok (.iload 4, 2) := by decide +kernel
theorem dX12_newPerson_79 : decode cX12_newPerson 79 = .ok (.iadd, 1) := by decide +kernel
theorem dX12_newPerson_80 : decode cX12_newPerson 80 = .ok (.iconst 0, 1) := by decide +kernel
theorem dX12_newPerson_81 : decode cX12_newPerson 81 = .ok (.iastore, 1) := by decide +kernel
theorem dX12_newPerson_82 : decode cX12_newPerson 82 = .ok (.iinc 4 1, 3) := by decide +kernel
theorem dX12_newPerson_85 : decode cX12_newPerson 85 = .ok (.goto (-42), 3) := by decide +kernel
theorem dX12_newPerson_88 : decode cX12_newPerson 88 = .ok (.iconst 0, 1) := by decide +kernel
theorem dX12_newPerson_89 : decode cX12_newPerson 89 = .ok (.istore 4, 2) := by decide +kernel
theorem dX12_newPerson_91 : decode cX12_newPerson 91 = .ok (.iload 4, 2) := by decide +kernel
theorem dX12_newPerson_93 : decode cX12_newPerson 93 = .ok (.bipush 48, 2) := by decide +kernel
theorem dX12_newPerson_95 : decode cX12_newPerson 95 = .ok (.if_icmp .ge 25, 3) := by decide +kernel
theorem dX12_newPerson_98 : decode cX12_newPerson 98 = .ok (.aload_n 0, 1) := by decide +kernel
theorem dX12_newPerson_99 : decode cX12_newPerson 99 = .ok (.getfield 38, 3) := by decide +kernel
theorem dX12_newPerson_102 : decode cX12_newPerson 102 = .ok (.bipush 48, 2) := by decide +kernel
theorem dX12_newPerson_104 : decode cX12_newPerson 104 = .ok (.aload_n 0, 1) := by decide +kernel
theorem dX12_newPerson_105 : decode cX12_newPerson 105 = .ok (.getfield 79, 3) := by decide +kernel
theorem dX12_newPerson_108 : decode cX12_newPerson 108 = .ok (.imul, 1) := by decide +kernel
theorem dX12_newPerson_109 : decode cX12_newPerson 109 = .ok (.iload 4, 2) := by decide +kernel
theorem dX12_newPerson_111 : decode cX12_newPerson 111 = .ok (.iadd, 1) := by decide +kernel
theorem dX12_newPerson_112 : decode cX12_newPerson 112 = .ok (.iconst 0, 1) := by decide +kernel
theorem dX12_newPerson_113 : decode cX12_newPerson 113 = .ok (.iastore, 1) := by decide +kernel
theorem dX12_newPerson_114 : decode cX12_newPerson 114 = .ok (.iinc 4 1, 3) := by decide +kernel
theorem dX12_newPerson_117 : decode cX12_newPerson 117 = .ok (.goto (-26), 3) := by decide +kernel
theorem dX12_newPerson_120 : decode cX12_newPerson 120 = .ok (.aload_n 0, 1) := by decide +kernel
theorem dX12_newPerson_121 : decode cX12_newPerson 121 = .ok (.dup, 1) := by decide +kernel
theorem dX12_newPerson_122 : decode cX12_newPerson 122 = .ok (.getfield 79, 3) := by decide +kernel
theorem dX12_newPerson_125 : decode cX12_newPerson 125 = .ok (.dup_x1, 1) := by decide +kernel
theorem dX12_newPerson_126 : decode cX12_newPerson 126 = .ok (.iconst 1, 1) := by decide +kernel
theorem dX12_newPerson_127 : decode cX12_newPerson 127 = .ok (.iadd, 1) := by decide +kernel
theorem dX12_newPerson_128 : decode cX12_newPerson 128 = .ok (.putfield 79, 3) := by decide +kernel
theorem dX12_newPerson_131 : decode cX12_newPerson 131 = .ok (.ireturn, 1) := by decide +kernel
set_option maxRecDepth 20000 in
theorem ggX12_person_X12_within : GoodIn wsX12_person wsX12_within := goodIn_r _ [5] (by decide +kernel) (by decide +kernel)
set_option maxRecDepth 20000 in
theorem gX12_person_X12_within : GoodIn wsX12_person (va_wsS RX12 82 yX12_within wsX12_within) := goodIn_app (goodIn_of _ (by decide +kernel)) ggX12_person_X12_within
set_option maxRecDepth 20000 in
theorem ggX12_person_X12_no : GoodIn wsX12_person wsX12_no := goodIn_r _ [9, 10, 22, 23, 24, 25, 26, 27, 28, 29, 30, 31, 32, 33, 34, 35, 36, 37, 38, 39, 40, 41, 42, 43, 44, 45, 46, 47, 48] (by decide +kernel) (by decide +kernel)
set_option maxRecDepth 20000 in
theorem gX12_person_X12_no : GoodIn wsX12_person (wsV RX12 75 RX12 yX12_no wsX12_no) := goodIn_app (goodIn_of _ (by decide +kernel)) ggX12_person_X12_no
set_option maxRecDepth 20000 in
theorem ggX12_person_X12_newPerson : GoodIn wsX12_person wsX12_newPerson := goodIn_r _ [14, 15, 1, 16, 17, 18, 19, 20, 21, 22, 23, 24, 25, 26, 27, 28, 29, 30, 31, 32, 33, 34, 35, 36, 37, 38, 39, 40, 41, 42, 43, 44, 45, 46, 47, 48] (by decide +kernel) (by decide +kernel)
set_option maxRecDepth 20000 in
theorem gX12_person_X12_newPerson : GoodIn wsX12_person (wsV RX12 110 RX12 yX12_newPerson wsX12_newPerson) := goodIn_app (goodIn_of _ (by decide +kernel)) ggX12_person_X12_newPerson
theorem dX12_person_0 : decode cX12_person 0 = .ok (.iload_n 1, 1) := by decide +kernel
theorem dX12_person_1 : decode cX12_person 1 = .ok (.iconst 0, 1) := by decide +kernel
theorem dX12_person_2 : decode cX12_person 2 = .ok (.bipush 6, 2) := by decide +kernel
theorem dX12_person_4 : decode cX12_person 4 = .ok (.invokestatic 82, 3) := by decide +kernel
theorem dX12_person_7 : decode cX12_person 7 = .ok (.ifCond .ne 9, 3) := by decide +kernel
theorem dX12_person_10 : decode cX12_person 10 = .ok (.aload_n 0, 1) := by decide +kernel
theorem dX12_person_11 : decode cX12_person 11 = .ok (.iconst (-1), 1) := by decide +kernel
theorem dX12_person_12 : decode cX12_person 12 = .ok (.invokevirtual 75, 3) := by decide +kernel
theorem dX12_person_15 : decode cX12_person 15 = .ok (.ireturn, 1) := by decide +kernel
theorem dX12_person_16 : decode cX12_person 16 = .ok (.iload_n 2, 1) := by decide +kernel
theorem dX12_person_17 : decode cX12_person 17 = .ok (.iconst 0, 1) := by decide +kernel
theorem dX12_person_18 : decode cX12_person 18 = .ok (.bipush 9, 2) := by decide +kernel
theorem dX12_person_20 : decode cX12_person 20 = .ok (.invokestatic 82, 3) := by decide +kernel
theorem dX12_person_23 : decode cX12_person 23 = .ok (.ifCond .eq 13, 3) := by decide +kernel
theorem dX12_person_26 : decode cX12_person 26 = .ok (.iload_n 3, 1) := by decide +kernel
theorem dX12_person_27 : decode cX12_person 27 = .ok (.iconst 1, 1) := by decide +kernel
theorem dX12_person_28 : decode cX12_person 28 = .ok (.bipush 20, 2) := by decide +kernel
theorem dX12_person_30 : decode cX12_person 30 = .ok (.invokestatic 82, 3) := by decide +kernel
theorem dX12_person_33 : decode cX12_person 33 = .ok (.ifCond .ne 10, 3) := by decide +kernel
theorem dX12_person_36 : decode cX12_person 36 = .ok (.aload_n 0, 1) := by decide +kernel
theorem dX12_person_37 : decode cX12_person 37 = .ok (.bipush (-6), 2) := by decide +kernel
theorem dX12_person_39 : decode cX12_person 39 = .ok (.invokevirtual 75, 3) := by decide +kernel
theorem dX12_person_42 : decode cX12_person 42 = .ok (.ireturn, 1) := by decide +kernel
theorem dX12_person_43 : decode cX12_person 43 = .ok (.aload_n 0, 1) := by decide +kernel
theorem dX12_person_44 : decode cX12_person 44 = .ok (.getfield 79, 3) := by decide +kernel
theorem dX12_person_47 : decode cX12_person 47 = .ok (.bipush 6, 2) := by decide +kernel
theorem dX12_person_49 : decode cX12_person 49 = .ok (.if_icmp .ne 12, 3) := by decide +kernel
theorem dX12_person_52 : decode cX12_person 52 = .ok (.aload_n 0, 1) := by decide +kernel
theorem dX12_person_53 : decode cX12_person 53 = .ok (.bipush (-7), 2) := by decide +kernel
theorem dX12_person_55 : decode cX12_person 55 = .ok (.invokevirtual 75, 3) := by decide +kernel
theorem dX12_person_58 : decode cX12_person 58 = .ok (.goto 10, 3) := by decide +kernel
theorem dX12_person_61 : decode cX12_person 61 = .ok (.aload_n 0, 1) := by decide +kernel
theorem dX12_person_62 : decode cX12_person 62 = .ok (.iload_n 1, 1) := by decide +kernel
theorem dX12_person_63 : decode cX12_person 63 = .ok (.iload_n 2, 1) := by decide +kernel
theorem dX12_person_64 : decode cX12_person 64 = .ok (.iload_n 3, 1) := by decide +kernel
theorem dX12_person_65 : decode cX12_person 65 = .ok (.invokevirtual 110, 3) := by decide +kernel
theorem dX12_person_68 : decode cX12_person 68 = .ok (.ireturn, 1) := by decide +kernel
set_option maxRecDepth 20000 in
theorem ggX12_ask_X12_within : GoodIn wsX12_ask wsX12_within := goodIn_r _ [5] (by decide +kernel) (by decide +kernel)
set_option maxRecDepth 20000 in
theorem gX12_ask_X12_within : GoodIn wsX12_ask (va_wsS RX12 82 yX12_within wsX12_within) := goodIn_app (goodIn_of _ (by decide +kernel)) ggX12_ask_X12_within
set_option maxRecDepth 20000 in
theorem ggX12_ask_X12_no : GoodIn wsX12_ask wsX12_no := goodIn_r _ [9, 10, 11, 12, 13, 14, 15, 16, 17, 18, 19, 20, 21, 22, 23, 24, 25, 26, 27, 28, 29, 30, 31, 32, 33, 34, 35, 36, 37] (by decide +kernel) (by decide +kernel)
set_option maxRecDepth 20000 in
theorem gX12_ask_X12_no : GoodIn wsX12_ask (wsV RX12 75 RX12 yX12_no wsX12_no) := goodIn_app (goodIn_of _ (by decide +kernel)) ggX12_ask_X12_no
theorem dX12_ask_0 : decode cX12_ask 0 = .ok (.iload_n 1, 1) := by decide +kernel
theorem dX12_ask_1 : decode cX12_ask 1 = .ok (.iconst 1, 1) := by decide +kernel
theorem dX12_ask_2 : decode cX12_ask 2 = .ok (.bipush 99, 2) := by decide +kernel
theorem dX12_ask_4 : decode cX12_ask 4 = .ok (.invokestatic 82, 3) := by decide +kernel
theorem dX12_ask_7 : decode cX12_ask 7 = .ok (.ifCond .ne 10, 3) := by decide +kernel
theorem dX12_ask_10 : decode cX12_ask 10 = .ok (.aload_n 0, 1) := by decide +kernel
theorem dX12_ask_11 : decode cX12_ask 11 = .ok (.bipush (-6), 2) := by decide +kernel
theorem dX12_ask_13 : decode cX12_ask 13 = .ok (.invokevirtual 75, 3) := by decide +kernel
theorem dX12_ask_16 : decode cX12_ask 16 = .ok (.ireturn, 1) := by decide +kernel
theorem dX12_ask_17 : decode cX12_ask 17 = .ok (.aload_n 0, 1) := by decide +kernel
theorem dX12_ask_18 : decode cX12_ask 18 = .ok (.getfield 65, 3) := by decide +kernel
theorem dX12_ask_21 : decode cX12_ask 21 = .ok (.istore_n 2, 1) := by decide +kernel
theorem dX12_ask_22 : decode cX12_ask 22 = .ok (.aload_n 0, 1) := by decide +kernel
theorem dX12_ask_23 : decode cX12_ask 23 = .ok (.iload_n 1, 1) := by decide +kernel
theorem dX12_ask_24 : decode cX12_ask 24 = .ok (.putfield 65, 3) := by decide +kernel
theorem dX12_ask_27 : decode cX12_ask 27 = .ok (.iload_n 2, 1) := by decide +kernel
theorem dX12_ask_28 : decode cX12_ask 28 = .ok (.ireturn, 1) := by decide +kernel
theorem dX12_strengthOf_0 : decode cX12_strengthOf 0 = .ok (.aload_n 0, 1) := by decide +kernel
theorem dX12_strengthOf_1 : decode cX12_strengthOf 1 = .ok (.getfield 38, 3) := by decide +kernel
theorem dX12_strengthOf_4 : decode cX12_strengthOf 4 = .ok (.bipush 48, 2) := by decide +kernel
theorem dX12_strengthOf_6 : decode cX12_strengthOf 6 = .ok (.iload_n 1, 1) := by decide +kernel
theorem dX12_strengthOf_7 : decode cX12_strengthOf 7 = .ok (.imul, 1) := by decide +kernel
theorem dX12_strengthOf_8 : decode cX12_strengthOf 8 = .ok (.bipush 8, 2) := by decide +kernel
theorem dX12_strengthOf_10 : decode cX12_strengthOf 10 = .ok (.iload_n 2, 1) := by decide +kernel
theorem dX12_strengthOf_11 : decode cX12_strengthOf 11 = .ok (.imul, 1) := by decide +kernel
theorem dX12_strengthOf_12 : decode cX12_strengthOf 12 = .ok (.iadd, 1) := by decide +kernel
theorem dX12_strengthOf_13 : decode cX12_strengthOf 13 = .ok (.iload_n 3, 1) := by decide +kernel
theorem dX12_strengthOf_14 : decode cX12_strengthOf 14 = .ok (.iadd, 1) := by decide +kernel
theorem dX12_strengthOf_15 : decode cX12_strengthOf 15 = .ok (.iaload, 1) := by decide +kernel
theorem dX12_strengthOf_16 : decode cX12_strengthOf 16 = .ok (.ireturn, 1) := by decide +kernel
set_option maxRecDepth 20000 in
theorem ggX12_reads_X12_strengthOf : GoodIn wsX12_reads wsX12_strengthOf := goodIn_r _ [5, 6, 7, 8, 9, 10, 11, 12, 13, 14, 15, 16, 17, 18, 19, 20, 21, 22, 23, 24, 25, 26, 27, 28, 29, 30, 31, 32, 33] (by decide +kernel) (by decide +kernel)
set_option maxRecDepth 20000 in
theorem gX12_reads_X12_strengthOf : GoodIn wsX12_reads (wsV RX12 114 RX12 yX12_strengthOf wsX12_strengthOf) := goodIn_app (goodIn_of _ (by decide +kernel)) ggX12_reads_X12_strengthOf
theorem dX12_reads_0 : decode cX12_reads 0 = .ok (.iconst 0, 1) := by decide +kernel
theorem dX12_reads_1 : decode cX12_reads 1 = .ok (.istore_n 2, 1) := by decide +kernel
theorem dX12_reads_2 : decode cX12_reads 2 = .ok (.iconst 0, 1) := by decide +kernel
theorem dX12_reads_3 : decode cX12_reads 3 = .ok (.istore_n 3, 1) := by decide +kernel
theorem dX12_reads_4 : decode cX12_reads 4 = .ok (.iload_n 3, 1) := by decide +kernel
theorem dX12_reads_5 : decode cX12_reads 5 = .ok (.bipush 8, 2) := by decide +kernel
theorem dX12_reads_7 : decode cX12_reads 7 = .ok (.if_icmp .ge 19, 3) := by decide +kernel
theorem dX12_reads_10 : decode cX12_reads 10 = .ok (.iload_n 2, 1) := by decide +kernel
theorem dX12_reads_11 : decode cX12_reads 11 = .ok (.aload_n 0, 1) := by decide +kernel
theorem dX12_reads_12 : decode cX12_reads 12 = .ok (.iload_n 1, 1) := by decide +kernel
theorem dX12_reads_13 : decode cX12_reads 13 = .ok (.iconst 5, 1) := by decide +kernel
theorem dX12_reads_14 : decode cX12_reads 14 = .ok (.iload_n 3, 1) := by decide +kernel
theorem dX12_reads_15 : decode cX12_reads 15 = .ok (.invokevirtual 114, 3) := by decide +kernel
theorem dX12_reads_18 : decode cX12_reads 18 = .ok (.iadd, 1) := by decide +kernel
theorem dX12_reads_19 : decode cX12_reads 19 = .ok (.istore_n 2, 1) := by decide +kernel
theorem dX12_reads_20 : decode cX12_reads 20 = .ok (.iinc 3 1, 3) := by decide +kernel
theorem dX12_reads_23 : decode cX12_reads 23 = .ok (.goto (-19), 3) := by decide +kernel
theorem dX12_reads_26 : decode cX12_reads 26 = .ok (.iload_n 2, 1) := by decide +kernel
theorem dX12_reads_27 : decode cX12_reads 27 = .ok (.ireturn, 1) := by decide +kernel
theorem dX12_rubbed_0 : decode cX12_rubbed 0 = .ok (.iconst 0, 1) := by decide +kernel
theorem dX12_rubbed_1 : decode cX12_rubbed 1 = .ok (.istore_n 2, 1) := by decide +kernel
theorem dX12_rubbed_2 : decode cX12_rubbed 2 = .ok (.iconst 0, 1) := by decide +kernel
theorem dX12_rubbed_3 : decode cX12_rubbed 3 = .ok (.istore_n 3, 1) := by decide +kernel
theorem dX12_rubbed_4 : decode cX12_rubbed 4 = .ok (.iload_n 3, 1) := by decide +kernel
theorem dX12_rubbed_5 : decode cX12_rubbed 5 = .ok (.bipush 6, 2) := by decide +kernel
theorem dX12_rubbed_7 : decode cX12_rubbed 7 = .ok (.if_icmp .ge 23, 3) := by decide +kernel
theorem dX12_rubbed_10 : decode cX12_rubbed 10 = .ok (.iload_n 2, 1) := by decide +kernel
theorem dX12_rubbed_11 : decode cX12_rubbed 11 = .ok (.aload_n 0, 1) := by decide +kernel
theorem dX12_rubbed_12 : decode cX12_rubbed 12 = .ok (.getfield 32, 3) := by decide +kernel
theorem dX12_rubbed_15 : decode cX12_rubbed 15 = .ok (.bipush 6, 2) := by decide +kernel
theorem dX12_rubbed_17 : decode cX12_rubbed 17 = .ok (.iload_n 1, 1) := by decide +kernel
theorem dX12_rubbed_18 : decode cX12_rubbed 18 = .ok (.imul, 1) := by decide +kernel
theorem dX12_rubbed_19 : decode cX12_rubbed 19 = .ok (.iload_n 3, 1) := by decide +kernel
theorem dX12_rubbed_20 : decode cX12_rubbed 20 = .ok (.iadd, 1) := by decide +kernel
theorem dX12_rubbed_21 : decode cX12_rubbed 21 = .ok (.iaload, 1) := by decide +kernel
theorem dX12_rubbed_22 : decode cX12_rubbed 22 = .ok (.iadd, 1) := by decide +kernel
theorem dX12_rubbed_23 : decode cX12_rubbed 23 = .ok (.istore_n 2, 1) := by decide +kernel
theorem dX12_rubbed_24 : decode cX12_rubbed 24 = .ok (.iinc 3 1, 3) := by decide +kernel
theorem dX12_rubbed_27 : decode cX12_rubbed 27 = .ok (.goto (-23), 3) := by decide +kernel
theorem dX12_rubbed_30 : decode cX12_rubbed 30 = .ok (.iload_n 2, 1) := by decide +kernel
theorem dX12_rubbed_31 : decode cX12_rubbed 31 = .ok (.ireturn, 1) := by decide +kernel
set_option maxRecDepth 20000 in
theorem ggX12_personOf_X12_isPerson : GoodIn wsX12_personOf wsX12_isPerson := goodIn_r _ [9, 10, 11, 12, 8, 13, 33, 34, 35, 36, 37, 38, 39, 40, 41, 42, 43, 44, 45, 46, 47, 48, 49, 50, 51, 52, 53, 54, 55, 56, 57, 58, 59] (by decide +kernel) (by decide +kernel)
set_option maxRecDepth 20000 in
theorem gX12_personOf_X12_isPerson : GoodIn wsX12_personOf (wsV RX12 96 RX12 yX12_isPerson wsX12_isPerson) := goodIn_app (goodIn_of _ (by decide +kernel)) ggX12_personOf_X12_isPerson
set_option maxRecDepth 20000 in
theorem ggX12_personOf_X12_no : GoodIn wsX12_personOf wsX12_no := goodIn_r _ [17, 18, 33, 34, 35, 36, 37, 38, 39, 40, 41, 42, 43, 44, 45, 46, 47, 48, 49, 50, 51, 52, 53, 54, 55, 56, 57, 58, 59] (by decide +kernel) (by decide +kernel)
set_option maxRecDepth 20000 in
theorem gX12_personOf_X12_no : GoodIn wsX12_personOf (wsV RX12 75 RX12 yX12_no wsX12_no) := goodIn_app (goodIn_of _ (by decide +kernel)) ggX12_personOf_X12_no
set_option maxRecDepth 20000 in
theorem ggX12_personOf_X12_reads : GoodIn wsX12_personOf wsX12_reads := goodIn_r _ [22, 23, 24, 25, 8, 26, 27, 33, 34, 35, 36, 37, 38, 39, 40, 41, 42, 43, 44, 45, 46, 47, 48, 49, 50, 51, 52, 53, 54, 55, 56, 57, 58, 59] (by decide +kernel) (by decide +kernel)
set_option maxRecDepth 20000 in
theorem gX12_personOf_X12_reads : GoodIn wsX12_personOf (wsV RX12 117 RX12 yX12_reads wsX12_reads) := goodIn_app (goodIn_of _ (by decide +kernel)) ggX12_personOf_X12_reads
set_option maxRecDepth 20000 in
theorem ggX12_personOf_X12_rubbed : GoodIn wsX12_personOf wsX12_rubbed := goodIn_r _ [31, 32, 33, 34, 35, 36, 37, 38, 39, 40, 41, 42, 43, 44, 45, 46, 47, 48, 49, 50, 51, 52, 53, 54, 55, 56, 57, 58, 59] (by decide +kernel) (by decide +kernel)
set_option maxRecDepth 20000 in
theorem gX12_personOf_X12_rubbed : GoodIn wsX12_personOf (wsV RX12 120 RX12 yX12_rubbed wsX12_rubbed) := goodIn_app (goodIn_of _ (by decide +kernel)) ggX12_personOf_X12_rubbed
theorem dX12_personOf_0 : decode cX12_personOf 0 = .ok (.aload_n 0, 1) := by decide +kernel
theorem dX12_personOf_1 : decode cX12_personOf 1 = .ok (.iload_n 1, 1) := by decide +kernel
theorem dX12_personOf_2 : decode cX12_personOf 2 = .ok (.invokevirtual 96, 3) := by decide +kernel
theorem dX12_personOf_5 : decode cX12_personOf 5 = .ok (.ifCond .ne 10, 3) := by decide +kernel
theorem dX12_personOf_8 : decode cX12_personOf 8 = .ok (.aload_n 0, 1) := by decide +kernel
theorem dX12_personOf_9 : decode cX12_personOf 9 = .ok (.bipush (-5), 2) := by decide +kernel
theorem dX12_personOf_11 : decode cX12_personOf 11 = .ok (.invokevirtual 75, 3) := by decide +kernel
theorem dX12_personOf_14 : decode cX12_personOf 14 = .ok (.ireturn, 1) := by decide +kernel
theorem dX12_personOf_15 : decode cX12_personOf 15 = .ok (.iload_n 2, 1) := by decide +kernel
theorem dX12_personOf_16 : decode cX12_personOf 16 = .ok (.tableswitch 80 0 5 #[40, 47, 54, 61, 68, 74], 40) := by decide +kernel
theorem dX12_personOf_56 : decode cX12_personOf 56 = .ok (.aload_n 0, 1) := by decide +kernel
theorem dX12_personOf_57 : decode cX12_personOf 57 = .ok (.getfield 20, 3) := by decide +kernel
theorem dX12_personOf_60 : decode cX12_personOf 60 = .ok (.iload_n 1, 1) := by decide +kernel
theorem dX12_personOf_61 : decode cX12_personOf 61 = .ok (.iaload, 1) := by decide +kernel
theorem dX12_personOf_62 : decode cX12_personOf 62 = .ok (.ireturn, 1) := by decide +kernel
theorem dX12_personOf_63 : decode cX12_personOf 63 = .ok (.aload_n 0, 1) := by decide +kernel
theorem dX12_personOf_64 : decode cX12_personOf 64 = .ok (.getfield 23, 3) := by decide +kernel
theorem dX12_personOf_67 : decode cX12_personOf 67 = .ok (.iload_n 1, 1) := by decide +kernel
theorem dX12_personOf_68 : decode cX12_personOf 68 = .ok (.iaload, 1) := by decide +kernel
theorem dX12_personOf_69 : decode cX12_personOf 69 = .ok (.ireturn, 1) := by decide +kernel
theorem dX12_personOf_70 : decode cX12_personOf 70 = .ok (.aload_n 0, 1) := by decide +kernel
theorem dX12_personOf_71 : decode cX12_personOf 71 = .ok (.getfield 26, 3) := by decide +kernel
theorem dX12_personOf_74 : decode cX12_personOf 74 = .ok (.iload_n 1, 1) := by decide +kernel
theorem dX12_personOf_75 : decode cX12_personOf 75 = .ok (.iaload, 1) := by decide +kernel
theorem dX12_personOf_76 : decode cX12_personOf 76 = .ok (.ireturn, 1) := by decide +kernel
theorem dX12_personOf_77 : decode cX12_personOf 77 = .ok (.aload_n 0, 1) := by decide +kernel
theorem dX12_personOf_78 : decode cX12_personOf 78 = .ok (.getfield 29, 3) := by decide +kernel
theorem dX12_personOf_81 : decode cX12_personOf 81 = .ok (.iload_n 1, 1) := by decide +kernel
theorem dX12_personOf_82 : decode cX12_personOf 82 = .ok (.iaload, 1) := by decide +kernel
theorem dX12_personOf_83 : decode cX12_personOf 83 = .ok (.ireturn, 1) := by decide +kernel
theorem dX12_personOf_84 : decode cX12_personOf 84 = .ok (.aload_n 0, 1) := by decide +kernel
theorem dX12_personOf_85 : decode cX12_personOf 85 = .ok (.iload_n 1, 1) := by decide +kernel
theorem dX12_personOf_86 : decode cX12_personOf 86 = .ok (.invokevirtual 117, 3) := by decide +kernel
theorem dX12_personOf_89 : decode cX12_personOf 89 = .ok (.ireturn, 1) := by decide +kernel
theorem dX12_personOf_90 : decode cX12_personOf 90 = .ok (.aload_n 0, 1) := by decide +kernel
theorem dX12_personOf_91 : decode cX12_personOf 91 = .ok (.iload_n 1, 1) := by decide +kernel
theorem dX12_personOf_92 : decode cX12_personOf 92 = .ok (.invokevirtual 120, 3) := by decide +kernel
theorem dX12_personOf_95 : decode cX12_personOf 95 = .ok (.ireturn, 1) := by decide +kernel
theorem dX12_personOf_96 : decode cX12_personOf 96 = .ok (.aload_n 0, 1) := by decide +kernel
theorem dX12_personOf_97 : decode cX12_personOf 97 = .ok (.bipush (-5), 2) := by decide +kernel
theorem dX12_personOf_99 : decode cX12_personOf 99 = .ok (.invokevirtual 75, 3) := by decide +kernel
theorem dX12_personOf_102 : decode cX12_personOf 102 = .ok (.ireturn, 1) := by decide +kernel
set_option maxRecDepth 20000 in
theorem ggX12_hasDeed_X12_strengthOf : GoodIn wsX12_hasDeed wsX12_strengthOf := goodIn_r _ [6, 7, 8, 9, 10, 11, 12, 13, 14, 15, 16, 17, 18, 19, 20, 21, 22, 23, 24, 25, 26, 27, 28, 29, 30, 31, 32, 33, 34] (by decide +kernel) (by decide +kernel)
set_option maxRecDepth 20000 in
theorem gX12_hasDeed_X12_strengthOf : GoodIn wsX12_hasDeed (wsV RX12 114 RX12 yX12_strengthOf wsX12_strengthOf) := goodIn_app (goodIn_of _ (by decide +kernel)) ggX12_hasDeed_X12_strengthOf
theorem dX12_hasDeed_0 : decode cX12_hasDeed 0 = .ok (.aload_n 0, 1) := by decide +kernel
theorem dX12_hasDeed_1 : decode cX12_hasDeed 1 = .ok (.iload_n 1, 1) := by decide +kernel
theorem dX12_hasDeed_2 : decode cX12_hasDeed 2 = .ok (.iload_n 2, 1) := by decide +kernel
theorem dX12_hasDeed_3 : decode cX12_hasDeed 3 = .ok (.iload_n 3, 1) := by decide +kernel
theorem dX12_hasDeed_4 : decode cX12_hasDeed 4 = .ok (.invokevirtual 114, 3) := by decide +kernel
theorem dX12_hasDeed_7 : decode cX12_hasDeed 7 = .ok (.aload_n 0, 1) := by decide +kernel
theorem dX12_hasDeed_8 : decode cX12_hasDeed 8 = .ok (.getfield 65, 3) := by decide +kernel
theorem dX12_hasDeed_11 : decode cX12_hasDeed 11 = .ok (.if_icmp .lt 7, 3) := by decide +kernel
theorem dX12_hasDeed_14 : decode cX12_hasDeed 14 = .ok (.iconst 1, 1) := by decide +kernel
theorem dX12_hasDeed_15 : decode cX12_hasDeed 15 = .ok (.goto 4, 3) := by decide +kernel
theorem dX12_hasDeed_18 : decode cX12_hasDeed 18 = .ok (.iconst 0, 1) := by decide +kernel
theorem dX12_hasDeed_19 : decode cX12_hasDeed 19 = .ok (.ireturn, 1) := by decide +kernel
set_option maxRecDepth 20000 in
theorem ggX12_hasAll_X12_hasDeed : GoodIn wsX12_hasAll wsX12_hasDeed := goodIn_r _ [5, 6, 7, 8, 9, 4, 10, 11, 12, 13, 14, 15, 16, 17, 18, 19, 20, 21, 22, 23, 24, 25, 26, 27, 28, 29, 30, 31, 32, 33, 34, 35, 36, 37, 38] (by decide +kernel) (by decide +kernel)
set_option maxRecDepth 20000 in
theorem gX12_hasAll_X12_hasDeed : GoodIn wsX12_hasAll (wsV RX12 123 RX12 yX12_hasDeed wsX12_hasDeed) := goodIn_app (goodIn_of _ (by decide +kernel)) ggX12_hasAll_X12_hasDeed
theorem dX12_hasAll_0 : decode cX12_hasAll 0 = .ok (.iconst 0, 1) := by decide +kernel
theorem dX12_hasAll_1 : decode cX12_hasAll 1 = .ok (.istore_n 3, 1) := by decide +kernel
theorem dX12_hasAll_2 : decode cX12_hasAll 2 = .ok (.iconst 0, 1) := by decide +kernel
theorem dX12_hasAll_3 : decode cX12_hasAll 3 = .ok (.istore 4, 2) := by decide +kernel
theorem dX12_hasAll_5 : decode cX12_hasAll 5 = .ok (.iload 4, 2) := by decide +kernel
theorem dX12_hasAll_7 : decode cX12_hasAll 7 = .ok (.bipush 8, 2) := by decide +kernel
theorem dX12_hasAll_9 : decode cX12_hasAll 9 = .ok (.if_icmp .ge 27, 3) := by decide +kernel
theorem dX12_hasAll_12 : decode cX12_hasAll 12 = .ok (.aload_n 0, 1) := by decide +kernel
theorem dX12_hasAll_13 : decode cX12_hasAll 13 = .ok (.iload_n 1, 1) := by decide +kernel
theorem dX12_hasAll_14 : decode cX12_hasAll 14 = .ok (.iload_n 2, 1) := by decide +kernel
theorem dX12_hasAll_15 : decode cX12_hasAll 15 = .ok (.iload 4, 2) := by decide +kernel
theorem dX12_hasAll_17 : decode cX12_hasAll 17 = .ok (.invokevirtual 123, 3) := by decide +kernel
theorem dX12_hasAll_20 : decode cX12_hasAll 20 = .ok (.ifCond .eq 10, 3) := by decide +kernel
theorem dX12_hasAll_23 : decode cX12_hasAll 23 = .ok (.iload_n 3, 1) := by decide +kernel
theorem dX12_hasAll_24 : decode cX12_hasAll 24 = .ok (.iconst 1, 1) := by decide +kernel
theorem dX12_hasAll_25 : decode cX12_hasAll 25 = .ok (.iload 4, 2) := by decide +kernel
theorem dX12_hasAll_27 : decode cX12_hasAll 27 = .ok (.ishl, 1) := by decide +kernel
theorem dX12_hasAll_28 : decode cX12_hasAll 28 = .ok (.ior, 1) := by decide +kernel
theorem dX12_hasAll_29 : decode cX12_hasAll 29 = .ok (.istore_n 3, 1) := by decide +kernel
theorem dX12_hasAll_30 : decode cX12_hasAll 30 = .ok (.iinc 4 1, 3) := by decide +kernel
theorem dX12_hasAll_33 : decode cX12_hasAll 33 = .ok (.goto (-28), 3) := by decide +kernel
theorem dX12_hasAll_36 : decode cX12_hasAll 36 = .ok (.iload_n 3, 1) := by decide +kernel
theorem dX12_hasAll_37 : decode cX12_hasAll 37 = .ok (.ireturn, 1) := by decide +kernel
set_option maxRecDepth 20000 in
theorem ggX12_copyOf_X12_isPerson : GoodIn wsX12_copyOf wsX12_isPerson := goodIn_r _ [6, 7, 8, 9, 5, 10, 38, 39, 40, 41, 42, 43, 44, 45, 46, 47, 48, 49, 50, 51, 52, 53, 54, 55, 56, 57, 58, 59, 60, 61, 62, 63, 64] (by decide +kernel) (by decide +kernel)
set_option maxRecDepth 20000 in
theorem gX12_copyOf_X12_isPerson : GoodIn wsX12_copyOf (wsV RX12 96 RX12 yX12_isPerson wsX12_isPerson) := goodIn_app (goodIn_of _ (by decide +kernel)) ggX12_copyOf_X12_isPerson
set_option maxRecDepth 20000 in
theorem ggX12_copyOf_X12_isCopy : GoodIn wsX12_copyOf wsX12_isCopy := goodIn_r _ [13, 8, 9, 5, 10] (by decide +kernel) (by decide +kernel)
set_option maxRecDepth 20000 in
theorem gX12_copyOf_X12_isCopy : GoodIn wsX12_copyOf (va_wsS RX12 86 yX12_isCopy wsX12_isCopy) := goodIn_app (goodIn_of _ (by decide +kernel)) ggX12_copyOf_X12_isCopy
set_option maxRecDepth 20000 in
theorem ggX12_copyOf_X12_within : GoodIn wsX12_copyOf wsX12_within := goodIn_r _ [10] (by decide +kernel) (by decide +kernel)
set_option maxRecDepth 20000 in
theorem gX12_copyOf_X12_within : GoodIn wsX12_copyOf (va_wsS RX12 82 yX12_within wsX12_within) := goodIn_app (goodIn_of _ (by decide +kernel)) ggX12_copyOf_X12_within
set_option maxRecDepth 20000 in
theorem ggX12_copyOf_X12_no : GoodIn wsX12_copyOf wsX12_no := goodIn_r _ [17, 18, 38, 39, 40, 41, 42, 43, 44, 45, 46, 47, 48, 49, 50, 51, 52, 53, 54, 55, 56, 57, 58, 59, 60, 61, 62, 63, 64] (by decide +kernel) (by decide +kernel)
set_option maxRecDepth 20000 in
theorem gX12_copyOf_X12_no : GoodIn wsX12_copyOf (wsV RX12 75 RX12 yX12_no wsX12_no) := goodIn_app (goodIn_of _ (by decide +kernel)) ggX12_copyOf_X12_no
set_option maxRecDepth 20000 in
theorem ggX12_copyOf_X12_hasAll : GoodIn wsX12_copyOf wsX12_hasAll := goodIn_r _ [22, 23, 24, 25, 5, 26, 27, 28, 29, 30, 31, 32, 38, 39, 40, 41, 42, 43, 44, 45, 46, 47, 48, 49, 50, 51, 52, 53, 54, 55, 56, 57, 58, 59, 60, 61, 62, 63, 64] (by decide +kernel) (by decide +kernel)
set_option maxRecDepth 20000 in
theorem gX12_copyOf_X12_hasAll : GoodIn wsX12_copyOf (wsV RX12 126 RX12 yX12_hasAll wsX12_hasAll) := goodIn_app (goodIn_of _ (by decide +kernel)) ggX12_copyOf_X12_hasAll
set_option maxRecDepth 20000 in
theorem ggX12_copyOf_X12_lives : GoodIn wsX12_copyOf wsX12_lives := goodIn_r _ [36, 37, 11, 12, 5, 13, 8, 9, 10, 38, 39, 40, 41, 42, 43, 44, 45, 46, 47, 48, 49, 50, 51, 52, 53, 54, 55, 56, 57, 58, 59, 60, 61, 62, 63, 64] (by decide +kernel) (by decide +kernel)
set_option maxRecDepth 20000 in
theorem gX12_copyOf_X12_lives : GoodIn wsX12_copyOf (wsV RX12 129 RX12 yX12_lives wsX12_lives) := goodIn_app (goodIn_of _ (by decide +kernel)) ggX12_copyOf_X12_lives
theorem dX12_copyOf_0 : decode cX12_copyOf 0 = .ok (.aload_n 0, 1) := by decide +kernel
theorem dX12_copyOf_1 : decode cX12_copyOf 1 = .ok (.iload_n 1, 1) := by decide +kernel
theorem dX12_copyOf_2 : decode cX12_copyOf 2 = .ok (.invokevirtual 96, 3) := by decide +kernel
theorem dX12_copyOf_5 : decode cX12_copyOf 5 = .ok (.ifCond .eq 19, 3) := by decide +kernel
theorem dX12_copyOf_8 : decode cX12_copyOf 8 = .ok (.iload_n 2, 1) := by decide +kernel
theorem dX12_copyOf_9 : decode cX12_copyOf 9 = .ok (.invokestatic 86, 3) := by decide +kernel
theorem dX12_copyOf_12 : decode cX12_copyOf 12 = .ok (.ifCond .eq 12, 3) := by decide +kernel
theorem dX12_copyOf_15 : decode cX12_copyOf 15 = .ok (.iload_n 3, 1) := by decide +kernel
theorem dX12_copyOf_16 : decode cX12_copyOf 16 = .ok (.iconst 0, 1) := by decide +kernel
theorem dX12_copyOf_17 : decode cX12_copyOf 17 = .ok (.iconst 2, 1) := by decide +kernel
theorem dX12_copyOf_18 : decode cX12_copyOf 18 = .ok (.invokestatic 82, 3) := by decide +kernel
theorem dX12_copyOf_21 : decode cX12_copyOf 21 = .ok (.ifCond .ne 10, 3) := by decide +kernel
theorem dX12_copyOf_24 : decode cX12_copyOf 24 = .ok (.aload_n 0, 1) := by decide +kernel
theorem dX12_copyOf_25 : decode cX12_copyOf 25 = .ok (.bipush (-5), 2) := by decide +kernel
theorem dX12_copyOf_27 : decode cX12_copyOf 27 = .ok (.invokevirtual 75, 3) := by decide +kernel
theorem dX12_copyOf_30 : decode cX12_copyOf 30 = .ok (.ireturn, 1) := by decide +kernel
theorem dX12_copyOf_31 : decode cX12_copyOf 31 = .ok (.iload_n 3, 1) := by decide +kernel
theorem dX12_copyOf_32 : decode cX12_copyOf 32 = .ok (.ifCond .ne 17, 3) := by decide +kernel
theorem dX12_copyOf_35 : decode cX12_copyOf 35 = .ok (.aload_n 0, 1) := by decide +kernel
theorem dX12_copyOf_36 : decode cX12_copyOf 36 = .ok (.getfield 32, 3) := by decide +kernel
theorem dX12_copyOf_39 : decode cX12_copyOf 39 = .ok (.bipush 6, 2) := by decide +kernel
theorem dX12_copyOf_41 : decode cX12_copyOf 41 = .ok (.iload_n 1, 1) := by decide +kernel
theorem dX12_copyOf_42 : decode cX12_copyOf 42 = .ok (.imul, 1) := by decide +kernel
theorem dX12_copyOf_43 : decode cX12_copyOf 43 = .ok (.iload_n 2, 1) := by decide +kernel
theorem dX12_copyOf_44 : decode cX12_copyOf 44 = .ok (.iadd, 1) := by decide +kernel
theorem dX12_copyOf_45 : decode cX12_copyOf 45 = .ok (.iaload, 1) := by decide +kernel
theorem dX12_copyOf_46 : decode cX12_copyOf 46 = .ok (.goto 31, 3) := by decide +kernel
theorem dX12_copyOf_49 : decode cX12_copyOf 49 = .ok (.iload_n 3, 1) := by decide +kernel
theorem dX12_copyOf_50 : decode cX12_copyOf 50 = .ok (.iconst 1, 1) := by decide +kernel
theorem dX12_copyOf_51 : decode cX12_copyOf 51 = .ok (.if_icmp .ne 12, 3) := by decide +kernel
theorem dX12_copyOf_54 : decode cX12_copyOf 54 = .ok (.aload_n 0, 1) := by decide +kernel
theorem dX12_copyOf_55 : decode cX12_copyOf 55 = .ok (.iload_n 1, 1) := by decide +kernel
theorem dX12_copyOf_56 : decode cX12_copyOf 56 = .ok (.iload_n 2, 1) := by decide +kernel
theorem dX12_copyOf_57 : decode cX12_copyOf 57 = .ok (.invokevirtual 126, 3) := by decide +kernel
theorem dX12_copyOf_60 : decode cX12_copyOf 60 = .ok (.goto 17, 3) := by decide +kernel
theorem dX12_copyOf_63 : decode cX12_copyOf 63 = .ok (.aload_n 0, 1) := by decide +kernel
theorem dX12_copyOf_64 : decode cX12_copyOf 64 = .ok (.iload_n 1, 1) := by decide +kernel
theorem dX12_copyOf_65 : decode cX12_copyOf 65 = .ok (.iload_n 2, 1) := by decide +kernel
theorem dX12_copyOf_66 : decode cX12_copyOf 66 = .ok (.invokevirtual 129, 3) := by decide +kernel
theorem dX12_copyOf_69 : decode cX12_copyOf 69 = .ok (.ifCond .eq 7, 3) := by decide +kernel
theorem dX12_copyOf_72 : decode cX12_copyOf 72 = .ok (.iconst 0, 1) := by decide +kernel
theorem dX12_copyOf_73 : decode cX12_copyOf 73 = .ok (.goto 4, 3) := by decide +kernel
theorem dX12_copyOf_76 : decode cX12_copyOf 76 = .ok (.iconst 1, 1) := by decide +kernel
theorem dX12_copyOf_77 : decode cX12_copyOf 77 = .ok (.ireturn, 1) := by decide +kernel
set_option maxRecDepth 20000 in
theorem ggX12_strength_X12_isPerson : GoodIn wsX12_strength wsX12_isPerson := goodIn_r _ [5, 6, 7, 8, 4, 9, 26, 27, 28, 29, 30, 31, 32, 33, 34, 35, 36, 37, 38, 39, 40, 41, 42, 43, 44, 45, 46, 47, 48, 49, 50, 51, 52] (by decide +kernel) (by decide +kernel)
set_option maxRecDepth 20000 in
theorem gX12_strength_X12_isPerson : GoodIn wsX12_strength (wsV RX12 96 RX12 yX12_isPerson wsX12_isPerson) := goodIn_app (goodIn_of _ (by decide +kernel)) ggX12_strength_X12_isPerson
set_option maxRecDepth 20000 in
theorem ggX12_strength_X12_isCopy : GoodIn wsX12_strength wsX12_isCopy := goodIn_r _ [12, 7, 8, 4, 9] (by decide +kernel) (by decide +kernel)
set_option maxRecDepth 20000 in
theorem gX12_strength_X12_isCopy : GoodIn wsX12_strength (va_wsS RX12 86 yX12_isCopy wsX12_isCopy) := goodIn_app (goodIn_of _ (by decide +kernel)) ggX12_strength_X12_isCopy
set_option maxRecDepth 20000 in
theorem ggX12_strength_X12_isDeed : GoodIn wsX12_strength wsX12_isDeed := goodIn_r _ [15, 7, 8, 4, 9] (by decide +kernel) (by decide +kernel)
set_option maxRecDepth 20000 in
theorem gX12_strength_X12_isDeed : GoodIn wsX12_strength (va_wsS RX12 132 yX12_isDeed wsX12_isDeed) := goodIn_app (goodIn_of _ (by decide +kernel)) ggX12_strength_X12_isDeed
set_option maxRecDepth 20000 in
theorem ggX12_strength_X12_strengthOf : GoodIn wsX12_strength wsX12_strengthOf := goodIn_r _ [19, 20, 26, 27, 28, 29, 30, 31, 32, 33, 34, 35, 36, 37, 38, 39, 40, 41, 42, 43, 44, 45, 46, 47, 48, 49, 50, 51, 52] (by decide +kernel) (by decide +kernel)
set_option maxRecDepth 20000 in
theorem gX12_strength_X12_strengthOf : GoodIn wsX12_strength (wsV RX12 114 RX12 yX12_strengthOf wsX12_strengthOf) := goodIn_app (goodIn_of _ (by decide +kernel)) ggX12_strength_X12_strengthOf
set_option maxRecDepth 20000 in
theorem ggX12_strength_X12_no : GoodIn wsX12_strength wsX12_no := goodIn_r _ [24, 25, 26, 27, 28, 29, 30, 31, 32, 33, 34, 35, 36, 37, 38, 39, 40, 41, 42, 43, 44, 45, 46, 47, 48, 49, 50, 51, 52] (by decide +kernel) (by decide +kernel)
set_option maxRecDepth 20000 in
theorem gX12_strength_X12_no : GoodIn wsX12_strength (wsV RX12 75 RX12 yX12_no wsX12_no) := goodIn_app (goodIn_of _ (by decide +kernel)) ggX12_strength_X12_no
theorem dX12_strength_0 : decode cX12_strength 0 = .ok (.aload_n 0, 1) := by decide +kernel
theorem dX12_strength_1 : decode cX12_strength 1 = .ok (.iload_n 1, 1) := by decide +kernel
theorem dX12_strength_2 : decode cX12_strength 2 = .ok (.invokevirtual 96, 3) := by decide +kernel
theorem dX12_strength_5 : decode cX12_strength 5 = .ok (.ifCond .eq 27, 3) := by decide +kernel
theorem dX12_strength_8 : decode cX12_strength 8 = .ok (.iload_n 2, 1) := by decide +kernel
theorem dX12_strength_9 : decode cX12_strength 9 = .ok (.invokestatic 86, 3) := by decide +kernel
theorem dX12_strength_12 : decode cX12_strength 12 = .ok (.ifCond .eq 20, 3) := by decide +kernel
theorem dX12_strength_15 : decode cX12_strength 15 = .ok (.iload_n 3, 1) := by decide +kernel
theorem dX12_strength_16 : decode cX12_strength 16 = .ok (.invokestatic 132, 3) := by decide +kernel
theorem dX12_strength_19 : decode cX12_strength 19 = .ok (.ifCond .eq 13, 3) := by decide +kernel
theorem dX12_strength_22 : decode cX12_strength 22 = .ok (.aload_n 0, 1) := by decide +kernel
theorem dX12_strength_23 : decode cX12_strength 23 = .ok (.iload_n 1, 1) := by decide +kernel
theorem dX12_strength_24 : decode cX12_strength 24 = .ok (.iload_n 2, 1) := by decide +kernel
theorem dX12_strength_25 : decode cX12_strength 25 = .ok (.iload_n 3, 1) := by decide +kernel
theorem dX12_strength_26 : decode cX12_strength 26 = .ok (.invokevirtual 114, 3) := by decide +kernel
theorem dX12_strength_29 : decode cX12_strength 29 = .ok (.goto 9, 3) := by decide +kernel
theorem dX12_strength_32 : decode cX12_strength 32 = .ok (.aload_n 0, 1) := by decide +kernel
theorem dX12_strength_33 : decode cX12_strength 33 = .ok (.bipush (-5), 2) := by decide +kernel
theorem dX12_strength_35 : decode cX12_strength 35 = .ok (.invokevirtual 75, 3) := by decide +kernel
theorem dX12_strength_38 : decode cX12_strength 38 = .ok (.ireturn, 1) := by decide +kernel
set_option maxRecDepth 20000 in
theorem ggX12_drift_X12_isPerson : GoodIn wsX12_drift wsX12_isPerson := goodIn_r _ [6, 7, 8, 9, 5, 10, 19, 20, 21, 22, 23, 24, 25, 26, 27, 28, 29, 30, 31, 32, 33, 34, 35, 36, 37, 38, 39, 40, 41, 42, 43, 44, 45] (by decide +kernel) (by decide +kernel)
set_option maxRecDepth 20000 in
theorem gX12_drift_X12_isPerson : GoodIn wsX12_drift (wsV RX12 96 RX12 yX12_isPerson wsX12_isPerson) := goodIn_app (goodIn_of _ (by decide +kernel)) ggX12_drift_X12_isPerson
set_option maxRecDepth 20000 in
theorem ggX12_drift_X12_isCopy : GoodIn wsX12_drift wsX12_isCopy := goodIn_r _ [13, 8, 9, 5, 10] (by decide +kernel) (by decide +kernel)
set_option maxRecDepth 20000 in
theorem gX12_drift_X12_isCopy : GoodIn wsX12_drift (va_wsS RX12 86 yX12_isCopy wsX12_isCopy) := goodIn_app (goodIn_of _ (by decide +kernel)) ggX12_drift_X12_isCopy
set_option maxRecDepth 20000 in
theorem ggX12_drift_X12_no : GoodIn wsX12_drift wsX12_no := goodIn_r _ [17, 18, 19, 20, 21, 22, 23, 24, 25, 26, 27, 28, 29, 30, 31, 32, 33, 34, 35, 36, 37, 38, 39, 40, 41, 42, 43, 44, 45] (by decide +kernel) (by decide +kernel)
set_option maxRecDepth 20000 in
theorem gX12_drift_X12_no : GoodIn wsX12_drift (wsV RX12 75 RX12 yX12_no wsX12_no) := goodIn_app (goodIn_of _ (by decide +kernel)) ggX12_drift_X12_no
theorem dX12_drift_0 : decode cX12_drift 0 = .ok (.aload_n 0, 1) := by decide +kernel
theorem dX12_drift_1 : decode cX12_drift 1 = .ok (.iload_n 1, 1) := by decide +kernel
theorem dX12_drift_2 : decode cX12_drift 2 = .ok (.invokevirtual 96, 3) := by decide +kernel
theorem dX12_drift_5 : decode cX12_drift 5 = .ok (.ifCond .eq 24, 3) := by decide +kernel
theorem dX12_drift_8 : decode cX12_drift 8 = .ok (.iload_n 2, 1) := by decide +kernel
theorem dX12_drift_9 : decode cX12_drift 9 = .ok (.invokestatic 86, 3) := by decide +kernel
theorem dX12_drift_12 : decode cX12_drift 12 = .ok (.ifCond .eq 17, 3) := by decide +kernel
theorem dX12_drift_15 : decode cX12_drift 15 = .ok (.aload_n 0, 1) := by decide +kernel
theorem dX12_drift_16 : decode cX12_drift 16 = .ok (.getfield 35, 3) := by decide +kernel
theorem dX12_drift_19 : decode cX12_drift 19 = .ok (.bipush 6, 2) := by decide +kernel
theorem dX12_drift_21 : decode cX12_drift 21 = .ok (.iload_n 1, 1) := by decide +kernel
theorem dX12_drift_22 : decode cX12_drift 22 = .ok (.imul, 1) := by decide +kernel
theorem dX12_drift_23 : decode cX12_drift 23 = .ok (.iload_n 2, 1) := by decide +kernel
theorem dX12_drift_24 : decode cX12_drift 24 = .ok (.iadd, 1) := by decide +kernel
theorem dX12_drift_25 : decode cX12_drift 25 = .ok (.iaload, 1) := by decide +kernel
theorem dX12_drift_26 : decode cX12_drift 26 = .ok (.goto 13, 3) := by decide +kernel
theorem dX12_drift_29 : decode cX12_drift 29 = .ok (.aload_n 0, 1) := by decide +kernel
theorem dX12_drift_30 : decode cX12_drift 30 = .ok (.bipush (-5), 2) := by decide +kernel
theorem dX12_drift_32 : decode cX12_drift 32 = .ok (.invokevirtual 75, 3) := by decide +kernel
theorem dX12_drift_35 : decode cX12_drift 35 = .ok (.sipush 10000, 3) := by decide +kernel
theorem dX12_drift_38 : decode cX12_drift 38 = .ok (.isub, 1) := by decide +kernel
theorem dX12_drift_39 : decode cX12_drift 39 = .ok (.ireturn, 1) := by decide +kernel
theorem dX12_lossAt_0 : decode cX12_lossAt 0 = .ok (.aload_n 0, 1) := by decide +kernel
theorem dX12_lossAt_1 : decode cX12_lossAt 1 = .ok (.getfield 20, 3) := by decide +kernel
theorem dX12_lossAt_4 : decode cX12_lossAt 4 = .ok (.iload_n 1, 1) := by decide +kernel
theorem dX12_lossAt_5 : decode cX12_lossAt 5 = .ok (.iaload, 1) := by decide +kernel
theorem dX12_lossAt_6 : decode cX12_lossAt 6 = .ok (.tableswitch 154 1 6 #[38, 54, 63, 90, 99, 117], 38) := by decide +kernel
theorem dX12_lossAt_44 : decode cX12_lossAt 44 = .ok (.iload_n 2, 1) := by decide +kernel
theorem dX12_lossAt_45 : decode cX12_lossAt 45 = .ok (.iconst 1, 1) := by decide +kernel
theorem dX12_lossAt_46 : decode cX12_lossAt 46 = .ok (.if_icmp .ne 7, 3) := by decide +kernel
theorem dX12_lossAt_49 : decode cX12_lossAt 49 = .ok (.iconst 0, 1) := by decide +kernel
theorem dX12_lossAt_50 : decode cX12_lossAt 50 = .ok (.goto 9, 3) := by decide +kernel
theorem dX12_lossAt_53 : decode cX12_lossAt 53 = .ok (.aload_n 0, 1) := by decide +kernel
theorem dX12_lossAt_54 : decode cX12_lossAt 54 = .ok (.getfield 26, 3) := by decide +kernel
theorem dX12_lossAt_57 : decode cX12_lossAt 57 = .ok (.iload_n 1, 1) := by decide +kernel
theorem dX12_lossAt_58 : decode cX12_lossAt 58 = .ok (.iaload, 1) := by decide +kernel
theorem dX12_lossAt_59 : decode cX12_lossAt 59 = .ok (.ireturn, 1) := by decide +kernel
theorem dX12_lossAt_60 : decode cX12_lossAt 60 = .ok (.aload_n 0, 1) := by decide +kernel
theorem dX12_lossAt_61 : decode cX12_lossAt 61 = .ok (.getfield 26, 3) := by decide +kernel
theorem dX12_lossAt_64 : decode cX12_lossAt 64 = .ok (.iload_n 1, 1) := by decide +kernel
theorem dX12_lossAt_65 : decode cX12_lossAt 65 = .ok (.iaload, 1) := by decide +kernel
theorem dX12_lossAt_66 : decode cX12_lossAt 66 = .ok (.iconst 2, 1) := by decide +kernel
theorem dX12_lossAt_67 : decode cX12_lossAt 67 = .ok (.iadd, 1) := by decide +kernel
theorem dX12_lossAt_68 : decode cX12_lossAt 68 = .ok (.ireturn, 1) := by decide +kernel
theorem dX12_lossAt_69 : decode cX12_lossAt 69 = .ok (.iload_n 2, 1) := by decide +kernel
theorem dX12_lossAt_70 : decode cX12_lossAt 70 = .ok (.iconst 5, 1) := by decide +kernel
theorem dX12_lossAt_71 : decode cX12_lossAt 71 = .ok (.if_icmp .ne 16, 3) := by decide +kernel
theorem dX12_lossAt_74 : decode cX12_lossAt 74 = .ok (.iconst 2, 1) := by decide +kernel
theorem dX12_lossAt_75 : decode cX12_lossAt 75 = .ok (.aload_n 0, 1) := by decide +kernel
theorem dX12_lossAt_76 : decode cX12_lossAt 76 = .ok (.getfield 26, 3) := by decide +kernel
theorem dX12_lossAt_79 : decode cX12_lossAt 79 = .ok (.iload_n 1, 1) := by decide +kernel
theorem dX12_lossAt_80 : decode cX12_lossAt 80 = .ok (.iaload, 1) := by decide +kernel
theorem dX12_lossAt_81 : decode cX12_lossAt 81 = .ok (.iconst 2, 1) := by decide +kernel
theorem dX12_lossAt_82 : decode cX12_lossAt 82 = .ok (.iadd, 1) := by decide +kernel
theorem dX12_lossAt_83 : decode cX12_lossAt 83 = .ok (.imul, 1) := by decide +kernel
theorem dX12_lossAt_84 : decode cX12_lossAt 84 = .ok (.goto 11, 3) := by decide +kernel
theorem dX12_lossAt_87 : decode cX12_lossAt 87 = .ok (.aload_n 0, 1) := by decide +kernel
theorem dX12_lossAt_88 : decode cX12_lossAt 88 = .ok (.getfield 26, 3) := by decide +kernel
theorem dX12_lossAt_91 : decode cX12_lossAt 91 = .ok (.iload_n 1, 1) := by decide +kernel
theorem dX12_lossAt_92 : decode cX12_lossAt 92 = .ok (.iaload, 1) := by decide +kernel
theorem dX12_lossAt_93 : decode cX12_lossAt 93 = .ok (.iconst 2, 1) := by decide +kernel
theorem dX12_lossAt_94 : decode cX12_lossAt 94 = .ok (.iadd, 1) := by decide +kernel
theorem dX12_lossAt_95 : decode cX12_lossAt 95 = .ok (.ireturn, 1) := by decide +kernel
theorem dX12_lossAt_96 : decode cX12_lossAt 96 = .ok (.aload_n 0, 1) := by decide +kernel
theorem dX12_lossAt_97 : decode cX12_lossAt 97 = .ok (.getfield 26, 3) := by decide +kernel
theorem dX12_lossAt_100 : decode cX12_lossAt 100 = .ok (.iload_n 1, 1) := by decide +kernel
theorem dX12_lossAt_101 : decode cX12_lossAt 101 = .ok (.iaload, 1) := by decide +kernel
theorem dX12_lossAt_102 : decode cX12_lossAt 102 = .ok (.iconst 2, 1) := by decide +kernel
theorem dX12_lossAt_103 : decode cX12_lossAt 103 = .ok (.idiv, 1) := by decide +kernel
theorem dX12_lossAt_104 : decode cX12_lossAt 104 = .ok (.ireturn, 1) := by decide +kernel
theorem dX12_lossAt_105 : decode cX12_lossAt 105 = .ok (.aload_n 0, 1) := by decide +kernel
theorem dX12_lossAt_106 : decode cX12_lossAt 106 = .ok (.getfield 26, 3) := by decide +kernel
theorem dX12_lossAt_109 : decode cX12_lossAt 109 = .ok (.iload_n 1, 1) := by decide +kernel
theorem dX12_lossAt_110 : decode cX12_lossAt 110 = .ok (.iaload, 1) := by decide +kernel
theorem dX12_lossAt_111 : decode cX12_lossAt 111 = .ok (.iconst 2, 1) := by decide +kernel
theorem dX12_lossAt_112 : decode cX12_lossAt 112 = .ok (.idiv, 1) := by decide +kernel
theorem dX12_lossAt_113 : decode cX12_lossAt 113 = .ok (.aload_n 0, 1) := by decide +kernel
theorem dX12_lossAt_114 : decode cX12_lossAt 114 = .ok (.getfield 23, 3) := by decide +kernel
theorem dX12_lossAt_117 : decode cX12_lossAt 117 = .ok (.iload_n 1, 1) := by decide +kernel
theorem dX12_lossAt_118 : decode cX12_lossAt 118 = .ok (.iaload, 1) := by decide +kernel
theorem dX12_lossAt_119 : decode cX12_lossAt 119 = .ok (.iconst 2, 1) := by decide +kernel
theorem dX12_lossAt_120 : decode cX12_lossAt 120 = .ok (.irem, 1) := by decide +kernel
theorem dX12_lossAt_121 : decode cX12_lossAt 121 = .ok (.iadd, 1) := by decide +kernel
theorem dX12_lossAt_122 : decode cX12_lossAt 122 = .ok (.ireturn, 1) := by decide +kernel
theorem dX12_lossAt_123 : decode cX12_lossAt 123 = .ok (.iload_n 2, 1) := by decide +kernel
theorem dX12_lossAt_124 : decode cX12_lossAt 124 = .ok (.iconst 1, 1) := by decide +kernel
theorem dX12_lossAt_125 : decode cX12_lossAt 125 = .ok (.if_icmp .ne 7, 3) := by decide +kernel
theorem dX12_lossAt_128 : decode cX12_lossAt 128 = .ok (.iconst 0, 1) := by decide +kernel
theorem dX12_lossAt_129 : decode cX12_lossAt 129 = .ok (.goto 30, 3) := by decide +kernel
theorem dX12_lossAt_132 : decode cX12_lossAt 132 = .ok (.iload_n 2, 1) := by decide +kernel
theorem dX12_lossAt_133 : decode cX12_lossAt 133 = .ok (.iconst 3, 1) := by decide +kernel
theorem dX12_lossAt_134 : decode cX12_lossAt 134 = .ok (.if_icmp .ne 19, 3) := by decide +kernel
theorem dX12_lossAt_137 : decode cX12_lossAt 137 = .ok (.aload_n 0, 1) := by decide +kernel
theorem dX12_lossAt_138 : decode cX12_lossAt 138 = .ok (.getfield 26, 3) := by decide +kernel
theorem dX12_lossAt_141 : decode cX12_lossAt 141 = .ok (.iload_n 1, 1) := by decide +kernel
theorem dX12_lossAt_142 : decode cX12_lossAt 142 = .ok (.iaload, 1) := by decide +kernel
theorem dX12_lossAt_143 : decode cX12_lossAt 143 = .ok (.aload_n 0, 1) := by decide +kernel
theorem dX12_lossAt_144 : decode cX12_lossAt 144 = .ok (.getfield 23, 3) := by decide +kernel
theorem dX12_lossAt_147 : decode cX12_lossAt 147 = .ok (.iload_n 1, 1) := by decide +kernel
theorem dX12_lossAt_148 : decode cX12_lossAt 148 = .ok (.iaload, 1) := by decide +kernel
theorem dX12_lossAt_149 : decode cX12_lossAt 149 = .ok (.iadd, 1) := by decide +kernel
theorem dX12_lossAt_150 : decode cX12_lossAt 150 = .ok (.goto 9, 3) := by decide +kernel
theorem dX12_lossAt_153 : decode cX12_lossAt 153 = .ok (.aload_n 0, 1) := by decide +kernel
theorem dX12_lossAt_154 : decode cX12_lossAt 154 = .ok (.getfield 26, 3) := by decide +kernel
theorem dX12_lossAt_157 : decode cX12_lossAt 157 = .ok (.iload_n 1, 1) := by decide +kernel
theorem dX12_lossAt_158 : decode cX12_lossAt 158 = .ok (.iaload, 1) := by decide +kernel
theorem dX12_lossAt_159 : decode cX12_lossAt 159 = .ok (.ireturn, 1) := by decide +kernel
theorem dX12_lossAt_160 : decode cX12_lossAt 160 = .ok (.aload_n 0, 1) := by decide +kernel
theorem dX12_lossAt_161 : decode cX12_lossAt 161 = .ok (.getfield 26, 3) := by decide +kernel
theorem dX12_lossAt_164 : decode cX12_lossAt 164 = .ok (.iload_n 1, 1) := by decide +kernel
theorem dX12_lossAt_165 : decode cX12_lossAt 165 = .ok (.iaload, 1) := by decide +kernel
theorem dX12_lossAt_166 : decode cX12_lossAt 166 = .ok (.ireturn, 1) := by decide +kernel
set_option maxRecDepth 20000 in
theorem ggX12_loss_X12_isPerson : GoodIn wsX12_loss wsX12_isPerson := goodIn_r _ [5, 6, 7, 8, 4, 9, 22, 23, 24, 25, 26, 27, 28, 29, 30, 31, 32, 33, 34, 35, 36, 37, 38, 39, 40, 41, 42, 43, 44, 45, 46, 47, 48] (by decide +kernel) (by decide +kernel)
set_option maxRecDepth 20000 in
theorem gX12_loss_X12_isPerson : GoodIn wsX12_loss (wsV RX12 96 RX12 yX12_isPerson wsX12_isPerson) := goodIn_app (goodIn_of _ (by decide +kernel)) ggX12_loss_X12_isPerson
set_option maxRecDepth 20000 in
theorem ggX12_loss_X12_no : GoodIn wsX12_loss wsX12_no := goodIn_r _ [13, 14, 22, 23, 24, 25, 26, 27, 28, 29, 30, 31, 32, 33, 34, 35, 36, 37, 38, 39, 40, 41, 42, 43, 44, 45, 46, 47, 48] (by decide +kernel) (by decide +kernel)
set_option maxRecDepth 20000 in
theorem gX12_loss_X12_no : GoodIn wsX12_loss (wsV RX12 75 RX12 yX12_no wsX12_no) := goodIn_app (goodIn_of _ (by decide +kernel)) ggX12_loss_X12_no
set_option maxRecDepth 20000 in
theorem ggX12_loss_X12_within : GoodIn wsX12_loss wsX12_within := goodIn_r _ [9] (by decide +kernel) (by decide +kernel)
set_option maxRecDepth 20000 in
theorem gX12_loss_X12_within : GoodIn wsX12_loss (va_wsS RX12 82 yX12_within wsX12_within) := goodIn_app (goodIn_of _ (by decide +kernel)) ggX12_loss_X12_within
set_option maxRecDepth 20000 in
theorem ggX12_loss_X12_lossAt : GoodIn wsX12_loss wsX12_lossAt := goodIn_r _ [18, 19, 20, 21, 22, 23, 24, 25, 26, 27, 28, 29, 30, 31, 32, 33, 34, 35, 36, 37, 38, 39, 40, 41, 42, 43, 44, 45, 46, 47, 48] (by decide +kernel) (by decide +kernel)
set_option maxRecDepth 20000 in
theorem gX12_loss_X12_lossAt : GoodIn wsX12_loss (wsV RX12 106 RX12 yX12_lossAt wsX12_lossAt) := goodIn_app (goodIn_of _ (by decide +kernel)) ggX12_loss_X12_lossAt
theorem dX12_loss_0 : decode cX12_loss 0 = .ok (.aload_n 0, 1) := by decide +kernel
theorem dX12_loss_1 : decode cX12_loss 1 = .ok (.iload_n 1, 1) := by decide +kernel
theorem dX12_loss_2 : decode cX12_loss 2 = .ok (.invokevirtual 96, 3) := by decide +kernel
theorem dX12_loss_5 : decode cX12_loss 5 = .ok (.ifCond .ne 9, 3) := by decide +kernel
theorem dX12_loss_8 : decode cX12_loss 8 = .ok (.aload_n 0, 1) := by decide +kernel
theorem dX12_loss_9 : decode cX12_loss 9 = .ok (.iconst (-1), 1) := by decide +kernel
theorem dX12_loss_10 : decode cX12_loss 10 = .ok (.invokevirtual 75, 3) := by decide +kernel
theorem dX12_loss_13 : decode cX12_loss 13 = .ok (.ireturn, 1) := by decide +kernel
theorem dX12_loss_14 : decode cX12_loss 14 = .ok (.iload_n 2, 1) := by decide +kernel
theorem dX12_loss_15 : decode cX12_loss 15 = .ok (.iconst 1, 1) := by decide +kernel
theorem dX12_loss_16 : decode cX12_loss 16 = .ok (.iconst 5, 1) := by decide +kernel
theorem dX12_loss_17 : decode cX12_loss 17 = .ok (.invokestatic 82, 3) := by decide +kernel
theorem dX12_loss_20 : decode cX12_loss 20 = .ok (.ifCond .eq 12, 3) := by decide +kernel
theorem dX12_loss_23 : decode cX12_loss 23 = .ok (.aload_n 0, 1) := by decide +kernel
theorem dX12_loss_24 : decode cX12_loss 24 = .ok (.iload_n 1, 1) := by decide +kernel
theorem dX12_loss_25 : decode cX12_loss 25 = .ok (.iload_n 2, 1) := by decide +kernel
theorem dX12_loss_26 : decode cX12_loss 26 = .ok (.invokevirtual 106, 3) := by decide +kernel
theorem dX12_loss_29 : decode cX12_loss 29 = .ok (.goto 9, 3) := by decide +kernel
theorem dX12_loss_32 : decode cX12_loss 32 = .ok (.aload_n 0, 1) := by decide +kernel
theorem dX12_loss_33 : decode cX12_loss 33 = .ok (.bipush (-6), 2) := by decide +kernel
theorem dX12_loss_35 : decode cX12_loss 35 = .ok (.invokevirtual 75, 3) := by decide +kernel
theorem dX12_loss_38 : decode cX12_loss 38 = .ok (.ireturn, 1) := by decide +kernel
theorem dX12_sign_0 : decode cX12_sign 0 = .ok (.aload_n 0, 1) := by decide +kernel
theorem dX12_sign_1 : decode cX12_sign 1 = .ok (.getfield 135, 3) := by decide +kernel
theorem dX12_sign_4 : decode cX12_sign 4 = .ok (.aload_n 0, 1) := by decide +kernel
theorem dX12_sign_5 : decode cX12_sign 5 = .ok (.getfield 13, 3) := by decide +kernel
theorem dX12_sign_8 : decode cX12_sign 8 = .ok (.aload_n 0, 1) := by decide +kernel
theorem dX12_sign_9 : decode cX12_sign 9 = .ok (.getfield 138, 3) := by decide +kernel
theorem dX12_sign_12 : decode cX12_sign 12 = .ok (.iaload, 1) := by decide +kernel
theorem dX12_sign_13 : decode cX12_sign 13 = .ok (.if_icmp .ge 25, 3) := by decide +kernel
theorem dX12_sign_16 : decode cX12_sign 16 = .ok (.aload_n 0, 1) := by decide +kernel
theorem dX12_sign_17 : decode cX12_sign 17 = .ok (.getfield 16, 3) := by decide +kernel
theorem dX12_sign_20 : decode cX12_sign 20 = .ok (.sipush 160, 3) := by decide +kernel
theorem dX12_sign_23 : decode cX12_sign 23 = .ok (.aload_n 0, 1) := by decide +kernel
theorem dX12_sign_24 : decode cX12_sign 24 = .ok (.getfield 138, 3) := by decide +kernel
theorem dX12_sign_27 : decode cX12_sign 27 = .ok (.imul, 1) := by decide +kernel
theorem dX12_sign_28 : decode cX12_sign 28 = .ok (.aload_n 0, 1) := by decide +kernel
theorem dX12_sign_29 : decode cX12_sign 29 = .ok (.getfield 135, 3) := by decide +kernel
theorem dX12_sign_32 : decode cX12_sign 32 = .ok (.iadd, 1) := by decide +kernel
theorem dX12_sign_33 : decode cX12_sign 33 = .ok (.laload, 1) := by decide +kernel
theorem dX12_sign_34 : decode cX12_sign 34 = .ok (.l2i, 1) := by decide +kernel
theorem dX12_sign_35 : decode cX12_sign 35 = .ok (.goto 4, 3) := by decide +kernel
theorem dX12_sign_38 : decode cX12_sign 38 = .ok (.iconst (-1), 1) := by decide +kernel
theorem dX12_sign_39 : decode cX12_sign 39 = .ok (.ireturn, 1) := by decide +kernel
set_option maxRecDepth 20000 in
theorem ggX12_is_X12_sign : GoodIn wsX12_is wsX12_sign := goodIn_r _ [6, 1, 7, 8, 9, 10, 11, 12, 13, 14, 15, 16, 17, 18, 19, 20, 21, 22, 23, 24, 25, 26, 27, 28, 29, 30, 31, 32, 33, 34, 35, 36] (by decide +kernel) (by decide +kernel)
set_option maxRecDepth 20000 in
theorem gX12_is_X12_sign : GoodIn wsX12_is (wsV RX12 141 RX12 yX12_sign wsX12_sign) := goodIn_app (goodIn_of _ (by decide +kernel)) ggX12_is_X12_sign
theorem dX12_is_0 : decode cX12_is 0 = .ok (.aload_n 0, 1) := by decide +kernel
theorem dX12_is_1 : decode cX12_is 1 = .ok (.invokevirtual 141, 3) := by decide +kernel
theorem dX12_is_4 : decode cX12_is 4 = .ok (.iload_n 1, 1) := by decide +kernel
theorem dX12_is_5 : decode cX12_is 5 = .ok (.if_icmp .eq 5, 3) := by decide +kernel
theorem dX12_is_8 : decode cX12_is 8 = .ok (.iconst 0, 1) := by decide +kernel
theorem dX12_is_9 : decode cX12_is 9 = .ok (.ireturn, 1) := by decide +kernel
theorem dX12_is_10 : decode cX12_is 10 = .ok (.aload_n 0, 1) := by decide +kernel
theorem dX12_is_11 : decode cX12_is 11 = .ok (.dup, 1) := by decide +kernel
theorem dX12_is_12 : decode cX12_is 12 = .ok (.getfield 135, 3) := by decide +kernel
theorem dX12_is_15 : decode cX12_is 15 = .ok (.iconst 1, 1) := by decide +kernel
theorem dX12_is_16 : decode cX12_is 16 = .ok (.iadd, 1) := by decide +kernel
theorem dX12_is_17 : decode cX12_is 17 = .ok (.putfield 135, 3) := by decide +kernel
theorem dX12_is_20 : decode cX12_is 20 = .ok (.iconst 1, 1) := by decide +kernel
theorem dX12_is_21 : decode cX12_is 21 = .ok (.ireturn, 1) := by decide +kernel
set_option maxRecDepth 20000 in
theorem ggX12_word_J0_length_8abf5 : GoodIn wsX12_word wsJ0_length_8abf5 := goodIn_r _ [5, 6, 7, 8, 9, 4, 10, 11, 12] (by decide +kernel) (by decide +kernel)
set_option maxRecDepth 20000 in
theorem gX12_word_J0_length_8abf5 : GoodIn wsX12_word (wsV RX12 145 RJ0 yJ0_length_8abf5 wsJ0_length_8abf5) := goodIn_app (goodIn_of _ (by decide +kernel)) ggX12_word_J0_length_8abf5
set_option maxRecDepth 20000 in
theorem ggX12_word_J0_charAt_5068e : GoodIn wsX12_word wsJ0_charAt_5068e := goodIn_r _ [16, 6, 17, 18, 19, 4, 20, 11, 12, 21, 22, 23, 24, 25, 26, 27, 28, 29, 30, 31, 32, 33, 34, 35, 36, 37, 38, 39, 40, 41, 42, 43, 44, 45, 46, 47, 48, 49] (by decide +kernel) (by decide +kernel)
set_option maxRecDepth 20000 in
theorem gX12_word_J0_charAt_5068e : GoodIn wsX12_word (wsV RX12 150 RJ0 yJ0_charAt_5068e wsJ0_charAt_5068e) := goodIn_app (goodIn_of _ (by decide +kernel)) ggX12_word_J0_charAt_5068e
set_option maxRecDepth 20000 in
theorem ggX12_word_X12_is : GoodIn wsX12_word wsX12_is := goodIn_r _ [54, 55, 56, 57, 58, 53, 59, 60, 61, 62, 63, 64, 65, 66, 67, 68, 69, 70, 71, 72, 73, 74, 75, 76, 77, 78, 79, 80, 81, 82, 83, 84, 85, 86, 87, 88, 89] (by decide +kernel) (by decide +kernel)
set_option maxRecDepth 20000 in
theorem gX12_word_X12_is : GoodIn wsX12_word (wsV RX12 154 RX12 yX12_is wsX12_is) := goodIn_app (goodIn_of _ (by decide +kernel)) ggX12_word_X12_is
theorem dX12_word_0 : decode cX12_word 0 = .ok (.iconst 0, 1) := by decide +kernel
theorem dX12_word_1 : decode cX12_word 1 = .ok (.istore_n 2, 1) := by decide +kernel
theorem dX12_word_2 : decode cX12_word 2 = .ok (.iload_n 2, 1) := by decide +kernel
theorem dX12_word_3 : decode cX12_word 3 = .ok (.aload_n 1, 1) := by decide +kernel
theorem dX12_word_4 : decode cX12_word 4 = .ok (.invokevirtual 145, 3) := by decide +kernel
theorem dX12_word_7 : decode cX12_word 7 = .ok (.if_icmp .ge 23, 3) := by decide +kernel
theorem dX12_word_10 : decode cX12_word 10 = .ok (.aload_n 0, 1) := by decide +kernel
theorem dX12_word_11 : decode cX12_word 11 = .ok (.aload_n 1, 1) := by decide +kernel
theorem dX12_word_12 : decode cX12_word 12 = .ok (.iload_n 2, 1) := by decide +kernel
theorem dX12_word_13 : decode cX12_word 13 = .ok (.invokevirtual 150, 3) := by decide +kernel
theorem dX12_word_16 : decode cX12_word 16 = .ok (.invokevirtual 154, 3) := by decide +kernel
theorem dX12_word_19 : decode cX12_word 19 = .ok (.ifCond .ne 5, 3) := by decide +kernel
theorem dX12_word_22 : decode cX12_word 22 = .ok (.iconst 0, 1) := by decide +kernel
theorem dX12_word_23 : decode cX12_word 23 = .ok (.ireturn, 1) := by decide +kernel
theorem dX12_word_24 : decode cX12_word 24 = .ok (.iinc 2 1, 3) := by decide +kernel
theorem dX12_word_27 : decode cX12_word 27 = .ok (.goto (-25), 3) := by decide +kernel
theorem dX12_word_30 : decode cX12_word 30 = .ok (.iconst 1, 1) := by decide +kernel
theorem dX12_word_31 : decode cX12_word 31 = .ok (.ireturn, 1) := by decide +kernel
set_option maxRecDepth 20000 in
theorem ggX12_word__X12_word : GoodIn wsX12_word_ wsX12_word := goodIn_r _ [6, 7, 8, 9, 10, 11, 12, 13, 14, 15, 16, 17, 18, 19, 20, 21, 22, 23, 24, 25, 26, 27, 28, 29, 30, 31, 32, 33, 34, 35, 36, 37, 38, 39, 40, 41, 42, 43, 44, 45, 46, 47, 48, 49, 50, 51, 52, 53, 54, 55, 56, 57, 58, 5, 59, 1, 60, 61, 62, 63, 64, 65, 66, 67, 68, 69, 70, 71, 72, 73, 74, 75, 76, 77, 78, 79, 80, 81, 82, 83, 84, 85, 86, 87, 88, 89, 90, 91, 92, 93] (by decide +kernel) (by decide +kernel)
set_option maxRecDepth 20000 in
theorem gX12_word__X12_word : GoodIn wsX12_word_ (wsV RX12 158 RX12 yX12_word wsX12_word) := goodIn_app (goodIn_of _ (by decide +kernel)) ggX12_word__X12_word
theorem dX12_word__0 : decode cX12_word_ 0 = .ok (.aload_n 0, 1) := by decide +kernel
theorem dX12_word__1 : decode cX12_word_ 1 = .ok (.getfield 135, 3) := by decide +kernel
theorem dX12_word__4 : decode cX12_word_ 4 = .ok (.istore_n 3, 1) := by decide +kernel
theorem dX12_word__5 : decode cX12_word_ 5 = .ok (.aload_n 0, 1) := by decide +kernel
theorem dX12_word__6 : decode cX12_word_ 6 = .ok (.aload_n 1, 1) := by decide +kernel
theorem dX12_word__7 : decode cX12_word_ 7 = .ok (.invokevirtual 158, 3) := by decide +kernel
theorem dX12_word__10 : decode cX12_word_ 10 = .ok (.istore 4, 2) := by decide +kernel
theorem dX12_word__12 : decode cX12_word_ 12 = .ok (.iload 4, 2) := by decide +kernel
theorem dX12_word__14 : decode cX12_word_ 14 = .ok (.ifCond .eq 12, 3) := by decide +kernel
theorem dX12_word__17 : decode cX12_word_ 17 = .ok (.iload_n 2, 1) := by decide +kernel
theorem dX12_word__18 : decode cX12_word_ 18 = .ok (.ifCond .ne 8, 3) := by decide +kernel
theorem dX12_word__21 : decode cX12_word_ 21 = .ok (.aload_n 0, 1) := by decide +kernel
theorem dX12_word__22 : decode cX12_word_ 22 = .ok (.iload_n 3, 1) := by decide +kernel
theorem dX12_word__23 : decode cX12_word_ 23 = .ok (.putfield 135, 3) := by decide +kernel
theorem dX12_word__26 : decode cX12_word_ 26 = .ok (.iload 4, 2) := by decide +kernel
theorem dX12_word__28 : decode cX12_word_ 28 = .ok (.ifCond .eq 11, 3) := by decide +kernel
theorem dX12_word__31 : decode cX12_word_ 31 = .ok (.iload_n 2, 1) := by decide +kernel
theorem dX12_word__32 : decode cX12_word_ 32 = .ok (.ifCond .eq 7, 3) := by decide +kernel
theorem dX12_word__35 : decode cX12_word_ 35 = .ok (.iconst 1, 1) := by decide +kernel
theorem dX12_word__36 : decode cX12_word_ 36 = .ok (.goto 4, 3) := by decide +kernel
theorem dX12_word__39 : decode cX12_word_ 39 = .ok (.iconst 0, 1) := by decide +kernel
theorem dX12_word__40 : decode cX12_word_ 40 = .ok (.ireturn, 1) := by decide +kernel
set_option maxRecDepth 20000 in
theorem ggX12_number_X12_is : GoodIn wsX12_number wsX12_is := goodIn_r _ [7, 1, 8, 9, 10, 6, 11, 12, 13, 14, 18, 19, 20, 21, 22, 23, 24, 25, 26, 27, 28, 29, 30, 31, 32, 33, 34, 35, 36, 37, 38, 39, 40, 41, 42, 43, 44] (by decide +kernel) (by decide +kernel)
set_option maxRecDepth 20000 in
theorem gX12_number_X12_is : GoodIn wsX12_number (wsV RX12 154 RX12 yX12_is wsX12_is) := goodIn_app (goodIn_of _ (by decide +kernel)) ggX12_number_X12_is
set_option maxRecDepth 20000 in
theorem ggX12_number_X12_sign : GoodIn wsX12_number wsX12_sign := goodIn_r _ [11, 1, 12, 13, 14, 18, 19, 20, 21, 22, 23, 24, 25, 26, 27, 28, 29, 30, 31, 32, 33, 34, 35, 36, 37, 38, 39, 40, 41, 42, 43, 44] (by decide +kernel) (by decide +kernel)
set_option maxRecDepth 20000 in
theorem gX12_number_X12_sign : GoodIn wsX12_number (wsV RX12 141 RX12 yX12_sign wsX12_sign) := goodIn_app (goodIn_of _ (by decide +kernel)) ggX12_number_X12_sign
set_option maxRecDepth 20000 in
theorem ggX12_number_X12_within : GoodIn wsX12_number wsX12_within := goodIn_r _ [17] (by decide +kernel) (by decide +kernel)
set_option maxRecDepth 20000 in
theorem gX12_number_X12_within : GoodIn wsX12_number (va_wsS RX12 82 yX12_within wsX12_within) := goodIn_app (goodIn_of _ (by decide +kernel)) ggX12_number_X12_within
theorem dX12_number_0 : decode cX12_number 0 = .ok (.aload_n 0, 1) := by decide +kernel
theorem dX12_number_1 : decode cX12_number 1 = .ok (.bipush 32, 2) := by decide +kernel
theorem dX12_number_3 : decode cX12_number 3 = .ok (.invokevirtual 154, 3) := by decide +kernel
theorem dX12_number_6 : decode cX12_number 6 = .ok (.ifCond .ne 5, 3) := by decide +kernel
theorem dX12_number_9 : decode cX12_number 9 = .ok (.iconst 0, 1) := by decide +kernel
theorem dX12_number_10 : decode cX12_number 10 = .ok (.ireturn, 1) := by decide +kernel
theorem dX12_number_11 : decode cX12_number 11 = .ok (.aload_n 0, 1) := by decide +kernel
theorem dX12_number_12 : decode cX12_number 12 = .ok (.getfield 135, 3) := by decide +kernel
theorem dX12_number_15 : decode cX12_number 15 = .ok (.istore 4, 2) := by decide +kernel
theorem dX12_number_17 : decode cX12_number 17 = .ok (.iconst 0, 1) := by decide +kernel
theorem dX12_number_18 : decode cX12_number 18 = .ok (.istore 5, 2) := by decide +kernel
theorem dX12_number_20 : decode cX12_number 20 = .ok (.aload_n 0, 1) := by decide +kernel
theorem dX12_number_21 : decode cX12_number 21 = .ok (.getfield 135, 3) := by decide +kernel
theorem dX12_number_24 : decode cX12_number 24 = .ok (.iload 4, 2) := by decide +kernel
theorem dX12_number_26 : decode cX12_number 26 = .ok (.isub, 1) := by decide +kernel
theorem dX12_number_27 : decode cX12_number 27 = .ok (.iconst 2, 1) := by decide +kernel
theorem dX12_number_28 : decode cX12_number 28 = .ok (.if_icmp .ge 49, 3) := by decide +kernel
theorem dX12_number_31 : decode cX12_number 31 = .ok (.aload_n 0, 1) := by decide +kernel
theorem dX12_number_32 : decode cX12_number 32 = .ok (.invokevirtual 141, 3) := by decide +kernel
theorem dX12_number_35 : decode cX12_number 35 = .ok (.bipush 48, 2) := by decide +kernel
theorem dX12_number_37 : decode cX12_number 37 = .ok (.if_icmp .lt 40, 3) := by decide +kernel
theorem dX12_number_40 : decode cX12_number 40 = .ok (.aload_n 0, 1) := by decide +kernel
theorem dX12_number_41 : decode cX12_number 41 = .ok (.invokevirtual 141, 3) := by decide +kernel
theorem dX12_number_44 : decode cX12_number 44 = .ok (.bipush 57, 2) := by decide +kernel
theorem dX12_number_46 : decode cX12_number 46 = .ok (.if_icmp .gt 31, 3) := by decide +kernel
theorem dX12_number_49 : decode cX12_number 49 = .ok (.bipush 10, 2) := by decide +kernel
theorem dX12_number_51 : decode cX12_number 51 = .ok (.iload 5, 2) := by decide +kernel
theorem dX12_number_53 : decode cX12_number 53 = .ok (.imul, 1) := by decide +kernel
theorem dX12_number_54 : decode cX12_number 54 = .ok (.aload_n 0, 1) := by decide +kernel
theorem dX12_number_55 : decode cX12_number 55 = .ok (.invokevirtual 141, 3) := by decide +kernel
theorem dX12_number_58 : decode cX12_number 58 = .ok (.iadd, 1) := by decide +kernel
theorem dX12_number_59 : decode cX12_number 59 = .ok (.bipush 48, 2) := by decide +kernel
theorem dX12_number_61 : decode cX12_number 61 = .ok (.isub, 1) := by decide +kernel
theorem dX12_number_62 : decode cX12_number 62 = .ok (.istore 5, 2) := by decide +kernel
theorem dX12_number_64 : decode cX12_number 64 = .ok (.aload_n 0, 1) := by decide +kernel
theorem dX12_number_65 : decode cX12_number 65 = .ok (.dup, 1) := by decide +kernel
theorem dX12_number_66 : decode cX12_number 66 = .ok (.getfield 135, 3) := by decide +kernel
theorem dX12_number_69 : decode cX12_number 69 = .ok (.iconst 1, 1) := by decide +kernel
theorem dX12_number_70 : decode cX12_number 70 = .ok (.iadd, 1) := by decide +kernel
theorem dX12_number_71 : decode cX12_number 71 = .ok (.putfield 135, 3) := by decide +kernel
theorem dX12_number_74 : decode cX12_number 74 = .ok (.goto (-54), 3) := by decide +kernel
theorem dX12_number_77 : decode cX12_number 77 = .ok (.aload_n 0, 1) := by decide +kernel
theorem dX12_number_78 : decode cX12_number 78 = .ok (.getfield 135, 3) := by decide +kernel
theorem dX12_number_81 : decode cX12_number 81 = .ok (.iload 4, 2) := by decide +kernel
theorem dX12_number_83 : decode cX12_number 83 = .ok (.if_icmp .ne 5, 3) := by decide +kernel
theorem dX12_number_86 : decode cX12_number 86 = .ok (.iconst 0, 1) := by decide +kernel
theorem dX12_number_87 : decode cX12_number 87 = .ok (.ireturn, 1) := by decide +kernel
theorem dX12_number_88 : decode cX12_number 88 = .ok (.aload_n 0, 1) := by decide +kernel
theorem dX12_number_89 : decode cX12_number 89 = .ok (.getfield 41, 3) := by decide +kernel
theorem dX12_number_92 : decode cX12_number 92 = .ok (.iload_n 1, 1) := by decide +kernel
theorem dX12_number_93 : decode cX12_number 93 = .ok (.iload 5, 2) := by decide +kernel
theorem dX12_number_95 : decode cX12_number 95 = .ok (.iastore, 1) := by decide +kernel
theorem dX12_number_96 : decode cX12_number 96 = .ok (.iload 5, 2) := by decide +kernel
theorem dX12_number_98 : decode cX12_number 98 = .ok (.iload_n 2, 1) := by decide +kernel
theorem dX12_number_99 : decode cX12_number 99 = .ok (.iload_n 3, 1) := by decide +kernel
theorem dX12_number_100 : decode cX12_number 100 = .ok (.invokestatic 82, 3) := by decide +kernel
theorem dX12_number_103 : decode cX12_number 103 = .ok (.istore 6, 2) := by decide +kernel
theorem dX12_number_105 : decode cX12_number 105 = .ok (.iload 6, 2) := by decide +kernel
theorem dX12_number_107 : decode cX12_number 107 = .ok (.ifCond .ne 9, 3) := by decide +kernel
theorem dX12_number_110 : decode cX12_number 110 = .ok (.aload_n 0, 1) := by decide +kernel
theorem dX12_number_111 : decode cX12_number 111 = .ok (.iload 4, 2) := by decide +kernel
theorem dX12_number_113 : decode cX12_number 113 = .ok (.putfield 135, 3) := by decide +kernel
theorem dX12_number_116 : decode cX12_number 116 = .ok (.iload 6, 2) := by decide +kernel
theorem dX12_number_118 : decode cX12_number 118 = .ok (.ireturn, 1) := by decide +kernel
theorem dX12_stands_0 : decode cX12_stands 0 = .ok (.iload_n 2, 1) := by decide +kernel
theorem dX12_stands_1 : decode cX12_stands 1 = .ok (.ifCond .ne 8, 3) := by decide +kernel
theorem dX12_stands_4 : decode cX12_stands 4 = .ok (.aload_n 0, 1) := by decide +kernel
theorem dX12_stands_5 : decode cX12_stands 5 = .ok (.iload_n 1, 1) := by decide +kernel
theorem dX12_stands_6 : decode cX12_stands 6 = .ok (.putfield 135, 3) := by decide +kernel
theorem dX12_stands_9 : decode cX12_stands 9 = .ok (.iload_n 2, 1) := by decide +kernel
theorem dX12_stands_10 : decode cX12_stands 10 = .ok (.ireturn, 1) := by decide +kernel
set_option maxRecDepth 20000 in
theorem ggX12_item_X12_sign : GoodIn wsX12_item wsX12_sign := goodIn_r _ [10, 2, 11, 12, 13, 135, 136, 137, 138, 139, 140, 141, 142, 143, 144, 145, 146, 147, 148, 149, 150, 151, 152, 153, 154, 155, 156, 157, 158, 159, 160, 161] (by decide +kernel) (by decide +kernel)
set_option maxRecDepth 20000 in
theorem gX12_item_X12_sign : GoodIn wsX12_item (wsV RX12 141 RX12 yX12_sign wsX12_sign) := goodIn_app (goodIn_of _ (by decide +kernel)) ggX12_item_X12_sign
set_option maxRecDepth 20000 in
theorem ggX12_item_X12_pressed : GoodIn wsX12_item wsX12_pressed := goodIn_r _ [17, 2, 1, 3, 4, 6, 7, 8, 9, 10, 11, 12, 13, 18, 19, 20, 21, 22, 23, 24, 25, 26, 27, 28, 29, 30, 31, 32, 33, 34, 35, 36, 37, 38, 39, 40, 41, 42, 43, 44, 45, 46, 47, 48, 49, 50, 51, 52, 53, 54, 55, 56, 57, 58, 59, 60, 61, 62, 63, 64, 65, 66, 67, 68, 69, 70, 71, 72, 73, 74, 75, 76, 77, 78, 79, 80, 81, 82, 83, 84, 85, 86, 87, 88, 89, 90, 91, 92, 93, 94, 95, 96, 97, 98, 99, 100, 101, 102, 103, 104, 105, 106, 107, 108, 109, 110, 111, 112, 113, 114, 115, 116, 117, 118, 119, 120, 121, 122, 123, 135, 136, 137, 138, 139, 140, 141, 142, 143, 144, 145, 146, 147, 148, 149, 150, 151, 152, 153, 154, 155, 156, 157, 158, 159, 160, 161] (by decide +kernel) (by decide +kernel)
set_option maxRecDepth 20000 in
theorem gX12_item_X12_pressed : GoodIn wsX12_item (wsV RX12 162 RX12 yX12_pressed wsX12_pressed) := goodIn_app (goodIn_of _ (by decide +kernel)) ggX12_item_X12_pressed
set_option maxRecDepth 20000 in
theorem ggX12_item_X12_word : GoodIn wsX12_item wsX12_word := goodIn_r _ [25, 26, 27, 28, 29, 30, 31, 32, 33, 34, 35, 36, 37, 38, 39, 40, 41, 42, 43, 44, 45, 46, 47, 48, 49, 50, 51, 52, 53, 54, 55, 56, 57, 58, 59, 60, 61, 62, 63, 64, 65, 66, 67, 68, 69, 70, 71, 72, 73, 74, 75, 76, 77, 9, 78, 2, 6, 7, 8, 10, 11, 12, 13, 135, 136, 137, 138, 139, 140, 141, 142, 143, 144, 145, 146, 147, 148, 149, 150, 151, 152, 153, 154, 155, 156, 157, 158, 159, 160, 161] (by decide +kernel) (by decide +kernel)
set_option maxRecDepth 20000 in
theorem gX12_item_X12_word : GoodIn wsX12_item (wsV RX12 158 RX12 yX12_word wsX12_word) := goodIn_app (goodIn_of _ (by decide +kernel)) ggX12_item_X12_word
set_option maxRecDepth 20000 in
theorem ggX12_item_X12_number : GoodIn wsX12_item wsX12_number := goodIn_r _ [82, 2, 3, 75, 76, 77, 9, 78, 6, 7, 8, 10, 11, 12, 13, 83, 84, 85, 135, 136, 137, 138, 139, 140, 141, 142, 143, 144, 145, 146, 147, 148, 149, 150, 151, 152, 153, 154, 155, 156, 157, 158, 159, 160, 161] (by decide +kernel) (by decide +kernel)
set_option maxRecDepth 20000 in
theorem gX12_item_X12_number : GoodIn wsX12_item (wsV RX12 168 RX12 yX12_number wsX12_number) := goodIn_app (goodIn_of _ (by decide +kernel)) ggX12_item_X12_number
set_option maxRecDepth 20000 in
theorem ggX12_item_X12_lives : GoodIn wsX12_item wsX12_lives := goodIn_r _ [127, 4, 128, 129, 9, 130, 83, 84, 85, 135, 136, 137, 138, 139, 140, 141, 142, 143, 144, 145, 146, 147, 148, 149, 150, 151, 152, 153, 154, 155, 156, 157, 158, 159, 160, 161] (by decide +kernel) (by decide +kernel)
set_option maxRecDepth 20000 in
theorem gX12_item_X12_lives : GoodIn wsX12_item (wsV RX12 129 RX12 yX12_lives wsX12_lives) := goodIn_app (goodIn_of _ (by decide +kernel)) ggX12_item_X12_lives
set_option maxRecDepth 20000 in
theorem ggX12_item_X12_stands : GoodIn wsX12_item wsX12_stands := goodIn_r _ [99, 2, 135, 136, 137, 138, 139, 140, 141, 142, 143, 144, 145, 146, 147, 148, 149, 150, 151, 152, 153, 154, 155, 156, 157, 158, 159, 160, 161] (by decide +kernel) (by decide +kernel)
set_option maxRecDepth 20000 in
theorem gX12_item_X12_stands : GoodIn wsX12_item (wsV RX12 171 RX12 yX12_stands wsX12_stands) := goodIn_app (goodIn_of _ (by decide +kernel)) ggX12_item_X12_stands
set_option maxRecDepth 20000 in
theorem ggX12_item_X12_rubs : GoodIn wsX12_item wsX12_rubs := goodIn_r _ [134, 95, 93, 105, 106, 107, 108, 120, 121, 122, 9, 123, 135, 136, 137, 138, 139, 140, 141, 142, 143, 144, 145, 146, 147, 148, 149, 150, 151, 152, 153, 154, 155, 156, 157, 158, 159, 160, 161] (by decide +kernel) (by decide +kernel)
set_option maxRecDepth 20000 in
theorem gX12_item_X12_rubs : GoodIn wsX12_item (wsV RX12 175 RX12 yX12_rubs wsX12_rubs) := goodIn_app (goodIn_of _ (by decide +kernel)) ggX12_item_X12_rubs
theorem dX12_item_0 : decode cX12_item 0 = .ok (.aload_n 0, 1) := by decide +kernel
theorem dX12_item_1 : decode cX12_item 1 = .ok (.invokevirtual 141, 3) := by decide +kernel
theorem dX12_item_4 : decode cX12_item 4 = .ok (.lookupswitch 269 #[(100, 154), (108, 235), (112, 44), (114, 49)], 44) := by decide +kernel
theorem dX12_item_48 : decode cX12_item 48 = .ok (.aload_n 0, 1) := by decide +kernel
theorem dX12_item_49 : decode cX12_item 49 = .ok (.invokevirtual 162, 3) := by decide +kernel
theorem dX12_item_52 : decode cX12_item 52 = .ok (.ireturn, 1) := by decide +kernel
theorem dX12_item_53 : decode cX12_item 53 = .ok (.aload_n 0, 1) := by decide +kernel
theorem dX12_item_54 : decode cX12_item 54 = .ok (.ldc 166, 2) := by decide +kernel
theorem dX12_item_56 : decode cX12_item 56 = .ok (.invokevirtual 158, 3) := by decide +kernel
theorem dX12_item_59 : decode cX12_item 59 = .ok (.ifCond .eq 18, 3) := by decide +kernel
theorem dX12_item_62 : decode cX12_item 62 = .ok (.aload_n 0, 1) := by decide +kernel
theorem dX12_item_63 : decode cX12_item 63 = .ok (.iconst 0, 1) := by decide +kernel
theorem dX12_item_64 : decode cX12_item 64 = .ok (.iconst 0, 1) := by decide +kernel
theorem dX12_item_65 : decode cX12_item 65 = .ok (.aload_n 0, 1) := by decide +kernel
theorem dX12_item_66 : decode cX12_item 66 = .ok (.getfield 79, 3) := by decide +kernel
theorem dX12_item_69 : decode cX12_item 69 = .ok (.iconst 1, 1) := by decide +kernel
theorem dX12_item_70 : decode cX12_item 70 = .ok (.isub, 1) := by decide +kernel
theorem dX12_item_71 : decode cX12_item 71 = .ok (.invokevirtual 168, 3) := by decide +kernel
theorem dX12_item_74 : decode cX12_item 74 = .ok (.ifCond .ne 5, 3) := by decide +kernel
theorem dX12_item_77 : decode cX12_item 77 = .ok (.iconst 0, 1) := by decide +kernel
theorem dX12_item_78 : decode cX12_item 78 = .ok (.ireturn, 1) := by decide +kernel
theorem dX12_item_79 : decode cX12_item 79 = .ok (.aload_n 0, 1) := by decide +kernel
theorem dX12_item_80 : decode cX12_item 80 = .ok (.getfield 135, 3) := by decide +kernel
theorem dX12_item_83 : decode cX12_item 83 = .ok (.iconst 1, 1) := by decide +kernel
theorem dX12_item_84 : decode cX12_item 84 = .ok (.iadd, 1) := by decide +kernel
theorem dX12_item_85 : decode cX12_item 85 = .ok (.istore_n 1, 1) := by decide +kernel
theorem dX12_item_86 : decode cX12_item 86 = .ok (.aload_n 0, 1) := by decide +kernel
theorem dX12_item_87 : decode cX12_item 87 = .ok (.iconst 1, 1) := by decide +kernel
theorem dX12_item_88 : decode cX12_item 88 = .ok (.iconst 0, 1) := by decide +kernel
theorem dX12_item_89 : decode cX12_item 89 = .ok (.iconst 5, 1) := by decide +kernel
theorem dX12_item_90 : decode cX12_item 90 = .ok (.invokevirtual 168, 3) := by decide +kernel
theorem dX12_item_93 : decode cX12_item 93 = .ok (.ifCond .eq 38, 3) := by decide +kernel
theorem dX12_item_96 : decode cX12_item 96 = .ok (.aload_n 0, 1) := by decide +kernel
theorem dX12_item_97 : decode cX12_item 97 = .ok (.iload_n 1, 1) := by decide +kernel
theorem dX12_item_98 : decode cX12_item 98 = .ok (.aload_n 0, 1) := by decide +kernel
theorem dX12_item_99 : decode cX12_item 99 = .ok (.aload_n 0, 1) := by decide +kernel
theorem dX12_item_100 : decode cX12_item 100 = .ok (.getfield 41, 3) := by decide +kernel
theorem dX12_item_103 : decode cX12_item 103 = .ok (.iconst 0, 1) := by decide +kernel
theorem dX12_item_104 : decode cX12_item 104 = .ok (.iaload, 1) := by decide +kernel
theorem dX12_item_105 : decode cX12_item 105 = .ok (.aload_n 0, 1) := by decide +kernel
theorem dX12_item_106 : decode cX12_item 106 = .ok (.getfield 41, 3) := by decide +kernel
theorem dX12_item_109 : decode cX12_item 109 = .ok (.iconst 1, 1) := by decide +kernel
theorem dX12_item_110 : decode cX12_item 110 = .ok (.iaload, 1) := by decide +kernel
theorem dX12_item_111 : decode cX12_item 111 = .ok (.invokevirtual 129, 3) := by decide +kernel
theorem dX12_item_114 : decode cX12_item 114 = .ok (.invokevirtual 171, 3) := by decide +kernel
theorem dX12_item_117 : decode cX12_item 117 = .ok (.ifCond .eq 14, 3) := by decide +kernel
theorem dX12_item_120 : decode cX12_item 120 = .ok (.aload_n 0, 1) := by decide +kernel
theorem dX12_item_121 : decode cX12_item 121 = .ok (.iconst 2, 1) := by decide +kernel
theorem dX12_item_122 : decode cX12_item 122 = .ok (.iconst 0, 1) := by decide +kernel
theorem dX12_item_123 : decode cX12_item 123 = .ok (.bipush 7, 2) := by decide +kernel
theorem dX12_item_125 : decode cX12_item 125 = .ok (.invokevirtual 168, 3) := by decide +kernel
theorem dX12_item_128 : decode cX12_item 128 = .ok (.ifCond .ne 5, 3) := by decide +kernel
theorem dX12_item_131 : decode cX12_item 131 = .ok (.iconst 0, 1) := by decide +kernel
theorem dX12_item_132 : decode cX12_item 132 = .ok (.ireturn, 1) := by decide +kernel
theorem dX12_item_133 : decode cX12_item 133 = .ok (.aload_n 0, 1) := by decide +kernel
theorem dX12_item_134 : decode cX12_item 134 = .ok (.aload_n 0, 1) := by decide +kernel
theorem dX12_item_135 : decode cX12_item 135 = .ok (.getfield 41, 3) := by decide +kernel
theorem dX12_item_138 : decode cX12_item 138 = .ok (.iconst 0, 1) := by decide +kernel
theorem dX12_item_139 : decode cX12_item 139 = .ok (.iaload, 1) := by decide +kernel
theorem dX12_item_140 : decode cX12_item 140 = .ok (.aload_n 0, 1) := by decide +kernel
theorem dX12_item_141 : decode cX12_item 141 = .ok (.getfield 41, 3) := by decide +kernel
theorem dX12_item_144 : decode cX12_item 144 = .ok (.iconst 1, 1) := by decide +kernel
theorem dX12_item_145 : decode cX12_item 145 = .ok (.iaload, 1) := by decide +kernel
theorem dX12_item_146 : decode cX12_item 146 = .ok (.aload_n 0, 1) := by decide +kernel
theorem dX12_item_147 : decode cX12_item 147 = .ok (.getfield 41, 3) := by decide +kernel
theorem dX12_item_150 : decode cX12_item 150 = .ok (.iconst 2, 1) := by decide +kernel
theorem dX12_item_151 : decode cX12_item 151 = .ok (.iaload, 1) := by decide +kernel
theorem dX12_item_152 : decode cX12_item 152 = .ok (.invokevirtual 175, 3) := by decide +kernel
theorem dX12_item_155 : decode cX12_item 155 = .ok (.pop, 1) := by decide +kernel
theorem dX12_item_156 : decode cX12_item 156 = .ok (.iconst 1, 1) := by decide +kernel
theorem dX12_item_157 : decode cX12_item 157 = .ok (.ireturn, 1) := by decide +kernel
theorem dX12_item_158 : decode cX12_item 158 = .ok (.aload_n 0, 1) := by decide +kernel
theorem dX12_item_159 : decode cX12_item 159 = .ok (.ldc 178, 2) := by decide +kernel
theorem dX12_item_161 : decode cX12_item 161 = .ok (.invokevirtual 158, 3) := by decide +kernel
theorem dX12_item_164 : decode cX12_item 164 = .ok (.ifCond .ne 5, 3) := by decide +kernel
theorem dX12_item_167 : decode cX12_item 167 = .ok (.iconst 0, 1) := by decide +kernel
theorem dX12_item_168 : decode cX12_item 168 = .ok (.ireturn, 1) := by decide +kernel
theorem dX12_item_169 : decode cX12_item 169 = .ok (.aload_n 0, 1) := by decide +kernel
theorem dX12_item_170 : decode cX12_item 170 = .ok (.getfield 135, 3) := by decide +kernel
theorem dX12_item_173 : decode cX12_item 173 = .ok (.iconst 1, 1) := by decide +kernel
theorem dX12_item_174 : decode cX12_item 174 = .ok (.iadd, 1) := by decide +kernel
theorem dX12_item_175 : decode cX12_item 175 = .ok (.istore_n 1, 1) := by decide +kernel
theorem dX12_item_176 : decode cX12_item 176 = .ok (.aload_n 0, 1) := by decide +kernel
theorem dX12_item_177 : decode cX12_item 177 = .ok (.iconst 0, 1) := by decide +kernel
theorem dX12_item_178 : decode cX12_item 178 = .ok (.iconst 0, 1) := by decide +kernel
theorem dX12_item_179 : decode cX12_item 179 = .ok (.aload_n 0, 1) := by decide +kernel
theorem dX12_item_180 : decode cX12_item 180 = .ok (.getfield 79, 3) := by decide +kernel
theorem dX12_item_183 : decode cX12_item 183 = .ok (.iconst 1, 1) := by decide +kernel
theorem dX12_item_184 : decode cX12_item 184 = .ok (.isub, 1) := by decide +kernel
theorem dX12_item_185 : decode cX12_item 185 = .ok (.invokevirtual 168, 3) := by decide +kernel
theorem dX12_item_188 : decode cX12_item 188 = .ok (.ifCond .eq 32, 3) := by decide +kernel
theorem dX12_item_191 : decode cX12_item 191 = .ok (.aload_n 0, 1) := by decide +kernel
theorem dX12_item_192 : decode cX12_item 192 = .ok (.iload_n 1, 1) := by decide +kernel
theorem dX12_item_193 : decode cX12_item 193 = .ok (.aload_n 0, 1) := by decide +kernel
theorem dX12_item_194 : decode cX12_item 194 = .ok (.getfield 29, 3) := by decide +kernel
theorem dX12_item_197 : decode cX12_item 197 = .ok (.aload_n 0, 1) := by decide +kernel
theorem dX12_item_198 : decode cX12_item 198 = .ok (.getfield 41, 3) := by decide +kernel
theorem dX12_item_201 : decode cX12_item 201 = .ok (.iconst 0, 1) := by decide +kernel
theorem dX12_item_202 : decode cX12_item 202 = .ok (.iaload, 1) := by decide +kernel
theorem dX12_item_203 : decode cX12_item 203 = .ok (.iaload, 1) := by decide +kernel
theorem dX12_item_204 : decode cX12_item 204 = .ok (.bipush 6, 2) := by decide +kernel
theorem dX12_item_206 : decode cX12_item 206 = .ok (.if_icmp .ge 7, 3) := by decide +kernel
theorem dX12_item_209 : decode cX12_item 209 = .ok (.iconst 1, 1) := by decide +kernel
theorem dX12_item_210 : decode cX12_item 210 = .ok (.goto 4, 3) := by decide +kernel
theorem dX12_item_213 : decode cX12_item 213 = .ok (.iconst 0, 1) := by decide +kernel
theorem dX12_item_214 : decode cX12_item 214 = .ok (.invokevirtual 171, 3) := by decide +kernel
theorem dX12_item_217 : decode cX12_item 217 = .ok (.ifCond .ne 5, 3) := by decide +kernel
theorem dX12_item_220 : decode cX12_item 220 = .ok (.iconst 0, 1) := by decide +kernel
theorem dX12_item_221 : decode cX12_item 221 = .ok (.ireturn, 1) := by decide +kernel
theorem dX12_item_222 : decode cX12_item 222 = .ok (.aload_n 0, 1) := by decide +kernel
theorem dX12_item_223 : decode cX12_item 223 = .ok (.getfield 29, 3) := by decide +kernel
theorem dX12_item_226 : decode cX12_item 226 = .ok (.aload_n 0, 1) := by decide +kernel
theorem dX12_item_227 : decode cX12_item 227 = .ok (.getfield 41, 3) := by decide +kernel
theorem dX12_item_230 : decode cX12_item 230 = .ok (.iconst 0, 1) := by decide +kernel
theorem dX12_item_231 : decode cX12_item 231 = .ok (.iaload, 1) := by decide +kernel
theorem dX12_item_232 : decode cX12_item 232 = .ok (.dup2, 1) := by decide +kernel
theorem dX12_item_233 : decode cX12_item 233 = .ok (.iaload, 1) := by decide +kernel
theorem dX12_item_234 : decode cX12_item 234 = .ok (.iconst 1, 1) := by decide +kernel
theorem dX12_item_235 : decode cX12_item 235 = .ok (.iadd, 1) := by decide +kernel
theorem dX12_item_236 : decode cX12_item 236 = .ok (.iastore, 1) := by decide +kernel
theorem dX12_item_237 : decode cX12_item 237 = .ok (.iconst 1, 1) := by decide +kernel
theorem dX12_item_238 : decode cX12_item 238 = .ok (.ireturn, 1) := by decide +kernel
theorem dX12_item_239 : decode cX12_item 239 = .ok (.aload_n 0, 1) := by decide +kernel
theorem dX12_item_240 : decode cX12_item 240 = .ok (.ldc 180, 2) := by decide +kernel
theorem dX12_item_242 : decode cX12_item 242 = .ok (.invokevirtual 158, 3) := by decide +kernel
theorem dX12_item_245 : decode cX12_item 245 = .ok (.ifCond .eq 14, 3) := by decide +kernel
theorem dX12_item_248 : decode cX12_item 248 = .ok (.aload_n 0, 1) := by decide +kernel
theorem dX12_item_249 : decode cX12_item 249 = .ok (.iconst 0, 1) := by decide +kernel
theorem dX12_item_250 : decode cX12_item 250 = .ok (.iconst 1, 1) := by decide +kernel
theorem dX12_item_251 : decode cX12_item 251 = .ok (.bipush 99, 2) := by decide +kernel
theorem dX12_item_253 : decode cX12_item 253 = .ok (.invokevirtual 168, 3) := by decide +kernel
theorem dX12_item_256 : decode cX12_item 256 = .ok (.ifCond .ne 5, 3) := by decide +kernel
theorem dX12_item_259 : decode cX12_item 259 = .ok (.iconst 0, 1) := by decide +kernel
theorem dX12_item_260 : decode cX12_item 260 = .ok (.ireturn, 1) := by decide +kernel
theorem dX12_item_261 : decode cX12_item 261 = .ok (.aload_n 0, 1) := by decide +kernel
theorem dX12_item_262 : decode cX12_item 262 = .ok (.aload_n 0, 1) := by decide +kernel
theorem dX12_item_263 : decode cX12_item 263 = .ok (.getfield 41, 3) := by decide +kernel
theorem dX12_item_266 : decode cX12_item 266 = .ok (.iconst 0, 1) := by decide +kernel
theorem dX12_item_267 : decode cX12_item 267 = .ok (.iaload, 1) := by decide +kernel
theorem dX12_item_268 : decode cX12_item 268 = .ok (.putfield 65, 3) := by decide +kernel
theorem dX12_item_271 : decode cX12_item 271 = .ok (.iconst 1, 1) := by decide +kernel
theorem dX12_item_272 : decode cX12_item 272 = .ok (.ireturn, 1) := by decide +kernel
theorem dX12_item_273 : decode cX12_item 273 = .ok (.iconst 0, 1) := by decide +kernel
theorem dX12_item_274 : decode cX12_item 274 = .ok (.ireturn, 1) := by decide +kernel
set_option maxRecDepth 20000 in
theorem ggX12_pressed_X12_sign : GoodIn wsX12_pressed wsX12_sign := goodIn_r _ [9, 1, 10, 11, 12, 119, 120, 121, 122, 123, 124, 125, 126, 127, 128, 129, 130, 131, 132, 133, 134, 135, 136, 137, 138, 139, 140, 141, 142, 143, 144, 145] (by decide +kernel) (by decide +kernel)
set_option maxRecDepth 20000 in
theorem gX12_pressed_X12_sign : GoodIn wsX12_pressed (wsV RX12 141 RX12 yX12_sign wsX12_sign) := goodIn_app (goodIn_of _ (by decide +kernel)) ggX12_pressed_X12_sign
set_option maxRecDepth 20000 in
theorem ggX12_pressed_X12_word_ : GoodIn wsX12_pressed wsX12_word_ := goodIn_r _ [16, 1, 17, 18, 19, 8, 20, 21, 22, 23, 24, 25, 26, 27, 28, 29, 30, 31, 32, 33, 34, 35, 36, 37, 38, 39, 40, 41, 42, 43, 44, 45, 46, 47, 48, 49, 50, 51, 52, 53, 54, 55, 56, 57, 58, 59, 60, 61, 62, 63, 64, 65, 66, 67, 68, 69, 70, 71, 72, 73, 5, 6, 7, 9, 10, 11, 12, 119, 120, 121, 122, 123, 124, 125, 126, 127, 128, 129, 130, 131, 132, 133, 134, 135, 136, 137, 138, 139, 140, 141, 142, 143, 144, 145] (by decide +kernel) (by decide +kernel)
set_option maxRecDepth 20000 in
theorem gX12_pressed_X12_word_ : GoodIn wsX12_pressed (wsV RX12 183 RX12 yX12_word_ wsX12_word_) := goodIn_app (goodIn_of _ (by decide +kernel)) ggX12_pressed_X12_word_
set_option maxRecDepth 20000 in
theorem ggX12_pressed_X12_number : GoodIn wsX12_pressed wsX12_number := goodIn_r _ [77, 1, 3, 70, 71, 72, 8, 73, 5, 6, 7, 9, 10, 11, 12, 78, 79, 80, 119, 120, 121, 122, 123, 124, 125, 126, 127, 128, 129, 130, 131, 132, 133, 134, 135, 136, 137, 138, 139, 140, 141, 142, 143, 144, 145] (by decide +kernel) (by decide +kernel)
set_option maxRecDepth 20000 in
theorem gX12_pressed_X12_number : GoodIn wsX12_pressed (wsV RX12 168 RX12 yX12_number wsX12_number) := goodIn_app (goodIn_of _ (by decide +kernel)) ggX12_pressed_X12_number
set_option maxRecDepth 20000 in
theorem ggX12_pressed_X12_newPerson : GoodIn wsX12_pressed wsX12_newPerson := goodIn_r _ [84, 85, 2, 86, 87, 4, 88, 89, 90, 119, 120, 121, 122, 123, 124, 125, 126, 127, 128, 129, 130, 131, 132, 133, 134, 135, 136, 137, 138, 139, 140, 141, 142, 143, 144, 145] (by decide +kernel) (by decide +kernel)
set_option maxRecDepth 20000 in
theorem gX12_pressed_X12_newPerson : GoodIn wsX12_pressed (wsV RX12 110 RX12 yX12_newPerson wsX12_newPerson) := goodIn_app (goodIn_of _ (by decide +kernel)) ggX12_pressed_X12_newPerson
set_option maxRecDepth 20000 in
theorem ggX12_pressed_X12_word : GoodIn wsX12_pressed wsX12_word := goodIn_r _ [20, 21, 22, 23, 24, 25, 26, 27, 28, 29, 30, 31, 32, 33, 34, 35, 36, 37, 38, 39, 40, 41, 42, 43, 44, 45, 46, 47, 48, 49, 50, 51, 52, 53, 54, 55, 56, 57, 58, 59, 60, 61, 62, 63, 64, 65, 66, 67, 68, 69, 70, 71, 72, 8, 73, 1, 5, 6, 7, 9, 10, 11, 12, 119, 120, 121, 122, 123, 124, 125, 126, 127, 128, 129, 130, 131, 132, 133, 134, 135, 136, 137, 138, 139, 140, 141, 142, 143, 144, 145] (by decide +kernel) (by decide +kernel)
set_option maxRecDepth 20000 in
theorem gX12_pressed_X12_word : GoodIn wsX12_pressed (wsV RX12 158 RX12 yX12_word wsX12_word) := goodIn_app (goodIn_of _ (by decide +kernel)) ggX12_pressed_X12_word
set_option maxRecDepth 20000 in
theorem ggX12_pressed_X12_stands : GoodIn wsX12_pressed wsX12_stands := goodIn_r _ [94, 1, 119, 120, 121, 122, 123, 124, 125, 126, 127, 128, 129, 130, 131, 132, 133, 134, 135, 136, 137, 138, 139, 140, 141, 142, 143, 144, 145] (by decide +kernel) (by decide +kernel)
set_option maxRecDepth 20000 in
theorem gX12_pressed_X12_stands : GoodIn wsX12_pressed (wsV RX12 171 RX12 yX12_stands wsX12_stands) := goodIn_app (goodIn_of _ (by decide +kernel)) ggX12_pressed_X12_stands
set_option maxRecDepth 20000 in
theorem ggX12_pressed_X12_presses : GoodIn wsX12_pressed wsX12_presses := goodIn_r _ [98, 4, 99, 90, 100, 101, 102, 103, 85, 86, 89, 104, 105, 106, 107, 108, 109, 8, 110, 111, 112, 113, 114, 87, 115, 116, 117, 118, 119, 120, 121, 122, 123, 124, 125, 126, 127, 128, 129, 130, 131, 132, 133, 134, 135, 136, 137, 138, 139, 140, 141, 142, 143, 144, 145] (by decide +kernel) (by decide +kernel)
set_option maxRecDepth 20000 in
theorem gX12_pressed_X12_presses : GoodIn wsX12_pressed (wsV RX12 188 RX12 yX12_presses wsX12_presses) := goodIn_app (goodIn_of _ (by decide +kernel)) ggX12_pressed_X12_presses
theorem dX12_pressed_0 : decode cX12_pressed 0 = .ok (.aload_n 0, 1) := by decide +kernel
theorem dX12_pressed_1 : decode cX12_pressed 1 = .ok (.getfield 135, 3) := by decide +kernel
theorem dX12_pressed_4 : decode cX12_pressed 4 = .ok (.istore_n 1, 1) := by decide +kernel
theorem dX12_pressed_5 : decode cX12_pressed 5 = .ok (.aload_n 0, 1) := by decide +kernel
theorem dX12_pressed_6 : decode cX12_pressed 6 = .ok (.dup, 1) := by decide +kernel
theorem dX12_pressed_7 : decode cX12_pressed 7 = .ok (.getfield 135, 3) := by decide +kernel
theorem dX12_pressed_10 : decode cX12_pressed 10 = .ok (.iconst 1, 1) := by decide +kernel
theorem dX12_pressed_11 : decode cX12_pressed 11 = .ok (.iadd, 1) := by decide +kernel
theorem dX12_pressed_12 : decode cX12_pressed 12 = .ok (.putfield 135, 3) := by decide +kernel
theorem dX12_pressed_15 : decode cX12_pressed 15 = .ok (.aload_n 0, 1) := by decide +kernel
theorem dX12_pressed_16 : decode cX12_pressed 16 = .ok (.invokevirtual 141, 3) := by decide +kernel
theorem dX12_pressed_19 : decode cX12_pressed 19 = .ok (.bipush 101, 2) := by decide +kernel
theorem dX12_pressed_21 : decode cX12_pressed 21 = .ok (.if_icmp .ne 91, 3) := by decide +kernel
theorem dX12_pressed_24 : decode cX12_pressed 24 = .ok (.aload_n 0, 1) := by decide +kernel
theorem dX12_pressed_25 : decode cX12_pressed 25 = .ok (.iload_n 1, 1) := by decide +kernel
theorem dX12_pressed_26 : decode cX12_pressed 26 = .ok (.putfield 135, 3) := by decide +kernel
theorem dX12_pressed_29 : decode cX12_pressed 29 = .ok (.aload_n 0, 1) := by decide +kernel
theorem dX12_pressed_30 : decode cX12_pressed 30 = .ok (.ldc 181, 2) := by decide +kernel
theorem dX12_pressed_32 : decode cX12_pressed 32 = .ok (.aload_n 0, 1) := by decide +kernel
theorem dX12_pressed_33 : decode cX12_pressed 33 = .ok (.getfield 79, 3) := by decide +kernel
theorem dX12_pressed_36 : decode cX12_pressed 36 = .ok (.bipush 6, 2) := by decide +kernel
theorem dX12_pressed_38 : decode cX12_pressed 38 = .ok (.if_icmp .ge 7, 3) := by decide +kernel
theorem dX12_pressed_41 : decode cX12_pressed 41 = .ok (.iconst 1, 1) := by decide +kernel
theorem dX12_pressed_42 : decode cX12_pressed 42 = .ok (.goto 4, 3) := by decide +kernel
theorem dX12_pressed_45 : decode cX12_pressed 45 = .ok (.iconst 0, 1) := by decide +kernel
theorem dX12_pressed_46 : decode cX12_pressed 46 = .ok (.invokevirtual 183, 3) := by decide +kernel
theorem dX12_pressed_49 : decode cX12_pressed 49 = .ok (.ifCond .eq 36, 3) := by decide +kernel
theorem dX12_pressed_52 : decode cX12_pressed 52 = .ok (.aload_n 0, 1) := by decide +kernel
theorem dX12_pressed_53 : decode cX12_pressed 53 = .ok (.iconst 0, 1) := by decide +kernel
theorem dX12_pressed_54 : decode cX12_pressed 54 = .ok (.iconst 0, 1) := by decide +kernel
theorem dX12_pressed_55 : decode cX12_pressed 55 = .ok (.bipush 6, 2) := by decide +kernel
theorem dX12_pressed_57 : decode cX12_pressed 57 = .ok (.invokevirtual 168, 3) := by decide +kernel
theorem dX12_pressed_60 : decode cX12_pressed 60 = .ok (.ifCond .eq 25, 3) := by decide +kernel
theorem dX12_pressed_63 : decode cX12_pressed 63 = .ok (.aload_n 0, 1) := by decide +kernel
theorem dX12_pressed_64 : decode cX12_pressed 64 = .ok (.iconst 1, 1) := by decide +kernel
theorem dX12_pressed_65 : decode cX12_pressed 65 = .ok (.iconst 0, 1) := by decide +kernel
theorem dX12_pressed_66 : decode cX12_pressed 66 = .ok (.bipush 9, 2) := by decide +kernel
theorem dX12_pressed_68 : decode cX12_pressed 68 = .ok (.invokevirtual 168, 3) := by decide +kernel
theorem dX12_pressed_71 : decode cX12_pressed 71 = .ok (.ifCond .eq 14, 3) := by decide +kernel
theorem dX12_pressed_74 : decode cX12_pressed 74 = .ok (.aload_n 0, 1) := by decide +kernel
theorem dX12_pressed_75 : decode cX12_pressed 75 = .ok (.iconst 2, 1) := by decide +kernel
theorem dX12_pressed_76 : decode cX12_pressed 76 = .ok (.iconst 1, 1) := by decide +kernel
theorem dX12_pressed_77 : decode cX12_pressed 77 = .ok (.bipush 20, 2) := by decide +kernel
theorem dX12_pressed_79 : decode cX12_pressed 79 = .ok (.invokevirtual 168, 3) := by decide +kernel
theorem dX12_pressed_82 : decode cX12_pressed 82 = .ok (.ifCond .ne 5, 3) := by decide +kernel
theorem dX12_pressed_85 : decode cX12_pressed 85 = .ok (.iconst 0, 1) := by decide +kernel
theorem dX12_pressed_86 : decode cX12_pressed 86 = .ok (.ireturn, 1) := by decide +kernel
theorem dX12_pressed_87 : decode cX12_pressed 87 = .ok (.aload_n 0, 1) := by decide +kernel
theorem dX12_pressed_88 : decode cX12_pressed 88 = .ok (.aload_n 0, 1) := by decide +kernel
theorem dX12_pressed_89 : decode cX12_pressed 89 = .ok (.getfield 41, 3) := by decide +kernel
theorem dX12_pressed_92 : decode cX12_pressed 92 = .ok (.iconst 0, 1) := by decide +kernel
theorem dX12_pressed_93 : decode cX12_pressed 93 = .ok (.iaload, 1) := by decide +kernel
theorem dX12_pressed_94 : decode cX12_pressed 94 = .ok (.aload_n 0, 1) := by decide +kernel
theorem dX12_pressed_95 : decode cX12_pressed 95 = .ok (.getfield 41, 3) := by decide +kernel
theorem dX12_pressed_98 : decode cX12_pressed 98 = .ok (.iconst 1, 1) := by decide +kernel
theorem dX12_pressed_99 : decode cX12_pressed 99 = .ok (.iaload, 1) := by decide +kernel
theorem dX12_pressed_100 : decode cX12_pressed 100 = .ok (.aload_n 0, 1) := by decide +kernel
theorem dX12_pressed_101 : decode cX12_pressed 101 = .ok (.getfield 41, 3) := by decide +kernel
theorem dX12_pressed_104 : decode cX12_pressed 104 = .ok (.iconst 2, 1) := by decide +kernel
theorem dX12_pressed_105 : decode cX12_pressed 105 = .ok (.iaload, 1) := by decide +kernel
theorem dX12_pressed_106 : decode cX12_pressed 106 = .ok (.invokevirtual 110, 3) := by decide +kernel
theorem dX12_pressed_109 : decode cX12_pressed 109 = .ok (.pop, 1) := by decide +kernel
theorem dX12_pressed_110 : decode cX12_pressed 110 = .ok (.iconst 1, 1) := by decide +kernel
theorem dX12_pressed_111 : decode cX12_pressed 111 = .ok (.ireturn, 1) := by decide +kernel
theorem dX12_pressed_112 : decode cX12_pressed 112 = .ok (.aload_n 0, 1) := by decide +kernel
theorem dX12_pressed_113 : decode cX12_pressed 113 = .ok (.ldc 186, 2) := by decide +kernel
theorem dX12_pressed_115 : decode cX12_pressed 115 = .ok (.invokevirtual 158, 3) := by decide +kernel
theorem dX12_pressed_118 : decode cX12_pressed 118 = .ok (.ifCond .ne 5, 3) := by decide +kernel
theorem dX12_pressed_121 : decode cX12_pressed 121 = .ok (.iconst 0, 1) := by decide +kernel
theorem dX12_pressed_122 : decode cX12_pressed 122 = .ok (.ireturn, 1) := by decide +kernel
theorem dX12_pressed_123 : decode cX12_pressed 123 = .ok (.aload_n 0, 1) := by decide +kernel
theorem dX12_pressed_124 : decode cX12_pressed 124 = .ok (.getfield 135, 3) := by decide +kernel
theorem dX12_pressed_127 : decode cX12_pressed 127 = .ok (.iconst 1, 1) := by decide +kernel
theorem dX12_pressed_128 : decode cX12_pressed 128 = .ok (.iadd, 1) := by decide +kernel
theorem dX12_pressed_129 : decode cX12_pressed 129 = .ok (.istore_n 2, 1) := by decide +kernel
theorem dX12_pressed_130 : decode cX12_pressed 130 = .ok (.aload_n 0, 1) := by decide +kernel
theorem dX12_pressed_131 : decode cX12_pressed 131 = .ok (.iconst 0, 1) := by decide +kernel
theorem dX12_pressed_132 : decode cX12_pressed 132 = .ok (.iconst 0, 1) := by decide +kernel
theorem dX12_pressed_133 : decode cX12_pressed 133 = .ok (.aload_n 0, 1) := by decide +kernel
theorem dX12_pressed_134 : decode cX12_pressed 134 = .ok (.getfield 79, 3) := by decide +kernel
theorem dX12_pressed_137 : decode cX12_pressed 137 = .ok (.iconst 1, 1) := by decide +kernel
theorem dX12_pressed_138 : decode cX12_pressed 138 = .ok (.isub, 1) := by decide +kernel
theorem dX12_pressed_139 : decode cX12_pressed 139 = .ok (.invokevirtual 168, 3) := by decide +kernel
theorem dX12_pressed_142 : decode cX12_pressed 142 = .ok (.ifCond .eq 54, 3) := by decide +kernel
theorem dX12_pressed_145 : decode cX12_pressed 145 = .ok (.aload_n 0, 1) := by decide +kernel
theorem dX12_pressed_146 : decode cX12_pressed 146 = .ok (.iload_n 2, 1) := by decide +kernel
theorem dX12_pressed_147 : decode cX12_pressed 147 = .ok (.aload_n 0, 1) := by decide +kernel
theorem dX12_pressed_148 : decode cX12_pressed 148 = .ok (.getfield 29, 3) := by decide +kernel
theorem dX12_pressed_151 : decode cX12_pressed 151 = .ok (.aload_n 0, 1) := by decide +kernel
theorem dX12_pressed_152 : decode cX12_pressed 152 = .ok (.getfield 41, 3) := by decide +kernel
theorem dX12_pressed_155 : decode cX12_pressed 155 = .ok (.iconst 0, 1) := by decide +kernel
theorem dX12_pressed_156 : decode cX12_pressed 156 = .ok (.iaload, 1) := by decide +kernel
theorem dX12_pressed_157 : decode cX12_pressed 157 = .ok (.iaload, 1) := by decide +kernel
theorem dX12_pressed_158 : decode cX12_pressed 158 = .ok (.bipush 6, 2) := by decide +kernel
theorem dX12_pressed_160 : decode cX12_pressed 160 = .ok (.if_icmp .ge 7, 3) := by decide +kernel
theorem dX12_pressed_163 : decode cX12_pressed 163 = .ok (.iconst 1, 1) := by decide +kernel
theorem dX12_pressed_164 : decode cX12_pressed 164 = .ok (.goto 4, 3) := by decide +kernel
theorem dX12_pressed_167 : decode cX12_pressed 167 = .ok (.iconst 0, 1) := by decide +kernel
theorem dX12_pressed_168 : decode cX12_pressed 168 = .ok (.invokevirtual 171, 3) := by decide +kernel
theorem dX12_pressed_171 : decode cX12_pressed 171 = .ok (.ifCond .eq 25, 3) := by decide +kernel
theorem dX12_pressed_174 : decode cX12_pressed 174 = .ok (.aload_n 0, 1) := by decide +kernel
theorem dX12_pressed_175 : decode cX12_pressed 175 = .ok (.iconst 1, 1) := by decide +kernel
theorem dX12_pressed_176 : decode cX12_pressed 176 = .ok (.iconst 0, 1) := by decide +kernel
theorem dX12_pressed_177 : decode cX12_pressed 177 = .ok (.bipush 7, 2) := by decide +kernel
theorem dX12_pressed_179 : decode cX12_pressed 179 = .ok (.invokevirtual 168, 3) := by decide +kernel
theorem dX12_pressed_182 : decode cX12_pressed 182 = .ok (.ifCond .eq 14, 3) := by decide +kernel
theorem dX12_pressed_185 : decode cX12_pressed 185 = .ok (.aload_n 0, 1) := by decide +kernel
theorem dX12_pressed_186 : decode cX12_pressed 186 = .ok (.iconst 2, 1) := by decide +kernel
theorem dX12_pressed_187 : decode cX12_pressed 187 = .ok (.iconst 1, 1) := by decide +kernel
theorem dX12_pressed_188 : decode cX12_pressed 188 = .ok (.bipush 99, 2) := by decide +kernel
theorem dX12_pressed_190 : decode cX12_pressed 190 = .ok (.invokevirtual 168, 3) := by decide +kernel
theorem dX12_pressed_193 : decode cX12_pressed 193 = .ok (.ifCond .ne 5, 3) := by decide +kernel
theorem dX12_pressed_196 : decode cX12_pressed 196 = .ok (.iconst 0, 1) := by decide +kernel
theorem dX12_pressed_197 : decode cX12_pressed 197 = .ok (.ireturn, 1) := by decide +kernel
theorem dX12_pressed_198 : decode cX12_pressed 198 = .ok (.aload_n 0, 1) := by decide +kernel
theorem dX12_pressed_199 : decode cX12_pressed 199 = .ok (.aload_n 0, 1) := by decide +kernel
theorem dX12_pressed_200 : decode cX12_pressed 200 = .ok (.getfield 41, 3) := by decide +kernel
theorem dX12_pressed_203 : decode cX12_pressed 203 = .ok (.iconst 0, 1) := by decide +kernel
theorem dX12_pressed_204 : decode cX12_pressed 204 = .ok (.iaload, 1) := by decide +kernel
theorem dX12_pressed_205 : decode cX12_pressed 205 = .ok (.aload_n 0, 1) := by decide +kernel
theorem dX12_pressed_206 : decode cX12_pressed 206 = .ok (.getfield 41, 3) := by decide +kernel
theorem dX12_pressed_209 : decode cX12_pressed 209 = .ok (.iconst 1, 1) := by decide +kernel
theorem dX12_pressed_210 : decode cX12_pressed 210 = .ok (.iaload, 1) := by decide +kernel
theorem dX12_pressed_211 : decode cX12_pressed 211 = .ok (.aload_n 0, 1) := by decide +kernel
theorem dX12_pressed_212 : decode cX12_pressed 212 = .ok (.getfield 41, 3) := by decide +kernel
theorem dX12_pressed_215 : decode cX12_pressed 215 = .ok (.iconst 2, 1) := by decide +kernel
theorem dX12_pressed_216 : decode cX12_pressed 216 = .ok (.iaload, 1) := by decide +kernel
theorem dX12_pressed_217 : decode cX12_pressed 217 = .ok (.invokevirtual 188, 3) := by decide +kernel
theorem dX12_pressed_220 : decode cX12_pressed 220 = .ok (.pop, 1) := by decide +kernel
theorem dX12_pressed_221 : decode cX12_pressed 221 = .ok (.iconst 1, 1) := by decide +kernel
theorem dX12_pressed_222 : decode cX12_pressed 222 = .ok (.ireturn, 1) := by decide +kernel
set_option maxRecDepth 20000 in
theorem ggX12_land_X12_noRow : GoodIn wsX12_land wsX12_noRow := goodIn_r _ [10, 11, 12, 13, 9, 14, 15, 16, 17, 18, 164, 165, 166, 167, 168, 169, 170, 171, 172, 173, 174, 175, 176, 177, 178, 179, 180, 181, 182, 183, 184, 185, 186, 187, 188, 189, 190] (by decide +kernel) (by decide +kernel)
set_option maxRecDepth 20000 in
theorem gX12_land_X12_noRow : GoodIn wsX12_land (wsV RX12 93 RX12 yX12_noRow wsX12_noRow) := goodIn_app (goodIn_of _ (by decide +kernel)) ggX12_land_X12_noRow
set_option maxRecDepth 20000 in
theorem ggX12_land_X12_no : GoodIn wsX12_land wsX12_no := goodIn_r _ [22, 23, 164, 165, 166, 167, 168, 169, 170, 171, 172, 173, 174, 175, 176, 177, 178, 179, 180, 181, 182, 183, 184, 185, 186, 187, 188, 189, 190] (by decide +kernel) (by decide +kernel)
set_option maxRecDepth 20000 in
theorem gX12_land_X12_no : GoodIn wsX12_land (wsV RX12 75 RX12 yX12_no wsX12_no) := goodIn_app (goodIn_of _ (by decide +kernel)) ggX12_land_X12_no
set_option maxRecDepth 20000 in
theorem ggX12_land_X12_keep : GoodIn wsX12_land wsX12_keep := goodIn_r _ [27, 28, 29, 30, 31, 32, 33, 34, 35, 36, 37, 164, 165, 166, 167, 168, 169, 170, 171, 172, 173, 174, 175, 176, 177, 178, 179, 180, 181, 182, 183, 184, 185, 186, 187, 188, 189, 190] (by decide +kernel) (by decide +kernel)
set_option maxRecDepth 20000 in
theorem gX12_land_X12_keep : GoodIn wsX12_land (wsV RX12 191 RX12 yX12_keep wsX12_keep) := goodIn_app (goodIn_of _ (by decide +kernel)) ggX12_land_X12_keep
set_option maxRecDepth 20000 in
theorem ggX12_land_X12_item : GoodIn wsX12_land wsX12_item := goodIn_r _ [41, 35, 3, 42, 31, 36, 43, 44, 45, 9, 46, 4, 2, 47, 48, 49, 50, 51, 52, 53, 54, 55, 56, 57, 58, 59, 60, 61, 62, 63, 64, 65, 66, 67, 68, 69, 70, 71, 72, 73, 74, 75, 76, 77, 78, 79, 80, 81, 82, 83, 84, 85, 86, 87, 88, 89, 90, 91, 92, 93, 94, 95, 96, 97, 98, 99, 100, 101, 102, 103, 104, 105, 106, 107, 108, 109, 110, 111, 112, 113, 114, 115, 116, 12, 13, 14, 117, 118, 119, 120, 28, 29, 30, 32, 33, 34, 121, 122, 123, 124, 125, 126, 127, 128, 129, 130, 131, 132, 133, 134, 135, 136, 137, 138, 139, 140, 141, 142, 143, 144, 145, 146, 147, 148, 149, 150, 151, 152, 153, 154, 155, 156, 157, 158, 159, 164, 165, 166, 167, 168, 169, 170, 171, 172, 173, 174, 175, 176, 177, 178, 179, 180, 181, 182, 183, 184, 185, 186, 187, 188, 189, 190] (by decide +kernel) (by decide +kernel)
set_option maxRecDepth 20000 in
theorem gX12_land_X12_item : GoodIn wsX12_land (wsV RX12 195 RX12 yX12_item wsX12_item) := goodIn_app (goodIn_of _ (by decide +kernel)) ggX12_land_X12_item
set_option maxRecDepth 20000 in
theorem ggX12_land_X12_is : GoodIn wsX12_land wsX12_is := goodIn_r _ [112, 3, 43, 44, 45, 9, 46, 4, 2, 47, 164, 165, 166, 167, 168, 169, 170, 171, 172, 173, 174, 175, 176, 177, 178, 179, 180, 181, 182, 183, 184, 185, 186, 187, 188, 189, 190] (by decide +kernel) (by decide +kernel)
set_option maxRecDepth 20000 in
theorem gX12_land_X12_is : GoodIn wsX12_land (wsV RX12 154 RX12 yX12_is wsX12_is) := goodIn_app (goodIn_of _ (by decide +kernel)) ggX12_land_X12_is
set_option maxRecDepth 20000 in
theorem ggX12_land_X12_again : GoodIn wsX12_land wsX12_again := goodIn_r _ [163, 28, 29, 30, 31, 32, 33, 34, 35, 36, 37, 164, 165, 166, 167, 168, 169, 170, 171, 172, 173, 174, 175, 176, 177, 178, 179, 180, 181, 182, 183, 184, 185, 186, 187, 188, 189, 190] (by decide +kernel) (by decide +kernel)
set_option maxRecDepth 20000 in
theorem gX12_land_X12_again : GoodIn wsX12_land (wsV RX12 198 RX12 yX12_again wsX12_again) := goodIn_app (goodIn_of _ (by decide +kernel)) ggX12_land_X12_again
theorem dX12_land_0 : decode cX12_land 0 = .ok (.aload_n 0, 1) := by decide +kernel
theorem dX12_land_1 : decode cX12_land 1 = .ok (.iload_n 1, 1) := by decide +kernel
theorem dX12_land_2 : decode cX12_land 2 = .ok (.invokevirtual 93, 3) := by decide +kernel
theorem dX12_land_5 : decode cX12_land 5 = .ok (.istore_n 2, 1) := by decide +kernel
theorem dX12_land_6 : decode cX12_land 6 = .ok (.iload_n 2, 1) := by decide +kernel
theorem dX12_land_7 : decode cX12_land 7 = .ok (.ifCond .ge 9, 3) := by decide +kernel
theorem dX12_land_10 : decode cX12_land 10 = .ok (.aload_n 0, 1) := by decide +kernel
theorem dX12_land_11 : decode cX12_land 11 = .ok (.iload_n 2, 1) := by decide +kernel
theorem dX12_land_12 : decode cX12_land 12 = .ok (.invokevirtual 75, 3) := by decide +kernel
theorem dX12_land_15 : decode cX12_land 15 = .ok (.ireturn, 1) := by decide +kernel
theorem dX12_land_16 : decode cX12_land 16 = .ok (.aload_n 0, 1) := by decide +kernel
theorem dX12_land_17 : decode cX12_land 17 = .ok (.aload_n 0, 1) := by decide +kernel
theorem dX12_land_18 : decode cX12_land 18 = .ok (.getfield 53, 3) := by decide +kernel
theorem dX12_land_21 : decode cX12_land 21 = .ok (.invokevirtual 191, 3) := by decide +kernel
theorem dX12_land_24 : decode cX12_land 24 = .ok (.aload_n 0, 1) := by decide +kernel
theorem dX12_land_25 : decode cX12_land 25 = .ok (.iload_n 1, 1) := by decide +kernel
theorem dX12_land_26 : decode cX12_land 26 = .ok (.putfield 138, 3) := by decide +kernel
theorem dX12_land_29 : decode cX12_land 29 = .ok (.aload_n 0, 1) := by decide +kernel
theorem dX12_land_30 : decode cX12_land 30 = .ok (.iconst 0, 1) := by decide +kernel
theorem dX12_land_31 : decode cX12_land 31 = .ok (.putfield 135, 3) := by decide +kernel
theorem dX12_land_34 : decode cX12_land 34 = .ok (.iconst 0, 1) := by decide +kernel
theorem dX12_land_35 : decode cX12_land 35 = .ok (.istore_n 3, 1) := by decide +kernel
theorem dX12_land_36 : decode cX12_land 36 = .ok (.iconst 1, 1) := by decide +kernel
theorem dX12_land_37 : decode cX12_land 37 = .ok (.istore 4, 2) := by decide +kernel
theorem dX12_land_39 : decode cX12_land 39 = .ok (.iload 4, 2) := by decide +kernel
theorem dX12_land_41 : decode cX12_land 41 = .ok (.ifCond .eq 58, 3) := by decide +kernel
theorem dX12_land_44 : decode cX12_land 44 = .ok (.aload_n 0, 1) := by decide +kernel
theorem dX12_land_45 : decode cX12_land 45 = .ok (.invokevirtual 195, 3) := by decide +kernel
theorem dX12_land_48 : decode cX12_land 48 = .ok (.istore 4, 2) := by decide +kernel
theorem dX12_land_50 : decode cX12_land 50 = .ok (.iload 4, 2) := by decide +kernel
theorem dX12_land_52 : decode cX12_land 52 = .ok (.ifCond .eq 6, 3) := by decide +kernel
theorem dX12_land_55 : decode cX12_land 55 = .ok (.iinc 3 1, 3) := by decide +kernel
theorem dX12_land_58 : decode cX12_land 58 = .ok (.iload 4, 2) := by decide +kernel
theorem dX12_land_60 : decode cX12_land 60 = .ok (.ifCond .eq 23, 3) := by decide +kernel
theorem dX12_land_63 : decode cX12_land 63 = .ok (.aload_n 0, 1) := by decide +kernel
theorem dX12_land_64 : decode cX12_land 64 = .ok (.getfield 135, 3) := by decide +kernel
theorem dX12_land_67 : decode cX12_land 67 = .ok (.aload_n 0, 1) := by decide +kernel
theorem dX12_land_68 : decode cX12_land 68 = .ok (.getfield 13, 3) := by decide +kernel
theorem dX12_land_71 : decode cX12_land 71 = .ok (.iload_n 1, 1) := by decide +kernel
theorem dX12_land_72 : decode cX12_land 72 = .ok (.iaload, 1) := by decide +kernel
theorem dX12_land_73 : decode cX12_land 73 = .ok (.if_icmp .ne 10, 3) := by decide +kernel
theorem dX12_land_76 : decode cX12_land 76 = .ok (.aload_n 0, 1) := by decide +kernel
theorem dX12_land_77 : decode cX12_land 77 = .ok (.iconst (-1), 1) := by decide +kernel
theorem dX12_land_78 : decode cX12_land 78 = .ok (.putfield 72, 3) := by decide +kernel
theorem dX12_land_81 : decode cX12_land 81 = .ok (.iload_n 3, 1) := by decide +kernel
theorem dX12_land_82 : decode cX12_land 82 = .ok (.ireturn, 1) := by decide +kernel
theorem dX12_land_83 : decode cX12_land 83 = .ok (.iload 4, 2) := by decide +kernel
theorem dX12_land_85 : decode cX12_land 85 = .ok (.ifCond .eq (-46), 3) := by decide +kernel
theorem dX12_land_88 : decode cX12_land 88 = .ok (.aload_n 0, 1) := by decide +kernel
theorem dX12_land_89 : decode cX12_land 89 = .ok (.bipush 59, 2) := by decide +kernel
theorem dX12_land_91 : decode cX12_land 91 = .ok (.invokevirtual 154, 3) := by decide +kernel
theorem dX12_land_94 : decode cX12_land 94 = .ok (.istore 4, 2) := by decide +kernel
theorem dX12_land_96 : decode cX12_land 96 = .ok (.goto (-57), 3) := by decide +kernel
theorem dX12_land_99 : decode cX12_land 99 = .ok (.aload_n 0, 1) := by decide +kernel
theorem dX12_land_100 : decode cX12_land 100 = .ok (.aload_n 0, 1) := by decide +kernel
theorem dX12_land_101 : decode cX12_land 101 = .ok (.getfield 135, 3) := by decide +kernel
theorem dX12_land_104 : decode cX12_land 104 = .ok (.putfield 72, 3) := by decide +kernel
theorem dX12_land_107 : decode cX12_land 107 = .ok (.aload_n 0, 1) := by decide +kernel
theorem dX12_land_108 : decode cX12_land 108 = .ok (.aload_n 0, 1) := by decide +kernel
theorem dX12_land_109 : decode cX12_land 109 = .ok (.getfield 53, 3) := by decide +kernel
theorem dX12_land_112 : decode cX12_land 112 = .ok (.invokevirtual 198, 3) := by decide +kernel
theorem dX12_land_115 : decode cX12_land 115 = .ok (.aload_n 0, 1) := by decide +kernel
theorem dX12_land_116 : decode cX12_land 116 = .ok (.bipush (-6), 2) := by decide +kernel
theorem dX12_land_118 : decode cX12_land 118 = .ok (.invokevirtual 75, 3) := by decide +kernel
theorem dX12_land_121 : decode cX12_land 121 = .ok (.ireturn, 1) := by decide +kernel
theorem dX12_fault_0 : decode cX12_fault 0 = .ok (.aload_n 0, 1) := by decide +kernel
theorem dX12_fault_1 : decode cX12_fault 1 = .ok (.getfield 72, 3) := by decide +kernel
theorem dX12_fault_4 : decode cX12_fault 4 = .ok (.ireturn, 1) := by decide +kernel
set_option maxRecDepth 20000 in
theorem ggX12_gives_X12_lossAt : GoodIn wsX12_gives wsX12_lossAt := goodIn_r _ [11, 12, 13, 14, 15, 16, 17, 18, 19, 20, 21, 22, 23, 24, 25, 26, 27, 28, 29, 30, 31, 32, 33, 34, 35, 36, 37, 38, 39, 40, 41] (by decide +kernel) (by decide +kernel)
set_option maxRecDepth 20000 in
theorem gX12_gives_X12_lossAt : GoodIn wsX12_gives (wsV RX12 106 RX12 yX12_lossAt wsX12_lossAt) := goodIn_app (goodIn_of _ (by decide +kernel)) ggX12_gives_X12_lossAt
theorem dX12_gives_0 : decode cX12_gives 0 = .ok (.iconst 0, 1) := by decide +kernel
theorem dX12_gives_1 : decode cX12_gives 1 = .ok (.istore_n 3, 1) := by decide +kernel
theorem dX12_gives_2 : decode cX12_gives 2 = .ok (.iload_n 3, 1) := by decide +kernel
theorem dX12_gives_3 : decode cX12_gives 3 = .ok (.bipush 6, 2) := by decide +kernel
theorem dX12_gives_5 : decode cX12_gives 5 = .ok (.if_icmp .ge 16, 3) := by decide +kernel
theorem dX12_gives_8 : decode cX12_gives 8 = .ok (.aload_n 0, 1) := by decide +kernel
theorem dX12_gives_9 : decode cX12_gives 9 = .ok (.getfield 56, 3) := by decide +kernel
theorem dX12_gives_12 : decode cX12_gives 12 = .ok (.iload_n 3, 1) := by decide +kernel
theorem dX12_gives_13 : decode cX12_gives 13 = .ok (.iconst 0, 1) := by decide +kernel
theorem dX12_gives_14 : decode cX12_gives 14 = .ok (.iastore, 1) := by decide +kernel
theorem dX12_gives_15 : decode cX12_gives 15 = .ok (.iinc 3 1, 3) := by decide +kernel
theorem dX12_gives_18 : decode cX12_gives 18 = .ok (.goto (-16), 3) := by decide +kernel
theorem dX12_gives_21 : decode cX12_gives 21 = .ok (.iload_n 2, 1) := by decide +kernel
theorem dX12_gives_22 : decode cX12_gives 22 = .ok (.istore_n 3, 1) := by decide +kernel
theorem dX12_gives_23 : decode cX12_gives 23 = .ok (.aload_n 0, 1) := by decide +kernel
theorem dX12_gives_24 : decode cX12_gives 24 = .ok (.getfield 29, 3) := by decide +kernel
theorem dX12_gives_27 : decode cX12_gives 27 = .ok (.iload_n 1, 1) := by decide +kernel
theorem dX12_gives_28 : decode cX12_gives 28 = .ok (.iaload, 1) := by decide +kernel
theorem dX12_gives_29 : decode cX12_gives 29 = .ok (.istore 4, 2) := by decide +kernel
theorem dX12_gives_31 : decode cX12_gives 31 = .ok (.iload 4, 2) := by decide +kernel
theorem dX12_gives_33 : decode cX12_gives 33 = .ok (.bipush 6, 2) := by decide +kernel
theorem dX12_gives_35 : decode cX12_gives 35 = .ok (.if_icmp .ge 49, 3) := by decide +kernel
theorem dX12_gives_38 : decode cX12_gives 38 = .ok (.iload 4, 2) := by decide +kernel
theorem dX12_gives_40 : decode cX12_gives 40 = .ok (.aload_n 0, 1) := by decide +kernel
theorem dX12_gives_41 : decode cX12_gives 41 = .ok (.getfield 29, 3) := by decide +kernel
theorem dX12_gives_44 : decode cX12_gives 44 = .ok (.iload_n 1, 1) := by decide +kernel
theorem dX12_gives_45 : decode cX12_gives 45 = .ok (.iaload, 1) := by decide +kernel
theorem dX12_gives_46 : decode cX12_gives 46 = .ok (.if_icmp .le 24, 3) := by decide +kernel
theorem dX12_gives_49 : decode cX12_gives 49 = .ok (.iconst 0, 1) := by decide +kernel
theorem dX12_gives_50 : decode cX12_gives 50 = .ok (.iload_n 3, 1) := by decide +kernel
theorem dX12_gives_51 : decode cX12_gives 51 = .ok (.aload_n 0, 1) := by decide +kernel
theorem dX12_gives_52 : decode cX12_gives 52 = .ok (.iload_n 1, 1) := by decide +kernel
theorem dX12_gives_53 : decode cX12_gives 53 = .ok (.iload 4, 2) := by decide +kernel
theorem dX12_gives_55 : decode cX12_gives 55 = .ok (.aload_n 0, 1) := by decide +kernel
theorem dX12_gives_56 : decode cX12_gives 56 = .ok (.getfield 29, 3) := by decide +kernel
theorem dX12_gives_59 : decode cX12_gives 59 = .ok (.iload_n 1, 1) := by decide +kernel
theorem dX12_gives_60 : decode cX12_gives 60 = .ok (.iaload, 1) := by decide +kernel
theorem dX12_gives_61 : decode cX12_gives 61 = .ok (.isub, 1) := by decide +kernel
theorem dX12_gives_62 : decode cX12_gives 62 = .ok (.invokevirtual 106, 3) := by decide +kernel
theorem dX12_gives_65 : decode cX12_gives 65 = .ok (.isub, 1) := by decide +kernel
theorem dX12_gives_66 : decode cX12_gives 66 = .ok (.invokestatic 201, 3) := by decide +kernel
theorem dX12_gives_69 : decode cX12_gives 69 = .ok (.istore_n 3, 1) := by decide +kernel
theorem dX12_gives_70 : decode cX12_gives 70 = .ok (.aload_n 0, 1) := by decide +kernel
theorem dX12_gives_71 : decode cX12_gives 71 = .ok (.getfield 56, 3) := by decide +kernel
theorem dX12_gives_74 : decode cX12_gives 74 = .ok (.iload 4, 2) := by decide +kernel
theorem dX12_gives_76 : decode cX12_gives 76 = .ok (.iload_n 3, 1) := by decide +kernel
theorem dX12_gives_77 : decode cX12_gives 77 = .ok (.iastore, 1) := by decide +kernel
theorem dX12_gives_78 : decode cX12_gives 78 = .ok (.iinc 4 1, 3) := by decide +kernel
theorem dX12_gives_81 : decode cX12_gives 81 = .ok (.goto (-50), 3) := by decide +kernel
theorem dX12_gives_84 : decode cX12_gives 84 = .ok (.return_, 1) := by decide +kernel
set_option maxRecDepth 20000 in
theorem ggX12_presses_X12_gives : GoodIn wsX12_presses wsX12_gives := goodIn_r _ [18, 2, 1, 11, 12, 6, 13, 19, 20, 21, 17, 22, 8, 23, 9, 28, 29, 30, 31, 32, 33, 34, 35, 36, 37, 38, 39, 40, 41, 42, 43, 44, 45, 46, 47, 48, 49, 50, 51, 52, 53, 54] (by decide +kernel) (by decide +kernel)
set_option maxRecDepth 20000 in
theorem gX12_presses_X12_gives : GoodIn wsX12_presses (wsV RX12 206 RX12 yX12_gives wsX12_gives) := goodIn_app (goodIn_of _ (by decide +kernel)) ggX12_presses_X12_gives
set_option maxRecDepth 20000 in
theorem ggX12_presses_X12_strengthOf : GoodIn wsX12_presses wsX12_strengthOf := goodIn_r _ [27, 3, 28, 29, 30, 31, 32, 33, 34, 35, 36, 37, 38, 39, 40, 41, 42, 43, 44, 45, 46, 47, 48, 49, 50, 51, 52, 53, 54] (by decide +kernel) (by decide +kernel)
set_option maxRecDepth 20000 in
theorem gX12_presses_X12_strengthOf : GoodIn wsX12_presses (wsV RX12 114 RX12 yX12_strengthOf wsX12_strengthOf) := goodIn_app (goodIn_of _ (by decide +kernel)) ggX12_presses_X12_strengthOf
theorem dX12_presses_0 : decode cX12_presses 0 = .ok (.aload_n 0, 1) := by decide +kernel
theorem dX12_presses_1 : decode cX12_presses 1 = .ok (.iload_n 1, 1) := by decide +kernel
theorem dX12_presses_2 : decode cX12_presses 2 = .ok (.iload_n 3, 1) := by decide +kernel
theorem dX12_presses_3 : decode cX12_presses 3 = .ok (.invokevirtual 206, 3) := by decide +kernel
theorem dX12_presses_6 : decode cX12_presses 6 = .ok (.iconst 0, 1) := by decide +kernel
theorem dX12_presses_7 : decode cX12_presses 7 = .ok (.istore 4, 2) := by decide +kernel
theorem dX12_presses_9 : decode cX12_presses 9 = .ok (.aload_n 0, 1) := by decide +kernel
theorem dX12_presses_10 : decode cX12_presses 10 = .ok (.getfield 29, 3) := by decide +kernel
theorem dX12_presses_13 : decode cX12_presses 13 = .ok (.iload_n 1, 1) := by decide +kernel
theorem dX12_presses_14 : decode cX12_presses 14 = .ok (.iaload, 1) := by decide +kernel
theorem dX12_presses_15 : decode cX12_presses 15 = .ok (.istore 5, 2) := by decide +kernel
theorem dX12_presses_17 : decode cX12_presses 17 = .ok (.iload 5, 2) := by decide +kernel
theorem dX12_presses_19 : decode cX12_presses 19 = .ok (.bipush 6, 2) := by decide +kernel
theorem dX12_presses_21 : decode cX12_presses 21 = .ok (.if_icmp .ge 152, 3) := by decide +kernel
theorem dX12_presses_24 : decode cX12_presses 24 = .ok (.aload_n 0, 1) := by decide +kernel
theorem dX12_presses_25 : decode cX12_presses 25 = .ok (.getfield 56, 3) := by decide +kernel
theorem dX12_presses_28 : decode cX12_presses 28 = .ok (.iload 5, 2) := by decide +kernel
theorem dX12_presses_30 : decode cX12_presses 30 = .ok (.iaload, 1) := by decide +kernel
theorem dX12_presses_31 : decode cX12_presses 31 = .ok (.ifCond .ne 6, 3) := by decide +kernel
theorem dX12_presses_34 : decode cX12_presses 34 = .ok (.goto 133, 3) := by decide +kernel
theorem dX12_presses_37 : decode cX12_presses 37 = .ok (.iinc 4 1, 3) := by decide +kernel
theorem dX12_presses_40 : decode cX12_presses 40 = .ok (.aload_n 0, 1) := by decide +kernel
theorem dX12_presses_41 : decode cX12_presses 41 = .ok (.getfield 38, 3) := by decide +kernel
theorem dX12_presses_44 : decode cX12_presses 44 = .ok (.bipush 48, 2) := by decide +kernel
theorem dX12_presses_46 : decode cX12_presses 46 = .ok (.iload_n 1, 1) := by decide +kernel
theorem dX12_presses_47 : decode cX12_presses 47 = .ok (.imul, 1) := by decide +kernel
theorem dX12_presses_48 : decode cX12_presses 48 = .ok (.bipush 8, 2) := by decide +kernel
theorem dX12_presses_50 : decode cX12_presses 50 = .ok (.iload 5, 2) := by decide +kernel
theorem dX12_presses_52 : decode cX12_presses 52 = .ok (.imul, 1) := by decide +kernel
theorem dX12_presses_53 : decode cX12_presses 53 = .ok (.iadd, 1) := by decide +kernel
theorem dX12_presses_54 : decode cX12_presses 54 = .ok (.iload_n 2, 1) := by decide +kernel
theorem dX12_presses_55 : decode cX12_presses 55 = .ok (.iadd, 1) := by decide +kernel
theorem dX12_presses_56 : decode cX12_presses 56 = .ok (.bipush 99, 2) := by decide +kernel
theorem dX12_presses_58 : decode cX12_presses 58 = .ok (.aload_n 0, 1) := by decide +kernel
theorem dX12_presses_59 : decode cX12_presses 59 = .ok (.iload_n 1, 1) := by decide +kernel
theorem dX12_presses_60 : decode cX12_presses 60 = .ok (.iload 5, 2) := by decide +kernel
theorem dX12_presses_62 : decode cX12_presses 62 = .ok (.iload_n 2, 1) := by decide +kernel
theorem dX12_presses_63 : decode cX12_presses 63 = .ok (.invokevirtual 114, 3) := by decide +kernel
theorem dX12_presses_66 : decode cX12_presses 66 = .ok (.aload_n 0, 1) := by decide +kernel
theorem dX12_presses_67 : decode cX12_presses 67 = .ok (.getfield 56, 3) := by decide +kernel
theorem dX12_presses_70 : decode cX12_presses 70 = .ok (.iload 5, 2) := by decide +kernel
theorem dX12_presses_72 : decode cX12_presses 72 = .ok (.iaload, 1) := by decide +kernel
theorem dX12_presses_73 : decode cX12_presses 73 = .ok (.iadd, 1) := by decide +kernel
theorem dX12_presses_74 : decode cX12_presses 74 = .ok (.invokestatic 210, 3) := by decide +kernel
theorem dX12_presses_77 : decode cX12_presses 77 = .ok (.iastore, 1) := by decide +kernel
theorem dX12_presses_78 : decode cX12_presses 78 = .ok (.iload 5, 2) := by decide +kernel
theorem dX12_presses_80 : decode cX12_presses 80 = .ok (.aload_n 0, 1) := by decide +kernel
theorem dX12_presses_81 : decode cX12_presses 81 = .ok (.getfield 29, 3) := by decide +kernel
theorem dX12_presses_84 : decode cX12_presses 84 = .ok (.iload_n 1, 1) := by decide +kernel
theorem dX12_presses_85 : decode cX12_presses 85 = .ok (.iaload, 1) := by decide +kernel
theorem dX12_presses_86 : decode cX12_presses 86 = .ok (.isub, 1) := by decide +kernel
theorem dX12_presses_87 : decode cX12_presses 87 = .ok (.istore 6, 2) := by decide +kernel
theorem dX12_presses_89 : decode cX12_presses 89 = .ok (.aload_n 0, 1) := by decide +kernel
theorem dX12_presses_90 : decode cX12_presses 90 = .ok (.getfield 20, 3) := by decide +kernel
theorem dX12_presses_93 : decode cX12_presses 93 = .ok (.iload_n 1, 1) := by decide +kernel
theorem dX12_presses_94 : decode cX12_presses 94 = .ok (.iaload, 1) := by decide +kernel
theorem dX12_presses_95 : decode cX12_presses 95 = .ok (.bipush 6, 2) := by decide +kernel
theorem dX12_presses_97 : decode cX12_presses 97 = .ok (.if_icmp .ne 27, 3) := by decide +kernel
theorem dX12_presses_100 : decode cX12_presses 100 = .ok (.iload 6, 2) := by decide +kernel
theorem dX12_presses_102 : decode cX12_presses 102 = .ok (.aload_n 0, 1) := by decide +kernel
theorem dX12_presses_103 : decode cX12_presses 103 = .ok (.getfield 23, 3) := by decide +kernel
theorem dX12_presses_106 : decode cX12_presses 106 = .ok (.iload_n 1, 1) := by decide +kernel
theorem dX12_presses_107 : decode cX12_presses 107 = .ok (.iaload, 1) := by decide +kernel
theorem dX12_presses_108 : decode cX12_presses 108 = .ok (.imul, 1) := by decide +kernel
theorem dX12_presses_109 : decode cX12_presses 109 = .ok (.iload 6, 2) := by decide +kernel
theorem dX12_presses_111 : decode cX12_presses 111 = .ok (.iconst 2, 1) := by decide +kernel
theorem dX12_presses_112 : decode cX12_presses 112 = .ok (.if_icmp .le 7, 3) := by decide +kernel
theorem dX12_presses_115 : decode cX12_presses 115 = .ok (.iconst 1, 1) := by decide +kernel
theorem dX12_presses_116 : decode cX12_presses 116 = .ok (.goto 4, 3) := by decide +kernel
theorem dX12_presses_119 : decode cX12_presses 119 = .ok (.iconst 0, 1) := by decide +kernel
theorem dX12_presses_120 : decode cX12_presses 120 = .ok (.iadd, 1) := by decide +kernel
theorem dX12_presses_121 : decode cX12_presses 121 = .ok (.goto 5, 3) := by decide +kernel
theorem dX12_presses_124 : decode cX12_presses 124 = .ok (.iload 6, 2) := by decide +kernel
theorem dX12_presses_126 : decode cX12_presses 126 = .ok (.istore 7, 2) := by decide +kernel
theorem dX12_presses_128 : decode cX12_presses 128 = .ok (.aload_n 0, 1) := by decide +kernel
theorem dX12_presses_129 : decode cX12_presses 129 = .ok (.getfield 35, 3) := by decide +kernel
theorem dX12_presses_132 : decode cX12_presses 132 = .ok (.bipush 6, 2) := by decide +kernel
theorem dX12_presses_134 : decode cX12_presses 134 = .ok (.iload_n 1, 1) := by decide +kernel
theorem dX12_presses_135 : decode cX12_presses 135 = .ok (.imul, 1) := by decide +kernel
theorem dX12_presses_136 : decode cX12_presses 136 = .ok (.iload 5, 2) := by decide +kernel
theorem dX12_presses_138 : decode cX12_presses 138 = .ok (.iadd, 1) := by decide +kernel
theorem dX12_presses_139 : decode cX12_presses 139 = .ok (.sipush (-999), 3) := by decide +kernel
theorem dX12_presses_142 : decode cX12_presses 142 = .ok (.sipush 999, 3) := by decide +kernel
theorem dX12_presses_145 : decode cX12_presses 145 = .ok (.aload_n 0, 1) := by decide +kernel
theorem dX12_presses_146 : decode cX12_presses 146 = .ok (.getfield 35, 3) := by decide +kernel
theorem dX12_presses_149 : decode cX12_presses 149 = .ok (.bipush 6, 2) := by decide +kernel
theorem dX12_presses_151 : decode cX12_presses 151 = .ok (.iload_n 1, 1) := by decide +kernel
theorem dX12_presses_152 : decode cX12_presses 152 = .ok (.imul, 1) := by decide +kernel
theorem dX12_presses_153 : decode cX12_presses 153 = .ok (.iload 5, 2) := by decide +kernel
theorem dX12_presses_155 : decode cX12_presses 155 = .ok (.iadd, 1) := by decide +kernel
theorem dX12_presses_156 : decode cX12_presses 156 = .ok (.iaload, 1) := by decide +kernel
theorem dX12_presses_157 : decode cX12_presses 157 = .ok (.iload 7, 2) := by decide +kernel
theorem dX12_presses_159 : decode cX12_presses 159 = .ok (.iadd, 1) := by decide +kernel
theorem dX12_presses_160 : decode cX12_presses 160 = .ok (.invokestatic 210, 3) := by decide +kernel
theorem dX12_presses_163 : decode cX12_presses 163 = .ok (.invokestatic 201, 3) := by decide +kernel
theorem dX12_presses_166 : decode cX12_presses 166 = .ok (.iastore, 1) := by decide +kernel
theorem dX12_presses_167 : decode cX12_presses 167 = .ok (.iinc 5 1, 3) := by decide +kernel
theorem dX12_presses_170 : decode cX12_presses 170 = .ok (.goto (-153), 3) := by decide +kernel
theorem dX12_presses_173 : decode cX12_presses 173 = .ok (.iload 4, 2) := by decide +kernel
theorem dX12_presses_175 : decode cX12_presses 175 = .ok (.ireturn, 1) := by decide +kernel
set_option maxRecDepth 20000 in
theorem ggX12_rubs_X12_strengthOf : GoodIn wsX12_rubs wsX12_strengthOf := goodIn_r _ [11, 1, 12, 13, 14, 15, 16, 17, 18, 19, 20, 21, 22, 23, 24, 25, 26, 27, 28, 29, 30, 31, 32, 33, 34, 35, 36, 37, 38] (by decide +kernel) (by decide +kernel)
set_option maxRecDepth 20000 in
theorem gX12_rubs_X12_strengthOf : GoodIn wsX12_rubs (wsV RX12 114 RX12 yX12_strengthOf wsX12_strengthOf) := goodIn_app (goodIn_of _ (by decide +kernel)) ggX12_rubs_X12_strengthOf
theorem dX12_rubs_0 : decode cX12_rubs 0 = .ok (.aload_n 0, 1) := by decide +kernel
theorem dX12_rubs_1 : decode cX12_rubs 1 = .ok (.iload_n 1, 1) := by decide +kernel
theorem dX12_rubs_2 : decode cX12_rubs 2 = .ok (.iload_n 2, 1) := by decide +kernel
theorem dX12_rubs_3 : decode cX12_rubs 3 = .ok (.iload_n 3, 1) := by decide +kernel
theorem dX12_rubs_4 : decode cX12_rubs 4 = .ok (.invokevirtual 114, 3) := by decide +kernel
theorem dX12_rubs_7 : decode cX12_rubs 7 = .ok (.istore 4, 2) := by decide +kernel
theorem dX12_rubs_9 : decode cX12_rubs 9 = .ok (.aload_n 0, 1) := by decide +kernel
theorem dX12_rubs_10 : decode cX12_rubs 10 = .ok (.getfield 38, 3) := by decide +kernel
theorem dX12_rubs_13 : decode cX12_rubs 13 = .ok (.bipush 48, 2) := by decide +kernel
theorem dX12_rubs_15 : decode cX12_rubs 15 = .ok (.iload_n 1, 1) := by decide +kernel
theorem dX12_rubs_16 : decode cX12_rubs 16 = .ok (.imul, 1) := by decide +kernel
theorem dX12_rubs_17 : decode cX12_rubs 17 = .ok (.bipush 8, 2) := by decide +kernel
theorem dX12_rubs_19 : decode cX12_rubs 19 = .ok (.iload_n 2, 1) := by decide +kernel
theorem dX12_rubs_20 : decode cX12_rubs 20 = .ok (.imul, 1) := by decide +kernel
theorem dX12_rubs_21 : decode cX12_rubs 21 = .ok (.iadd, 1) := by decide +kernel
theorem dX12_rubs_22 : decode cX12_rubs 22 = .ok (.iload_n 3, 1) := by decide +kernel
theorem dX12_rubs_23 : decode cX12_rubs 23 = .ok (.iadd, 1) := by decide +kernel
theorem dX12_rubs_24 : decode cX12_rubs 24 = .ok (.iconst 0, 1) := by decide +kernel
theorem dX12_rubs_25 : decode cX12_rubs 25 = .ok (.iastore, 1) := by decide +kernel
theorem dX12_rubs_26 : decode cX12_rubs 26 = .ok (.aload_n 0, 1) := by decide +kernel
theorem dX12_rubs_27 : decode cX12_rubs 27 = .ok (.getfield 32, 3) := by decide +kernel
theorem dX12_rubs_30 : decode cX12_rubs 30 = .ok (.bipush 6, 2) := by decide +kernel
theorem dX12_rubs_32 : decode cX12_rubs 32 = .ok (.iload_n 1, 1) := by decide +kernel
theorem dX12_rubs_33 : decode cX12_rubs 33 = .ok (.imul, 1) := by decide +kernel
theorem dX12_rubs_34 : decode cX12_rubs 34 = .ok (.iload_n 2, 1) := by decide +kernel
theorem dX12_rubs_35 : decode cX12_rubs 35 = .ok (.iadd, 1) := by decide +kernel
theorem dX12_rubs_36 : decode cX12_rubs 36 = .ok (.bipush 99, 2) := by decide +kernel
theorem dX12_rubs_38 : decode cX12_rubs 38 = .ok (.aload_n 0, 1) := by decide +kernel
theorem dX12_rubs_39 : decode cX12_rubs 39 = .ok (.getfield 32, 3) := by decide +kernel
theorem dX12_rubs_42 : decode cX12_rubs 42 = .ok (.bipush 6, 2) := by decide +kernel
theorem dX12_rubs_44 : decode cX12_rubs 44 = .ok (.iload_n 1, 1) := by decide +kernel
theorem dX12_rubs_45 : decode cX12_rubs 45 = .ok (.imul, 1) := by decide +kernel
theorem dX12_rubs_46 : decode cX12_rubs 46 = .ok (.iload_n 2, 1) := by decide +kernel
theorem dX12_rubs_47 : decode cX12_rubs 47 = .ok (.iadd, 1) := by decide +kernel
theorem dX12_rubs_48 : decode cX12_rubs 48 = .ok (.iaload, 1) := by decide +kernel
theorem dX12_rubs_49 : decode cX12_rubs 49 = .ok (.iconst 1, 1) := by decide +kernel
theorem dX12_rubs_50 : decode cX12_rubs 50 = .ok (.iadd, 1) := by decide +kernel
theorem dX12_rubs_51 : decode cX12_rubs 51 = .ok (.invokestatic 210, 3) := by decide +kernel
theorem dX12_rubs_54 : decode cX12_rubs 54 = .ok (.iastore, 1) := by decide +kernel
theorem dX12_rubs_55 : decode cX12_rubs 55 = .ok (.iload 4, 2) := by decide +kernel
theorem dX12_rubs_57 : decode cX12_rubs 57 = .ok (.ireturn, 1) := by decide +kernel
set_option maxRecDepth 20000 in
theorem ggX12_haveBits_X12_hasDeed : GoodIn wsX12_haveBits wsX12_hasDeed := goodIn_r _ [6, 7, 8, 9, 10, 5, 11, 12, 13, 14, 15, 16, 17, 18, 19, 20, 21, 22, 23, 24, 25, 26, 27, 28, 29, 30, 31, 32, 33, 34, 35, 36, 37, 38, 39] (by decide +kernel) (by decide +kernel)
set_option maxRecDepth 20000 in
theorem gX12_haveBits_X12_hasDeed : GoodIn wsX12_haveBits (wsV RX12 123 RX12 yX12_hasDeed wsX12_hasDeed) := goodIn_app (goodIn_of _ (by decide +kernel)) ggX12_haveBits_X12_hasDeed
theorem dX12_haveBits_0 : decode cX12_haveBits 0 = .ok (.iconst 0, 1) := by decide +kernel
theorem dX12_haveBits_1 : decode cX12_haveBits 1 = .ok (.istore_n 3, 1) := by decide +kernel
theorem dX12_haveBits_2 : decode cX12_haveBits 2 = .ok (.aload_n 0, 1) := by decide +kernel
theorem dX12_haveBits_3 : decode cX12_haveBits 3 = .ok (.getfield 29, 3) := by decide +kernel
theorem dX12_haveBits_6 : decode cX12_haveBits 6 = .ok (.iload_n 1, 1) := by decide +kernel
theorem dX12_haveBits_7 : decode cX12_haveBits 7 = .ok (.iaload, 1) := by decide +kernel
theorem dX12_haveBits_8 : decode cX12_haveBits 8 = .ok (.istore 4, 2) := by decide +kernel
theorem dX12_haveBits_10 : decode cX12_haveBits 10 = .ok (.iload 4, 2) := by decide +kernel
theorem dX12_haveBits_12 : decode cX12_haveBits 12 = .ok (.bipush 6, 2) := by decide +kernel
theorem dX12_haveBits_14 : decode cX12_haveBits 14 = .ok (.if_icmp .ge 27, 3) := by decide +kernel
theorem dX12_haveBits_17 : decode cX12_haveBits 17 = .ok (.aload_n 0, 1) := by decide +kernel
theorem dX12_haveBits_18 : decode cX12_haveBits 18 = .ok (.iload_n 1, 1) := by decide +kernel
theorem dX12_haveBits_19 : decode cX12_haveBits 19 = .ok (.iload 4, 2) := by decide +kernel
theorem dX12_haveBits_21 : decode cX12_haveBits 21 = .ok (.iload_n 2, 1) := by decide +kernel
theorem dX12_haveBits_22 : decode cX12_haveBits 22 = .ok (.invokevirtual 123, 3) := by decide +kernel
theorem dX12_haveBits_25 : decode cX12_haveBits 25 = .ok (.ifCond .eq 10, 3) := by decide +kernel
theorem dX12_haveBits_28 : decode cX12_haveBits 28 = .ok (.iload_n 3, 1) := by decide +kernel
theorem dX12_haveBits_29 : decode cX12_haveBits 29 = .ok (.iconst 1, 1) := by decide +kernel
theorem dX12_haveBits_30 : decode cX12_haveBits 30 = .ok (.iload 4, 2) := by decide +kernel
theorem dX12_haveBits_32 : decode cX12_haveBits 32 = .ok (.ishl, 1) := by decide +kernel
theorem dX12_haveBits_33 : decode cX12_haveBits 33 = .ok (.ior, 1) := by decide +kernel
theorem dX12_haveBits_34 : decode cX12_haveBits 34 = .ok (.istore_n 3, 1) := by decide +kernel
theorem dX12_haveBits_35 : decode cX12_haveBits 35 = .ok (.iinc 4 1, 3) := by decide +kernel
theorem dX12_haveBits_38 : decode cX12_haveBits 38 = .ok (.goto (-28), 3) := by decide +kernel
theorem dX12_haveBits_41 : decode cX12_haveBits 41 = .ok (.iload_n 3, 1) := by decide +kernel
theorem dX12_haveBits_42 : decode cX12_haveBits 42 = .ok (.ireturn, 1) := by decide +kernel
set_option maxRecDepth 20000 in
theorem ggX12_have_X12_isPerson : GoodIn wsX12_have wsX12_isPerson := goodIn_r _ [5, 6, 7, 8, 4, 9, 33, 34, 35, 36, 37, 38, 39, 40, 41, 42, 43, 44, 45, 46, 47, 48, 49, 50, 51, 52, 53, 54, 55, 56, 57, 58, 59] (by decide +kernel) (by decide +kernel)
set_option maxRecDepth 20000 in
theorem gX12_have_X12_isPerson : GoodIn wsX12_have (wsV RX12 96 RX12 yX12_isPerson wsX12_isPerson) := goodIn_app (goodIn_of _ (by decide +kernel)) ggX12_have_X12_isPerson
set_option maxRecDepth 20000 in
theorem ggX12_have_X12_no : GoodIn wsX12_have wsX12_no := goodIn_r _ [13, 14, 33, 34, 35, 36, 37, 38, 39, 40, 41, 42, 43, 44, 45, 46, 47, 48, 49, 50, 51, 52, 53, 54, 55, 56, 57, 58, 59] (by decide +kernel) (by decide +kernel)
set_option maxRecDepth 20000 in
theorem gX12_have_X12_no : GoodIn wsX12_have (wsV RX12 75 RX12 yX12_no wsX12_no) := goodIn_app (goodIn_of _ (by decide +kernel)) ggX12_have_X12_no
set_option maxRecDepth 20000 in
theorem ggX12_have_X12_isDeed : GoodIn wsX12_have wsX12_isDeed := goodIn_r _ [17, 7, 8, 4, 9] (by decide +kernel) (by decide +kernel)
set_option maxRecDepth 20000 in
theorem gX12_have_X12_isDeed : GoodIn wsX12_have (va_wsS RX12 132 yX12_isDeed wsX12_isDeed) := goodIn_app (goodIn_of _ (by decide +kernel)) ggX12_have_X12_isDeed
set_option maxRecDepth 20000 in
theorem ggX12_have_X12_haveBits : GoodIn wsX12_have wsX12_haveBits := goodIn_r _ [21, 22, 23, 24, 25, 4, 26, 27, 28, 29, 30, 31, 32, 33, 34, 35, 36, 37, 38, 39, 40, 41, 42, 43, 44, 45, 46, 47, 48, 49, 50, 51, 52, 53, 54, 55, 56, 57, 58, 59] (by decide +kernel) (by decide +kernel)
set_option maxRecDepth 20000 in
theorem gX12_have_X12_haveBits : GoodIn wsX12_have (wsV RX12 213 RX12 yX12_haveBits wsX12_haveBits) := goodIn_app (goodIn_of _ (by decide +kernel)) ggX12_have_X12_haveBits
theorem dX12_have_0 : decode cX12_have 0 = .ok (.aload_n 0, 1) := by decide +kernel
theorem dX12_have_1 : decode cX12_have 1 = .ok (.iload_n 1, 1) := by decide +kernel
theorem dX12_have_2 : decode cX12_have 2 = .ok (.invokevirtual 96, 3) := by decide +kernel
theorem dX12_have_5 : decode cX12_have 5 = .ok (.ifCond .ne 9, 3) := by decide +kernel
theorem dX12_have_8 : decode cX12_have 8 = .ok (.aload_n 0, 1) := by decide +kernel
theorem dX12_have_9 : decode cX12_have 9 = .ok (.iconst (-1), 1) := by decide +kernel
theorem dX12_have_10 : decode cX12_have 10 = .ok (.invokevirtual 75, 3) := by decide +kernel
theorem dX12_have_13 : decode cX12_have 13 = .ok (.ireturn, 1) := by decide +kernel
theorem dX12_have_14 : decode cX12_have 14 = .ok (.iload_n 2, 1) := by decide +kernel
theorem dX12_have_15 : decode cX12_have 15 = .ok (.invokestatic 132, 3) := by decide +kernel
theorem dX12_have_18 : decode cX12_have 18 = .ok (.ifCond .eq 12, 3) := by decide +kernel
theorem dX12_have_21 : decode cX12_have 21 = .ok (.aload_n 0, 1) := by decide +kernel
theorem dX12_have_22 : decode cX12_have 22 = .ok (.iload_n 1, 1) := by decide +kernel
theorem dX12_have_23 : decode cX12_have 23 = .ok (.iload_n 2, 1) := by decide +kernel
theorem dX12_have_24 : decode cX12_have 24 = .ok (.invokevirtual 213, 3) := by decide +kernel
theorem dX12_have_27 : decode cX12_have 27 = .ok (.goto 9, 3) := by decide +kernel
theorem dX12_have_30 : decode cX12_have 30 = .ok (.aload_n 0, 1) := by decide +kernel
theorem dX12_have_31 : decode cX12_have 31 = .ok (.bipush (-6), 2) := by decide +kernel
theorem dX12_have_33 : decode cX12_have 33 = .ok (.invokevirtual 75, 3) := by decide +kernel
theorem dX12_have_36 : decode cX12_have 36 = .ok (.ireturn, 1) := by decide +kernel
set_option maxRecDepth 20000 in
theorem ggX12_all_X12_isPerson : GoodIn wsX12_all wsX12_isPerson := goodIn_r _ [6, 7, 8, 9, 5, 10, 30, 31, 32, 33, 34, 35, 36, 37, 38, 39, 40, 41, 42, 43, 44, 45, 46, 47, 48, 49, 50, 51, 52, 53, 54, 55, 56] (by decide +kernel) (by decide +kernel)
set_option maxRecDepth 20000 in
theorem gX12_all_X12_isPerson : GoodIn wsX12_all (wsV RX12 96 RX12 yX12_isPerson wsX12_isPerson) := goodIn_app (goodIn_of _ (by decide +kernel)) ggX12_all_X12_isPerson
set_option maxRecDepth 20000 in
theorem ggX12_all_X12_no : GoodIn wsX12_all wsX12_no := goodIn_r _ [14, 15, 30, 31, 32, 33, 34, 35, 36, 37, 38, 39, 40, 41, 42, 43, 44, 45, 46, 47, 48, 49, 50, 51, 52, 53, 54, 55, 56] (by decide +kernel) (by decide +kernel)
set_option maxRecDepth 20000 in
theorem gX12_all_X12_no : GoodIn wsX12_all (wsV RX12 75 RX12 yX12_no wsX12_no) := goodIn_app (goodIn_of _ (by decide +kernel)) ggX12_all_X12_no
set_option maxRecDepth 20000 in
theorem ggX12_all_X12_hasAll : GoodIn wsX12_all wsX12_hasAll := goodIn_r _ [19, 20, 21, 22, 5, 23, 24, 25, 26, 27, 28, 29, 30, 31, 32, 33, 34, 35, 36, 37, 38, 39, 40, 41, 42, 43, 44, 45, 46, 47, 48, 49, 50, 51, 52, 53, 54, 55, 56] (by decide +kernel) (by decide +kernel)
set_option maxRecDepth 20000 in
theorem gX12_all_X12_hasAll : GoodIn wsX12_all (wsV RX12 126 RX12 yX12_hasAll wsX12_hasAll) := goodIn_app (goodIn_of _ (by decide +kernel)) ggX12_all_X12_hasAll
theorem dX12_all_0 : decode cX12_all 0 = .ok (.aload_n 0, 1) := by decide +kernel
theorem dX12_all_1 : decode cX12_all 1 = .ok (.iload_n 1, 1) := by decide +kernel
theorem dX12_all_2 : decode cX12_all 2 = .ok (.invokevirtual 96, 3) := by decide +kernel
theorem dX12_all_5 : decode cX12_all 5 = .ok (.ifCond .ne 9, 3) := by decide +kernel
theorem dX12_all_8 : decode cX12_all 8 = .ok (.aload_n 0, 1) := by decide +kernel
theorem dX12_all_9 : decode cX12_all 9 = .ok (.iconst (-1), 1) := by decide +kernel
theorem dX12_all_10 : decode cX12_all 10 = .ok (.invokevirtual 75, 3) := by decide +kernel
theorem dX12_all_13 : decode cX12_all 13 = .ok (.ireturn, 1) := by decide +kernel
theorem dX12_all_14 : decode cX12_all 14 = .ok (.sipush 255, 3) := by decide +kernel
theorem dX12_all_17 : decode cX12_all 17 = .ok (.istore_n 2, 1) := by decide +kernel
theorem dX12_all_18 : decode cX12_all 18 = .ok (.aload_n 0, 1) := by decide +kernel
theorem dX12_all_19 : decode cX12_all 19 = .ok (.getfield 29, 3) := by decide +kernel
theorem dX12_all_22 : decode cX12_all 22 = .ok (.iload_n 1, 1) := by decide +kernel
theorem dX12_all_23 : decode cX12_all 23 = .ok (.iaload, 1) := by decide +kernel
theorem dX12_all_24 : decode cX12_all 24 = .ok (.istore_n 3, 1) := by decide +kernel
theorem dX12_all_25 : decode cX12_all 25 = .ok (.iload_n 3, 1) := by decide +kernel
theorem dX12_all_26 : decode cX12_all 26 = .ok (.bipush 6, 2) := by decide +kernel
theorem dX12_all_28 : decode cX12_all 28 = .ok (.if_icmp .ge 18, 3) := by decide +kernel
theorem dX12_all_31 : decode cX12_all 31 = .ok (.iload_n 2, 1) := by decide +kernel
theorem dX12_all_32 : decode cX12_all 32 = .ok (.aload_n 0, 1) := by decide +kernel
theorem dX12_all_33 : decode cX12_all 33 = .ok (.iload_n 1, 1) := by decide +kernel
theorem dX12_all_34 : decode cX12_all 34 = .ok (.iload_n 3, 1) := by decide +kernel
theorem dX12_all_35 : decode cX12_all 35 = .ok (.invokevirtual 126, 3) := by decide +kernel
theorem dX12_all_38 : decode cX12_all 38 = .ok (.iand, 1) := by decide +kernel
theorem dX12_all_39 : decode cX12_all 39 = .ok (.istore_n 2, 1) := by decide +kernel
theorem dX12_all_40 : decode cX12_all 40 = .ok (.iinc 3 1, 3) := by decide +kernel
theorem dX12_all_43 : decode cX12_all 43 = .ok (.goto (-18), 3) := by decide +kernel
theorem dX12_all_46 : decode cX12_all 46 = .ok (.iload_n 2, 1) := by decide +kernel
theorem dX12_all_47 : decode cX12_all 47 = .ok (.ireturn, 1) := by decide +kernel
set_option maxRecDepth 20000 in
theorem ggX12_isEnough_X12_gives : GoodIn wsX12_isEnough wsX12_gives := goodIn_r _ [12, 2, 1, 13, 14, 5, 15, 16, 17, 18, 11, 19, 20, 21, 22, 28, 29, 30, 31, 32, 33, 34, 35, 36, 37, 38, 39, 40, 41, 42, 43, 44, 45, 46, 47, 48, 49, 50, 51, 52, 53, 54] (by decide +kernel) (by decide +kernel)
set_option maxRecDepth 20000 in
theorem gX12_isEnough_X12_gives : GoodIn wsX12_isEnough (wsV RX12 206 RX12 yX12_gives wsX12_gives) := goodIn_app (goodIn_of _ (by decide +kernel)) ggX12_isEnough_X12_gives
set_option maxRecDepth 20000 in
theorem ggX12_isEnough_X12_strengthOf : GoodIn wsX12_isEnough wsX12_strengthOf := goodIn_r _ [26, 27, 28, 29, 30, 31, 32, 33, 34, 35, 36, 37, 38, 39, 40, 41, 42, 43, 44, 45, 46, 47, 48, 49, 50, 51, 52, 53, 54] (by decide +kernel) (by decide +kernel)
set_option maxRecDepth 20000 in
theorem gX12_isEnough_X12_strengthOf : GoodIn wsX12_isEnough (wsV RX12 114 RX12 yX12_strengthOf wsX12_strengthOf) := goodIn_app (goodIn_of _ (by decide +kernel)) ggX12_isEnough_X12_strengthOf
theorem dX12_isEnough_0 : decode cX12_isEnough 0 = .ok (.aload_n 0, 1) := by decide +kernel
theorem dX12_isEnough_1 : decode cX12_isEnough 1 = .ok (.iload_n 1, 1) := by decide +kernel
theorem dX12_isEnough_2 : decode cX12_isEnough 2 = .ok (.iload 5, 2) := by decide +kernel
theorem dX12_isEnough_4 : decode cX12_isEnough 4 = .ok (.invokevirtual 206, 3) := by decide +kernel
theorem dX12_isEnough_7 : decode cX12_isEnough 7 = .ok (.aload_n 0, 1) := by decide +kernel
theorem dX12_isEnough_8 : decode cX12_isEnough 8 = .ok (.getfield 29, 3) := by decide +kernel
theorem dX12_isEnough_11 : decode cX12_isEnough 11 = .ok (.iload_n 1, 1) := by decide +kernel
theorem dX12_isEnough_12 : decode cX12_isEnough 12 = .ok (.iaload, 1) := by decide +kernel
theorem dX12_isEnough_13 : decode cX12_isEnough 13 = .ok (.istore 6, 2) := by decide +kernel
theorem dX12_isEnough_15 : decode cX12_isEnough 15 = .ok (.iload 6, 2) := by decide +kernel
theorem dX12_isEnough_17 : decode cX12_isEnough 17 = .ok (.bipush 6, 2) := by decide +kernel
theorem dX12_isEnough_19 : decode cX12_isEnough 19 = .ok (.if_icmp .ge 70, 3) := by decide +kernel
theorem dX12_isEnough_22 : decode cX12_isEnough 22 = .ok (.bipush 99, 2) := by decide +kernel
theorem dX12_isEnough_24 : decode cX12_isEnough 24 = .ok (.aload_n 0, 1) := by decide +kernel
theorem dX12_isEnough_25 : decode cX12_isEnough 25 = .ok (.iload_n 1, 1) := by decide +kernel
theorem dX12_isEnough_26 : decode cX12_isEnough 26 = .ok (.iload 6, 2) := by decide +kernel
theorem dX12_isEnough_28 : decode cX12_isEnough 28 = .ok (.iload_n 2, 1) := by decide +kernel
theorem dX12_isEnough_29 : decode cX12_isEnough 29 = .ok (.invokevirtual 114, 3) := by decide +kernel
theorem dX12_isEnough_32 : decode cX12_isEnough 32 = .ok (.aload_n 0, 1) := by decide +kernel
theorem dX12_isEnough_33 : decode cX12_isEnough 33 = .ok (.getfield 56, 3) := by decide +kernel
theorem dX12_isEnough_36 : decode cX12_isEnough 36 = .ok (.iload 6, 2) := by decide +kernel
theorem dX12_isEnough_38 : decode cX12_isEnough 38 = .ok (.iaload, 1) := by decide +kernel
theorem dX12_isEnough_39 : decode cX12_isEnough 39 = .ok (.iadd, 1) := by decide +kernel
theorem dX12_isEnough_40 : decode cX12_isEnough 40 = .ok (.invokestatic 210, 3) := by decide +kernel
theorem dX12_isEnough_43 : decode cX12_isEnough 43 = .ok (.aload_n 0, 1) := by decide +kernel
theorem dX12_isEnough_44 : decode cX12_isEnough 44 = .ok (.getfield 65, 3) := by decide +kernel
theorem dX12_isEnough_47 : decode cX12_isEnough 47 = .ok (.if_icmp .lt 7, 3) := by decide +kernel
theorem dX12_isEnough_50 : decode cX12_isEnough 50 = .ok (.iconst 1, 1) := by decide +kernel
theorem dX12_isEnough_51 : decode cX12_isEnough 51 = .ok (.goto 4, 3) := by decide +kernel
theorem dX12_isEnough_54 : decode cX12_isEnough 54 = .ok (.iconst 0, 1) := by decide +kernel
theorem dX12_isEnough_55 : decode cX12_isEnough 55 = .ok (.istore 7, 2) := by decide +kernel
theorem dX12_isEnough_57 : decode cX12_isEnough 57 = .ok (.iload 6, 2) := by decide +kernel
theorem dX12_isEnough_59 : decode cX12_isEnough 59 = .ok (.iload_n 3, 1) := by decide +kernel
theorem dX12_isEnough_60 : decode cX12_isEnough 60 = .ok (.if_icmp .gt 11, 3) := by decide +kernel
theorem dX12_isEnough_63 : decode cX12_isEnough 63 = .ok (.iload 7, 2) := by decide +kernel
theorem dX12_isEnough_65 : decode cX12_isEnough 65 = .ok (.ifCond .ne 18, 3) := by decide +kernel
theorem dX12_isEnough_68 : decode cX12_isEnough 68 = .ok (.goto 13, 3) := by decide +kernel
theorem dX12_isEnough_71 : decode cX12_isEnough 71 = .ok (.iload 4, 2) := by decide +kernel
theorem dX12_isEnough_73 : decode cX12_isEnough 73 = .ok (.ifCond .eq 10, 3) := by decide +kernel
theorem dX12_isEnough_76 : decode cX12_isEnough 76 = .ok (.iload 7, 2) := by decide +kernel
theorem dX12_isEnough_78 : decode cX12_isEnough 78 = .ok (.ifCond .eq 5, 3) := by decide +kernel
theorem dX12_isEnough_81 : decode cX12_isEnough 81 = .ok (.iconst 0, 1) := by decide +kernel
theorem dX12_isEnough_82 : decode cX12_isEnough 82 = .ok (.ireturn, 1) := by decide +kernel
theorem dX12_isEnough_83 : decode cX12_isEnough 83 = .ok (.iinc 6 1, 3) := by decide +kernel
theorem dX12_isEnough_86 : decode cX12_isEnough 86 = .ok (.goto (-71), 3) := by decide +kernel
theorem dX12_isEnough_89 : decode cX12_isEnough 89 = .ok (.iconst 1, 1) := by decide +kernel
theorem dX12_isEnough_90 : decode cX12_isEnough 90 = .ok (.ireturn, 1) := by decide +kernel
set_option maxRecDepth 20000 in
theorem ggX12_force_X12_isPerson : GoodIn wsX12_force wsX12_isPerson := goodIn_r _ [5, 6, 7, 8, 4, 9, 59, 60, 61, 62, 63, 64, 65, 66, 67, 68, 69, 70, 71, 72, 73, 74, 75, 76, 77, 78, 79, 80, 81, 82, 83, 84, 85] (by decide +kernel) (by decide +kernel)
set_option maxRecDepth 20000 in
theorem gX12_force_X12_isPerson : GoodIn wsX12_force (wsV RX12 96 RX12 yX12_isPerson wsX12_isPerson) := goodIn_app (goodIn_of _ (by decide +kernel)) ggX12_force_X12_isPerson
set_option maxRecDepth 20000 in
theorem ggX12_force_X12_no10 : GoodIn wsX12_force wsX12_no10 := goodIn_r _ [13, 14, 15, 16, 4, 17, 18, 59, 60, 61, 62, 63, 64, 65, 66, 67, 68, 69, 70, 71, 72, 73, 74, 75, 76, 77, 78, 79, 80, 81, 82, 83, 84, 85] (by decide +kernel) (by decide +kernel)
set_option maxRecDepth 20000 in
theorem gX12_force_X12_no10 : GoodIn wsX12_force (wsV RX12 216 RX12 yX12_no10 wsX12_no10) := goodIn_app (goodIn_of _ (by decide +kernel)) ggX12_force_X12_no10
set_option maxRecDepth 20000 in
theorem ggX12_force_X12_within : GoodIn wsX12_force wsX12_within := goodIn_r _ [9] (by decide +kernel) (by decide +kernel)
set_option maxRecDepth 20000 in
theorem gX12_force_X12_within : GoodIn wsX12_force (va_wsS RX12 82 yX12_within wsX12_within) := goodIn_app (goodIn_of _ (by decide +kernel)) ggX12_force_X12_within
set_option maxRecDepth 20000 in
theorem ggX12_force_X12_isDeed : GoodIn wsX12_force wsX12_isDeed := goodIn_r _ [21, 7, 8, 4, 9] (by decide +kernel) (by decide +kernel)
set_option maxRecDepth 20000 in
theorem gX12_force_X12_isDeed : GoodIn wsX12_force (va_wsS RX12 132 yX12_isDeed wsX12_isDeed) := goodIn_app (goodIn_of _ (by decide +kernel)) ggX12_force_X12_isDeed
set_option maxRecDepth 20000 in
theorem ggX12_force_X12_lives : GoodIn wsX12_force wsX12_lives := goodIn_r _ [25, 26, 27, 28, 4, 29, 7, 8, 9, 59, 60, 61, 62, 63, 64, 65, 66, 67, 68, 69, 70, 71, 72, 73, 74, 75, 76, 77, 78, 79, 80, 81, 82, 83, 84, 85] (by decide +kernel) (by decide +kernel)
set_option maxRecDepth 20000 in
theorem gX12_force_X12_lives : GoodIn wsX12_force (wsV RX12 129 RX12 yX12_lives wsX12_lives) := goodIn_app (goodIn_of _ (by decide +kernel)) ggX12_force_X12_lives
set_option maxRecDepth 20000 in
theorem ggX12_force_X12_isEnough : GoodIn wsX12_force wsX12_isEnough := goodIn_r _ [33, 26, 34, 35, 36, 37, 38, 39, 40, 41, 42, 4, 43, 44, 45, 46, 47, 48, 49, 50, 51, 52, 53, 54, 55, 56, 57, 58, 59, 60, 61, 62, 63, 64, 65, 66, 67, 68, 69, 70, 71, 72, 73, 74, 75, 76, 77, 78, 79, 80, 81, 82, 83, 84, 85] (by decide +kernel) (by decide +kernel)
set_option maxRecDepth 20000 in
theorem gX12_force_X12_isEnough : GoodIn wsX12_force (wsV RX12 219 RX12 yX12_isEnough wsX12_isEnough) := goodIn_app (goodIn_of _ (by decide +kernel)) ggX12_force_X12_isEnough
theorem dX12_force_0 : decode cX12_force 0 = .ok (.aload_n 0, 1) := by decide +kernel
theorem dX12_force_1 : decode cX12_force 1 = .ok (.iload_n 1, 1) := by decide +kernel
theorem dX12_force_2 : decode cX12_force 2 = .ok (.invokevirtual 96, 3) := by decide +kernel
theorem dX12_force_5 : decode cX12_force 5 = .ok (.ifCond .ne 9, 3) := by decide +kernel
theorem dX12_force_8 : decode cX12_force 8 = .ok (.aload_n 0, 1) := by decide +kernel
theorem dX12_force_9 : decode cX12_force 9 = .ok (.iconst (-1), 1) := by decide +kernel
theorem dX12_force_10 : decode cX12_force 10 = .ok (.invokevirtual 216, 3) := by decide +kernel
theorem dX12_force_13 : decode cX12_force 13 = .ok (.ireturn, 1) := by decide +kernel
theorem dX12_force_14 : decode cX12_force 14 = .ok (.iload 4, 2) := by decide +kernel
theorem dX12_force_16 : decode cX12_force 16 = .ok (.iconst 0, 1) := by decide +kernel
theorem dX12_force_17 : decode cX12_force 17 = .ok (.iconst 1, 1) := by decide +kernel
theorem dX12_force_18 : decode cX12_force 18 = .ok (.invokestatic 82, 3) := by decide +kernel
theorem dX12_force_21 : decode cX12_force 21 = .ok (.ifCond .ne 10, 3) := by decide +kernel
theorem dX12_force_24 : decode cX12_force 24 = .ok (.aload_n 0, 1) := by decide +kernel
theorem dX12_force_25 : decode cX12_force 25 = .ok (.bipush (-5), 2) := by decide +kernel
theorem dX12_force_27 : decode cX12_force 27 = .ok (.invokevirtual 216, 3) := by decide +kernel
theorem dX12_force_30 : decode cX12_force 30 = .ok (.ireturn, 1) := by decide +kernel
theorem dX12_force_31 : decode cX12_force 31 = .ok (.iload_n 2, 1) := by decide +kernel
theorem dX12_force_32 : decode cX12_force 32 = .ok (.invokestatic 132, 3) := by decide +kernel
theorem dX12_force_35 : decode cX12_force 35 = .ok (.ifCond .eq 12, 3) := by decide +kernel
theorem dX12_force_38 : decode cX12_force 38 = .ok (.aload_n 0, 1) := by decide +kernel
theorem dX12_force_39 : decode cX12_force 39 = .ok (.iload_n 1, 1) := by decide +kernel
theorem dX12_force_40 : decode cX12_force 40 = .ok (.iload_n 3, 1) := by decide +kernel
theorem dX12_force_41 : decode cX12_force 41 = .ok (.invokevirtual 129, 3) := by decide +kernel
theorem dX12_force_44 : decode cX12_force 44 = .ok (.ifCond .ne 10, 3) := by decide +kernel
theorem dX12_force_47 : decode cX12_force 47 = .ok (.aload_n 0, 1) := by decide +kernel
theorem dX12_force_48 : decode cX12_force 48 = .ok (.bipush (-6), 2) := by decide +kernel
theorem dX12_force_50 : decode cX12_force 50 = .ok (.invokevirtual 216, 3) := by decide +kernel
theorem dX12_force_53 : decode cX12_force 53 = .ok (.ireturn, 1) := by decide +kernel
theorem dX12_force_54 : decode cX12_force 54 = .ok (.iconst 1, 1) := by decide +kernel
theorem dX12_force_55 : decode cX12_force 55 = .ok (.istore 5, 2) := by decide +kernel
theorem dX12_force_57 : decode cX12_force 57 = .ok (.iload 5, 2) := by decide +kernel
theorem dX12_force_59 : decode cX12_force 59 = .ok (.bipush 100, 2) := by decide +kernel
theorem dX12_force_61 : decode cX12_force 61 = .ok (.if_icmp .ge 35, 3) := by decide +kernel
theorem dX12_force_64 : decode cX12_force 64 = .ok (.aload_n 0, 1) := by decide +kernel
theorem dX12_force_65 : decode cX12_force 65 = .ok (.iload_n 1, 1) := by decide +kernel
theorem dX12_force_66 : decode cX12_force 66 = .ok (.iload_n 2, 1) := by decide +kernel
theorem dX12_force_67 : decode cX12_force 67 = .ok (.iload_n 3, 1) := by decide +kernel
theorem dX12_force_68 : decode cX12_force 68 = .ok (.iload 4, 2) := by decide +kernel
theorem dX12_force_70 : decode cX12_force 70 = .ok (.iconst 1, 1) := by decide +kernel
theorem dX12_force_71 : decode cX12_force 71 = .ok (.if_icmp .ne 7, 3) := by decide +kernel
theorem dX12_force_74 : decode cX12_force 74 = .ok (.iconst 1, 1) := by decide +kernel
theorem dX12_force_75 : decode cX12_force 75 = .ok (.goto 4, 3) := by decide +kernel
theorem dX12_force_78 : decode cX12_force 78 = .ok (.iconst 0, 1) := by decide +kernel
theorem dX12_force_79 : decode cX12_force 79 = .ok (.iload 5, 2) := by decide +kernel
theorem dX12_force_81 : decode cX12_force 81 = .ok (.invokevirtual 219, 3) := by decide +kernel
theorem dX12_force_84 : decode cX12_force 84 = .ok (.ifCond .eq 6, 3) := by decide +kernel
theorem dX12_force_87 : decode cX12_force 87 = .ok (.iload 5, 2) := by decide +kernel
theorem dX12_force_89 : decode cX12_force 89 = .ok (.ireturn, 1) := by decide +kernel
theorem dX12_force_90 : decode cX12_force 90 = .ok (.iinc 5 1, 3) := by decide +kernel
theorem dX12_force_93 : decode cX12_force 93 = .ok (.goto (-36), 3) := by decide +kernel
theorem dX12_force_96 : decode cX12_force 96 = .ok (.iconst (-1), 1) := by decide +kernel
theorem dX12_force_97 : decode cX12_force 97 = .ok (.ireturn, 1) := by decide +kernel
set_option maxRecDepth 20000 in
theorem ggX12_got_X12_isPerson : GoodIn wsX12_got wsX12_isPerson := goodIn_r _ [6, 7, 8, 9, 5, 10, 39, 40, 41, 42, 43, 44, 45, 46, 47, 48, 49, 50, 51, 52, 53, 54, 55, 56, 57, 58, 59, 60, 61, 62, 63, 64, 65] (by decide +kernel) (by decide +kernel)
set_option maxRecDepth 20000 in
theorem gX12_got_X12_isPerson : GoodIn wsX12_got (wsV RX12 96 RX12 yX12_isPerson wsX12_isPerson) := goodIn_app (goodIn_of _ (by decide +kernel)) ggX12_got_X12_isPerson
set_option maxRecDepth 20000 in
theorem ggX12_got_X12_no : GoodIn wsX12_got wsX12_no := goodIn_r _ [14, 15, 39, 40, 41, 42, 43, 44, 45, 46, 47, 48, 49, 50, 51, 52, 53, 54, 55, 56, 57, 58, 59, 60, 61, 62, 63, 64, 65] (by decide +kernel) (by decide +kernel)
set_option maxRecDepth 20000 in
theorem gX12_got_X12_no : GoodIn wsX12_got (wsV RX12 75 RX12 yX12_no wsX12_no) := goodIn_app (goodIn_of _ (by decide +kernel)) ggX12_got_X12_no
set_option maxRecDepth 20000 in
theorem ggX12_got_X12_lives : GoodIn wsX12_got wsX12_lives := goodIn_r _ [19, 20, 21, 22, 5, 23, 8, 9, 10, 39, 40, 41, 42, 43, 44, 45, 46, 47, 48, 49, 50, 51, 52, 53, 54, 55, 56, 57, 58, 59, 60, 61, 62, 63, 64, 65] (by decide +kernel) (by decide +kernel)
set_option maxRecDepth 20000 in
theorem gX12_got_X12_lives : GoodIn wsX12_got (wsV RX12 129 RX12 yX12_lives wsX12_lives) := goodIn_app (goodIn_of _ (by decide +kernel)) ggX12_got_X12_lives
set_option maxRecDepth 20000 in
theorem ggX12_got_X12_within : GoodIn wsX12_got wsX12_within := goodIn_r _ [10] (by decide +kernel) (by decide +kernel)
set_option maxRecDepth 20000 in
theorem gX12_got_X12_within : GoodIn wsX12_got (va_wsS RX12 82 yX12_within wsX12_within) := goodIn_app (goodIn_of _ (by decide +kernel)) ggX12_got_X12_within
set_option maxRecDepth 20000 in
theorem ggX12_got_X12_gives : GoodIn wsX12_got wsX12_gives := goodIn_r _ [27, 1, 20, 28, 29, 30, 31, 32, 33, 34, 5, 35, 36, 37, 38, 39, 40, 41, 42, 43, 44, 45, 46, 47, 48, 49, 50, 51, 52, 53, 54, 55, 56, 57, 58, 59, 60, 61, 62, 63, 64, 65] (by decide +kernel) (by decide +kernel)
set_option maxRecDepth 20000 in
theorem gX12_got_X12_gives : GoodIn wsX12_got (wsV RX12 206 RX12 yX12_gives wsX12_gives) := goodIn_app (goodIn_of _ (by decide +kernel)) ggX12_got_X12_gives
theorem dX12_got_0 : decode cX12_got 0 = .ok (.aload_n 0, 1) := by decide +kernel
theorem dX12_got_1 : decode cX12_got 1 = .ok (.iload_n 1, 1) := by decide +kernel
theorem dX12_got_2 : decode cX12_got 2 = .ok (.invokevirtual 96, 3) := by decide +kernel
theorem dX12_got_5 : decode cX12_got 5 = .ok (.ifCond .ne 9, 3) := by decide +kernel
theorem dX12_got_8 : decode cX12_got 8 = .ok (.aload_n 0, 1) := by decide +kernel
theorem dX12_got_9 : decode cX12_got 9 = .ok (.iconst (-1), 1) := by decide +kernel
theorem dX12_got_10 : decode cX12_got 10 = .ok (.invokevirtual 75, 3) := by decide +kernel
theorem dX12_got_13 : decode cX12_got 13 = .ok (.ireturn, 1) := by decide +kernel
theorem dX12_got_14 : decode cX12_got 14 = .ok (.aload_n 0, 1) := by decide +kernel
theorem dX12_got_15 : decode cX12_got 15 = .ok (.iload_n 1, 1) := by decide +kernel
theorem dX12_got_16 : decode cX12_got 16 = .ok (.iload_n 2, 1) := by decide +kernel
theorem dX12_got_17 : decode cX12_got 17 = .ok (.invokevirtual 129, 3) := by decide +kernel
theorem dX12_got_20 : decode cX12_got 20 = .ok (.ifCond .eq 13, 3) := by decide +kernel
theorem dX12_got_23 : decode cX12_got 23 = .ok (.iload_n 3, 1) := by decide +kernel
theorem dX12_got_24 : decode cX12_got 24 = .ok (.iconst 1, 1) := by decide +kernel
theorem dX12_got_25 : decode cX12_got 25 = .ok (.bipush 99, 2) := by decide +kernel
theorem dX12_got_27 : decode cX12_got 27 = .ok (.invokestatic 82, 3) := by decide +kernel
theorem dX12_got_30 : decode cX12_got 30 = .ok (.ifCond .ne 10, 3) := by decide +kernel
theorem dX12_got_33 : decode cX12_got 33 = .ok (.aload_n 0, 1) := by decide +kernel
theorem dX12_got_34 : decode cX12_got 34 = .ok (.bipush (-6), 2) := by decide +kernel
theorem dX12_got_36 : decode cX12_got 36 = .ok (.invokevirtual 75, 3) := by decide +kernel
theorem dX12_got_39 : decode cX12_got 39 = .ok (.ireturn, 1) := by decide +kernel
theorem dX12_got_40 : decode cX12_got 40 = .ok (.aload_n 0, 1) := by decide +kernel
theorem dX12_got_41 : decode cX12_got 41 = .ok (.iload_n 1, 1) := by decide +kernel
theorem dX12_got_42 : decode cX12_got 42 = .ok (.iload_n 3, 1) := by decide +kernel
theorem dX12_got_43 : decode cX12_got 43 = .ok (.invokevirtual 206, 3) := by decide +kernel
theorem dX12_got_46 : decode cX12_got 46 = .ok (.aload_n 0, 1) := by decide +kernel
theorem dX12_got_47 : decode cX12_got 47 = .ok (.getfield 56, 3) := by decide +kernel
theorem dX12_got_50 : decode cX12_got 50 = .ok (.iload_n 2, 1) := by decide +kernel
theorem dX12_got_51 : decode cX12_got 51 = .ok (.iaload, 1) := by decide +kernel
theorem dX12_got_52 : decode cX12_got 52 = .ok (.ireturn, 1) := by decide +kernel
theorem dX12_toldAt_0 : decode cX12_toldAt 0 = .ok (.aload_n 0, 1) := by decide +kernel
theorem dX12_toldAt_1 : decode cX12_toldAt 1 = .ok (.getfield 16, 3) := by decide +kernel
theorem dX12_toldAt_4 : decode cX12_toldAt 4 = .ok (.sipush 160, 3) := by decide +kernel
theorem dX12_toldAt_7 : decode cX12_toldAt 7 = .ok (.iload_n 1, 1) := by decide +kernel
theorem dX12_toldAt_8 : decode cX12_toldAt 8 = .ok (.imul, 1) := by decide +kernel
theorem dX12_toldAt_9 : decode cX12_toldAt 9 = .ok (.iload_n 2, 1) := by decide +kernel
theorem dX12_toldAt_10 : decode cX12_toldAt 10 = .ok (.iadd, 1) := by decide +kernel
theorem dX12_toldAt_11 : decode cX12_toldAt 11 = .ok (.laload, 1) := by decide +kernel
theorem dX12_toldAt_12 : decode cX12_toldAt 12 = .ok (.l2i, 1) := by decide +kernel
theorem dX12_toldAt_13 : decode cX12_toldAt 13 = .ok (.ireturn, 1) := by decide +kernel
set_option maxRecDepth 20000 in
theorem ggX12_noTold_X12_noRow : GoodIn wsX12_noTold wsX12_noRow := goodIn_r _ [6, 7, 8, 9, 5, 10, 11, 12, 13, 14, 15, 16, 17, 18, 19, 20, 21, 22, 23, 24, 25, 26, 27, 28, 29, 30, 31, 32, 33, 34, 35, 36, 37, 38, 39, 40, 41] (by decide +kernel) (by decide +kernel)
set_option maxRecDepth 20000 in
theorem gX12_noTold_X12_noRow : GoodIn wsX12_noTold (wsV RX12 93 RX12 yX12_noRow wsX12_noRow) := goodIn_app (goodIn_of _ (by decide +kernel)) ggX12_noTold_X12_noRow
set_option maxRecDepth 20000 in
theorem ggX12_noTold_X12_within : GoodIn wsX12_noTold wsX12_within := goodIn_r _ [10] (by decide +kernel) (by decide +kernel)
set_option maxRecDepth 20000 in
theorem gX12_noTold_X12_within : GoodIn wsX12_noTold (va_wsS RX12 82 yX12_within wsX12_within) := goodIn_app (goodIn_of _ (by decide +kernel)) ggX12_noTold_X12_within
theorem dX12_noTold_0 : decode cX12_noTold 0 = .ok (.aload_n 0, 1) := by decide +kernel
theorem dX12_noTold_1 : decode cX12_noTold 1 = .ok (.iload_n 1, 1) := by decide +kernel
theorem dX12_noTold_2 : decode cX12_noTold 2 = .ok (.invokevirtual 93, 3) := by decide +kernel
theorem dX12_noTold_5 : decode cX12_noTold 5 = .ok (.istore 5, 2) := by decide +kernel
theorem dX12_noTold_7 : decode cX12_noTold 7 = .ok (.iload 5, 2) := by decide +kernel
theorem dX12_noTold_9 : decode cX12_noTold 9 = .ok (.ifCond .ge 6, 3) := by decide +kernel
theorem dX12_noTold_12 : decode cX12_noTold 12 = .ok (.iload 5, 2) := by decide +kernel
theorem dX12_noTold_14 : decode cX12_noTold 14 = .ok (.ireturn, 1) := by decide +kernel
theorem dX12_noTold_15 : decode cX12_noTold 15 = .ok (.iload_n 2, 1) := by decide +kernel
theorem dX12_noTold_16 : decode cX12_noTold 16 = .ok (.ifCond .ge 6, 3) := by decide +kernel
theorem dX12_noTold_19 : decode cX12_noTold 19 = .ok (.bipush (-4), 2) := by decide +kernel
theorem dX12_noTold_21 : decode cX12_noTold 21 = .ok (.ireturn, 1) := by decide +kernel
theorem dX12_noTold_22 : decode cX12_noTold 22 = .ok (.iload_n 2, 1) := by decide +kernel
theorem dX12_noTold_23 : decode cX12_noTold 23 = .ok (.aload_n 0, 1) := by decide +kernel
theorem dX12_noTold_24 : decode cX12_noTold 24 = .ok (.getfield 13, 3) := by decide +kernel
theorem dX12_noTold_27 : decode cX12_noTold 27 = .ok (.iload_n 1, 1) := by decide +kernel
theorem dX12_noTold_28 : decode cX12_noTold 28 = .ok (.iaload, 1) := by decide +kernel
theorem dX12_noTold_29 : decode cX12_noTold 29 = .ok (.if_icmp .le 6, 3) := by decide +kernel
theorem dX12_noTold_32 : decode cX12_noTold 32 = .ok (.bipush (-5), 2) := by decide +kernel
theorem dX12_noTold_34 : decode cX12_noTold 34 = .ok (.ireturn, 1) := by decide +kernel
theorem dX12_noTold_35 : decode cX12_noTold 35 = .ok (.iload_n 2, 1) := by decide +kernel
theorem dX12_noTold_36 : decode cX12_noTold 36 = .ok (.iload_n 3, 1) := by decide +kernel
theorem dX12_noTold_37 : decode cX12_noTold 37 = .ok (.iload 4, 2) := by decide +kernel
theorem dX12_noTold_39 : decode cX12_noTold 39 = .ok (.invokestatic 82, 3) := by decide +kernel
theorem dX12_noTold_42 : decode cX12_noTold 42 = .ok (.ifCond .eq 7, 3) := by decide +kernel
theorem dX12_noTold_45 : decode cX12_noTold 45 = .ok (.iconst 0, 1) := by decide +kernel
theorem dX12_noTold_46 : decode cX12_noTold 46 = .ok (.goto 5, 3) := by decide +kernel
theorem dX12_noTold_49 : decode cX12_noTold 49 = .ok (.bipush (-6), 2) := by decide +kernel
theorem dX12_noTold_51 : decode cX12_noTold 51 = .ok (.ireturn, 1) := by decide +kernel
set_option maxRecDepth 20000 in
theorem ggX12_fits_X12_lives : GoodIn wsX12_fits wsX12_lives := goodIn_r _ [9, 10, 11, 12, 8, 13, 14, 15, 16, 27, 28, 29, 30, 31, 32, 33, 34, 35, 36, 37, 38, 39, 40, 41, 42, 43, 44, 45, 46, 47, 48, 49, 50, 51, 52, 53] (by decide +kernel) (by decide +kernel)
set_option maxRecDepth 20000 in
theorem gX12_fits_X12_lives : GoodIn wsX12_fits (wsV RX12 129 RX12 yX12_lives wsX12_lives) := goodIn_app (goodIn_of _ (by decide +kernel)) ggX12_fits_X12_lives
set_option maxRecDepth 20000 in
theorem ggX12_fits_X12_toldAt : GoodIn wsX12_fits wsX12_toldAt := goodIn_r _ [20, 21, 27, 28, 29, 30, 31, 32, 33, 34, 35, 36, 37, 38, 39, 40, 41, 42, 43, 44, 45, 46, 47, 48, 49, 50, 51, 52, 53] (by decide +kernel) (by decide +kernel)
set_option maxRecDepth 20000 in
theorem gX12_fits_X12_toldAt : GoodIn wsX12_fits (wsV RX12 223 RX12 yX12_toldAt wsX12_toldAt) := goodIn_app (goodIn_of _ (by decide +kernel)) ggX12_fits_X12_toldAt
set_option maxRecDepth 20000 in
theorem ggX12_fits_X12_strengthOf : GoodIn wsX12_fits wsX12_strengthOf := goodIn_r _ [25, 26, 27, 28, 29, 30, 31, 32, 33, 34, 35, 36, 37, 38, 39, 40, 41, 42, 43, 44, 45, 46, 47, 48, 49, 50, 51, 52, 53] (by decide +kernel) (by decide +kernel)
set_option maxRecDepth 20000 in
theorem gX12_fits_X12_strengthOf : GoodIn wsX12_fits (wsV RX12 114 RX12 yX12_strengthOf wsX12_strengthOf) := goodIn_app (goodIn_of _ (by decide +kernel)) ggX12_fits_X12_strengthOf
theorem dX12_fits_0 : decode cX12_fits 0 = .ok (.aload_n 0, 1) := by decide +kernel
theorem dX12_fits_1 : decode cX12_fits 1 = .ok (.iload 4, 2) := by decide +kernel
theorem dX12_fits_3 : decode cX12_fits 3 = .ok (.iload 5, 2) := by decide +kernel
theorem dX12_fits_5 : decode cX12_fits 5 = .ok (.invokevirtual 129, 3) := by decide +kernel
theorem dX12_fits_8 : decode cX12_fits 8 = .ok (.ifCond .ne 5, 3) := by decide +kernel
theorem dX12_fits_11 : decode cX12_fits 11 = .ok (.iconst 0, 1) := by decide +kernel
theorem dX12_fits_12 : decode cX12_fits 12 = .ok (.ireturn, 1) := by decide +kernel
theorem dX12_fits_13 : decode cX12_fits 13 = .ok (.iconst 0, 1) := by decide +kernel
theorem dX12_fits_14 : decode cX12_fits 14 = .ok (.istore 6, 2) := by decide +kernel
theorem dX12_fits_16 : decode cX12_fits 16 = .ok (.iload 6, 2) := by decide +kernel
theorem dX12_fits_18 : decode cX12_fits 18 = .ok (.iload_n 2, 1) := by decide +kernel
theorem dX12_fits_19 : decode cX12_fits 19 = .ok (.if_icmp .ge 40, 3) := by decide +kernel
theorem dX12_fits_22 : decode cX12_fits 22 = .ok (.aload_n 0, 1) := by decide +kernel
theorem dX12_fits_23 : decode cX12_fits 23 = .ok (.iload_n 1, 1) := by decide +kernel
theorem dX12_fits_24 : decode cX12_fits 24 = .ok (.iload 6, 2) := by decide +kernel
theorem dX12_fits_26 : decode cX12_fits 26 = .ok (.invokevirtual 223, 3) := by decide +kernel
theorem dX12_fits_29 : decode cX12_fits 29 = .ok (.i2l, 1) := by decide +kernel
theorem dX12_fits_30 : decode cX12_fits 30 = .ok (.aload_n 0, 1) := by decide +kernel
theorem dX12_fits_31 : decode cX12_fits 31 = .ok (.iload 4, 2) := by decide +kernel
theorem dX12_fits_33 : decode cX12_fits 33 = .ok (.iload 5, 2) := by decide +kernel
theorem dX12_fits_35 : decode cX12_fits 35 = .ok (.iload 6, 2) := by decide +kernel
theorem dX12_fits_37 : decode cX12_fits 37 = .ok (.invokevirtual 114, 3) := by decide +kernel
theorem dX12_fits_40 : decode cX12_fits 40 = .ok (.i2l, 1) := by decide +kernel
theorem dX12_fits_41 : decode cX12_fits 41 = .ok (.lsub, 1) := by decide +kernel
theorem dX12_fits_42 : decode cX12_fits 42 = .ok (.invokestatic 226, 3) := by decide +kernel
theorem dX12_fits_45 : decode cX12_fits 45 = .ok (.iload_n 3, 1) := by decide +kernel
theorem dX12_fits_46 : decode cX12_fits 46 = .ok (.i2l, 1) := by decide +kernel
theorem dX12_fits_47 : decode cX12_fits 47 = .ok (.lcmp, 1) := by decide +kernel
theorem dX12_fits_48 : decode cX12_fits 48 = .ok (.ifCond .le 5, 3) := by decide +kernel
theorem dX12_fits_51 : decode cX12_fits 51 = .ok (.iconst 0, 1) := by decide +kernel
theorem dX12_fits_52 : decode cX12_fits 52 = .ok (.ireturn, 1) := by decide +kernel
theorem dX12_fits_53 : decode cX12_fits 53 = .ok (.iinc 6 1, 3) := by decide +kernel
theorem dX12_fits_56 : decode cX12_fits 56 = .ok (.goto (-40), 3) := by decide +kernel
theorem dX12_fits_59 : decode cX12_fits 59 = .ok (.iconst 1, 1) := by decide +kernel
theorem dX12_fits_60 : decode cX12_fits 60 = .ok (.ireturn, 1) := by decide +kernel
set_option maxRecDepth 20000 in
theorem ggX12_which_X12_noTold : GoodIn wsX12_which wsX12_noTold := goodIn_r _ [6, 7, 8, 9, 10, 5, 11, 12, 13, 14, 15, 16, 17, 18, 19, 51, 52, 53, 54, 55, 56, 57, 58, 59, 60, 61, 62, 63, 64, 65, 66, 67, 68, 69, 70, 71, 72, 73, 74, 75, 76, 77] (by decide +kernel) (by decide +kernel)
set_option maxRecDepth 20000 in
theorem gX12_which_X12_noTold : GoodIn wsX12_which (wsV RX12 230 RX12 yX12_noTold wsX12_noTold) := goodIn_app (goodIn_of _ (by decide +kernel)) ggX12_which_X12_noTold
set_option maxRecDepth 20000 in
theorem ggX12_which_X12_within : GoodIn wsX12_which wsX12_within := goodIn_r _ [15] (by decide +kernel) (by decide +kernel)
set_option maxRecDepth 20000 in
theorem gX12_which_X12_within : GoodIn wsX12_which (va_wsS RX12 82 yX12_within wsX12_within) := goodIn_app (goodIn_of _ (by decide +kernel)) ggX12_which_X12_within
set_option maxRecDepth 20000 in
theorem ggX12_which_X12_no : GoodIn wsX12_which wsX12_no := goodIn_r _ [23, 24, 51, 52, 53, 54, 55, 56, 57, 58, 59, 60, 61, 62, 63, 64, 65, 66, 67, 68, 69, 70, 71, 72, 73, 74, 75, 76, 77] (by decide +kernel) (by decide +kernel)
set_option maxRecDepth 20000 in
theorem gX12_which_X12_no : GoodIn wsX12_which (wsV RX12 75 RX12 yX12_no wsX12_no) := goodIn_app (goodIn_of _ (by decide +kernel)) ggX12_which_X12_no
set_option maxRecDepth 20000 in
theorem ggX12_which_X12_fits : GoodIn wsX12_which wsX12_fits := goodIn_r _ [28, 29, 30, 31, 32, 33, 34, 35, 5, 36, 37, 38, 39, 40, 13, 14, 15, 41, 42, 43, 44, 45, 46, 47, 48, 49, 50, 51, 52, 53, 54, 55, 56, 57, 58, 59, 60, 61, 62, 63, 64, 65, 66, 67, 68, 69, 70, 71, 72, 73, 74, 75, 76, 77] (by decide +kernel) (by decide +kernel)
set_option maxRecDepth 20000 in
theorem gX12_which_X12_fits : GoodIn wsX12_which (wsV RX12 234 RX12 yX12_fits wsX12_fits) := goodIn_app (goodIn_of _ (by decide +kernel)) ggX12_which_X12_fits
theorem dX12_which_0 : decode cX12_which 0 = .ok (.aload_n 0, 1) := by decide +kernel
theorem dX12_which_1 : decode cX12_which 1 = .ok (.iload_n 1, 1) := by decide +kernel
theorem dX12_which_2 : decode cX12_which 2 = .ok (.iload_n 2, 1) := by decide +kernel
theorem dX12_which_3 : decode cX12_which 3 = .ok (.iconst 1, 1) := by decide +kernel
theorem dX12_which_4 : decode cX12_which 4 = .ok (.bipush 8, 2) := by decide +kernel
theorem dX12_which_6 : decode cX12_which 6 = .ok (.invokevirtual 230, 3) := by decide +kernel
theorem dX12_which_9 : decode cX12_which 9 = .ok (.istore 5, 2) := by decide +kernel
theorem dX12_which_11 : decode cX12_which 11 = .ok (.iload 5, 2) := by decide +kernel
theorem dX12_which_13 : decode cX12_which 13 = .ok (.ifCond .ne 17, 3) := by decide +kernel
theorem dX12_which_16 : decode cX12_which 16 = .ok (.iload_n 3, 1) := by decide +kernel
theorem dX12_which_17 : decode cX12_which 17 = .ok (.iconst 0, 1) := by decide +kernel
theorem dX12_which_18 : decode cX12_which 18 = .ok (.bipush 20, 2) := by decide +kernel
theorem dX12_which_20 : decode cX12_which 20 = .ok (.invokestatic 82, 3) := by decide +kernel
theorem dX12_which_23 : decode cX12_which 23 = .ok (.ifCond .ne 7, 3) := by decide +kernel
theorem dX12_which_26 : decode cX12_which 26 = .ok (.bipush (-6), 2) := by decide +kernel
theorem dX12_which_28 : decode cX12_which 28 = .ok (.istore 5, 2) := by decide +kernel
theorem dX12_which_30 : decode cX12_which 30 = .ok (.iload 5, 2) := by decide +kernel
theorem dX12_which_32 : decode cX12_which 32 = .ok (.ifCond .ge 10, 3) := by decide +kernel
theorem dX12_which_35 : decode cX12_which 35 = .ok (.aload_n 0, 1) := by decide +kernel
theorem dX12_which_36 : decode cX12_which 36 = .ok (.iload 5, 2) := by decide +kernel
theorem dX12_which_38 : decode cX12_which 38 = .ok (.invokevirtual 75, 3) := by decide +kernel
theorem dX12_which_41 : decode cX12_which 41 = .ok (.ireturn, 1) := by decide +kernel
theorem dX12_which_42 : decode cX12_which 42 = .ok (.iconst 0, 1) := by decide +kernel
theorem dX12_which_43 : decode cX12_which 43 = .ok (.istore 6, 2) := by decide +kernel
theorem dX12_which_45 : decode cX12_which 45 = .ok (.iconst (-1), 1) := by decide +kernel
theorem dX12_which_46 : decode cX12_which 46 = .ok (.istore 7, 2) := by decide +kernel
theorem dX12_which_48 : decode cX12_which 48 = .ok (.iconst 0, 1) := by decide +kernel
theorem dX12_which_49 : decode cX12_which 49 = .ok (.istore 8, 2) := by decide +kernel
theorem dX12_which_51 : decode cX12_which 51 = .ok (.iload 8, 2) := by decide +kernel
theorem dX12_which_53 : decode cX12_which 53 = .ok (.aload_n 0, 1) := by decide +kernel
theorem dX12_which_54 : decode cX12_which 54 = .ok (.getfield 79, 3) := by decide +kernel
theorem dX12_which_57 : decode cX12_which 57 = .ok (.if_icmp .ge 59, 3) := by decide +kernel
theorem dX12_which_60 : decode cX12_which 60 = .ok (.iconst 0, 1) := by decide +kernel
theorem dX12_which_61 : decode cX12_which 61 = .ok (.istore 9, 2) := by decide +kernel
theorem dX12_which_63 : decode cX12_which 63 = .ok (.iload 9, 2) := by decide +kernel
theorem dX12_which_65 : decode cX12_which 65 = .ok (.bipush 6, 2) := by decide +kernel
theorem dX12_which_67 : decode cX12_which 67 = .ok (.if_icmp .ge 43, 3) := by decide +kernel
theorem dX12_which_70 : decode cX12_which 70 = .ok (.aload_n 0, 1) := by decide +kernel
theorem dX12_which_71 : decode cX12_which 71 = .ok (.iload_n 1, 1) := by decide +kernel
theorem dX12_which_72 : decode cX12_which 72 = .ok (.iload_n 2, 1) := by decide +kernel
theorem dX12_which_73 : decode cX12_which 73 = .ok (.iload_n 3, 1) := by decide +kernel
theorem dX12_which_74 : decode cX12_which 74 = .ok (.iload 8, 2) := by decide +kernel
theorem dX12_which_76 : decode cX12_which 76 = .ok (.iload 9, 2) := by decide +kernel
theorem dX12_which_78 : decode cX12_which 78 = .ok (.invokevirtual 234, 3) := by decide +kernel
theorem dX12_which_81 : decode cX12_which 81 = .ok (.ifCond .eq 23, 3) := by decide +kernel
theorem dX12_which_84 : decode cX12_which 84 = .ok (.iload 6, 2) := by decide +kernel
theorem dX12_which_86 : decode cX12_which 86 = .ok (.iinc 6 1, 3) := by decide +kernel
theorem dX12_which_89 : decode cX12_which 89 = .ok (.iload 4, 2) := by decide +kernel
theorem dX12_which_91 : decode cX12_which 91 = .ok (.if_icmp .ne 13, 3) := by decide +kernel
theorem dX12_which_94 : decode cX12_which 94 = .ok (.bipush 10, 2) := by decide +kernel
theorem dX12_which_96 : decode cX12_which 96 = .ok (.iload 8, 2) := by decide +kernel
theorem dX12_which_98 : decode cX12_which 98 = .ok (.imul, 1) := by decide +kernel
theorem dX12_which_99 : decode cX12_which 99 = .ok (.iload 9, 2) := by decide +kernel
theorem dX12_which_101 : decode cX12_which 101 = .ok (.iadd, 1) := by decide +kernel
theorem dX12_which_102 : decode cX12_which 102 = .ok (.istore 7, 2) := by decide +kernel
theorem dX12_which_104 : decode cX12_which 104 = .ok (.iinc 9 1, 3) := by decide +kernel
theorem dX12_which_107 : decode cX12_which 107 = .ok (.goto (-44), 3) := by decide +kernel
theorem dX12_which_110 : decode cX12_which 110 = .ok (.iinc 8 1, 3) := by decide +kernel
theorem dX12_which_113 : decode cX12_which 113 = .ok (.goto (-62), 3) := by decide +kernel
theorem dX12_which_116 : decode cX12_which 116 = .ok (.iload 4, 2) := by decide +kernel
theorem dX12_which_118 : decode cX12_which 118 = .ok (.iconst (-1), 1) := by decide +kernel
theorem dX12_which_119 : decode cX12_which 119 = .ok (.if_icmp .ne 6, 3) := by decide +kernel
theorem dX12_which_122 : decode cX12_which 122 = .ok (.iload 6, 2) := by decide +kernel
theorem dX12_which_124 : decode cX12_which 124 = .ok (.ireturn, 1) := by decide +kernel
theorem dX12_which_125 : decode cX12_which 125 = .ok (.iload 7, 2) := by decide +kernel
theorem dX12_which_127 : decode cX12_which 127 = .ok (.iconst (-1), 1) := by decide +kernel
theorem dX12_which_128 : decode cX12_which 128 = .ok (.if_icmp .ne 12, 3) := by decide +kernel
theorem dX12_which_131 : decode cX12_which 131 = .ok (.aload_n 0, 1) := by decide +kernel
theorem dX12_which_132 : decode cX12_which 132 = .ok (.bipush (-5), 2) := by decide +kernel
theorem dX12_which_134 : decode cX12_which 134 = .ok (.invokevirtual 75, 3) := by decide +kernel
theorem dX12_which_137 : decode cX12_which 137 = .ok (.goto 5, 3) := by decide +kernel
theorem dX12_which_140 : decode cX12_which 140 = .ok (.iload 7, 2) := by decide +kernel
theorem dX12_which_142 : decode cX12_which 142 = .ok (.ireturn, 1) := by decide +kernel
set_option maxRecDepth 20000 in
theorem ggX12_worst_X12_fits : GoodIn wsX12_worst wsX12_fits := goodIn_r _ [10, 11, 12, 4, 13, 14, 15, 16, 9, 17, 18, 19, 20, 21, 22, 23, 24, 25, 26, 27, 28, 29, 30, 31, 32, 33, 34, 40, 41, 42, 43, 44, 45, 46, 47, 48, 49, 50, 51, 52, 53, 54, 55, 56, 57, 58, 59, 60, 61, 62, 63, 64, 65, 66] (by decide +kernel) (by decide +kernel)
set_option maxRecDepth 20000 in
theorem gX12_worst_X12_fits : GoodIn wsX12_worst (wsV RX12 234 RX12 yX12_fits wsX12_fits) := goodIn_app (goodIn_of _ (by decide +kernel)) ggX12_worst_X12_fits
set_option maxRecDepth 20000 in
theorem ggX12_worst_X12_hasDeed : GoodIn wsX12_worst wsX12_hasDeed := goodIn_r _ [38, 39, 30, 31, 32, 9, 33, 34, 40, 41, 42, 43, 44, 45, 46, 47, 48, 49, 50, 51, 52, 53, 54, 55, 56, 57, 58, 59, 60, 61, 62, 63, 64, 65, 66] (by decide +kernel) (by decide +kernel)
set_option maxRecDepth 20000 in
theorem gX12_worst_X12_hasDeed : GoodIn wsX12_worst (wsV RX12 123 RX12 yX12_hasDeed wsX12_hasDeed) := goodIn_app (goodIn_of _ (by decide +kernel)) ggX12_worst_X12_hasDeed
theorem dX12_worst_0 : decode cX12_worst 0 = .ok (.iconst 0, 1) := by decide +kernel
theorem dX12_worst_1 : decode cX12_worst 1 = .ok (.istore 5, 2) := by decide +kernel
theorem dX12_worst_3 : decode cX12_worst 3 = .ok (.iconst 0, 1) := by decide +kernel
theorem dX12_worst_4 : decode cX12_worst 4 = .ok (.istore 6, 2) := by decide +kernel
theorem dX12_worst_6 : decode cX12_worst 6 = .ok (.iconst 0, 1) := by decide +kernel
theorem dX12_worst_7 : decode cX12_worst 7 = .ok (.istore 7, 2) := by decide +kernel
theorem dX12_worst_9 : decode cX12_worst 9 = .ok (.iload 7, 2) := by decide +kernel
theorem dX12_worst_11 : decode cX12_worst 11 = .ok (.aload_n 0, 1) := by decide +kernel
theorem dX12_worst_12 : decode cX12_worst 12 = .ok (.getfield 79, 3) := by decide +kernel
theorem dX12_worst_15 : decode cX12_worst 15 = .ok (.if_icmp .ge 64, 3) := by decide +kernel
theorem dX12_worst_18 : decode cX12_worst 18 = .ok (.iconst 0, 1) := by decide +kernel
theorem dX12_worst_19 : decode cX12_worst 19 = .ok (.istore 8, 2) := by decide +kernel
theorem dX12_worst_21 : decode cX12_worst 21 = .ok (.iload 8, 2) := by decide +kernel
theorem dX12_worst_23 : decode cX12_worst 23 = .ok (.bipush 6, 2) := by decide +kernel
theorem dX12_worst_25 : decode cX12_worst 25 = .ok (.if_icmp .ge 48, 3) := by decide +kernel
theorem dX12_worst_28 : decode cX12_worst 28 = .ok (.aload_n 0, 1) := by decide +kernel
theorem dX12_worst_29 : decode cX12_worst 29 = .ok (.iload_n 1, 1) := by decide +kernel
theorem dX12_worst_30 : decode cX12_worst 30 = .ok (.iload_n 2, 1) := by decide +kernel
theorem dX12_worst_31 : decode cX12_worst 31 = .ok (.iload_n 3, 1) := by decide +kernel
theorem dX12_worst_32 : decode cX12_worst 32 = .ok (.iload 7, 2) := by decide +kernel
theorem dX12_worst_34 : decode cX12_worst 34 = .ok (.iload 8, 2) := by decide +kernel
theorem dX12_worst_36 : decode cX12_worst 36 = .ok (.invokevirtual 234, 3) := by decide +kernel
theorem dX12_worst_39 : decode cX12_worst 39 = .ok (.ifCond .ne 6, 3) := by decide +kernel
theorem dX12_worst_42 : decode cX12_worst 42 = .ok (.goto 25, 3) := by decide +kernel
theorem dX12_worst_45 : decode cX12_worst 45 = .ok (.aload_n 0, 1) := by decide +kernel
theorem dX12_worst_46 : decode cX12_worst 46 = .ok (.iload 7, 2) := by decide +kernel
theorem dX12_worst_48 : decode cX12_worst 48 = .ok (.iload 8, 2) := by decide +kernel
theorem dX12_worst_50 : decode cX12_worst 50 = .ok (.iload 4, 2) := by decide +kernel
theorem dX12_worst_52 : decode cX12_worst 52 = .ok (.invokevirtual 123, 3) := by decide +kernel
theorem dX12_worst_55 : decode cX12_worst 55 = .ok (.ifCond .eq 9, 3) := by decide +kernel
theorem dX12_worst_58 : decode cX12_worst 58 = .ok (.iinc 5 1, 3) := by decide +kernel
theorem dX12_worst_61 : decode cX12_worst 61 = .ok (.goto 6, 3) := by decide +kernel
theorem dX12_worst_64 : decode cX12_worst 64 = .ok (.iinc 6 1, 3) := by decide +kernel
theorem dX12_worst_67 : decode cX12_worst 67 = .ok (.iinc 8 1, 3) := by decide +kernel
theorem dX12_worst_70 : decode cX12_worst 70 = .ok (.goto (-49), 3) := by decide +kernel
theorem dX12_worst_73 : decode cX12_worst 73 = .ok (.iinc 7 1, 3) := by decide +kernel
theorem dX12_worst_76 : decode cX12_worst 76 = .ok (.goto (-67), 3) := by decide +kernel
theorem dX12_worst_79 : decode cX12_worst 79 = .ok (.iload 5, 2) := by decide +kernel
theorem dX12_worst_81 : decode cX12_worst 81 = .ok (.iload 6, 2) := by decide +kernel
theorem dX12_worst_83 : decode cX12_worst 83 = .ok (.invokestatic 201, 3) := by decide +kernel
theorem dX12_worst_86 : decode cX12_worst 86 = .ok (.ireturn, 1) := by decide +kernel
set_option maxRecDepth 20000 in
theorem ggX12_fitting_X12_fits : GoodIn wsX12_fitting wsX12_fits := goodIn_r _ [6, 7, 8, 9, 10, 11, 12, 13, 5, 14, 15, 16, 17, 18, 19, 20, 21, 22, 23, 24, 25, 26, 27, 28, 29, 30, 31, 32, 33, 34, 35, 36, 37, 38, 39, 40, 41, 42, 43, 44, 45, 46, 47, 48, 49, 50, 51, 52, 53, 54, 55, 56, 57, 58] (by decide +kernel) (by decide +kernel)
set_option maxRecDepth 20000 in
theorem gX12_fitting_X12_fits : GoodIn wsX12_fitting (wsV RX12 234 RX12 yX12_fits wsX12_fits) := goodIn_app (goodIn_of _ (by decide +kernel)) ggX12_fitting_X12_fits
theorem dX12_fitting_0 : decode cX12_fitting 0 = .ok (.iconst 0, 1) := by decide +kernel
theorem dX12_fitting_1 : decode cX12_fitting 1 = .ok (.istore 4, 2) := by decide +kernel
theorem dX12_fitting_3 : decode cX12_fitting 3 = .ok (.iconst 0, 1) := by decide +kernel
theorem dX12_fitting_4 : decode cX12_fitting 4 = .ok (.istore 5, 2) := by decide +kernel
theorem dX12_fitting_6 : decode cX12_fitting 6 = .ok (.iload 5, 2) := by decide +kernel
theorem dX12_fitting_8 : decode cX12_fitting 8 = .ok (.aload_n 0, 1) := by decide +kernel
theorem dX12_fitting_9 : decode cX12_fitting 9 = .ok (.getfield 79, 3) := by decide +kernel
theorem dX12_fitting_12 : decode cX12_fitting 12 = .ok (.if_icmp .ge 42, 3) := by decide +kernel
theorem dX12_fitting_15 : decode cX12_fitting 15 = .ok (.iconst 0, 1) := by decide +kernel
theorem dX12_fitting_16 : decode cX12_fitting 16 = .ok (.istore 6, 2) := by decide +kernel
theorem dX12_fitting_18 : decode cX12_fitting 18 = .ok (.iload 6, 2) := by decide +kernel
theorem dX12_fitting_20 : decode cX12_fitting 20 = .ok (.bipush 6, 2) := by decide +kernel
theorem dX12_fitting_22 : decode cX12_fitting 22 = .ok (.if_icmp .ge 26, 3) := by decide +kernel
theorem dX12_fitting_25 : decode cX12_fitting 25 = .ok (.aload_n 0, 1) := by decide +kernel
theorem dX12_fitting_26 : decode cX12_fitting 26 = .ok (.iload_n 1, 1) := by decide +kernel
theorem dX12_fitting_27 : decode cX12_fitting 27 = .ok (.iload_n 2, 1) := by decide +kernel
theorem dX12_fitting_28 : decode cX12_fitting 28 = .ok (.iload_n 3, 1) := by decide +kernel
theorem dX12_fitting_29 : decode cX12_fitting 29 = .ok (.iload 5, 2) := by decide +kernel
theorem dX12_fitting_31 : decode cX12_fitting 31 = .ok (.iload 6, 2) := by decide +kernel
theorem dX12_fitting_33 : decode cX12_fitting 33 = .ok (.invokevirtual 234, 3) := by decide +kernel
theorem dX12_fitting_36 : decode cX12_fitting 36 = .ok (.ifCond .eq 6, 3) := by decide +kernel
theorem dX12_fitting_39 : decode cX12_fitting 39 = .ok (.iinc 4 1, 3) := by decide +kernel
theorem dX12_fitting_42 : decode cX12_fitting 42 = .ok (.iinc 6 1, 3) := by decide +kernel
theorem dX12_fitting_45 : decode cX12_fitting 45 = .ok (.goto (-27), 3) := by decide +kernel
theorem dX12_fitting_48 : decode cX12_fitting 48 = .ok (.iinc 5 1, 3) := by decide +kernel
theorem dX12_fitting_51 : decode cX12_fitting 51 = .ok (.goto (-45), 3) := by decide +kernel
theorem dX12_fitting_54 : decode cX12_fitting 54 = .ok (.iload 4, 2) := by decide +kernel
theorem dX12_fitting_56 : decode cX12_fitting 56 = .ok (.ireturn, 1) := by decide +kernel
set_option maxRecDepth 20000 in
theorem ggX12_next_X12_noTold : GoodIn wsX12_next wsX12_noTold := goodIn_r _ [5, 6, 7, 8, 9, 4, 10, 11, 12, 13, 14, 15, 16, 17, 18, 71, 72, 73, 74, 75, 76, 77, 78, 79, 80, 81, 82, 83, 84, 85, 86, 87, 88, 89, 90, 91, 92, 93, 94, 95, 96, 97] (by decide +kernel) (by decide +kernel)
set_option maxRecDepth 20000 in
theorem gX12_next_X12_noTold : GoodIn wsX12_next (wsV RX12 230 RX12 yX12_noTold wsX12_noTold) := goodIn_app (goodIn_of _ (by decide +kernel)) ggX12_next_X12_noTold
set_option maxRecDepth 20000 in
theorem ggX12_next_X12_within : GoodIn wsX12_next wsX12_within := goodIn_r _ [14] (by decide +kernel) (by decide +kernel)
set_option maxRecDepth 20000 in
theorem gX12_next_X12_within : GoodIn wsX12_next (va_wsS RX12 82 yX12_within wsX12_within) := goodIn_app (goodIn_of _ (by decide +kernel)) ggX12_next_X12_within
set_option maxRecDepth 20000 in
theorem ggX12_next_X12_no10 : GoodIn wsX12_next wsX12_no10 := goodIn_r _ [22, 23, 24, 25, 4, 26, 27, 71, 72, 73, 74, 75, 76, 77, 78, 79, 80, 81, 82, 83, 84, 85, 86, 87, 88, 89, 90, 91, 92, 93, 94, 95, 96, 97] (by decide +kernel) (by decide +kernel)
set_option maxRecDepth 20000 in
theorem gX12_next_X12_no10 : GoodIn wsX12_next (wsV RX12 216 RX12 yX12_no10 wsX12_no10) := goodIn_app (goodIn_of _ (by decide +kernel)) ggX12_next_X12_no10
set_option maxRecDepth 20000 in
theorem ggX12_next_X12_fitting : GoodIn wsX12_next wsX12_fitting := goodIn_r _ [31, 32, 33, 34, 35, 4, 36, 37, 38, 39, 40, 41, 42, 43, 44, 45, 46, 47, 48, 12, 13, 14, 49, 50, 51, 52, 53, 54, 55, 56, 57, 58, 71, 72, 73, 74, 75, 76, 77, 78, 79, 80, 81, 82, 83, 84, 85, 86, 87, 88, 89, 90, 91, 92, 93, 94, 95, 96, 97] (by decide +kernel) (by decide +kernel)
set_option maxRecDepth 20000 in
theorem gX12_next_X12_fitting : GoodIn wsX12_next (wsV RX12 238 RX12 yX12_fitting wsX12_fitting) := goodIn_app (goodIn_of _ (by decide +kernel)) ggX12_next_X12_fitting
set_option maxRecDepth 20000 in
theorem ggX12_next_X12_worst : GoodIn wsX12_next wsX12_worst := goodIn_r _ [62, 32, 63, 64, 39, 65, 33, 34, 35, 4, 36, 37, 38, 40, 41, 42, 43, 44, 45, 46, 47, 48, 12, 13, 14, 49, 50, 51, 52, 53, 54, 55, 56, 57, 58, 66, 67, 68, 69, 70, 71, 72, 73, 74, 75, 76, 77, 78, 79, 80, 81, 82, 83, 84, 85, 86, 87, 88, 89, 90, 91, 92, 93, 94, 95, 96, 97] (by decide +kernel) (by decide +kernel)
set_option maxRecDepth 20000 in
theorem gX12_next_X12_worst : GoodIn wsX12_next (wsV RX12 241 RX12 yX12_worst wsX12_worst) := goodIn_app (goodIn_of _ (by decide +kernel)) ggX12_next_X12_worst
theorem dX12_next_0 : decode cX12_next 0 = .ok (.aload_n 0, 1) := by decide +kernel
theorem dX12_next_1 : decode cX12_next 1 = .ok (.iload_n 1, 1) := by decide +kernel
theorem dX12_next_2 : decode cX12_next 2 = .ok (.iload_n 2, 1) := by decide +kernel
theorem dX12_next_3 : decode cX12_next 3 = .ok (.iconst 1, 1) := by decide +kernel
theorem dX12_next_4 : decode cX12_next 4 = .ok (.bipush 8, 2) := by decide +kernel
theorem dX12_next_6 : decode cX12_next 6 = .ok (.invokevirtual 230, 3) := by decide +kernel
theorem dX12_next_9 : decode cX12_next 9 = .ok (.istore 4, 2) := by decide +kernel
theorem dX12_next_11 : decode cX12_next 11 = .ok (.iload 4, 2) := by decide +kernel
theorem dX12_next_13 : decode cX12_next 13 = .ok (.ifCond .ne 17, 3) := by decide +kernel
theorem dX12_next_16 : decode cX12_next 16 = .ok (.iload_n 3, 1) := by decide +kernel
theorem dX12_next_17 : decode cX12_next 17 = .ok (.iconst 0, 1) := by decide +kernel
theorem dX12_next_18 : decode cX12_next 18 = .ok (.bipush 20, 2) := by decide +kernel
theorem dX12_next_20 : decode cX12_next 20 = .ok (.invokestatic 82, 3) := by decide +kernel
theorem dX12_next_23 : decode cX12_next 23 = .ok (.ifCond .ne 7, 3) := by decide +kernel
theorem dX12_next_26 : decode cX12_next 26 = .ok (.bipush (-6), 2) := by decide +kernel
theorem dX12_next_28 : decode cX12_next 28 = .ok (.istore 4, 2) := by decide +kernel
theorem dX12_next_30 : decode cX12_next 30 = .ok (.iload 4, 2) := by decide +kernel
theorem dX12_next_32 : decode cX12_next 32 = .ok (.ifCond .ge 10, 3) := by decide +kernel
theorem dX12_next_35 : decode cX12_next 35 = .ok (.aload_n 0, 1) := by decide +kernel
theorem dX12_next_36 : decode cX12_next 36 = .ok (.iload 4, 2) := by decide +kernel
theorem dX12_next_38 : decode cX12_next 38 = .ok (.invokevirtual 216, 3) := by decide +kernel
theorem dX12_next_41 : decode cX12_next 41 = .ok (.ireturn, 1) := by decide +kernel
theorem dX12_next_42 : decode cX12_next 42 = .ok (.iload_n 2, 1) := by decide +kernel
theorem dX12_next_43 : decode cX12_next 43 = .ok (.bipush 8, 2) := by decide +kernel
theorem dX12_next_45 : decode cX12_next 45 = .ok (.if_icmp .eq 14, 3) := by decide +kernel
theorem dX12_next_48 : decode cX12_next 48 = .ok (.aload_n 0, 1) := by decide +kernel
theorem dX12_next_49 : decode cX12_next 49 = .ok (.iload_n 1, 1) := by decide +kernel
theorem dX12_next_50 : decode cX12_next 50 = .ok (.iload_n 2, 1) := by decide +kernel
theorem dX12_next_51 : decode cX12_next 51 = .ok (.iload_n 3, 1) := by decide +kernel
theorem dX12_next_52 : decode cX12_next 52 = .ok (.invokevirtual 238, 3) := by decide +kernel
theorem dX12_next_55 : decode cX12_next 55 = .ok (.iconst 2, 1) := by decide +kernel
theorem dX12_next_56 : decode cX12_next 56 = .ok (.if_icmp .ge 5, 3) := by decide +kernel
theorem dX12_next_59 : decode cX12_next 59 = .ok (.iconst (-1), 1) := by decide +kernel
theorem dX12_next_60 : decode cX12_next 60 = .ok (.ireturn, 1) := by decide +kernel
theorem dX12_next_61 : decode cX12_next 61 = .ok (.iload_n 2, 1) := by decide +kernel
theorem dX12_next_62 : decode cX12_next 62 = .ok (.istore 5, 2) := by decide +kernel
theorem dX12_next_64 : decode cX12_next 64 = .ok (.iload_n 2, 1) := by decide +kernel
theorem dX12_next_65 : decode cX12_next 65 = .ok (.iconst 1, 1) := by decide +kernel
theorem dX12_next_66 : decode cX12_next 66 = .ok (.iadd, 1) := by decide +kernel
theorem dX12_next_67 : decode cX12_next 67 = .ok (.istore 6, 2) := by decide +kernel
theorem dX12_next_69 : decode cX12_next 69 = .ok (.iload 6, 2) := by decide +kernel
theorem dX12_next_71 : decode cX12_next 71 = .ok (.bipush 8, 2) := by decide +kernel
theorem dX12_next_73 : decode cX12_next 73 = .ok (.if_icmp .ge 34, 3) := by decide +kernel
theorem dX12_next_76 : decode cX12_next 76 = .ok (.aload_n 0, 1) := by decide +kernel
theorem dX12_next_77 : decode cX12_next 77 = .ok (.iload_n 1, 1) := by decide +kernel
theorem dX12_next_78 : decode cX12_next 78 = .ok (.iload_n 2, 1) := by decide +kernel
theorem dX12_next_79 : decode cX12_next 79 = .ok (.iload_n 3, 1) := by decide +kernel
theorem dX12_next_80 : decode cX12_next 80 = .ok (.iload 6, 2) := by decide +kernel
theorem dX12_next_82 : decode cX12_next 82 = .ok (.invokevirtual 241, 3) := by decide +kernel
theorem dX12_next_85 : decode cX12_next 85 = .ok (.aload_n 0, 1) := by decide +kernel
theorem dX12_next_86 : decode cX12_next 86 = .ok (.iload_n 1, 1) := by decide +kernel
theorem dX12_next_87 : decode cX12_next 87 = .ok (.iload_n 2, 1) := by decide +kernel
theorem dX12_next_88 : decode cX12_next 88 = .ok (.iload_n 3, 1) := by decide +kernel
theorem dX12_next_89 : decode cX12_next 89 = .ok (.iload 5, 2) := by decide +kernel
theorem dX12_next_91 : decode cX12_next 91 = .ok (.invokevirtual 241, 3) := by decide +kernel
theorem dX12_next_94 : decode cX12_next 94 = .ok (.if_icmp .ge 7, 3) := by decide +kernel
theorem dX12_next_97 : decode cX12_next 97 = .ok (.iload 6, 2) := by decide +kernel
theorem dX12_next_99 : decode cX12_next 99 = .ok (.istore 5, 2) := by decide +kernel
theorem dX12_next_101 : decode cX12_next 101 = .ok (.iinc 6 1, 3) := by decide +kernel
theorem dX12_next_104 : decode cX12_next 104 = .ok (.goto (-35), 3) := by decide +kernel
theorem dX12_next_107 : decode cX12_next 107 = .ok (.iload 5, 2) := by decide +kernel
theorem dX12_next_109 : decode cX12_next 109 = .ok (.ireturn, 1) := by decide +kernel
set_option maxRecDepth 20000 in
theorem ggX12_isOne_X12_isPerson : GoodIn wsX12_isOne wsX12_isPerson := goodIn_r _ [5, 6, 7, 8, 4, 9, 13, 14, 15, 16, 17, 18, 19, 20, 21, 22, 23, 24, 25, 26, 27, 28, 29, 30, 31, 32, 33, 34, 35, 36, 37, 38, 39] (by decide +kernel) (by decide +kernel)
set_option maxRecDepth 20000 in
theorem gX12_isOne_X12_isPerson : GoodIn wsX12_isOne (wsV RX12 96 RX12 yX12_isPerson wsX12_isPerson) := goodIn_app (goodIn_of _ (by decide +kernel)) ggX12_isOne_X12_isPerson
set_option maxRecDepth 20000 in
theorem ggX12_isOne_X12_isCopy : GoodIn wsX12_isOne wsX12_isCopy := goodIn_r _ [12, 7, 8, 4, 9] (by decide +kernel) (by decide +kernel)
set_option maxRecDepth 20000 in
theorem gX12_isOne_X12_isCopy : GoodIn wsX12_isOne (va_wsS RX12 86 yX12_isCopy wsX12_isCopy) := goodIn_app (goodIn_of _ (by decide +kernel)) ggX12_isOne_X12_isCopy
theorem dX12_isOne_0 : decode cX12_isOne 0 = .ok (.iload_n 1, 1) := by decide +kernel
theorem dX12_isOne_1 : decode cX12_isOne 1 = .ok (.ifCond .lt 28, 3) := by decide +kernel
theorem dX12_isOne_4 : decode cX12_isOne 4 = .ok (.aload_n 0, 1) := by decide +kernel
theorem dX12_isOne_5 : decode cX12_isOne 5 = .ok (.iload_n 1, 1) := by decide +kernel
theorem dX12_isOne_6 : decode cX12_isOne 6 = .ok (.bipush 10, 2) := by decide +kernel
theorem dX12_isOne_8 : decode cX12_isOne 8 = .ok (.idiv, 1) := by decide +kernel
theorem dX12_isOne_9 : decode cX12_isOne 9 = .ok (.invokevirtual 96, 3) := by decide +kernel
theorem dX12_isOne_12 : decode cX12_isOne 12 = .ok (.ifCond .eq 17, 3) := by decide +kernel
theorem dX12_isOne_15 : decode cX12_isOne 15 = .ok (.iload_n 1, 1) := by decide +kernel
theorem dX12_isOne_16 : decode cX12_isOne 16 = .ok (.bipush 10, 2) := by decide +kernel
theorem dX12_isOne_18 : decode cX12_isOne 18 = .ok (.irem, 1) := by decide +kernel
theorem dX12_isOne_19 : decode cX12_isOne 19 = .ok (.invokestatic 86, 3) := by decide +kernel
theorem dX12_isOne_22 : decode cX12_isOne 22 = .ok (.ifCond .eq 7, 3) := by decide +kernel
theorem dX12_isOne_25 : decode cX12_isOne 25 = .ok (.iconst 1, 1) := by decide +kernel
theorem dX12_isOne_26 : decode cX12_isOne 26 = .ok (.goto 4, 3) := by decide +kernel
theorem dX12_isOne_29 : decode cX12_isOne 29 = .ok (.iconst 0, 1) := by decide +kernel
theorem dX12_isOne_30 : decode cX12_isOne 30 = .ok (.ireturn, 1) := by decide +kernel
set_option maxRecDepth 20000 in
theorem ggX12_unlikes_X12_hasAll : GoodIn wsX12_unlikes wsX12_hasAll := goodIn_r _ [5, 6, 7, 8, 4, 9, 10, 11, 12, 13, 14, 15, 23, 24, 25, 26, 27, 28, 29, 30, 31, 32, 33, 34, 35, 36, 37, 38, 39, 40, 41, 42, 43, 44, 45, 46, 47, 48, 49] (by decide +kernel) (by decide +kernel)
set_option maxRecDepth 20000 in
theorem gX12_unlikes_X12_hasAll : GoodIn wsX12_unlikes (wsV RX12 126 RX12 yX12_hasAll wsX12_hasAll) := goodIn_app (goodIn_of _ (by decide +kernel)) ggX12_unlikes_X12_hasAll
set_option maxRecDepth 20000 in
theorem ggX12_unlikes_J6_bitCount_0f7a4 : GoodIn wsX12_unlikes wsJ6_bitCount_0f7a4 := goodIn_r _ [19, 20, 21, 22] (by decide +kernel) (by decide +kernel)
set_option maxRecDepth 20000 in
theorem gX12_unlikes_J6_bitCount_0f7a4 : GoodIn wsX12_unlikes (va_wsS RX12 244 yJ6_bitCount_0f7a4 wsJ6_bitCount_0f7a4) := goodIn_app (goodIn_of _ (by decide +kernel)) ggX12_unlikes_J6_bitCount_0f7a4
theorem dX12_unlikes_0 : decode cX12_unlikes 0 = .ok (.aload_n 0, 1) := by decide +kernel
theorem dX12_unlikes_1 : decode cX12_unlikes 1 = .ok (.iload_n 1, 1) := by decide +kernel
theorem dX12_unlikes_2 : decode cX12_unlikes 2 = .ok (.iload_n 2, 1) := by decide +kernel
theorem dX12_unlikes_3 : decode cX12_unlikes 3 = .ok (.invokevirtual 126, 3) := by decide +kernel
theorem dX12_unlikes_6 : decode cX12_unlikes 6 = .ok (.aload_n 0, 1) := by decide +kernel
theorem dX12_unlikes_7 : decode cX12_unlikes 7 = .ok (.iload_n 3, 1) := by decide +kernel
theorem dX12_unlikes_8 : decode cX12_unlikes 8 = .ok (.iload 4, 2) := by decide +kernel
theorem dX12_unlikes_10 : decode cX12_unlikes 10 = .ok (.invokevirtual 126, 3) := by decide +kernel
theorem dX12_unlikes_13 : decode cX12_unlikes 13 = .ok (.ixor, 1) := by decide +kernel
theorem dX12_unlikes_14 : decode cX12_unlikes 14 = .ok (.invokestatic 244, 3) := by decide +kernel
theorem dX12_unlikes_17 : decode cX12_unlikes 17 = .ok (.ireturn, 1) := by decide +kernel
set_option maxRecDepth 20000 in
theorem ggX12_unlike_X12_isOne : GoodIn wsX12_unlike wsX12_isOne := goodIn_r _ [5, 6, 7, 8, 4, 9, 10, 11, 12, 13, 14, 15, 16, 47, 48, 49, 50, 51, 52, 53, 54, 55, 56, 57, 58, 59, 60, 61, 62, 63, 64, 65, 66, 67, 68, 69, 70, 71, 72, 73] (by decide +kernel) (by decide +kernel)
set_option maxRecDepth 20000 in
theorem gX12_unlike_X12_isOne : GoodIn wsX12_unlike (wsV RX12 249 RX12 yX12_isOne wsX12_isOne) := goodIn_app (goodIn_of _ (by decide +kernel)) ggX12_unlike_X12_isOne
set_option maxRecDepth 20000 in
theorem ggX12_unlike_X12_unlikes : GoodIn wsX12_unlike wsX12_unlikes := goodIn_r _ [20, 21, 22, 23, 4, 24, 25, 26, 27, 28, 29, 30, 31, 32, 33, 34, 35, 36, 37, 38, 39, 40, 41, 47, 48, 49, 50, 51, 52, 53, 54, 55, 56, 57, 58, 59, 60, 61, 62, 63, 64, 65, 66, 67, 68, 69, 70, 71, 72, 73] (by decide +kernel) (by decide +kernel)
set_option maxRecDepth 20000 in
theorem gX12_unlike_X12_unlikes : GoodIn wsX12_unlike (wsV RX12 252 RX12 yX12_unlikes wsX12_unlikes) := goodIn_app (goodIn_of _ (by decide +kernel)) ggX12_unlike_X12_unlikes
set_option maxRecDepth 20000 in
theorem ggX12_unlike_X12_no : GoodIn wsX12_unlike wsX12_no := goodIn_r _ [45, 46, 47, 48, 49, 50, 51, 52, 53, 54, 55, 56, 57, 58, 59, 60, 61, 62, 63, 64, 65, 66, 67, 68, 69, 70, 71, 72, 73] (by decide +kernel) (by decide +kernel)
set_option maxRecDepth 20000 in
theorem gX12_unlike_X12_no : GoodIn wsX12_unlike (wsV RX12 75 RX12 yX12_no wsX12_no) := goodIn_app (goodIn_of _ (by decide +kernel)) ggX12_unlike_X12_no
theorem dX12_unlike_0 : decode cX12_unlike 0 = .ok (.aload_n 0, 1) := by decide +kernel
theorem dX12_unlike_1 : decode cX12_unlike 1 = .ok (.iload_n 1, 1) := by decide +kernel
theorem dX12_unlike_2 : decode cX12_unlike 2 = .ok (.invokevirtual 249, 3) := by decide +kernel
theorem dX12_unlike_5 : decode cX12_unlike 5 = .ok (.ifCond .eq 34, 3) := by decide +kernel
theorem dX12_unlike_8 : decode cX12_unlike 8 = .ok (.aload_n 0, 1) := by decide +kernel
theorem dX12_unlike_9 : decode cX12_unlike 9 = .ok (.iload_n 2, 1) := by decide +kernel
theorem dX12_unlike_10 : decode cX12_unlike 10 = .ok (.invokevirtual 249, 3) := by decide +kernel
theorem dX12_unlike_13 : decode cX12_unlike 13 = .ok (.ifCond .eq 26, 3) := by decide +kernel
theorem dX12_unlike_16 : decode cX12_unlike 16 = .ok (.aload_n 0, 1) := by decide +kernel
theorem dX12_unlike_17 : decode cX12_unlike 17 = .ok (.iload_n 1, 1) := by decide +kernel
theorem dX12_unlike_18 : decode cX12_unlike 18 = .ok (.bipush 10, 2) := by decide +kernel
theorem dX12_unlike_20 : decode cX12_unlike 20 = .ok (.idiv, 1) := by decide +kernel
theorem dX12_unlike_21 : decode cX12_unlike 21 = .ok (.iload_n 1, 1) := by decide +kernel
theorem dX12_unlike_22 : decode cX12_unlike 22 = .ok (.bipush 10, 2) := by decide +kernel
theorem dX12_unlike_24 : decode cX12_unlike 24 = .ok (.irem, 1) := by decide +kernel
theorem dX12_unlike_25 : decode cX12_unlike 25 = .ok (.iload_n 2, 1) := by decide +kernel
theorem dX12_unlike_26 : decode cX12_unlike 26 = .ok (.bipush 10, 2) := by decide +kernel
theorem dX12_unlike_28 : decode cX12_unlike 28 = .ok (.idiv, 1) := by decide +kernel
theorem dX12_unlike_29 : decode cX12_unlike 29 = .ok (.iload_n 2, 1) := by decide +kernel
theorem dX12_unlike_30 : decode cX12_unlike 30 = .ok (.bipush 10, 2) := by decide +kernel
theorem dX12_unlike_32 : decode cX12_unlike 32 = .ok (.irem, 1) := by decide +kernel
theorem dX12_unlike_33 : decode cX12_unlike 33 = .ok (.invokevirtual 252, 3) := by decide +kernel
theorem dX12_unlike_36 : decode cX12_unlike 36 = .ok (.goto 9, 3) := by decide +kernel
theorem dX12_unlike_39 : decode cX12_unlike 39 = .ok (.aload_n 0, 1) := by decide +kernel
theorem dX12_unlike_40 : decode cX12_unlike 40 = .ok (.bipush (-6), 2) := by decide +kernel
theorem dX12_unlike_42 : decode cX12_unlike 42 = .ok (.invokevirtual 75, 3) := by decide +kernel
theorem dX12_unlike_45 : decode cX12_unlike 45 = .ok (.ireturn, 1) := by decide +kernel
set_option maxRecDepth 20000 in
theorem ggX12_odd_X12_isPerson : GoodIn wsX12_odd wsX12_isPerson := goodIn_r _ [6, 7, 8, 9, 5, 10, 41, 42, 43, 44, 45, 46, 47, 48, 49, 50, 51, 52, 53, 54, 55, 56, 57, 58, 59, 60, 61, 62, 63, 64, 65, 66, 67] (by decide +kernel) (by decide +kernel)
set_option maxRecDepth 20000 in
theorem gX12_odd_X12_isPerson : GoodIn wsX12_odd (wsV RX12 96 RX12 yX12_isPerson wsX12_isPerson) := goodIn_app (goodIn_of _ (by decide +kernel)) ggX12_odd_X12_isPerson
set_option maxRecDepth 20000 in
theorem ggX12_odd_X12_no : GoodIn wsX12_odd wsX12_no := goodIn_r _ [14, 15, 41, 42, 43, 44, 45, 46, 47, 48, 49, 50, 51, 52, 53, 54, 55, 56, 57, 58, 59, 60, 61, 62, 63, 64, 65, 66, 67] (by decide +kernel) (by decide +kernel)
set_option maxRecDepth 20000 in
theorem gX12_odd_X12_no : GoodIn wsX12_odd (wsV RX12 75 RX12 yX12_no wsX12_no) := goodIn_app (goodIn_of _ (by decide +kernel)) ggX12_odd_X12_no
set_option maxRecDepth 20000 in
theorem ggX12_odd_X12_unlikes : GoodIn wsX12_odd wsX12_unlikes := goodIn_r _ [19, 20, 21, 22, 5, 23, 24, 25, 26, 27, 28, 29, 30, 31, 32, 33, 34, 35, 36, 37, 38, 39, 40, 41, 42, 43, 44, 45, 46, 47, 48, 49, 50, 51, 52, 53, 54, 55, 56, 57, 58, 59, 60, 61, 62, 63, 64, 65, 66, 67] (by decide +kernel) (by decide +kernel)
set_option maxRecDepth 20000 in
theorem gX12_odd_X12_unlikes : GoodIn wsX12_odd (wsV RX12 252 RX12 yX12_unlikes wsX12_unlikes) := goodIn_app (goodIn_of _ (by decide +kernel)) ggX12_odd_X12_unlikes
theorem dX12_odd_0 : decode cX12_odd 0 = .ok (.aload_n 0, 1) := by decide +kernel
theorem dX12_odd_1 : decode cX12_odd 1 = .ok (.iload_n 1, 1) := by decide +kernel
theorem dX12_odd_2 : decode cX12_odd 2 = .ok (.invokevirtual 96, 3) := by decide +kernel
theorem dX12_odd_5 : decode cX12_odd 5 = .ok (.ifCond .ne 9, 3) := by decide +kernel
theorem dX12_odd_8 : decode cX12_odd 8 = .ok (.aload_n 0, 1) := by decide +kernel
theorem dX12_odd_9 : decode cX12_odd 9 = .ok (.iconst (-1), 1) := by decide +kernel
theorem dX12_odd_10 : decode cX12_odd 10 = .ok (.invokevirtual 75, 3) := by decide +kernel
theorem dX12_odd_13 : decode cX12_odd 13 = .ok (.ireturn, 1) := by decide +kernel
theorem dX12_odd_14 : decode cX12_odd 14 = .ok (.aload_n 0, 1) := by decide +kernel
theorem dX12_odd_15 : decode cX12_odd 15 = .ok (.getfield 29, 3) := by decide +kernel
theorem dX12_odd_18 : decode cX12_odd 18 = .ok (.iload_n 1, 1) := by decide +kernel
theorem dX12_odd_19 : decode cX12_odd 19 = .ok (.iaload, 1) := by decide +kernel
theorem dX12_odd_20 : decode cX12_odd 20 = .ok (.bipush 6, 2) := by decide +kernel
theorem dX12_odd_22 : decode cX12_odd 22 = .ok (.if_icmp .ne 10, 3) := by decide +kernel
theorem dX12_odd_25 : decode cX12_odd 25 = .ok (.aload_n 0, 1) := by decide +kernel
theorem dX12_odd_26 : decode cX12_odd 26 = .ok (.bipush (-6), 2) := by decide +kernel
theorem dX12_odd_28 : decode cX12_odd 28 = .ok (.invokevirtual 75, 3) := by decide +kernel
theorem dX12_odd_31 : decode cX12_odd 31 = .ok (.ireturn, 1) := by decide +kernel
theorem dX12_odd_32 : decode cX12_odd 32 = .ok (.iconst (-1), 1) := by decide +kernel
theorem dX12_odd_33 : decode cX12_odd 33 = .ok (.istore_n 2, 1) := by decide +kernel
theorem dX12_odd_34 : decode cX12_odd 34 = .ok (.iconst (-1), 1) := by decide +kernel
theorem dX12_odd_35 : decode cX12_odd 35 = .ok (.istore_n 3, 1) := by decide +kernel
theorem dX12_odd_36 : decode cX12_odd 36 = .ok (.aload_n 0, 1) := by decide +kernel
theorem dX12_odd_37 : decode cX12_odd 37 = .ok (.getfield 29, 3) := by decide +kernel
theorem dX12_odd_40 : decode cX12_odd 40 = .ok (.iload_n 1, 1) := by decide +kernel
theorem dX12_odd_41 : decode cX12_odd 41 = .ok (.iaload, 1) := by decide +kernel
theorem dX12_odd_42 : decode cX12_odd 42 = .ok (.istore 4, 2) := by decide +kernel
theorem dX12_odd_44 : decode cX12_odd 44 = .ok (.iload 4, 2) := by decide +kernel
theorem dX12_odd_46 : decode cX12_odd 46 = .ok (.bipush 6, 2) := by decide +kernel
theorem dX12_odd_48 : decode cX12_odd 48 = .ok (.if_icmp .ge 63, 3) := by decide +kernel
theorem dX12_odd_51 : decode cX12_odd 51 = .ok (.iconst 0, 1) := by decide +kernel
theorem dX12_odd_52 : decode cX12_odd 52 = .ok (.istore 5, 2) := by decide +kernel
theorem dX12_odd_54 : decode cX12_odd 54 = .ok (.aload_n 0, 1) := by decide +kernel
theorem dX12_odd_55 : decode cX12_odd 55 = .ok (.getfield 29, 3) := by decide +kernel
theorem dX12_odd_58 : decode cX12_odd 58 = .ok (.iload_n 1, 1) := by decide +kernel
theorem dX12_odd_59 : decode cX12_odd 59 = .ok (.iaload, 1) := by decide +kernel
theorem dX12_odd_60 : decode cX12_odd 60 = .ok (.istore 6, 2) := by decide +kernel
theorem dX12_odd_62 : decode cX12_odd 62 = .ok (.iload 6, 2) := by decide +kernel
theorem dX12_odd_64 : decode cX12_odd 64 = .ok (.bipush 6, 2) := by decide +kernel
theorem dX12_odd_66 : decode cX12_odd 66 = .ok (.if_icmp .ge 24, 3) := by decide +kernel
theorem dX12_odd_69 : decode cX12_odd 69 = .ok (.iload 5, 2) := by decide +kernel
theorem dX12_odd_71 : decode cX12_odd 71 = .ok (.aload_n 0, 1) := by decide +kernel
theorem dX12_odd_72 : decode cX12_odd 72 = .ok (.iload_n 1, 1) := by decide +kernel
theorem dX12_odd_73 : decode cX12_odd 73 = .ok (.iload 4, 2) := by decide +kernel
theorem dX12_odd_75 : decode cX12_odd 75 = .ok (.iload_n 1, 1) := by decide +kernel
theorem dX12_odd_76 : decode cX12_odd 76 = .ok (.iload 6, 2) := by decide +kernel
theorem dX12_odd_78 : decode cX12_odd 78 = .ok (.invokevirtual 252, 3) := by decide +kernel
theorem dX12_odd_81 : decode cX12_odd 81 = .ok (.iadd, 1) := by decide +kernel
theorem dX12_odd_82 : decode cX12_odd 82 = .ok (.istore 5, 2) := by decide +kernel
theorem dX12_odd_84 : decode cX12_odd 84 = .ok (.iinc 6 1, 3) := by decide +kernel
theorem dX12_odd_87 : decode cX12_odd 87 = .ok (.goto (-25), 3) := by decide +kernel
theorem dX12_odd_90 : decode cX12_odd 90 = .ok (.iload 5, 2) := by decide +kernel
theorem dX12_odd_92 : decode cX12_odd 92 = .ok (.iload_n 3, 1) := by decide +kernel
theorem dX12_odd_93 : decode cX12_odd 93 = .ok (.if_icmp .gt 6, 3) := by decide +kernel
theorem dX12_odd_96 : decode cX12_odd 96 = .ok (.goto 9, 3) := by decide +kernel
theorem dX12_odd_99 : decode cX12_odd 99 = .ok (.iload 5, 2) := by decide +kernel
theorem dX12_odd_101 : decode cX12_odd 101 = .ok (.istore_n 3, 1) := by decide +kernel
theorem dX12_odd_102 : decode cX12_odd 102 = .ok (.iload 4, 2) := by decide +kernel
theorem dX12_odd_104 : decode cX12_odd 104 = .ok (.istore_n 2, 1) := by decide +kernel
theorem dX12_odd_105 : decode cX12_odd 105 = .ok (.iinc 4 1, 3) := by decide +kernel
theorem dX12_odd_108 : decode cX12_odd 108 = .ok (.goto (-64), 3) := by decide +kernel
theorem dX12_odd_111 : decode cX12_odd 111 = .ok (.iload_n 2, 1) := by decide +kernel
theorem dX12_odd_112 : decode cX12_odd 112 = .ok (.ireturn, 1) := by decide +kernel
set_option maxRecDepth 20000 in
theorem ggX12_mends_X12_haveBits : GoodIn wsX12_mends wsX12_haveBits := goodIn_r _ [6, 1, 7, 8, 9, 5, 10, 11, 12, 13, 14, 15, 16, 24, 25, 26, 27, 28, 29, 30, 31, 32, 33, 34, 35, 36, 37, 38, 39, 40, 41, 42, 43, 44, 45, 46, 47, 48, 49, 50] (by decide +kernel) (by decide +kernel)
set_option maxRecDepth 20000 in
theorem gX12_mends_X12_haveBits : GoodIn wsX12_mends (wsV RX12 213 RX12 yX12_haveBits wsX12_haveBits) := goodIn_app (goodIn_of _ (by decide +kernel)) ggX12_mends_X12_haveBits
set_option maxRecDepth 20000 in
theorem ggX12_mends_J6_bitCount_0f7a4 : GoodIn wsX12_mends wsJ6_bitCount_0f7a4 := goodIn_r _ [20, 21, 22, 23] (by decide +kernel) (by decide +kernel)
set_option maxRecDepth 20000 in
theorem gX12_mends_J6_bitCount_0f7a4 : GoodIn wsX12_mends (va_wsS RX12 244 yJ6_bitCount_0f7a4 wsJ6_bitCount_0f7a4) := goodIn_app (goodIn_of _ (by decide +kernel)) ggX12_mends_J6_bitCount_0f7a4
theorem dX12_mends_0 : decode cX12_mends 0 = .ok (.aload_n 0, 1) := by decide +kernel
theorem dX12_mends_1 : decode cX12_mends 1 = .ok (.iload_n 1, 1) := by decide +kernel
theorem dX12_mends_2 : decode cX12_mends 2 = .ok (.iload_n 2, 1) := by decide +kernel
theorem dX12_mends_3 : decode cX12_mends 3 = .ok (.invokevirtual 213, 3) := by decide +kernel
theorem dX12_mends_6 : decode cX12_mends 6 = .ok (.invokestatic 244, 3) := by decide +kernel
theorem dX12_mends_9 : decode cX12_mends 9 = .ok (.istore_n 3, 1) := by decide +kernel
theorem dX12_mends_10 : decode cX12_mends 10 = .ok (.iload_n 3, 1) := by decide +kernel
theorem dX12_mends_11 : decode cX12_mends 11 = .ok (.bipush 6, 2) := by decide +kernel
theorem dX12_mends_13 : decode cX12_mends 13 = .ok (.aload_n 0, 1) := by decide +kernel
theorem dX12_mends_14 : decode cX12_mends 14 = .ok (.getfield 29, 3) := by decide +kernel
theorem dX12_mends_17 : decode cX12_mends 17 = .ok (.iload_n 1, 1) := by decide +kernel
theorem dX12_mends_18 : decode cX12_mends 18 = .ok (.iaload, 1) := by decide +kernel
theorem dX12_mends_19 : decode cX12_mends 19 = .ok (.isub, 1) := by decide +kernel
theorem dX12_mends_20 : decode cX12_mends 20 = .ok (.if_icmp .ne 7, 3) := by decide +kernel
theorem dX12_mends_23 : decode cX12_mends 23 = .ok (.iconst 0, 1) := by decide +kernel
theorem dX12_mends_24 : decode cX12_mends 24 = .ok (.goto 4, 3) := by decide +kernel
theorem dX12_mends_27 : decode cX12_mends 27 = .ok (.iload_n 3, 1) := by decide +kernel
theorem dX12_mends_28 : decode cX12_mends 28 = .ok (.ireturn, 1) := by decide +kernel
set_option maxRecDepth 20000 in
theorem ggX12_mend_X12_isPerson : GoodIn wsX12_mend wsX12_isPerson := goodIn_r _ [5, 6, 7, 8, 4, 9, 41, 42, 43, 44, 45, 46, 47, 48, 49, 50, 51, 52, 53, 54, 55, 56, 57, 58, 59, 60, 61, 62, 63, 64, 65, 66, 67] (by decide +kernel) (by decide +kernel)
set_option maxRecDepth 20000 in
theorem gX12_mend_X12_isPerson : GoodIn wsX12_mend (wsV RX12 96 RX12 yX12_isPerson wsX12_isPerson) := goodIn_app (goodIn_of _ (by decide +kernel)) ggX12_mend_X12_isPerson
set_option maxRecDepth 20000 in
theorem ggX12_mend_X12_no : GoodIn wsX12_mend wsX12_no := goodIn_r _ [13, 14, 41, 42, 43, 44, 45, 46, 47, 48, 49, 50, 51, 52, 53, 54, 55, 56, 57, 58, 59, 60, 61, 62, 63, 64, 65, 66, 67] (by decide +kernel) (by decide +kernel)
set_option maxRecDepth 20000 in
theorem gX12_mend_X12_no : GoodIn wsX12_mend (wsV RX12 75 RX12 yX12_no wsX12_no) := goodIn_app (goodIn_of _ (by decide +kernel)) ggX12_mend_X12_no
set_option maxRecDepth 20000 in
theorem ggX12_mend_X12_within : GoodIn wsX12_mend wsX12_within := goodIn_r _ [9] (by decide +kernel) (by decide +kernel)
set_option maxRecDepth 20000 in
theorem gX12_mend_X12_within : GoodIn wsX12_mend (va_wsS RX12 82 yX12_within wsX12_within) := goodIn_app (goodIn_of _ (by decide +kernel)) ggX12_mend_X12_within
set_option maxRecDepth 20000 in
theorem ggX12_mend_X12_mends : GoodIn wsX12_mend wsX12_mends := goodIn_r _ [18, 19, 20, 21, 22, 4, 23, 24, 25, 26, 27, 28, 29, 30, 31, 32, 33, 34, 35, 36, 37, 38, 39, 40, 41, 42, 43, 44, 45, 46, 47, 48, 49, 50, 51, 52, 53, 54, 55, 56, 57, 58, 59, 60, 61, 62, 63, 64, 65, 66, 67] (by decide +kernel) (by decide +kernel)
set_option maxRecDepth 20000 in
theorem gX12_mend_X12_mends : GoodIn wsX12_mend (wsV RX12 255 RX12 yX12_mends wsX12_mends) := goodIn_app (goodIn_of _ (by decide +kernel)) ggX12_mend_X12_mends
theorem dX12_mend_0 : decode cX12_mend 0 = .ok (.aload_n 0, 1) := by decide +kernel
theorem dX12_mend_1 : decode cX12_mend 1 = .ok (.iload_n 1, 1) := by decide +kernel
theorem dX12_mend_2 : decode cX12_mend 2 = .ok (.invokevirtual 96, 3) := by decide +kernel
theorem dX12_mend_5 : decode cX12_mend 5 = .ok (.ifCond .ne 9, 3) := by decide +kernel
theorem dX12_mend_8 : decode cX12_mend 8 = .ok (.aload_n 0, 1) := by decide +kernel
theorem dX12_mend_9 : decode cX12_mend 9 = .ok (.iconst (-1), 1) := by decide +kernel
theorem dX12_mend_10 : decode cX12_mend 10 = .ok (.invokevirtual 75, 3) := by decide +kernel
theorem dX12_mend_13 : decode cX12_mend 13 = .ok (.ireturn, 1) := by decide +kernel
theorem dX12_mend_14 : decode cX12_mend 14 = .ok (.iload_n 2, 1) := by decide +kernel
theorem dX12_mend_15 : decode cX12_mend 15 = .ok (.iconst (-1), 1) := by decide +kernel
theorem dX12_mend_16 : decode cX12_mend 16 = .ok (.bipush 7, 2) := by decide +kernel
theorem dX12_mend_18 : decode cX12_mend 18 = .ok (.invokestatic 82, 3) := by decide +kernel
theorem dX12_mend_21 : decode cX12_mend 21 = .ok (.ifCond .ne 10, 3) := by decide +kernel
theorem dX12_mend_24 : decode cX12_mend 24 = .ok (.aload_n 0, 1) := by decide +kernel
theorem dX12_mend_25 : decode cX12_mend 25 = .ok (.bipush (-6), 2) := by decide +kernel
theorem dX12_mend_27 : decode cX12_mend 27 = .ok (.invokevirtual 75, 3) := by decide +kernel
theorem dX12_mend_30 : decode cX12_mend 30 = .ok (.ireturn, 1) := by decide +kernel
theorem dX12_mend_31 : decode cX12_mend 31 = .ok (.iload_n 2, 1) := by decide +kernel
theorem dX12_mend_32 : decode cX12_mend 32 = .ok (.iconst (-1), 1) := by decide +kernel
theorem dX12_mend_33 : decode cX12_mend 33 = .ok (.if_icmp .eq 10, 3) := by decide +kernel
theorem dX12_mend_36 : decode cX12_mend 36 = .ok (.aload_n 0, 1) := by decide +kernel
theorem dX12_mend_37 : decode cX12_mend 37 = .ok (.iload_n 1, 1) := by decide +kernel
theorem dX12_mend_38 : decode cX12_mend 38 = .ok (.iload_n 2, 1) := by decide +kernel
theorem dX12_mend_39 : decode cX12_mend 39 = .ok (.invokevirtual 255, 3) := by decide +kernel
theorem dX12_mend_42 : decode cX12_mend 42 = .ok (.ireturn, 1) := by decide +kernel
theorem dX12_mend_43 : decode cX12_mend 43 = .ok (.iconst 0, 1) := by decide +kernel
theorem dX12_mend_44 : decode cX12_mend 44 = .ok (.istore_n 3, 1) := by decide +kernel
theorem dX12_mend_45 : decode cX12_mend 45 = .ok (.iconst 0, 1) := by decide +kernel
theorem dX12_mend_46 : decode cX12_mend 46 = .ok (.istore 4, 2) := by decide +kernel
theorem dX12_mend_48 : decode cX12_mend 48 = .ok (.iload 4, 2) := by decide +kernel
theorem dX12_mend_50 : decode cX12_mend 50 = .ok (.bipush 8, 2) := by decide +kernel
theorem dX12_mend_52 : decode cX12_mend 52 = .ok (.if_icmp .ge 19, 3) := by decide +kernel
theorem dX12_mend_55 : decode cX12_mend 55 = .ok (.iload_n 3, 1) := by decide +kernel
theorem dX12_mend_56 : decode cX12_mend 56 = .ok (.aload_n 0, 1) := by decide +kernel
theorem dX12_mend_57 : decode cX12_mend 57 = .ok (.iload_n 1, 1) := by decide +kernel
theorem dX12_mend_58 : decode cX12_mend 58 = .ok (.iload 4, 2) := by decide +kernel
theorem dX12_mend_60 : decode cX12_mend 60 = .ok (.invokevirtual 255, 3) := by decide +kernel
theorem dX12_mend_63 : decode cX12_mend 63 = .ok (.iadd, 1) := by decide +kernel
theorem dX12_mend_64 : decode cX12_mend 64 = .ok (.istore_n 3, 1) := by decide +kernel
theorem dX12_mend_65 : decode cX12_mend 65 = .ok (.iinc 4 1, 3) := by decide +kernel
theorem dX12_mend_68 : decode cX12_mend 68 = .ok (.goto (-20), 3) := by decide +kernel
theorem dX12_mend_71 : decode cX12_mend 71 = .ok (.iload_n 3, 1) := by decide +kernel
theorem dX12_mend_72 : decode cX12_mend 72 = .ok (.ireturn, 1) := by decide +kernel
set_option maxRecDepth 20000 in
theorem ggX12_pairs_X12_pairs : GoodIn wsX12_pairs wsX12_pairs := goodIn_r _ [0, 1, 2, 3, 4, 5, 6, 7, 8, 9, 10, 11, 12, 13, 14, 15, 16, 17, 18, 19, 20, 21, 22, 23, 24, 25, 26, 27, 28, 29, 30, 31, 32, 33, 34, 35, 36, 37, 38, 39, 40, 41, 42, 43, 44, 45, 46, 47, 48, 49, 50, 51, 52, 53, 54, 55, 56, 57, 58, 59] (by decide +kernel) (by decide +kernel)
set_option maxRecDepth 20000 in
theorem gX12_pairs_X12_pairs : GoodIn wsX12_pairs (wsV RX12 261 RX12 yX12_pairs wsX12_pairs) := goodIn_app (goodIn_of _ (by decide +kernel)) ggX12_pairs_X12_pairs
set_option maxRecDepth 20000 in
theorem ggX12_pairs_X12_has : GoodIn wsX12_pairs wsX12_has := goodIn_r _ [11] (by decide +kernel) (by decide +kernel)
set_option maxRecDepth 20000 in
theorem gX12_pairs_X12_has : GoodIn wsX12_pairs (va_wsS RX12 265 yX12_has wsX12_has) := goodIn_app (goodIn_of _ (by decide +kernel)) ggX12_pairs_X12_has
set_option maxRecDepth 20000 in
theorem ggX12_pairs_X12_hasAll : GoodIn wsX12_pairs wsX12_hasAll := goodIn_r _ [15, 16, 17, 18, 8, 19, 20, 21, 22, 23, 24, 25, 33, 34, 35, 36, 37, 38, 39, 40, 41, 42, 43, 44, 45, 46, 47, 48, 49, 50, 51, 52, 53, 54, 55, 56, 57, 58, 59] (by decide +kernel) (by decide +kernel)
set_option maxRecDepth 20000 in
theorem gX12_pairs_X12_hasAll : GoodIn wsX12_pairs (wsV RX12 126 RX12 yX12_hasAll wsX12_hasAll) := goodIn_app (goodIn_of _ (by decide +kernel)) ggX12_pairs_X12_hasAll
set_option maxRecDepth 20000 in
theorem ggX12_pairs_J6_bitCount_0f7a4 : GoodIn wsX12_pairs wsJ6_bitCount_0f7a4 := goodIn_r _ [29, 30, 31, 32] (by decide +kernel) (by decide +kernel)
set_option maxRecDepth 20000 in
theorem gX12_pairs_J6_bitCount_0f7a4 : GoodIn wsX12_pairs (va_wsS RX12 244 yJ6_bitCount_0f7a4 wsJ6_bitCount_0f7a4) := goodIn_app (goodIn_of _ (by decide +kernel)) ggX12_pairs_J6_bitCount_0f7a4
theorem dX12_pairs_0 : decode cX12_pairs 0 = .ok (.iload_n 3, 1) := by decide +kernel
theorem dX12_pairs_1 : decode cX12_pairs 1 = .ok (.bipush 6, 2) := by decide +kernel
theorem dX12_pairs_3 : decode cX12_pairs 3 = .ok (.if_icmp .ne 50, 3) := by decide +kernel
theorem dX12_pairs_6 : decode cX12_pairs 6 = .ok (.iload 5, 2) := by decide +kernel
theorem dX12_pairs_8 : decode cX12_pairs 8 = .ok (.aload_n 0, 1) := by decide +kernel
theorem dX12_pairs_9 : decode cX12_pairs 9 = .ok (.getfield 258, 3) := by decide +kernel
theorem dX12_pairs_12 : decode cX12_pairs 12 = .ok (.if_icmp .gt 4, 3) := by decide +kernel
theorem dX12_pairs_15 : decode cX12_pairs 15 = .ok (.return_, 1) := by decide +kernel
theorem dX12_pairs_16 : decode cX12_pairs 16 = .ok (.aload_n 0, 1) := by decide +kernel
theorem dX12_pairs_17 : decode cX12_pairs 17 = .ok (.iload 5, 2) := by decide +kernel
theorem dX12_pairs_19 : decode cX12_pairs 19 = .ok (.putfield 258, 3) := by decide +kernel
theorem dX12_pairs_22 : decode cX12_pairs 22 = .ok (.iconst 0, 1) := by decide +kernel
theorem dX12_pairs_23 : decode cX12_pairs 23 = .ok (.istore 6, 2) := by decide +kernel
theorem dX12_pairs_25 : decode cX12_pairs 25 = .ok (.iload 6, 2) := by decide +kernel
theorem dX12_pairs_27 : decode cX12_pairs 27 = .ok (.bipush 6, 2) := by decide +kernel
theorem dX12_pairs_29 : decode cX12_pairs 29 = .ok (.if_icmp .ge 23, 3) := by decide +kernel
theorem dX12_pairs_32 : decode cX12_pairs 32 = .ok (.aload_n 0, 1) := by decide +kernel
theorem dX12_pairs_33 : decode cX12_pairs 33 = .ok (.getfield 62, 3) := by decide +kernel
theorem dX12_pairs_36 : decode cX12_pairs 36 = .ok (.iload 6, 2) := by decide +kernel
theorem dX12_pairs_38 : decode cX12_pairs 38 = .ok (.aload_n 0, 1) := by decide +kernel
theorem dX12_pairs_39 : decode cX12_pairs 39 = .ok (.getfield 59, 3) := by decide +kernel
theorem dX12_pairs_42 : decode cX12_pairs 42 = .ok (.iload 6, 2) := by decide +kernel
theorem dX12_pairs_44 : decode cX12_pairs 44 = .ok (.iaload, 1) := by decide +kernel
theorem dX12_pairs_45 : decode cX12_pairs 45 = .ok (.iastore, 1) := by decide +kernel
theorem dX12_pairs_46 : decode cX12_pairs 46 = .ok (.iinc 6 1, 3) := by decide +kernel
theorem dX12_pairs_49 : decode cX12_pairs 49 = .ok (.goto (-24), 3) := by decide +kernel
theorem dX12_pairs_52 : decode cX12_pairs 52 = .ok (.return_, 1) := by decide +kernel
theorem dX12_pairs_53 : decode cX12_pairs 53 = .ok (.aload_n 0, 1) := by decide +kernel
theorem dX12_pairs_54 : decode cX12_pairs 54 = .ok (.getfield 59, 3) := by decide +kernel
theorem dX12_pairs_57 : decode cX12_pairs 57 = .ok (.iload_n 3, 1) := by decide +kernel
theorem dX12_pairs_58 : decode cX12_pairs 58 = .ok (.iconst (-1), 1) := by decide +kernel
theorem dX12_pairs_59 : decode cX12_pairs 59 = .ok (.iastore, 1) := by decide +kernel
theorem dX12_pairs_60 : decode cX12_pairs 60 = .ok (.aload_n 0, 1) := by decide +kernel
theorem dX12_pairs_61 : decode cX12_pairs 61 = .ok (.iload_n 1, 1) := by decide +kernel
theorem dX12_pairs_62 : decode cX12_pairs 62 = .ok (.iload_n 2, 1) := by decide +kernel
theorem dX12_pairs_63 : decode cX12_pairs 63 = .ok (.iload_n 3, 1) := by decide +kernel
theorem dX12_pairs_64 : decode cX12_pairs 64 = .ok (.iconst 1, 1) := by decide +kernel
theorem dX12_pairs_65 : decode cX12_pairs 65 = .ok (.iadd, 1) := by decide +kernel
theorem dX12_pairs_66 : decode cX12_pairs 66 = .ok (.iload 4, 2) := by decide +kernel
theorem dX12_pairs_68 : decode cX12_pairs 68 = .ok (.iload 5, 2) := by decide +kernel
theorem dX12_pairs_70 : decode cX12_pairs 70 = .ok (.invokevirtual 261, 3) := by decide +kernel
theorem dX12_pairs_73 : decode cX12_pairs 73 = .ok (.aload_n 0, 1) := by decide +kernel
theorem dX12_pairs_74 : decode cX12_pairs 74 = .ok (.getfield 29, 3) := by decide +kernel
theorem dX12_pairs_77 : decode cX12_pairs 77 = .ok (.iload_n 2, 1) := by decide +kernel
theorem dX12_pairs_78 : decode cX12_pairs 78 = .ok (.iaload, 1) := by decide +kernel
theorem dX12_pairs_79 : decode cX12_pairs 79 = .ok (.istore 6, 2) := by decide +kernel
theorem dX12_pairs_81 : decode cX12_pairs 81 = .ok (.iload 6, 2) := by decide +kernel
theorem dX12_pairs_83 : decode cX12_pairs 83 = .ok (.bipush 6, 2) := by decide +kernel
theorem dX12_pairs_85 : decode cX12_pairs 85 = .ok (.if_icmp .ge 66, 3) := by decide +kernel
theorem dX12_pairs_88 : decode cX12_pairs 88 = .ok (.iload 4, 2) := by decide +kernel
theorem dX12_pairs_90 : decode cX12_pairs 90 = .ok (.iload 6, 2) := by decide +kernel
theorem dX12_pairs_92 : decode cX12_pairs 92 = .ok (.invokestatic 265, 3) := by decide +kernel
theorem dX12_pairs_95 : decode cX12_pairs 95 = .ok (.ifCond .eq 6, 3) := by decide +kernel
theorem dX12_pairs_98 : decode cX12_pairs 98 = .ok (.goto 47, 3) := by decide +kernel
theorem dX12_pairs_101 : decode cX12_pairs 101 = .ok (.aload_n 0, 1) := by decide +kernel
theorem dX12_pairs_102 : decode cX12_pairs 102 = .ok (.getfield 59, 3) := by decide +kernel
theorem dX12_pairs_105 : decode cX12_pairs 105 = .ok (.iload_n 3, 1) := by decide +kernel
theorem dX12_pairs_106 : decode cX12_pairs 106 = .ok (.iload 6, 2) := by decide +kernel
theorem dX12_pairs_108 : decode cX12_pairs 108 = .ok (.iastore, 1) := by decide +kernel
theorem dX12_pairs_109 : decode cX12_pairs 109 = .ok (.aload_n 0, 1) := by decide +kernel
theorem dX12_pairs_110 : decode cX12_pairs 110 = .ok (.iload_n 1, 1) := by decide +kernel
theorem dX12_pairs_111 : decode cX12_pairs 111 = .ok (.iload_n 2, 1) := by decide +kernel
theorem dX12_pairs_112 : decode cX12_pairs 112 = .ok (.iload_n 3, 1) := by decide +kernel
theorem dX12_pairs_113 : decode cX12_pairs 113 = .ok (.iconst 1, 1) := by decide +kernel
theorem dX12_pairs_114 : decode cX12_pairs 114 = .ok (.iadd, 1) := by decide +kernel
theorem dX12_pairs_115 : decode cX12_pairs 115 = .ok (.iload 4, 2) := by decide +kernel
theorem dX12_pairs_117 : decode cX12_pairs 117 = .ok (.iconst 1, 1) := by decide +kernel
theorem dX12_pairs_118 : decode cX12_pairs 118 = .ok (.iload 6, 2) := by decide +kernel
theorem dX12_pairs_120 : decode cX12_pairs 120 = .ok (.ishl, 1) := by decide +kernel
theorem dX12_pairs_121 : decode cX12_pairs 121 = .ok (.ior, 1) := by decide +kernel
theorem dX12_pairs_122 : decode cX12_pairs 122 = .ok (.iload 5, 2) := by decide +kernel
theorem dX12_pairs_124 : decode cX12_pairs 124 = .ok (.aload_n 0, 1) := by decide +kernel
theorem dX12_pairs_125 : decode cX12_pairs 125 = .ok (.iload_n 1, 1) := by decide +kernel
theorem dX12_pairs_126 : decode cX12_pairs 126 = .ok (.iload_n 3, 1) := by decide +kernel
theorem dX12_pairs_127 : decode cX12_pairs 127 = .ok (.invokevirtual 126, 3) := by decide +kernel
theorem dX12_pairs_130 : decode cX12_pairs 130 = .ok (.aload_n 0, 1) := by decide +kernel
theorem dX12_pairs_131 : decode cX12_pairs 131 = .ok (.iload_n 2, 1) := by decide +kernel
theorem dX12_pairs_132 : decode cX12_pairs 132 = .ok (.iload 6, 2) := by decide +kernel
theorem dX12_pairs_134 : decode cX12_pairs 134 = .ok (.invokevirtual 126, 3) := by decide +kernel
theorem dX12_pairs_137 : decode cX12_pairs 137 = .ok (.iand, 1) := by decide +kernel
theorem dX12_pairs_138 : decode cX12_pairs 138 = .ok (.invokestatic 244, 3) := by decide +kernel
theorem dX12_pairs_141 : decode cX12_pairs 141 = .ok (.iadd, 1) := by decide +kernel
theorem dX12_pairs_142 : decode cX12_pairs 142 = .ok (.invokevirtual 261, 3) := by decide +kernel
theorem dX12_pairs_145 : decode cX12_pairs 145 = .ok (.iinc 6 1, 3) := by decide +kernel
theorem dX12_pairs_148 : decode cX12_pairs 148 = .ok (.goto (-67), 3) := by decide +kernel
theorem dX12_pairs_151 : decode cX12_pairs 151 = .ok (.return_, 1) := by decide +kernel
set_option maxRecDepth 20000 in
theorem ggX12_paired_X12_isPerson : GoodIn wsX12_paired wsX12_isPerson := goodIn_r _ [8, 9, 10, 11, 7, 12, 51, 52, 53, 54, 55, 56, 57, 58, 59, 60, 61, 62, 63, 64, 65, 66, 67, 68, 69, 70, 71, 72, 73, 74, 75, 76, 77] (by decide +kernel) (by decide +kernel)
set_option maxRecDepth 20000 in
theorem gX12_paired_X12_isPerson : GoodIn wsX12_paired (wsV RX12 96 RX12 yX12_isPerson wsX12_isPerson) := goodIn_app (goodIn_of _ (by decide +kernel)) ggX12_paired_X12_isPerson
set_option maxRecDepth 20000 in
theorem ggX12_paired_X12_no10 : GoodIn wsX12_paired wsX12_no10 := goodIn_r _ [16, 17, 18, 19, 7, 20, 21, 51, 52, 53, 54, 55, 56, 57, 58, 59, 60, 61, 62, 63, 64, 65, 66, 67, 68, 69, 70, 71, 72, 73, 74, 75, 76, 77] (by decide +kernel) (by decide +kernel)
set_option maxRecDepth 20000 in
theorem gX12_paired_X12_no10 : GoodIn wsX12_paired (wsV RX12 216 RX12 yX12_no10 wsX12_no10) := goodIn_app (goodIn_of _ (by decide +kernel)) ggX12_paired_X12_no10
set_option maxRecDepth 20000 in
theorem ggX12_paired_X12_within : GoodIn wsX12_paired wsX12_within := goodIn_r _ [12] (by decide +kernel) (by decide +kernel)
set_option maxRecDepth 20000 in
theorem gX12_paired_X12_within : GoodIn wsX12_paired (va_wsS RX12 82 yX12_within wsX12_within) := goodIn_app (goodIn_of _ (by decide +kernel)) ggX12_paired_X12_within
set_option maxRecDepth 20000 in
theorem ggX12_paired_X12_pairs : GoodIn wsX12_paired wsX12_pairs := goodIn_r _ [25, 2, 3, 26, 1, 22, 23, 24, 7, 27, 28, 29, 30, 31, 32, 33, 34, 35, 36, 37, 38, 39, 40, 41, 42, 43, 44, 45, 46, 47, 48, 49, 50, 51, 52, 53, 54, 55, 56, 57, 58, 59, 60, 61, 62, 63, 64, 65, 66, 67, 68, 69, 70, 71, 72, 73, 74, 75, 76, 77] (by decide +kernel) (by decide +kernel)
set_option maxRecDepth 20000 in
theorem gX12_paired_X12_pairs : GoodIn wsX12_paired (wsV RX12 261 RX12 yX12_pairs wsX12_pairs) := goodIn_app (goodIn_of _ (by decide +kernel)) ggX12_paired_X12_pairs
theorem dX12_paired_0 : decode cX12_paired 0 = .ok (.aload_n 0, 1) := by decide +kernel
theorem dX12_paired_1 : decode cX12_paired 1 = .ok (.iload_n 1, 1) := by decide +kernel
theorem dX12_paired_2 : decode cX12_paired 2 = .ok (.invokevirtual 96, 3) := by decide +kernel
theorem dX12_paired_5 : decode cX12_paired 5 = .ok (.ifCond .eq 16, 3) := by decide +kernel
theorem dX12_paired_8 : decode cX12_paired 8 = .ok (.aload_n 0, 1) := by decide +kernel
theorem dX12_paired_9 : decode cX12_paired 9 = .ok (.iload_n 2, 1) := by decide +kernel
theorem dX12_paired_10 : decode cX12_paired 10 = .ok (.invokevirtual 96, 3) := by decide +kernel
theorem dX12_paired_13 : decode cX12_paired 13 = .ok (.ifCond .eq 8, 3) := by decide +kernel
theorem dX12_paired_16 : decode cX12_paired 16 = .ok (.iload_n 1, 1) := by decide +kernel
theorem dX12_paired_17 : decode cX12_paired 17 = .ok (.iload_n 2, 1) := by decide +kernel
theorem dX12_paired_18 : decode cX12_paired 18 = .ok (.if_icmp .ne 9, 3) := by decide +kernel
theorem dX12_paired_21 : decode cX12_paired 21 = .ok (.aload_n 0, 1) := by decide +kernel
theorem dX12_paired_22 : decode cX12_paired 22 = .ok (.iconst (-1), 1) := by decide +kernel
theorem dX12_paired_23 : decode cX12_paired 23 = .ok (.invokevirtual 216, 3) := by decide +kernel
theorem dX12_paired_26 : decode cX12_paired 26 = .ok (.ireturn, 1) := by decide +kernel
theorem dX12_paired_27 : decode cX12_paired 27 = .ok (.iload_n 3, 1) := by decide +kernel
theorem dX12_paired_28 : decode cX12_paired 28 = .ok (.iconst (-1), 1) := by decide +kernel
theorem dX12_paired_29 : decode cX12_paired 29 = .ok (.bipush 6, 2) := by decide +kernel
theorem dX12_paired_31 : decode cX12_paired 31 = .ok (.aload_n 0, 1) := by decide +kernel
theorem dX12_paired_32 : decode cX12_paired 32 = .ok (.getfield 29, 3) := by decide +kernel
theorem dX12_paired_35 : decode cX12_paired 35 = .ok (.iload_n 1, 1) := by decide +kernel
theorem dX12_paired_36 : decode cX12_paired 36 = .ok (.iaload, 1) := by decide +kernel
theorem dX12_paired_37 : decode cX12_paired 37 = .ok (.isub, 1) := by decide +kernel
theorem dX12_paired_38 : decode cX12_paired 38 = .ok (.iconst 1, 1) := by decide +kernel
theorem dX12_paired_39 : decode cX12_paired 39 = .ok (.isub, 1) := by decide +kernel
theorem dX12_paired_40 : decode cX12_paired 40 = .ok (.invokestatic 82, 3) := by decide +kernel
theorem dX12_paired_43 : decode cX12_paired 43 = .ok (.ifCond .ne 10, 3) := by decide +kernel
theorem dX12_paired_46 : decode cX12_paired 46 = .ok (.aload_n 0, 1) := by decide +kernel
theorem dX12_paired_47 : decode cX12_paired 47 = .ok (.bipush (-5), 2) := by decide +kernel
theorem dX12_paired_49 : decode cX12_paired 49 = .ok (.invokevirtual 216, 3) := by decide +kernel
theorem dX12_paired_52 : decode cX12_paired 52 = .ok (.ireturn, 1) := by decide +kernel
theorem dX12_paired_53 : decode cX12_paired 53 = .ok (.aload_n 0, 1) := by decide +kernel
theorem dX12_paired_54 : decode cX12_paired 54 = .ok (.iconst (-1), 1) := by decide +kernel
theorem dX12_paired_55 : decode cX12_paired 55 = .ok (.putfield 258, 3) := by decide +kernel
theorem dX12_paired_58 : decode cX12_paired 58 = .ok (.aload_n 0, 1) := by decide +kernel
theorem dX12_paired_59 : decode cX12_paired 59 = .ok (.iload_n 1, 1) := by decide +kernel
theorem dX12_paired_60 : decode cX12_paired 60 = .ok (.iload_n 2, 1) := by decide +kernel
theorem dX12_paired_61 : decode cX12_paired 61 = .ok (.aload_n 0, 1) := by decide +kernel
theorem dX12_paired_62 : decode cX12_paired 62 = .ok (.getfield 29, 3) := by decide +kernel
theorem dX12_paired_65 : decode cX12_paired 65 = .ok (.iload_n 1, 1) := by decide +kernel
theorem dX12_paired_66 : decode cX12_paired 66 = .ok (.iaload, 1) := by decide +kernel
theorem dX12_paired_67 : decode cX12_paired 67 = .ok (.iconst 0, 1) := by decide +kernel
theorem dX12_paired_68 : decode cX12_paired 68 = .ok (.iconst 0, 1) := by decide +kernel
theorem dX12_paired_69 : decode cX12_paired 69 = .ok (.invokevirtual 261, 3) := by decide +kernel
theorem dX12_paired_72 : decode cX12_paired 72 = .ok (.iload_n 3, 1) := by decide +kernel
theorem dX12_paired_73 : decode cX12_paired 73 = .ok (.iconst (-1), 1) := by decide +kernel
theorem dX12_paired_74 : decode cX12_paired 74 = .ok (.if_icmp .ne 10, 3) := by decide +kernel
theorem dX12_paired_77 : decode cX12_paired 77 = .ok (.aload_n 0, 1) := by decide +kernel
theorem dX12_paired_78 : decode cX12_paired 78 = .ok (.getfield 258, 3) := by decide +kernel
theorem dX12_paired_81 : decode cX12_paired 81 = .ok (.goto 16, 3) := by decide +kernel
theorem dX12_paired_84 : decode cX12_paired 84 = .ok (.aload_n 0, 1) := by decide +kernel
theorem dX12_paired_85 : decode cX12_paired 85 = .ok (.getfield 62, 3) := by decide +kernel
theorem dX12_paired_88 : decode cX12_paired 88 = .ok (.aload_n 0, 1) := by decide +kernel
theorem dX12_paired_89 : decode cX12_paired 89 = .ok (.getfield 29, 3) := by decide +kernel
theorem dX12_paired_92 : decode cX12_paired 92 = .ok (.iload_n 1, 1) := by decide +kernel
theorem dX12_paired_93 : decode cX12_paired 93 = .ok (.iaload, 1) := by decide +kernel
theorem dX12_paired_94 : decode cX12_paired 94 = .ok (.iload_n 3, 1) := by decide +kernel
theorem dX12_paired_95 : decode cX12_paired 95 = .ok (.iadd, 1) := by decide +kernel
theorem dX12_paired_96 : decode cX12_paired 96 = .ok (.iaload, 1) := by decide +kernel
theorem dX12_paired_97 : decode cX12_paired 97 = .ok (.ireturn, 1) := by decide +kernel
set_option maxRecDepth 20000 in
theorem ggX12_bears_X12_hasDeed : GoodIn wsX12_bears wsX12_hasDeed := goodIn_r _ [6, 7, 8, 9, 10, 5, 11, 12, 13, 14, 15, 16, 17, 18, 19, 20, 21, 22, 23, 24, 25, 26, 27, 28, 29, 30, 31, 32, 33, 34, 35, 36, 37, 38, 39] (by decide +kernel) (by decide +kernel)
set_option maxRecDepth 20000 in
theorem gX12_bears_X12_hasDeed : GoodIn wsX12_bears (wsV RX12 123 RX12 yX12_hasDeed wsX12_hasDeed) := goodIn_app (goodIn_of _ (by decide +kernel)) ggX12_bears_X12_hasDeed
theorem dX12_bears_0 : decode cX12_bears 0 = .ok (.iconst 0, 1) := by decide +kernel
theorem dX12_bears_1 : decode cX12_bears 1 = .ok (.istore_n 3, 1) := by decide +kernel
theorem dX12_bears_2 : decode cX12_bears 2 = .ok (.aload_n 0, 1) := by decide +kernel
theorem dX12_bears_3 : decode cX12_bears 3 = .ok (.getfield 29, 3) := by decide +kernel
theorem dX12_bears_6 : decode cX12_bears 6 = .ok (.iload_n 1, 1) := by decide +kernel
theorem dX12_bears_7 : decode cX12_bears 7 = .ok (.iaload, 1) := by decide +kernel
theorem dX12_bears_8 : decode cX12_bears 8 = .ok (.istore 4, 2) := by decide +kernel
theorem dX12_bears_10 : decode cX12_bears 10 = .ok (.iload 4, 2) := by decide +kernel
theorem dX12_bears_12 : decode cX12_bears 12 = .ok (.bipush 6, 2) := by decide +kernel
theorem dX12_bears_14 : decode cX12_bears 14 = .ok (.if_icmp .ge 32, 3) := by decide +kernel
theorem dX12_bears_17 : decode cX12_bears 17 = .ok (.aload_n 0, 1) := by decide +kernel
theorem dX12_bears_18 : decode cX12_bears 18 = .ok (.iload_n 1, 1) := by decide +kernel
theorem dX12_bears_19 : decode cX12_bears 19 = .ok (.iload 4, 2) := by decide +kernel
theorem dX12_bears_21 : decode cX12_bears 21 = .ok (.iload_n 2, 1) := by decide +kernel
theorem dX12_bears_22 : decode cX12_bears 22 = .ok (.invokevirtual 123, 3) := by decide +kernel
theorem dX12_bears_25 : decode cX12_bears 25 = .ok (.ifCond .eq 15, 3) := by decide +kernel
theorem dX12_bears_28 : decode cX12_bears 28 = .ok (.iload 4, 2) := by decide +kernel
theorem dX12_bears_30 : decode cX12_bears 30 = .ok (.aload_n 0, 1) := by decide +kernel
theorem dX12_bears_31 : decode cX12_bears 31 = .ok (.getfield 29, 3) := by decide +kernel
theorem dX12_bears_34 : decode cX12_bears 34 = .ok (.iload_n 1, 1) := by decide +kernel
theorem dX12_bears_35 : decode cX12_bears 35 = .ok (.iaload, 1) := by decide +kernel
theorem dX12_bears_36 : decode cX12_bears 36 = .ok (.isub, 1) := by decide +kernel
theorem dX12_bears_37 : decode cX12_bears 37 = .ok (.iconst 1, 1) := by decide +kernel
theorem dX12_bears_38 : decode cX12_bears 38 = .ok (.iadd, 1) := by decide +kernel
theorem dX12_bears_39 : decode cX12_bears 39 = .ok (.istore_n 3, 1) := by decide +kernel
theorem dX12_bears_40 : decode cX12_bears 40 = .ok (.iinc 4 1, 3) := by decide +kernel
theorem dX12_bears_43 : decode cX12_bears 43 = .ok (.goto (-33), 3) := by decide +kernel
theorem dX12_bears_46 : decode cX12_bears 46 = .ok (.iload_n 3, 1) := by decide +kernel
theorem dX12_bears_47 : decode cX12_bears 47 = .ok (.ireturn, 1) := by decide +kernel
set_option maxRecDepth 20000 in
theorem ggX12_bear_X12_isPerson : GoodIn wsX12_bear wsX12_isPerson := goodIn_r _ [5, 6, 7, 8, 4, 9, 33, 34, 35, 36, 37, 38, 39, 40, 41, 42, 43, 44, 45, 46, 47, 48, 49, 50, 51, 52, 53, 54, 55, 56, 57, 58, 59] (by decide +kernel) (by decide +kernel)
set_option maxRecDepth 20000 in
theorem gX12_bear_X12_isPerson : GoodIn wsX12_bear (wsV RX12 96 RX12 yX12_isPerson wsX12_isPerson) := goodIn_app (goodIn_of _ (by decide +kernel)) ggX12_bear_X12_isPerson
set_option maxRecDepth 20000 in
theorem ggX12_bear_X12_no : GoodIn wsX12_bear wsX12_no := goodIn_r _ [13, 14, 33, 34, 35, 36, 37, 38, 39, 40, 41, 42, 43, 44, 45, 46, 47, 48, 49, 50, 51, 52, 53, 54, 55, 56, 57, 58, 59] (by decide +kernel) (by decide +kernel)
set_option maxRecDepth 20000 in
theorem gX12_bear_X12_no : GoodIn wsX12_bear (wsV RX12 75 RX12 yX12_no wsX12_no) := goodIn_app (goodIn_of _ (by decide +kernel)) ggX12_bear_X12_no
set_option maxRecDepth 20000 in
theorem ggX12_bear_X12_isDeed : GoodIn wsX12_bear wsX12_isDeed := goodIn_r _ [17, 7, 8, 4, 9] (by decide +kernel) (by decide +kernel)
set_option maxRecDepth 20000 in
theorem gX12_bear_X12_isDeed : GoodIn wsX12_bear (va_wsS RX12 132 yX12_isDeed wsX12_isDeed) := goodIn_app (goodIn_of _ (by decide +kernel)) ggX12_bear_X12_isDeed
set_option maxRecDepth 20000 in
theorem ggX12_bear_X12_bears : GoodIn wsX12_bear wsX12_bears := goodIn_r _ [21, 22, 23, 24, 25, 4, 26, 27, 28, 29, 30, 31, 32, 33, 34, 35, 36, 37, 38, 39, 40, 41, 42, 43, 44, 45, 46, 47, 48, 49, 50, 51, 52, 53, 54, 55, 56, 57, 58, 59] (by decide +kernel) (by decide +kernel)
set_option maxRecDepth 20000 in
theorem gX12_bear_X12_bears : GoodIn wsX12_bear (wsV RX12 268 RX12 yX12_bears wsX12_bears) := goodIn_app (goodIn_of _ (by decide +kernel)) ggX12_bear_X12_bears
theorem dX12_bear_0 : decode cX12_bear 0 = .ok (.aload_n 0, 1) := by decide +kernel
theorem dX12_bear_1 : decode cX12_bear 1 = .ok (.iload_n 1, 1) := by decide +kernel
theorem dX12_bear_2 : decode cX12_bear 2 = .ok (.invokevirtual 96, 3) := by decide +kernel
theorem dX12_bear_5 : decode cX12_bear 5 = .ok (.ifCond .ne 9, 3) := by decide +kernel
theorem dX12_bear_8 : decode cX12_bear 8 = .ok (.aload_n 0, 1) := by decide +kernel
theorem dX12_bear_9 : decode cX12_bear 9 = .ok (.iconst (-1), 1) := by decide +kernel
theorem dX12_bear_10 : decode cX12_bear 10 = .ok (.invokevirtual 75, 3) := by decide +kernel
theorem dX12_bear_13 : decode cX12_bear 13 = .ok (.ireturn, 1) := by decide +kernel
theorem dX12_bear_14 : decode cX12_bear 14 = .ok (.iload_n 2, 1) := by decide +kernel
theorem dX12_bear_15 : decode cX12_bear 15 = .ok (.invokestatic 132, 3) := by decide +kernel
theorem dX12_bear_18 : decode cX12_bear 18 = .ok (.ifCond .eq 12, 3) := by decide +kernel
theorem dX12_bear_21 : decode cX12_bear 21 = .ok (.aload_n 0, 1) := by decide +kernel
theorem dX12_bear_22 : decode cX12_bear 22 = .ok (.iload_n 1, 1) := by decide +kernel
theorem dX12_bear_23 : decode cX12_bear 23 = .ok (.iload_n 2, 1) := by decide +kernel
theorem dX12_bear_24 : decode cX12_bear 24 = .ok (.invokevirtual 268, 3) := by decide +kernel
theorem dX12_bear_27 : decode cX12_bear 27 = .ok (.goto 9, 3) := by decide +kernel
theorem dX12_bear_30 : decode cX12_bear 30 = .ok (.aload_n 0, 1) := by decide +kernel
theorem dX12_bear_31 : decode cX12_bear 31 = .ok (.bipush (-6), 2) := by decide +kernel
theorem dX12_bear_33 : decode cX12_bear 33 = .ok (.invokevirtual 75, 3) := by decide +kernel
theorem dX12_bear_36 : decode cX12_bear 36 = .ok (.ireturn, 1) := by decide +kernel
set_option maxRecDepth 20000 in
theorem ggX12_heir_X12_no : GoodIn wsX12_heir wsX12_no := goodIn_r _ [6, 7, 29, 30, 31, 32, 33, 34, 35, 36, 37, 38, 39, 40, 41, 42, 43, 44, 45, 46, 47, 48, 49, 50, 51, 52, 53, 54, 55] (by decide +kernel) (by decide +kernel)
set_option maxRecDepth 20000 in
theorem gX12_heir_X12_no : GoodIn wsX12_heir (wsV RX12 75 RX12 yX12_no wsX12_no) := goodIn_app (goodIn_of _ (by decide +kernel)) ggX12_heir_X12_no
set_option maxRecDepth 20000 in
theorem ggX12_heir_X12_isDeed : GoodIn wsX12_heir wsX12_isDeed := goodIn_r _ [10, 11, 12, 5, 13] (by decide +kernel) (by decide +kernel)
set_option maxRecDepth 20000 in
theorem gX12_heir_X12_isDeed : GoodIn wsX12_heir (va_wsS RX12 132 yX12_isDeed wsX12_isDeed) := goodIn_app (goodIn_of _ (by decide +kernel)) ggX12_heir_X12_isDeed
set_option maxRecDepth 20000 in
theorem ggX12_heir_X12_bears : GoodIn wsX12_heir wsX12_bears := goodIn_r _ [17, 18, 19, 20, 21, 5, 22, 23, 24, 25, 26, 27, 28, 29, 30, 31, 32, 33, 34, 35, 36, 37, 38, 39, 40, 41, 42, 43, 44, 45, 46, 47, 48, 49, 50, 51, 52, 53, 54, 55] (by decide +kernel) (by decide +kernel)
set_option maxRecDepth 20000 in
theorem gX12_heir_X12_bears : GoodIn wsX12_heir (wsV RX12 268 RX12 yX12_bears wsX12_bears) := goodIn_app (goodIn_of _ (by decide +kernel)) ggX12_heir_X12_bears
theorem dX12_heir_0 : decode cX12_heir 0 = .ok (.aload_n 0, 1) := by decide +kernel
theorem dX12_heir_1 : decode cX12_heir 1 = .ok (.getfield 79, 3) := by decide +kernel
theorem dX12_heir_4 : decode cX12_heir 4 = .ok (.ifCond .ne 10, 3) := by decide +kernel
theorem dX12_heir_7 : decode cX12_heir 7 = .ok (.aload_n 0, 1) := by decide +kernel
theorem dX12_heir_8 : decode cX12_heir 8 = .ok (.bipush (-5), 2) := by decide +kernel
theorem dX12_heir_10 : decode cX12_heir 10 = .ok (.invokevirtual 75, 3) := by decide +kernel
theorem dX12_heir_13 : decode cX12_heir 13 = .ok (.ireturn, 1) := by decide +kernel
theorem dX12_heir_14 : decode cX12_heir 14 = .ok (.iload_n 1, 1) := by decide +kernel
theorem dX12_heir_15 : decode cX12_heir 15 = .ok (.invokestatic 132, 3) := by decide +kernel
theorem dX12_heir_18 : decode cX12_heir 18 = .ok (.ifCond .ne 10, 3) := by decide +kernel
theorem dX12_heir_21 : decode cX12_heir 21 = .ok (.aload_n 0, 1) := by decide +kernel
theorem dX12_heir_22 : decode cX12_heir 22 = .ok (.bipush (-6), 2) := by decide +kernel
theorem dX12_heir_24 : decode cX12_heir 24 = .ok (.invokevirtual 75, 3) := by decide +kernel
theorem dX12_heir_27 : decode cX12_heir 27 = .ok (.ireturn, 1) := by decide +kernel
theorem dX12_heir_28 : decode cX12_heir 28 = .ok (.iconst 0, 1) := by decide +kernel
theorem dX12_heir_29 : decode cX12_heir 29 = .ok (.istore_n 2, 1) := by decide +kernel
theorem dX12_heir_30 : decode cX12_heir 30 = .ok (.iconst 1, 1) := by decide +kernel
theorem dX12_heir_31 : decode cX12_heir 31 = .ok (.istore_n 3, 1) := by decide +kernel
theorem dX12_heir_32 : decode cX12_heir 32 = .ok (.iload_n 3, 1) := by decide +kernel
theorem dX12_heir_33 : decode cX12_heir 33 = .ok (.aload_n 0, 1) := by decide +kernel
theorem dX12_heir_34 : decode cX12_heir 34 = .ok (.getfield 79, 3) := by decide +kernel
theorem dX12_heir_37 : decode cX12_heir 37 = .ok (.if_icmp .ge 26, 3) := by decide +kernel
theorem dX12_heir_40 : decode cX12_heir 40 = .ok (.aload_n 0, 1) := by decide +kernel
theorem dX12_heir_41 : decode cX12_heir 41 = .ok (.iload_n 3, 1) := by decide +kernel
theorem dX12_heir_42 : decode cX12_heir 42 = .ok (.iload_n 1, 1) := by decide +kernel
theorem dX12_heir_43 : decode cX12_heir 43 = .ok (.invokevirtual 268, 3) := by decide +kernel
theorem dX12_heir_46 : decode cX12_heir 46 = .ok (.aload_n 0, 1) := by decide +kernel
theorem dX12_heir_47 : decode cX12_heir 47 = .ok (.iload_n 2, 1) := by decide +kernel
theorem dX12_heir_48 : decode cX12_heir 48 = .ok (.iload_n 1, 1) := by decide +kernel
theorem dX12_heir_49 : decode cX12_heir 49 = .ok (.invokevirtual 268, 3) := by decide +kernel
theorem dX12_heir_52 : decode cX12_heir 52 = .ok (.if_icmp .le 5, 3) := by decide +kernel
theorem dX12_heir_55 : decode cX12_heir 55 = .ok (.iload_n 3, 1) := by decide +kernel
theorem dX12_heir_56 : decode cX12_heir 56 = .ok (.istore_n 2, 1) := by decide +kernel
theorem dX12_heir_57 : decode cX12_heir 57 = .ok (.iinc 3 1, 3) := by decide +kernel
theorem dX12_heir_60 : decode cX12_heir 60 = .ok (.goto (-28), 3) := by decide +kernel
theorem dX12_heir_63 : decode cX12_heir 63 = .ok (.iload_n 2, 1) := by decide +kernel
theorem dX12_heir_64 : decode cX12_heir 64 = .ok (.ireturn, 1) := by decide +kernel
set_option maxRecDepth 20000 in
theorem ggX12_straight_X12_isPerson : GoodIn wsX12_straight wsX12_isPerson := goodIn_r _ [10, 11, 12, 13, 9, 14, 24, 25, 26, 27, 28, 29, 30, 31, 32, 33, 34, 35, 36, 37, 38, 39, 40, 41, 42, 43, 44, 45, 46, 47, 48, 49, 50] (by decide +kernel) (by decide +kernel)
set_option maxRecDepth 20000 in
theorem gX12_straight_X12_isPerson : GoodIn wsX12_straight (wsV RX12 96 RX12 yX12_isPerson wsX12_isPerson) := goodIn_app (goodIn_of _ (by decide +kernel)) ggX12_straight_X12_isPerson
set_option maxRecDepth 20000 in
theorem ggX12_straight_X12_no10 : GoodIn wsX12_straight wsX12_no10 := goodIn_r _ [18, 19, 20, 21, 9, 22, 23, 24, 25, 26, 27, 28, 29, 30, 31, 32, 33, 34, 35, 36, 37, 38, 39, 40, 41, 42, 43, 44, 45, 46, 47, 48, 49, 50] (by decide +kernel) (by decide +kernel)
set_option maxRecDepth 20000 in
theorem gX12_straight_X12_no10 : GoodIn wsX12_straight (wsV RX12 216 RX12 yX12_no10 wsX12_no10) := goodIn_app (goodIn_of _ (by decide +kernel)) ggX12_straight_X12_no10
set_option maxRecDepth 20000 in
theorem ggX12_straight_X12_within : GoodIn wsX12_straight wsX12_within := goodIn_r _ [14] (by decide +kernel) (by decide +kernel)
set_option maxRecDepth 20000 in
theorem gX12_straight_X12_within : GoodIn wsX12_straight (va_wsS RX12 82 yX12_within wsX12_within) := goodIn_app (goodIn_of _ (by decide +kernel)) ggX12_straight_X12_within
theorem dX12_straight_0 : decode cX12_straight 0 = .ok (.aload_n 0, 1) := by decide +kernel
theorem dX12_straight_1 : decode cX12_straight 1 = .ok (.iload_n 1, 1) := by decide +kernel
theorem dX12_straight_2 : decode cX12_straight 2 = .ok (.invokevirtual 96, 3) := by decide +kernel
theorem dX12_straight_5 : decode cX12_straight 5 = .ok (.ifCond .ne 9, 3) := by decide +kernel
theorem dX12_straight_8 : decode cX12_straight 8 = .ok (.aload_n 0, 1) := by decide +kernel
theorem dX12_straight_9 : decode cX12_straight 9 = .ok (.iconst (-1), 1) := by decide +kernel
theorem dX12_straight_10 : decode cX12_straight 10 = .ok (.invokevirtual 216, 3) := by decide +kernel
theorem dX12_straight_13 : decode cX12_straight 13 = .ok (.ireturn, 1) := by decide +kernel
theorem dX12_straight_14 : decode cX12_straight 14 = .ok (.iload_n 2, 1) := by decide +kernel
theorem dX12_straight_15 : decode cX12_straight 15 = .ok (.iconst 0, 1) := by decide +kernel
theorem dX12_straight_16 : decode cX12_straight 16 = .ok (.iconst 2, 1) := by decide +kernel
theorem dX12_straight_17 : decode cX12_straight 17 = .ok (.invokestatic 82, 3) := by decide +kernel
theorem dX12_straight_20 : decode cX12_straight 20 = .ok (.ifCond .ne 10, 3) := by decide +kernel
theorem dX12_straight_23 : decode cX12_straight 23 = .ok (.aload_n 0, 1) := by decide +kernel
theorem dX12_straight_24 : decode cX12_straight 24 = .ok (.bipush (-5), 2) := by decide +kernel
theorem dX12_straight_26 : decode cX12_straight 26 = .ok (.invokevirtual 216, 3) := by decide +kernel
theorem dX12_straight_29 : decode cX12_straight 29 = .ok (.ireturn, 1) := by decide +kernel
theorem dX12_straight_30 : decode cX12_straight 30 = .ok (.iconst 0, 1) := by decide +kernel
theorem dX12_straight_31 : decode cX12_straight 31 = .ok (.istore_n 3, 1) := by decide +kernel
theorem dX12_straight_32 : decode cX12_straight 32 = .ok (.iconst 0, 1) := by decide +kernel
theorem dX12_straight_33 : decode cX12_straight 33 = .ok (.istore 4, 2) := by decide +kernel
theorem dX12_straight_35 : decode cX12_straight 35 = .ok (.iconst (-1), 1) := by decide +kernel
theorem dX12_straight_36 : decode cX12_straight 36 = .ok (.istore 5, 2) := by decide +kernel
theorem dX12_straight_38 : decode cX12_straight 38 = .ok (.iconst 0, 1) := by decide +kernel
theorem dX12_straight_39 : decode cX12_straight 39 = .ok (.istore 6, 2) := by decide +kernel
theorem dX12_straight_41 : decode cX12_straight 41 = .ok (.iconst 0, 1) := by decide +kernel
theorem dX12_straight_42 : decode cX12_straight 42 = .ok (.istore 7, 2) := by decide +kernel
theorem dX12_straight_44 : decode cX12_straight 44 = .ok (.iload 7, 2) := by decide +kernel
theorem dX12_straight_46 : decode cX12_straight 46 = .ok (.bipush 6, 2) := by decide +kernel
theorem dX12_straight_48 : decode cX12_straight 48 = .ok (.if_icmp .ge 69, 3) := by decide +kernel
theorem dX12_straight_51 : decode cX12_straight 51 = .ok (.aload_n 0, 1) := by decide +kernel
theorem dX12_straight_52 : decode cX12_straight 52 = .ok (.getfield 35, 3) := by decide +kernel
theorem dX12_straight_55 : decode cX12_straight 55 = .ok (.bipush 6, 2) := by decide +kernel
theorem dX12_straight_57 : decode cX12_straight 57 = .ok (.iload_n 1, 1) := by decide +kernel
theorem dX12_straight_58 : decode cX12_straight 58 = .ok (.imul, 1) := by decide +kernel
theorem dX12_straight_59 : decode cX12_straight 59 = .ok (.iload 7, 2) := by decide +kernel
theorem dX12_straight_61 : decode cX12_straight 61 = .ok (.iadd, 1) := by decide +kernel
theorem dX12_straight_62 : decode cX12_straight 62 = .ok (.iaload, 1) := by decide +kernel
theorem dX12_straight_63 : decode cX12_straight 63 = .ok (.istore 8, 2) := by decide +kernel
theorem dX12_straight_65 : decode cX12_straight 65 = .ok (.iload 8, 2) := by decide +kernel
theorem dX12_straight_67 : decode cX12_straight 67 = .ok (.ifCond .ne 10, 3) := by decide +kernel
theorem dX12_straight_70 : decode cX12_straight 70 = .ok (.iload_n 3, 1) := by decide +kernel
theorem dX12_straight_71 : decode cX12_straight 71 = .ok (.iconst 1, 1) := by decide +kernel
theorem dX12_straight_72 : decode cX12_straight 72 = .ok (.iload 7, 2) := by decide +kernel
theorem dX12_straight_74 : decode cX12_straight 74 = .ok (.ishl, 1) := by decide +kernel
theorem dX12_straight_75 : decode cX12_straight 75 = .ok (.ior, 1) := by decide +kernel
theorem dX12_straight_76 : decode cX12_straight 76 = .ok (.istore_n 3, 1) := by decide +kernel
theorem dX12_straight_77 : decode cX12_straight 77 = .ok (.iload 8, 2) := by decide +kernel
theorem dX12_straight_79 : decode cX12_straight 79 = .ok (.iload 6, 2) := by decide +kernel
theorem dX12_straight_81 : decode cX12_straight 81 = .ok (.if_icmp .eq 13, 3) := by decide +kernel
theorem dX12_straight_84 : decode cX12_straight 84 = .ok (.iload 5, 2) := by decide +kernel
theorem dX12_straight_86 : decode cX12_straight 86 = .ok (.iconst (-1), 1) := by decide +kernel
theorem dX12_straight_87 : decode cX12_straight 87 = .ok (.if_icmp .ne 7, 3) := by decide +kernel
theorem dX12_straight_90 : decode cX12_straight 90 = .ok (.iload 7, 2) := by decide +kernel
theorem dX12_straight_92 : decode cX12_straight 92 = .ok (.istore 5, 2) := by decide +kernel
theorem dX12_straight_94 : decode cX12_straight 94 = .ok (.iload 4, 2) := by decide +kernel
theorem dX12_straight_96 : decode cX12_straight 96 = .ok (.iload 8, 2) := by decide +kernel
theorem dX12_straight_98 : decode cX12_straight 98 = .ok (.iload 6, 2) := by decide +kernel
theorem dX12_straight_100 : decode cX12_straight 100 = .ok (.isub, 1) := by decide +kernel
theorem dX12_straight_101 : decode cX12_straight 101 = .ok (.invokestatic 271, 3) := by decide +kernel
theorem dX12_straight_104 : decode cX12_straight 104 = .ok (.iadd, 1) := by decide +kernel
theorem dX12_straight_105 : decode cX12_straight 105 = .ok (.istore 4, 2) := by decide +kernel
theorem dX12_straight_107 : decode cX12_straight 107 = .ok (.iload 8, 2) := by decide +kernel
theorem dX12_straight_109 : decode cX12_straight 109 = .ok (.istore 6, 2) := by decide +kernel
theorem dX12_straight_111 : decode cX12_straight 111 = .ok (.iinc 7 1, 3) := by decide +kernel
theorem dX12_straight_114 : decode cX12_straight 114 = .ok (.goto (-70), 3) := by decide +kernel
theorem dX12_straight_117 : decode cX12_straight 117 = .ok (.iload_n 2, 1) := by decide +kernel
theorem dX12_straight_118 : decode cX12_straight 118 = .ok (.ifCond .ne 7, 3) := by decide +kernel
theorem dX12_straight_121 : decode cX12_straight 121 = .ok (.iload_n 3, 1) := by decide +kernel
theorem dX12_straight_122 : decode cX12_straight 122 = .ok (.goto 15, 3) := by decide +kernel
theorem dX12_straight_125 : decode cX12_straight 125 = .ok (.iload_n 2, 1) := by decide +kernel
theorem dX12_straight_126 : decode cX12_straight 126 = .ok (.iconst 1, 1) := by decide +kernel
theorem dX12_straight_127 : decode cX12_straight 127 = .ok (.if_icmp .ne 8, 3) := by decide +kernel
theorem dX12_straight_130 : decode cX12_straight 130 = .ok (.iload 4, 2) := by decide +kernel
theorem dX12_straight_132 : decode cX12_straight 132 = .ok (.goto 5, 3) := by decide +kernel
theorem dX12_straight_135 : decode cX12_straight 135 = .ok (.iload 5, 2) := by decide +kernel
theorem dX12_straight_137 : decode cX12_straight 137 = .ok (.ireturn, 1) := by decide +kernel
set_option maxRecDepth 20000 in
theorem ggX12_happens_X12_isPerson : GoodIn wsX12_happens wsX12_isPerson := goodIn_r _ [6, 7, 8, 9, 5, 10, 52, 53, 54, 55, 56, 57, 58, 59, 60, 61, 62, 63, 64, 65, 66, 67, 68, 69, 70, 71, 72, 73, 74, 75, 76, 77, 78] (by decide +kernel) (by decide +kernel)
set_option maxRecDepth 20000 in
theorem gX12_happens_X12_isPerson : GoodIn wsX12_happens (wsV RX12 96 RX12 yX12_isPerson wsX12_isPerson) := goodIn_app (goodIn_of _ (by decide +kernel)) ggX12_happens_X12_isPerson
set_option maxRecDepth 20000 in
theorem ggX12_happens_X12_lives : GoodIn wsX12_happens wsX12_lives := goodIn_r _ [14, 1, 15, 16, 5, 17, 8, 9, 10, 52, 53, 54, 55, 56, 57, 58, 59, 60, 61, 62, 63, 64, 65, 66, 67, 68, 69, 70, 71, 72, 73, 74, 75, 76, 77, 78] (by decide +kernel) (by decide +kernel)
set_option maxRecDepth 20000 in
theorem gX12_happens_X12_lives : GoodIn wsX12_happens (wsV RX12 129 RX12 yX12_lives wsX12_lives) := goodIn_app (goodIn_of _ (by decide +kernel)) ggX12_happens_X12_lives
set_option maxRecDepth 20000 in
theorem ggX12_happens_X12_presses : GoodIn wsX12_happens wsX12_presses := goodIn_r _ [21, 1, 22, 23, 24, 25, 26, 27, 28, 29, 30, 31, 32, 33, 34, 35, 36, 5, 37, 38, 39, 40, 41, 42, 43, 44, 45, 46, 52, 53, 54, 55, 56, 57, 58, 59, 60, 61, 62, 63, 64, 65, 66, 67, 68, 69, 70, 71, 72, 73, 74, 75, 76, 77, 78] (by decide +kernel) (by decide +kernel)
set_option maxRecDepth 20000 in
theorem gX12_happens_X12_presses : GoodIn wsX12_happens (wsV RX12 188 RX12 yX12_presses wsX12_presses) := goodIn_app (goodIn_of _ (by decide +kernel)) ggX12_happens_X12_presses
set_option maxRecDepth 20000 in
theorem ggX12_happens_X12_rubs : GoodIn wsX12_happens wsX12_rubs := goodIn_r _ [50, 23, 51, 24, 25, 26, 27, 43, 44, 45, 5, 46, 52, 53, 54, 55, 56, 57, 58, 59, 60, 61, 62, 63, 64, 65, 66, 67, 68, 69, 70, 71, 72, 73, 74, 75, 76, 77, 78] (by decide +kernel) (by decide +kernel)
set_option maxRecDepth 20000 in
theorem gX12_happens_X12_rubs : GoodIn wsX12_happens (wsV RX12 175 RX12 yX12_rubs wsX12_rubs) := goodIn_app (goodIn_of _ (by decide +kernel)) ggX12_happens_X12_rubs
theorem dX12_happens_0 : decode cX12_happens 0 = .ok (.iload_n 1, 1) := by decide +kernel
theorem dX12_happens_1 : decode cX12_happens 1 = .ok (.sipush 10000, 3) := by decide +kernel
theorem dX12_happens_4 : decode cX12_happens 4 = .ok (.if_icmp .ge 5, 3) := by decide +kernel
theorem dX12_happens_7 : decode cX12_happens 7 = .ok (.iconst 0, 1) := by decide +kernel
theorem dX12_happens_8 : decode cX12_happens 8 = .ok (.ireturn, 1) := by decide +kernel
theorem dX12_happens_9 : decode cX12_happens 9 = .ok (.iload_n 1, 1) := by decide +kernel
theorem dX12_happens_10 : decode cX12_happens 10 = .ok (.sipush 10000, 3) := by decide +kernel
theorem dX12_happens_13 : decode cX12_happens 13 = .ok (.idiv, 1) := by decide +kernel
theorem dX12_happens_14 : decode cX12_happens 14 = .ok (.istore_n 2, 1) := by decide +kernel
theorem dX12_happens_15 : decode cX12_happens 15 = .ok (.iload_n 2, 1) := by decide +kernel
theorem dX12_happens_16 : decode cX12_happens 16 = .ok (.iconst 3, 1) := by decide +kernel
theorem dX12_happens_17 : decode cX12_happens 17 = .ok (.if_icmp .ne 42, 3) := by decide +kernel
theorem dX12_happens_20 : decode cX12_happens 20 = .ok (.iload_n 1, 1) := by decide +kernel
theorem dX12_happens_21 : decode cX12_happens 21 = .ok (.sipush 30000, 3) := by decide +kernel
theorem dX12_happens_24 : decode cX12_happens 24 = .ok (.isub, 1) := by decide +kernel
theorem dX12_happens_25 : decode cX12_happens 25 = .ok (.istore_n 3, 1) := by decide +kernel
theorem dX12_happens_26 : decode cX12_happens 26 = .ok (.aload_n 0, 1) := by decide +kernel
theorem dX12_happens_27 : decode cX12_happens 27 = .ok (.iload_n 3, 1) := by decide +kernel
theorem dX12_happens_28 : decode cX12_happens 28 = .ok (.invokevirtual 96, 3) := by decide +kernel
theorem dX12_happens_31 : decode cX12_happens 31 = .ok (.ifCond .eq 14, 3) := by decide +kernel
theorem dX12_happens_34 : decode cX12_happens 34 = .ok (.aload_n 0, 1) := by decide +kernel
theorem dX12_happens_35 : decode cX12_happens 35 = .ok (.getfield 29, 3) := by decide +kernel
theorem dX12_happens_38 : decode cX12_happens 38 = .ok (.iload_n 3, 1) := by decide +kernel
theorem dX12_happens_39 : decode cX12_happens 39 = .ok (.iaload, 1) := by decide +kernel
theorem dX12_happens_40 : decode cX12_happens 40 = .ok (.bipush 6, 2) := by decide +kernel
theorem dX12_happens_42 : decode cX12_happens 42 = .ok (.if_icmp .ne 5, 3) := by decide +kernel
theorem dX12_happens_45 : decode cX12_happens 45 = .ok (.iconst 0, 1) := by decide +kernel
theorem dX12_happens_46 : decode cX12_happens 46 = .ok (.ireturn, 1) := by decide +kernel
theorem dX12_happens_47 : decode cX12_happens 47 = .ok (.aload_n 0, 1) := by decide +kernel
theorem dX12_happens_48 : decode cX12_happens 48 = .ok (.getfield 29, 3) := by decide +kernel
theorem dX12_happens_51 : decode cX12_happens 51 = .ok (.iload_n 3, 1) := by decide +kernel
theorem dX12_happens_52 : decode cX12_happens 52 = .ok (.dup2, 1) := by decide +kernel
theorem dX12_happens_53 : decode cX12_happens 53 = .ok (.iaload, 1) := by decide +kernel
theorem dX12_happens_54 : decode cX12_happens 54 = .ok (.iconst 1, 1) := by decide +kernel
theorem dX12_happens_55 : decode cX12_happens 55 = .ok (.iadd, 1) := by decide +kernel
theorem dX12_happens_56 : decode cX12_happens 56 = .ok (.iastore, 1) := by decide +kernel
theorem dX12_happens_57 : decode cX12_happens 57 = .ok (.iconst 1, 1) := by decide +kernel
theorem dX12_happens_58 : decode cX12_happens 58 = .ok (.ireturn, 1) := by decide +kernel
theorem dX12_happens_59 : decode cX12_happens 59 = .ok (.iload_n 1, 1) := by decide +kernel
theorem dX12_happens_60 : decode cX12_happens 60 = .ok (.sipush 1000, 3) := by decide +kernel
theorem dX12_happens_63 : decode cX12_happens 63 = .ok (.idiv, 1) := by decide +kernel
theorem dX12_happens_64 : decode cX12_happens 64 = .ok (.bipush 10, 2) := by decide +kernel
theorem dX12_happens_66 : decode cX12_happens 66 = .ok (.irem, 1) := by decide +kernel
theorem dX12_happens_67 : decode cX12_happens 67 = .ok (.istore_n 3, 1) := by decide +kernel
theorem dX12_happens_68 : decode cX12_happens 68 = .ok (.iload_n 1, 1) := by decide +kernel
theorem dX12_happens_69 : decode cX12_happens 69 = .ok (.bipush 100, 2) := by decide +kernel
theorem dX12_happens_71 : decode cX12_happens 71 = .ok (.idiv, 1) := by decide +kernel
theorem dX12_happens_72 : decode cX12_happens 72 = .ok (.bipush 10, 2) := by decide +kernel
theorem dX12_happens_74 : decode cX12_happens 74 = .ok (.irem, 1) := by decide +kernel
theorem dX12_happens_75 : decode cX12_happens 75 = .ok (.istore 4, 2) := by decide +kernel
theorem dX12_happens_77 : decode cX12_happens 77 = .ok (.iload_n 1, 1) := by decide +kernel
theorem dX12_happens_78 : decode cX12_happens 78 = .ok (.bipush 100, 2) := by decide +kernel
theorem dX12_happens_80 : decode cX12_happens 80 = .ok (.irem, 1) := by decide +kernel
theorem dX12_happens_81 : decode cX12_happens 81 = .ok (.istore 5, 2) := by decide +kernel
theorem dX12_happens_83 : decode cX12_happens 83 = .ok (.iload_n 2, 1) := by decide +kernel
theorem dX12_happens_84 : decode cX12_happens 84 = .ok (.iconst 2, 1) := by decide +kernel
theorem dX12_happens_85 : decode cX12_happens 85 = .ok (.if_icmp .gt 11, 3) := by decide +kernel
theorem dX12_happens_88 : decode cX12_happens 88 = .ok (.aload_n 0, 1) := by decide +kernel
theorem dX12_happens_89 : decode cX12_happens 89 = .ok (.iload_n 3, 1) := by decide +kernel
theorem dX12_happens_90 : decode cX12_happens 90 = .ok (.invokevirtual 96, 3) := by decide +kernel
theorem dX12_happens_93 : decode cX12_happens 93 = .ok (.ifCond .ne 5, 3) := by decide +kernel
theorem dX12_happens_96 : decode cX12_happens 96 = .ok (.iconst 0, 1) := by decide +kernel
theorem dX12_happens_97 : decode cX12_happens 97 = .ok (.ireturn, 1) := by decide +kernel
theorem dX12_happens_98 : decode cX12_happens 98 = .ok (.iload_n 2, 1) := by decide +kernel
theorem dX12_happens_99 : decode cX12_happens 99 = .ok (.iconst 1, 1) := by decide +kernel
theorem dX12_happens_100 : decode cX12_happens 100 = .ok (.if_icmp .ne 29, 3) := by decide +kernel
theorem dX12_happens_103 : decode cX12_happens 103 = .ok (.iload 4, 2) := by decide +kernel
theorem dX12_happens_105 : decode cX12_happens 105 = .ok (.bipush 7, 2) := by decide +kernel
theorem dX12_happens_107 : decode cX12_happens 107 = .ok (.if_icmp .gt 39, 3) := by decide +kernel
theorem dX12_happens_110 : decode cX12_happens 110 = .ok (.iload 5, 2) := by decide +kernel
theorem dX12_happens_112 : decode cX12_happens 112 = .ok (.ifCond .eq 34, 3) := by decide +kernel
theorem dX12_happens_115 : decode cX12_happens 115 = .ok (.aload_n 0, 1) := by decide +kernel
theorem dX12_happens_116 : decode cX12_happens 116 = .ok (.getfield 29, 3) := by decide +kernel
theorem dX12_happens_119 : decode cX12_happens 119 = .ok (.iload_n 3, 1) := by decide +kernel
theorem dX12_happens_120 : decode cX12_happens 120 = .ok (.iaload, 1) := by decide +kernel
theorem dX12_happens_121 : decode cX12_happens 121 = .ok (.bipush 6, 2) := by decide +kernel
theorem dX12_happens_123 : decode cX12_happens 123 = .ok (.if_icmp .ne 25, 3) := by decide +kernel
theorem dX12_happens_126 : decode cX12_happens 126 = .ok (.goto 20, 3) := by decide +kernel
theorem dX12_happens_129 : decode cX12_happens 129 = .ok (.aload_n 0, 1) := by decide +kernel
theorem dX12_happens_130 : decode cX12_happens 130 = .ok (.iload_n 3, 1) := by decide +kernel
theorem dX12_happens_131 : decode cX12_happens 131 = .ok (.iload 4, 2) := by decide +kernel
theorem dX12_happens_133 : decode cX12_happens 133 = .ok (.invokevirtual 129, 3) := by decide +kernel
theorem dX12_happens_136 : decode cX12_happens 136 = .ok (.ifCond .eq 10, 3) := by decide +kernel
theorem dX12_happens_139 : decode cX12_happens 139 = .ok (.iload 5, 2) := by decide +kernel
theorem dX12_happens_141 : decode cX12_happens 141 = .ok (.bipush 7, 2) := by decide +kernel
theorem dX12_happens_143 : decode cX12_happens 143 = .ok (.if_icmp .le 5, 3) := by decide +kernel
theorem dX12_happens_146 : decode cX12_happens 146 = .ok (.iconst 0, 1) := by decide +kernel
theorem dX12_happens_147 : decode cX12_happens 147 = .ok (.ireturn, 1) := by decide +kernel
theorem dX12_happens_148 : decode cX12_happens 148 = .ok (.iload_n 2, 1) := by decide +kernel
theorem dX12_happens_149 : decode cX12_happens 149 = .ok (.iconst 1, 1) := by decide +kernel
theorem dX12_happens_150 : decode cX12_happens 150 = .ok (.if_icmp .ne 16, 3) := by decide +kernel
theorem dX12_happens_153 : decode cX12_happens 153 = .ok (.aload_n 0, 1) := by decide +kernel
theorem dX12_happens_154 : decode cX12_happens 154 = .ok (.iload_n 3, 1) := by decide +kernel
theorem dX12_happens_155 : decode cX12_happens 155 = .ok (.iload 4, 2) := by decide +kernel
theorem dX12_happens_157 : decode cX12_happens 157 = .ok (.iload 5, 2) := by decide +kernel
theorem dX12_happens_159 : decode cX12_happens 159 = .ok (.invokevirtual 188, 3) := by decide +kernel
theorem dX12_happens_162 : decode cX12_happens 162 = .ok (.pop, 1) := by decide +kernel
theorem dX12_happens_163 : decode cX12_happens 163 = .ok (.goto 13, 3) := by decide +kernel
theorem dX12_happens_166 : decode cX12_happens 166 = .ok (.aload_n 0, 1) := by decide +kernel
theorem dX12_happens_167 : decode cX12_happens 167 = .ok (.iload_n 3, 1) := by decide +kernel
theorem dX12_happens_168 : decode cX12_happens 168 = .ok (.iload 4, 2) := by decide +kernel
theorem dX12_happens_170 : decode cX12_happens 170 = .ok (.iload 5, 2) := by decide +kernel
theorem dX12_happens_172 : decode cX12_happens 172 = .ok (.invokevirtual 175, 3) := by decide +kernel
theorem dX12_happens_175 : decode cX12_happens 175 = .ok (.pop, 1) := by decide +kernel
theorem dX12_happens_176 : decode cX12_happens 176 = .ok (.iconst 1, 1) := by decide +kernel
theorem dX12_happens_177 : decode cX12_happens 177 = .ok (.ireturn, 1) := by decide +kernel
set_option maxRecDepth 20000 in
theorem ggX12_happen_X12_toldAt : GoodIn wsX12_happen wsX12_toldAt := goodIn_r _ [5, 6, 61, 62, 63, 64, 65, 66, 67, 68, 69, 70, 71, 72, 73, 74, 75, 76, 77, 78, 79, 80, 81, 82, 83, 84, 85, 86, 87] (by decide +kernel) (by decide +kernel)
set_option maxRecDepth 20000 in
theorem gX12_happen_X12_toldAt : GoodIn wsX12_happen (wsV RX12 223 RX12 yX12_toldAt wsX12_toldAt) := goodIn_app (goodIn_of _ (by decide +kernel)) ggX12_happen_X12_toldAt
set_option maxRecDepth 20000 in
theorem ggX12_happen_X12_happens : GoodIn wsX12_happen wsX12_happens := goodIn_r _ [10, 11, 12, 13, 14, 4, 15, 16, 17, 18, 19, 20, 21, 22, 23, 24, 25, 26, 27, 28, 29, 30, 31, 32, 33, 34, 35, 36, 37, 38, 39, 40, 41, 42, 43, 44, 45, 46, 47, 48, 49, 50, 51, 52, 53, 54, 55, 56, 57, 58, 59, 60, 61, 62, 63, 64, 65, 66, 67, 68, 69, 70, 71, 72, 73, 74, 75, 76, 77, 78, 79, 80, 81, 82, 83, 84, 85, 86, 87] (by decide +kernel) (by decide +kernel)
set_option maxRecDepth 20000 in
theorem gX12_happen_X12_happens : GoodIn wsX12_happen (wsV RX12 273 RX12 yX12_happens wsX12_happens) := goodIn_app (goodIn_of _ (by decide +kernel)) ggX12_happen_X12_happens
theorem dX12_happen_0 : decode cX12_happen 0 = .ok (.iconst 0, 1) := by decide +kernel
theorem dX12_happen_1 : decode cX12_happen 1 = .ok (.istore_n 3, 1) := by decide +kernel
theorem dX12_happen_2 : decode cX12_happen 2 = .ok (.iload_n 3, 1) := by decide +kernel
theorem dX12_happen_3 : decode cX12_happen 3 = .ok (.iload_n 2, 1) := by decide +kernel
theorem dX12_happen_4 : decode cX12_happen 4 = .ok (.if_icmp .ge 24, 3) := by decide +kernel
theorem dX12_happen_7 : decode cX12_happen 7 = .ok (.aload_n 0, 1) := by decide +kernel
theorem dX12_happen_8 : decode cX12_happen 8 = .ok (.aload_n 0, 1) := by decide +kernel
theorem dX12_happen_9 : decode cX12_happen 9 = .ok (.iload_n 1, 1) := by decide +kernel
theorem dX12_happen_10 : decode cX12_happen 10 = .ok (.iload_n 3, 1) := by decide +kernel
theorem dX12_happen_11 : decode cX12_happen 11 = .ok (.invokevirtual 223, 3) := by decide +kernel
theorem dX12_happen_14 : decode cX12_happen 14 = .ok (.invokevirtual 273, 3) := by decide +kernel
theorem dX12_happen_17 : decode cX12_happen 17 = .ok (.ifCond .ne 5, 3) := by decide +kernel
theorem dX12_happen_20 : decode cX12_happen 20 = .ok (.iload_n 3, 1) := by decide +kernel
theorem dX12_happen_21 : decode cX12_happen 21 = .ok (.ireturn, 1) := by decide +kernel
theorem dX12_happen_22 : decode cX12_happen 22 = .ok (.iinc 3 1, 3) := by decide +kernel
theorem dX12_happen_25 : decode cX12_happen 25 = .ok (.goto (-23), 3) := by decide +kernel
theorem dX12_happen_28 : decode cX12_happen 28 = .ok (.iconst (-1), 1) := by decide +kernel
theorem dX12_happen_29 : decode cX12_happen 29 = .ok (.ireturn, 1) := by decide +kernel
set_option maxRecDepth 20000 in
theorem ggX12_judge_X12_noTold : GoodIn wsX12_judge wsX12_noTold := goodIn_r _ [6, 7, 8, 9, 10, 5, 11, 12, 13, 14, 15, 16, 17, 18, 19, 99, 100, 101, 102, 103, 104, 105, 106, 107, 108, 109, 110, 111, 112, 113, 114, 115, 116, 117, 118, 119, 120, 121, 122, 123, 124, 125] (by decide +kernel) (by decide +kernel)
set_option maxRecDepth 20000 in
theorem gX12_judge_X12_noTold : GoodIn wsX12_judge (wsV RX12 230 RX12 yX12_noTold wsX12_noTold) := goodIn_app (goodIn_of _ (by decide +kernel)) ggX12_judge_X12_noTold
set_option maxRecDepth 20000 in
theorem ggX12_judge_X12_no10 : GoodIn wsX12_judge wsX12_no10 := goodIn_r _ [23, 24, 25, 26, 5, 27, 28, 99, 100, 101, 102, 103, 104, 105, 106, 107, 108, 109, 110, 111, 112, 113, 114, 115, 116, 117, 118, 119, 120, 121, 122, 123, 124, 125] (by decide +kernel) (by decide +kernel)
set_option maxRecDepth 20000 in
theorem gX12_judge_X12_no10 : GoodIn wsX12_judge (wsV RX12 216 RX12 yX12_no10 wsX12_no10) := goodIn_app (goodIn_of _ (by decide +kernel)) ggX12_judge_X12_no10
set_option maxRecDepth 20000 in
theorem ggX12_judge_X12_keep : GoodIn wsX12_judge wsX12_keep := goodIn_r _ [32, 33, 34, 35, 36, 37, 38, 39, 40, 41, 42, 99, 100, 101, 102, 103, 104, 105, 106, 107, 108, 109, 110, 111, 112, 113, 114, 115, 116, 117, 118, 119, 120, 121, 122, 123, 124, 125] (by decide +kernel) (by decide +kernel)
set_option maxRecDepth 20000 in
theorem gX12_judge_X12_keep : GoodIn wsX12_judge (wsV RX12 191 RX12 yX12_keep wsX12_keep) := goodIn_app (goodIn_of _ (by decide +kernel)) ggX12_judge_X12_keep
set_option maxRecDepth 20000 in
theorem ggX12_judge_X12_happen : GoodIn wsX12_judge wsX12_happen := goodIn_r _ [46, 47, 48, 49, 5, 50, 51, 52, 53, 54, 55, 36, 56, 57, 58, 59, 40, 13, 14, 15, 60, 61, 62, 63, 64, 65, 66, 67, 68, 69, 70, 71, 39, 72, 73, 74, 75, 33, 34, 38, 76, 77, 78, 79, 80, 81, 82, 83, 84, 85, 86, 35, 87, 88, 89, 90, 91, 92, 93, 94, 37, 99, 100, 101, 102, 103, 104, 105, 106, 107, 108, 109, 110, 111, 112, 113, 114, 115, 116, 117, 118, 119, 120, 121, 122, 123, 124, 125] (by decide +kernel) (by decide +kernel)
set_option maxRecDepth 20000 in
theorem gX12_judge_X12_happen : GoodIn wsX12_judge (wsV RX12 276 RX12 yX12_happen wsX12_happen) := goodIn_app (goodIn_of _ (by decide +kernel)) ggX12_judge_X12_happen
set_option maxRecDepth 20000 in
theorem ggX12_judge_X12_again : GoodIn wsX12_judge wsX12_again := goodIn_r _ [98, 33, 34, 35, 36, 37, 38, 39, 40, 41, 42, 99, 100, 101, 102, 103, 104, 105, 106, 107, 108, 109, 110, 111, 112, 113, 114, 115, 116, 117, 118, 119, 120, 121, 122, 123, 124, 125] (by decide +kernel) (by decide +kernel)
set_option maxRecDepth 20000 in
theorem gX12_judge_X12_again : GoodIn wsX12_judge (wsV RX12 198 RX12 yX12_again wsX12_again) := goodIn_app (goodIn_of _ (by decide +kernel)) ggX12_judge_X12_again
theorem dX12_judge_0 : decode cX12_judge 0 = .ok (.aload_n 0, 1) := by decide +kernel
theorem dX12_judge_1 : decode cX12_judge 1 = .ok (.iload_n 1, 1) := by decide +kernel
theorem dX12_judge_2 : decode cX12_judge 2 = .ok (.iload_n 2, 1) := by decide +kernel
theorem dX12_judge_3 : decode cX12_judge 3 = .ok (.iconst 0, 1) := by decide +kernel
theorem dX12_judge_4 : decode cX12_judge 4 = .ok (.bipush 40, 2) := by decide +kernel
theorem dX12_judge_6 : decode cX12_judge 6 = .ok (.invokevirtual 230, 3) := by decide +kernel
theorem dX12_judge_9 : decode cX12_judge 9 = .ok (.istore_n 3, 1) := by decide +kernel
theorem dX12_judge_10 : decode cX12_judge 10 = .ok (.iload_n 3, 1) := by decide +kernel
theorem dX12_judge_11 : decode cX12_judge 11 = .ok (.ifCond .ge 9, 3) := by decide +kernel
theorem dX12_judge_14 : decode cX12_judge 14 = .ok (.aload_n 0, 1) := by decide +kernel
theorem dX12_judge_15 : decode cX12_judge 15 = .ok (.iload_n 3, 1) := by decide +kernel
theorem dX12_judge_16 : decode cX12_judge 16 = .ok (.invokevirtual 216, 3) := by decide +kernel
theorem dX12_judge_19 : decode cX12_judge 19 = .ok (.ireturn, 1) := by decide +kernel
theorem dX12_judge_20 : decode cX12_judge 20 = .ok (.aload_n 0, 1) := by decide +kernel
theorem dX12_judge_21 : decode cX12_judge 21 = .ok (.aload_n 0, 1) := by decide +kernel
theorem dX12_judge_22 : decode cX12_judge 22 = .ok (.getfield 53, 3) := by decide +kernel
theorem dX12_judge_25 : decode cX12_judge 25 = .ok (.invokevirtual 191, 3) := by decide +kernel
theorem dX12_judge_28 : decode cX12_judge 28 = .ok (.aload_n 0, 1) := by decide +kernel
theorem dX12_judge_29 : decode cX12_judge 29 = .ok (.iload_n 1, 1) := by decide +kernel
theorem dX12_judge_30 : decode cX12_judge 30 = .ok (.iload_n 2, 1) := by decide +kernel
theorem dX12_judge_31 : decode cX12_judge 31 = .ok (.invokevirtual 276, 3) := by decide +kernel
theorem dX12_judge_34 : decode cX12_judge 34 = .ok (.istore 4, 2) := by decide +kernel
theorem dX12_judge_36 : decode cX12_judge 36 = .ok (.aload_n 0, 1) := by decide +kernel
theorem dX12_judge_37 : decode cX12_judge 37 = .ok (.aload_n 0, 1) := by decide +kernel
theorem dX12_judge_38 : decode cX12_judge 38 = .ok (.getfield 53, 3) := by decide +kernel
theorem dX12_judge_41 : decode cX12_judge 41 = .ok (.invokevirtual 198, 3) := by decide +kernel
theorem dX12_judge_44 : decode cX12_judge 44 = .ok (.iload 4, 2) := by decide +kernel
theorem dX12_judge_46 : decode cX12_judge 46 = .ok (.ireturn, 1) := by decide +kernel
theorem dX12_allDead_0 : decode cX12_allDead 0 = .ok (.iconst 0, 1) := by decide +kernel
theorem dX12_allDead_1 : decode cX12_allDead 1 = .ok (.istore_n 1, 1) := by decide +kernel
theorem dX12_allDead_2 : decode cX12_allDead 2 = .ok (.iconst 0, 1) := by decide +kernel
theorem dX12_allDead_3 : decode cX12_allDead 3 = .ok (.istore_n 2, 1) := by decide +kernel
theorem dX12_allDead_4 : decode cX12_allDead 4 = .ok (.iload_n 2, 1) := by decide +kernel
theorem dX12_allDead_5 : decode cX12_allDead 5 = .ok (.aload_n 0, 1) := by decide +kernel
theorem dX12_allDead_6 : decode cX12_allDead 6 = .ok (.getfield 79, 3) := by decide +kernel
theorem dX12_allDead_9 : decode cX12_allDead 9 = .ok (.if_icmp .ge 18, 3) := by decide +kernel
theorem dX12_allDead_12 : decode cX12_allDead 12 = .ok (.iload_n 1, 1) := by decide +kernel
theorem dX12_allDead_13 : decode cX12_allDead 13 = .ok (.aload_n 0, 1) := by decide +kernel
theorem dX12_allDead_14 : decode cX12_allDead 14 = .ok (.getfield 29, 3) := by decide +kernel
theorem dX12_allDead_17 : decode cX12_allDead 17 = .ok (.iload_n 2, 1) := by decide +kernel
theorem dX12_allDead_18 : decode cX12_allDead 18 = .ok (.iaload, 1) := by decide +kernel
theorem dX12_allDead_19 : decode cX12_allDead 19 = .ok (.iadd, 1) := by decide +kernel
theorem dX12_allDead_20 : decode cX12_allDead 20 = .ok (.istore_n 1, 1) := by decide +kernel
theorem dX12_allDead_21 : decode cX12_allDead 21 = .ok (.iinc 2 1, 3) := by decide +kernel
theorem dX12_allDead_24 : decode cX12_allDead 24 = .ok (.goto (-20), 3) := by decide +kernel
theorem dX12_allDead_27 : decode cX12_allDead 27 = .ok (.iload_n 1, 1) := by decide +kernel
theorem dX12_allDead_28 : decode cX12_allDead 28 = .ok (.ireturn, 1) := by decide +kernel
theorem dX12_allStrength_0 : decode cX12_allStrength 0 = .ok (.iconst 0, 1) := by decide +kernel
theorem dX12_allStrength_1 : decode cX12_allStrength 1 = .ok (.istore_n 1, 1) := by decide +kernel
theorem dX12_allStrength_2 : decode cX12_allStrength 2 = .ok (.iconst 0, 1) := by decide +kernel
theorem dX12_allStrength_3 : decode cX12_allStrength 3 = .ok (.istore_n 2, 1) := by decide +kernel
theorem dX12_allStrength_4 : decode cX12_allStrength 4 = .ok (.iload_n 2, 1) := by decide +kernel
theorem dX12_allStrength_5 : decode cX12_allStrength 5 = .ok (.bipush 48, 2) := by decide +kernel
theorem dX12_allStrength_7 : decode cX12_allStrength 7 = .ok (.aload_n 0, 1) := by decide +kernel
theorem dX12_allStrength_8 : decode cX12_allStrength 8 = .ok (.getfield 79, 3) := by decide +kernel
theorem dX12_allStrength_11 : decode cX12_allStrength 11 = .ok (.imul, 1) := by decide +kernel
theorem dX12_allStrength_12 : decode cX12_allStrength 12 = .ok (.if_icmp .ge 18, 3) := by decide +kernel
theorem dX12_allStrength_15 : decode cX12_allStrength 15 = .ok (.iload_n 1, 1) := by decide +kernel
theorem dX12_allStrength_16 : decode cX12_allStrength 16 = .ok (.aload_n 0, 1) := by decide +kernel
theorem dX12_allStrength_17 : decode cX12_allStrength 17 = .ok (.getfield 38, 3) := by decide +kernel
theorem dX12_allStrength_20 : decode cX12_allStrength 20 = .ok (.iload_n 2, 1) := by decide +kernel
theorem dX12_allStrength_21 : decode cX12_allStrength 21 = .ok (.iaload, 1) := by decide +kernel
theorem dX12_allStrength_22 : decode cX12_allStrength 22 = .ok (.iadd, 1) := by decide +kernel
theorem dX12_allStrength_23 : decode cX12_allStrength 23 = .ok (.istore_n 1, 1) := by decide +kernel
theorem dX12_allStrength_24 : decode cX12_allStrength 24 = .ok (.iinc 2 1, 3) := by decide +kernel
theorem dX12_allStrength_27 : decode cX12_allStrength 27 = .ok (.goto (-23), 3) := by decide +kernel
theorem dX12_allStrength_30 : decode cX12_allStrength 30 = .ok (.iload_n 1, 1) := by decide +kernel
theorem dX12_allStrength_31 : decode cX12_allStrength 31 = .ok (.ireturn, 1) := by decide +kernel
set_option maxRecDepth 20000 in
theorem ggX12_allSmears_X12_rubbed : GoodIn wsX12_allSmears wsX12_rubbed := goodIn_r _ [6, 7, 8, 9, 10, 11, 12, 13, 14, 15, 16, 17, 18, 19, 20, 21, 22, 23, 24, 25, 26, 27, 28, 29, 30, 31, 32, 33, 34] (by decide +kernel) (by decide +kernel)
set_option maxRecDepth 20000 in
theorem gX12_allSmears_X12_rubbed : GoodIn wsX12_allSmears (wsV RX12 120 RX12 yX12_rubbed wsX12_rubbed) := goodIn_app (goodIn_of _ (by decide +kernel)) ggX12_allSmears_X12_rubbed
theorem dX12_allSmears_0 : decode cX12_allSmears 0 = .ok (.iconst 0, 1) := by decide +kernel
theorem dX12_allSmears_1 : decode cX12_allSmears 1 = .ok (.istore_n 1, 1) := by decide +kernel
theorem dX12_allSmears_2 : decode cX12_allSmears 2 = .ok (.iconst 0, 1) := by decide +kernel
theorem dX12_allSmears_3 : decode cX12_allSmears 3 = .ok (.istore_n 2, 1) := by decide +kernel
theorem dX12_allSmears_4 : decode cX12_allSmears 4 = .ok (.iload_n 2, 1) := by decide +kernel
theorem dX12_allSmears_5 : decode cX12_allSmears 5 = .ok (.aload_n 0, 1) := by decide +kernel
theorem dX12_allSmears_6 : decode cX12_allSmears 6 = .ok (.getfield 79, 3) := by decide +kernel
theorem dX12_allSmears_9 : decode cX12_allSmears 9 = .ok (.if_icmp .ge 17, 3) := by decide +kernel
theorem dX12_allSmears_12 : decode cX12_allSmears 12 = .ok (.iload_n 1, 1) := by decide +kernel
theorem dX12_allSmears_13 : decode cX12_allSmears 13 = .ok (.aload_n 0, 1) := by decide +kernel
theorem dX12_allSmears_14 : decode cX12_allSmears 14 = .ok (.iload_n 2, 1) := by decide +kernel
theorem dX12_allSmears_15 : decode cX12_allSmears 15 = .ok (.invokevirtual 120, 3) := by decide +kernel
theorem dX12_allSmears_18 : decode cX12_allSmears 18 = .ok (.iadd, 1) := by decide +kernel
theorem dX12_allSmears_19 : decode cX12_allSmears 19 = .ok (.istore_n 1, 1) := by decide +kernel
theorem dX12_allSmears_20 : decode cX12_allSmears 20 = .ok (.iinc 2 1, 3) := by decide +kernel
theorem dX12_allSmears_23 : decode cX12_allSmears 23 = .ok (.goto (-19), 3) := by decide +kernel
theorem dX12_allSmears_26 : decode cX12_allSmears 26 = .ok (.iload_n 1, 1) := by decide +kernel
theorem dX12_allSmears_27 : decode cX12_allSmears 27 = .ok (.ireturn, 1) := by decide +kernel
set_option maxRecDepth 20000 in
theorem ggX12_behind_X12_noTold : GoodIn wsX12_behind wsX12_noTold := goodIn_r _ [6, 7, 8, 9, 10, 5, 11, 12, 13, 14, 15, 16, 17, 18, 19, 111, 112, 113, 114, 115, 116, 117, 118, 119, 120, 121, 122, 123, 124, 125, 126, 127, 128, 129, 130, 131, 132, 133, 134, 135, 136, 137] (by decide +kernel) (by decide +kernel)
set_option maxRecDepth 20000 in
theorem gX12_behind_X12_noTold : GoodIn wsX12_behind (wsV RX12 230 RX12 yX12_noTold wsX12_noTold) := goodIn_app (goodIn_of _ (by decide +kernel)) ggX12_behind_X12_noTold
set_option maxRecDepth 20000 in
theorem ggX12_behind_X12_within : GoodIn wsX12_behind wsX12_within := goodIn_r _ [15] (by decide +kernel) (by decide +kernel)
set_option maxRecDepth 20000 in
theorem gX12_behind_X12_within : GoodIn wsX12_behind (va_wsS RX12 82 yX12_within wsX12_within) := goodIn_app (goodIn_of _ (by decide +kernel)) ggX12_behind_X12_within
set_option maxRecDepth 20000 in
theorem ggX12_behind_X12_no : GoodIn wsX12_behind wsX12_no := goodIn_r _ [23, 24, 111, 112, 113, 114, 115, 116, 117, 118, 119, 120, 121, 122, 123, 124, 125, 126, 127, 128, 129, 130, 131, 132, 133, 134, 135, 136, 137] (by decide +kernel) (by decide +kernel)
set_option maxRecDepth 20000 in
theorem gX12_behind_X12_no : GoodIn wsX12_behind (wsV RX12 75 RX12 yX12_no wsX12_no) := goodIn_app (goodIn_of _ (by decide +kernel)) ggX12_behind_X12_no
set_option maxRecDepth 20000 in
theorem ggX12_behind_X12_keep : GoodIn wsX12_behind wsX12_keep := goodIn_r _ [28, 29, 30, 31, 32, 33, 34, 35, 36, 37, 38, 111, 112, 113, 114, 115, 116, 117, 118, 119, 120, 121, 122, 123, 124, 125, 126, 127, 128, 129, 130, 131, 132, 133, 134, 135, 136, 137] (by decide +kernel) (by decide +kernel)
set_option maxRecDepth 20000 in
theorem gX12_behind_X12_keep : GoodIn wsX12_behind (wsV RX12 191 RX12 yX12_keep wsX12_keep) := goodIn_app (goodIn_of _ (by decide +kernel)) ggX12_behind_X12_keep
set_option maxRecDepth 20000 in
theorem ggX12_behind_X12_happen : GoodIn wsX12_behind wsX12_happen := goodIn_r _ [42, 43, 44, 45, 5, 46, 47, 48, 49, 50, 51, 32, 52, 53, 54, 55, 36, 13, 14, 15, 56, 57, 58, 59, 60, 61, 62, 63, 64, 65, 66, 67, 35, 68, 69, 70, 71, 29, 30, 34, 72, 73, 74, 75, 76, 77, 78, 79, 80, 81, 82, 31, 83, 84, 85, 86, 87, 88, 89, 90, 33, 111, 112, 113, 114, 115, 116, 117, 118, 119, 120, 121, 122, 123, 124, 125, 126, 127, 128, 129, 130, 131, 132, 133, 134, 135, 136, 137] (by decide +kernel) (by decide +kernel)
set_option maxRecDepth 20000 in
theorem gX12_behind_X12_happen : GoodIn wsX12_behind (wsV RX12 276 RX12 yX12_happen wsX12_happen) := goodIn_app (goodIn_of _ (by decide +kernel)) ggX12_behind_X12_happen
set_option maxRecDepth 20000 in
theorem ggX12_behind_X12_allStrength : GoodIn wsX12_behind wsX12_allStrength := goodIn_r _ [94, 36, 35, 111, 112, 113, 114, 115, 116, 117, 118, 119, 120, 121, 122, 123, 124, 125, 126, 127, 128, 129, 130, 131, 132, 133, 134, 135, 136, 137] (by decide +kernel) (by decide +kernel)
set_option maxRecDepth 20000 in
theorem gX12_behind_X12_allStrength : GoodIn wsX12_behind (wsV RX12 279 RX12 yX12_allStrength wsX12_allStrength) := goodIn_app (goodIn_of _ (by decide +kernel)) ggX12_behind_X12_allStrength
set_option maxRecDepth 20000 in
theorem ggX12_behind_X12_allDead : GoodIn wsX12_behind wsX12_allDead := goodIn_r _ [98, 36, 32, 111, 112, 113, 114, 115, 116, 117, 118, 119, 120, 121, 122, 123, 124, 125, 126, 127, 128, 129, 130, 131, 132, 133, 134, 135, 136, 137] (by decide +kernel) (by decide +kernel)
set_option maxRecDepth 20000 in
theorem gX12_behind_X12_allDead : GoodIn wsX12_behind (wsV RX12 282 RX12 yX12_allDead wsX12_allDead) := goodIn_app (goodIn_of _ (by decide +kernel)) ggX12_behind_X12_allDead
set_option maxRecDepth 20000 in
theorem ggX12_behind_X12_allSmears : GoodIn wsX12_behind wsX12_allSmears := goodIn_r _ [102, 36, 103, 104, 105, 5, 106, 33, 111, 112, 113, 114, 115, 116, 117, 118, 119, 120, 121, 122, 123, 124, 125, 126, 127, 128, 129, 130, 131, 132, 133, 134, 135, 136, 137] (by decide +kernel) (by decide +kernel)
set_option maxRecDepth 20000 in
theorem gX12_behind_X12_allSmears : GoodIn wsX12_behind (wsV RX12 285 RX12 yX12_allSmears wsX12_allSmears) := goodIn_app (goodIn_of _ (by decide +kernel)) ggX12_behind_X12_allSmears
set_option maxRecDepth 20000 in
theorem ggX12_behind_X12_again : GoodIn wsX12_behind wsX12_again := goodIn_r _ [110, 29, 30, 31, 32, 33, 34, 35, 36, 37, 38, 111, 112, 113, 114, 115, 116, 117, 118, 119, 120, 121, 122, 123, 124, 125, 126, 127, 128, 129, 130, 131, 132, 133, 134, 135, 136, 137] (by decide +kernel) (by decide +kernel)
set_option maxRecDepth 20000 in
theorem gX12_behind_X12_again : GoodIn wsX12_behind (wsV RX12 198 RX12 yX12_again wsX12_again) := goodIn_app (goodIn_of _ (by decide +kernel)) ggX12_behind_X12_again
theorem dX12_behind_0 : decode cX12_behind 0 = .ok (.aload_n 0, 1) := by decide +kernel
theorem dX12_behind_1 : decode cX12_behind 1 = .ok (.iload_n 1, 1) := by decide +kernel
theorem dX12_behind_2 : decode cX12_behind 2 = .ok (.iload_n 2, 1) := by decide +kernel
theorem dX12_behind_3 : decode cX12_behind 3 = .ok (.iconst 0, 1) := by decide +kernel
theorem dX12_behind_4 : decode cX12_behind 4 = .ok (.bipush 40, 2) := by decide +kernel
theorem dX12_behind_6 : decode cX12_behind 6 = .ok (.invokevirtual 230, 3) := by decide +kernel
theorem dX12_behind_9 : decode cX12_behind 9 = .ok (.istore 4, 2) := by decide +kernel
theorem dX12_behind_11 : decode cX12_behind 11 = .ok (.iload 4, 2) := by decide +kernel
theorem dX12_behind_13 : decode cX12_behind 13 = .ok (.ifCond .eq 10, 3) := by decide +kernel
theorem dX12_behind_16 : decode cX12_behind 16 = .ok (.iload 4, 2) := by decide +kernel
theorem dX12_behind_18 : decode cX12_behind 18 = .ok (.bipush (-6), 2) := by decide +kernel
theorem dX12_behind_20 : decode cX12_behind 20 = .ok (.if_icmp .ne 16, 3) := by decide +kernel
theorem dX12_behind_23 : decode cX12_behind 23 = .ok (.iload_n 3, 1) := by decide +kernel
theorem dX12_behind_24 : decode cX12_behind 24 = .ok (.iconst 0, 1) := by decide +kernel
theorem dX12_behind_25 : decode cX12_behind 25 = .ok (.iconst 2, 1) := by decide +kernel
theorem dX12_behind_26 : decode cX12_behind 26 = .ok (.invokestatic 82, 3) := by decide +kernel
theorem dX12_behind_29 : decode cX12_behind 29 = .ok (.ifCond .ne 7, 3) := by decide +kernel
theorem dX12_behind_32 : decode cX12_behind 32 = .ok (.bipush (-5), 2) := by decide +kernel
theorem dX12_behind_34 : decode cX12_behind 34 = .ok (.istore 4, 2) := by decide +kernel
theorem dX12_behind_36 : decode cX12_behind 36 = .ok (.iload 4, 2) := by decide +kernel
theorem dX12_behind_38 : decode cX12_behind 38 = .ok (.ifCond .ge 10, 3) := by decide +kernel
theorem dX12_behind_41 : decode cX12_behind 41 = .ok (.aload_n 0, 1) := by decide +kernel
theorem dX12_behind_42 : decode cX12_behind 42 = .ok (.iload 4, 2) := by decide +kernel
theorem dX12_behind_44 : decode cX12_behind 44 = .ok (.invokevirtual 75, 3) := by decide +kernel
theorem dX12_behind_47 : decode cX12_behind 47 = .ok (.ireturn, 1) := by decide +kernel
theorem dX12_behind_48 : decode cX12_behind 48 = .ok (.aload_n 0, 1) := by decide +kernel
theorem dX12_behind_49 : decode cX12_behind 49 = .ok (.aload_n 0, 1) := by decide +kernel
theorem dX12_behind_50 : decode cX12_behind 50 = .ok (.getfield 53, 3) := by decide +kernel
theorem dX12_behind_53 : decode cX12_behind 53 = .ok (.invokevirtual 191, 3) := by decide +kernel
theorem dX12_behind_56 : decode cX12_behind 56 = .ok (.aload_n 0, 1) := by decide +kernel
theorem dX12_behind_57 : decode cX12_behind 57 = .ok (.iload_n 1, 1) := by decide +kernel
theorem dX12_behind_58 : decode cX12_behind 58 = .ok (.iload_n 2, 1) := by decide +kernel
theorem dX12_behind_59 : decode cX12_behind 59 = .ok (.invokevirtual 276, 3) := by decide +kernel
theorem dX12_behind_62 : decode cX12_behind 62 = .ok (.istore 5, 2) := by decide +kernel
theorem dX12_behind_64 : decode cX12_behind 64 = .ok (.iload_n 3, 1) := by decide +kernel
theorem dX12_behind_65 : decode cX12_behind 65 = .ok (.ifCond .ne 10, 3) := by decide +kernel
theorem dX12_behind_68 : decode cX12_behind 68 = .ok (.aload_n 0, 1) := by decide +kernel
theorem dX12_behind_69 : decode cX12_behind 69 = .ok (.invokevirtual 279, 3) := by decide +kernel
theorem dX12_behind_72 : decode cX12_behind 72 = .ok (.goto 19, 3) := by decide +kernel
theorem dX12_behind_75 : decode cX12_behind 75 = .ok (.iload_n 3, 1) := by decide +kernel
theorem dX12_behind_76 : decode cX12_behind 76 = .ok (.iconst 1, 1) := by decide +kernel
theorem dX12_behind_77 : decode cX12_behind 77 = .ok (.if_icmp .ne 10, 3) := by decide +kernel
theorem dX12_behind_80 : decode cX12_behind 80 = .ok (.aload_n 0, 1) := by decide +kernel
theorem dX12_behind_81 : decode cX12_behind 81 = .ok (.invokevirtual 282, 3) := by decide +kernel
theorem dX12_behind_84 : decode cX12_behind 84 = .ok (.goto 7, 3) := by decide +kernel
theorem dX12_behind_87 : decode cX12_behind 87 = .ok (.aload_n 0, 1) := by decide +kernel
theorem dX12_behind_88 : decode cX12_behind 88 = .ok (.invokevirtual 285, 3) := by decide +kernel
theorem dX12_behind_91 : decode cX12_behind 91 = .ok (.istore 6, 2) := by decide +kernel
theorem dX12_behind_93 : decode cX12_behind 93 = .ok (.aload_n 0, 1) := by decide +kernel
theorem dX12_behind_94 : decode cX12_behind 94 = .ok (.aload_n 0, 1) := by decide +kernel
theorem dX12_behind_95 : decode cX12_behind 95 = .ok (.getfield 53, 3) := by decide +kernel
theorem dX12_behind_98 : decode cX12_behind 98 = .ok (.invokevirtual 198, 3) := by decide +kernel
theorem dX12_behind_101 : decode cX12_behind 101 = .ok (.iload 5, 2) := by decide +kernel
theorem dX12_behind_103 : decode cX12_behind 103 = .ok (.iconst (-1), 1) := by decide +kernel
theorem dX12_behind_104 : decode cX12_behind 104 = .ok (.if_icmp .ne 8, 3) := by decide +kernel
theorem dX12_behind_107 : decode cX12_behind 107 = .ok (.iload 6, 2) := by decide +kernel
theorem dX12_behind_109 : decode cX12_behind 109 = .ok (.goto 9, 3) := by decide +kernel
theorem dX12_behind_112 : decode cX12_behind 112 = .ok (.aload_n 0, 1) := by decide +kernel
theorem dX12_behind_113 : decode cX12_behind 113 = .ok (.bipush (-6), 2) := by decide +kernel
theorem dX12_behind_115 : decode cX12_behind 115 = .ok (.invokevirtual 75, 3) := by decide +kernel
theorem dX12_behind_118 : decode cX12_behind 118 = .ok (.ireturn, 1) := by decide +kernel
set_option maxRecDepth 20000 in
theorem ggX12_done_X12_noTold : GoodIn wsX12_done wsX12_noTold := goodIn_r _ [6, 7, 8, 9, 10, 5, 11, 12, 13, 14, 15, 16, 17, 18, 19, 99, 100, 101, 102, 103, 104, 105, 106, 107, 108, 109, 110, 111, 112, 113, 114, 115, 116, 117, 118, 119, 120, 121, 122, 123, 124, 125] (by decide +kernel) (by decide +kernel)
set_option maxRecDepth 20000 in
theorem gX12_done_X12_noTold : GoodIn wsX12_done (wsV RX12 230 RX12 yX12_noTold wsX12_noTold) := goodIn_app (goodIn_of _ (by decide +kernel)) ggX12_done_X12_noTold
set_option maxRecDepth 20000 in
theorem ggX12_done_X12_no : GoodIn wsX12_done wsX12_no := goodIn_r _ [23, 24, 99, 100, 101, 102, 103, 104, 105, 106, 107, 108, 109, 110, 111, 112, 113, 114, 115, 116, 117, 118, 119, 120, 121, 122, 123, 124, 125] (by decide +kernel) (by decide +kernel)
set_option maxRecDepth 20000 in
theorem gX12_done_X12_no : GoodIn wsX12_done (wsV RX12 75 RX12 yX12_no wsX12_no) := goodIn_app (goodIn_of _ (by decide +kernel)) ggX12_done_X12_no
set_option maxRecDepth 20000 in
theorem ggX12_done_X12_keep : GoodIn wsX12_done wsX12_keep := goodIn_r _ [28, 29, 30, 31, 32, 33, 34, 35, 36, 37, 38, 99, 100, 101, 102, 103, 104, 105, 106, 107, 108, 109, 110, 111, 112, 113, 114, 115, 116, 117, 118, 119, 120, 121, 122, 123, 124, 125] (by decide +kernel) (by decide +kernel)
set_option maxRecDepth 20000 in
theorem gX12_done_X12_keep : GoodIn wsX12_done (wsV RX12 191 RX12 yX12_keep wsX12_keep) := goodIn_app (goodIn_of _ (by decide +kernel)) ggX12_done_X12_keep
set_option maxRecDepth 20000 in
theorem ggX12_done_X12_happen : GoodIn wsX12_done wsX12_happen := goodIn_r _ [42, 43, 44, 45, 5, 46, 47, 48, 49, 50, 51, 32, 52, 53, 54, 55, 36, 13, 14, 15, 56, 57, 58, 59, 60, 61, 62, 63, 64, 65, 66, 67, 35, 68, 69, 70, 71, 29, 30, 34, 72, 73, 74, 75, 76, 77, 78, 79, 80, 81, 82, 31, 83, 84, 85, 86, 87, 88, 89, 90, 33, 99, 100, 101, 102, 103, 104, 105, 106, 107, 108, 109, 110, 111, 112, 113, 114, 115, 116, 117, 118, 119, 120, 121, 122, 123, 124, 125] (by decide +kernel) (by decide +kernel)
set_option maxRecDepth 20000 in
theorem gX12_done_X12_happen : GoodIn wsX12_done (wsV RX12 276 RX12 yX12_happen wsX12_happen) := goodIn_app (goodIn_of _ (by decide +kernel)) ggX12_done_X12_happen
set_option maxRecDepth 20000 in
theorem ggX12_done_X12_allDead : GoodIn wsX12_done wsX12_allDead := goodIn_r _ [94, 36, 32, 99, 100, 101, 102, 103, 104, 105, 106, 107, 108, 109, 110, 111, 112, 113, 114, 115, 116, 117, 118, 119, 120, 121, 122, 123, 124, 125] (by decide +kernel) (by decide +kernel)
set_option maxRecDepth 20000 in
theorem gX12_done_X12_allDead : GoodIn wsX12_done (wsV RX12 282 RX12 yX12_allDead wsX12_allDead) := goodIn_app (goodIn_of _ (by decide +kernel)) ggX12_done_X12_allDead
set_option maxRecDepth 20000 in
theorem ggX12_done_X12_again : GoodIn wsX12_done wsX12_again := goodIn_r _ [98, 29, 30, 31, 32, 33, 34, 35, 36, 37, 38, 99, 100, 101, 102, 103, 104, 105, 106, 107, 108, 109, 110, 111, 112, 113, 114, 115, 116, 117, 118, 119, 120, 121, 122, 123, 124, 125] (by decide +kernel) (by decide +kernel)
set_option maxRecDepth 20000 in
theorem gX12_done_X12_again : GoodIn wsX12_done (wsV RX12 198 RX12 yX12_again wsX12_again) := goodIn_app (goodIn_of _ (by decide +kernel)) ggX12_done_X12_again
theorem dX12_done_0 : decode cX12_done 0 = .ok (.aload_n 0, 1) := by decide +kernel
theorem dX12_done_1 : decode cX12_done 1 = .ok (.iload_n 1, 1) := by decide +kernel
theorem dX12_done_2 : decode cX12_done 2 = .ok (.iload_n 2, 1) := by decide +kernel
theorem dX12_done_3 : decode cX12_done 3 = .ok (.iconst 0, 1) := by decide +kernel
theorem dX12_done_4 : decode cX12_done 4 = .ok (.bipush 40, 2) := by decide +kernel
theorem dX12_done_6 : decode cX12_done 6 = .ok (.invokevirtual 230, 3) := by decide +kernel
theorem dX12_done_9 : decode cX12_done 9 = .ok (.istore_n 3, 1) := by decide +kernel
theorem dX12_done_10 : decode cX12_done 10 = .ok (.iload_n 3, 1) := by decide +kernel
theorem dX12_done_11 : decode cX12_done 11 = .ok (.ifCond .ge 9, 3) := by decide +kernel
theorem dX12_done_14 : decode cX12_done 14 = .ok (.aload_n 0, 1) := by decide +kernel
theorem dX12_done_15 : decode cX12_done 15 = .ok (.iload_n 3, 1) := by decide +kernel
theorem dX12_done_16 : decode cX12_done 16 = .ok (.invokevirtual 75, 3) := by decide +kernel
theorem dX12_done_19 : decode cX12_done 19 = .ok (.ireturn, 1) := by decide +kernel
theorem dX12_done_20 : decode cX12_done 20 = .ok (.aload_n 0, 1) := by decide +kernel
theorem dX12_done_21 : decode cX12_done 21 = .ok (.aload_n 0, 1) := by decide +kernel
theorem dX12_done_22 : decode cX12_done 22 = .ok (.getfield 53, 3) := by decide +kernel
theorem dX12_done_25 : decode cX12_done 25 = .ok (.invokevirtual 191, 3) := by decide +kernel
theorem dX12_done_28 : decode cX12_done 28 = .ok (.aload_n 0, 1) := by decide +kernel
theorem dX12_done_29 : decode cX12_done 29 = .ok (.iload_n 1, 1) := by decide +kernel
theorem dX12_done_30 : decode cX12_done 30 = .ok (.iload_n 2, 1) := by decide +kernel
theorem dX12_done_31 : decode cX12_done 31 = .ok (.invokevirtual 276, 3) := by decide +kernel
theorem dX12_done_34 : decode cX12_done 34 = .ok (.iconst (-1), 1) := by decide +kernel
theorem dX12_done_35 : decode cX12_done 35 = .ok (.if_icmp .ne 8, 3) := by decide +kernel
theorem dX12_done_38 : decode cX12_done 38 = .ok (.aload_n 0, 1) := by decide +kernel
theorem dX12_done_39 : decode cX12_done 39 = .ok (.invokevirtual 282, 3) := by decide +kernel
theorem dX12_done_42 : decode cX12_done 42 = .ok (.ireturn, 1) := by decide +kernel
theorem dX12_done_43 : decode cX12_done 43 = .ok (.aload_n 0, 1) := by decide +kernel
theorem dX12_done_44 : decode cX12_done 44 = .ok (.aload_n 0, 1) := by decide +kernel
theorem dX12_done_45 : decode cX12_done 45 = .ok (.getfield 53, 3) := by decide +kernel
theorem dX12_done_48 : decode cX12_done 48 = .ok (.invokevirtual 198, 3) := by decide +kernel
theorem dX12_done_51 : decode cX12_done 51 = .ok (.aload_n 0, 1) := by decide +kernel
theorem dX12_done_52 : decode cX12_done 52 = .ok (.bipush (-6), 2) := by decide +kernel
theorem dX12_done_54 : decode cX12_done 54 = .ok (.invokevirtual 75, 3) := by decide +kernel
theorem dX12_done_57 : decode cX12_done 57 = .ok (.ireturn, 1) := by decide +kernel
set_option maxRecDepth 20000 in
theorem ggX12_press_X12_isPerson : GoodIn wsX12_press wsX12_isPerson := goodIn_r _ [6, 7, 8, 9, 5, 10, 48, 49, 50, 51, 52, 53, 54, 55, 56, 57, 58, 59, 60, 61, 62, 63, 64, 65, 66, 67, 68, 69, 70, 71, 72, 73, 74] (by decide +kernel) (by decide +kernel)
set_option maxRecDepth 20000 in
theorem gX12_press_X12_isPerson : GoodIn wsX12_press (wsV RX12 96 RX12 yX12_isPerson wsX12_isPerson) := goodIn_app (goodIn_of _ (by decide +kernel)) ggX12_press_X12_isPerson
set_option maxRecDepth 20000 in
theorem ggX12_press_X12_no : GoodIn wsX12_press wsX12_no := goodIn_r _ [14, 15, 48, 49, 50, 51, 52, 53, 54, 55, 56, 57, 58, 59, 60, 61, 62, 63, 64, 65, 66, 67, 68, 69, 70, 71, 72, 73, 74] (by decide +kernel) (by decide +kernel)
set_option maxRecDepth 20000 in
theorem gX12_press_X12_no : GoodIn wsX12_press (wsV RX12 75 RX12 yX12_no wsX12_no) := goodIn_app (goodIn_of _ (by decide +kernel)) ggX12_press_X12_no
set_option maxRecDepth 20000 in
theorem ggX12_press_X12_isDeed : GoodIn wsX12_press wsX12_isDeed := goodIn_r _ [18, 8, 9, 5, 10] (by decide +kernel) (by decide +kernel)
set_option maxRecDepth 20000 in
theorem gX12_press_X12_isDeed : GoodIn wsX12_press (va_wsS RX12 132 yX12_isDeed wsX12_isDeed) := goodIn_app (goodIn_of _ (by decide +kernel)) ggX12_press_X12_isDeed
set_option maxRecDepth 20000 in
theorem ggX12_press_X12_within : GoodIn wsX12_press wsX12_within := goodIn_r _ [10] (by decide +kernel) (by decide +kernel)
set_option maxRecDepth 20000 in
theorem gX12_press_X12_within : GoodIn wsX12_press (va_wsS RX12 82 yX12_within wsX12_within) := goodIn_app (goodIn_of _ (by decide +kernel)) ggX12_press_X12_within
set_option maxRecDepth 20000 in
theorem ggX12_press_X12_presses : GoodIn wsX12_press wsX12_presses := goodIn_r _ [22, 1, 23, 24, 25, 26, 27, 28, 29, 30, 31, 32, 33, 34, 35, 36, 37, 5, 38, 39, 40, 41, 42, 43, 44, 45, 46, 47, 48, 49, 50, 51, 52, 53, 54, 55, 56, 57, 58, 59, 60, 61, 62, 63, 64, 65, 66, 67, 68, 69, 70, 71, 72, 73, 74] (by decide +kernel) (by decide +kernel)
set_option maxRecDepth 20000 in
theorem gX12_press_X12_presses : GoodIn wsX12_press (wsV RX12 188 RX12 yX12_presses wsX12_presses) := goodIn_app (goodIn_of _ (by decide +kernel)) ggX12_press_X12_presses
theorem dX12_press_0 : decode cX12_press 0 = .ok (.aload_n 0, 1) := by decide +kernel
theorem dX12_press_1 : decode cX12_press 1 = .ok (.iload_n 1, 1) := by decide +kernel
theorem dX12_press_2 : decode cX12_press 2 = .ok (.invokevirtual 96, 3) := by decide +kernel
theorem dX12_press_5 : decode cX12_press 5 = .ok (.ifCond .ne 9, 3) := by decide +kernel
theorem dX12_press_8 : decode cX12_press 8 = .ok (.aload_n 0, 1) := by decide +kernel
theorem dX12_press_9 : decode cX12_press 9 = .ok (.iconst (-1), 1) := by decide +kernel
theorem dX12_press_10 : decode cX12_press 10 = .ok (.invokevirtual 75, 3) := by decide +kernel
theorem dX12_press_13 : decode cX12_press 13 = .ok (.ireturn, 1) := by decide +kernel
theorem dX12_press_14 : decode cX12_press 14 = .ok (.iload_n 2, 1) := by decide +kernel
theorem dX12_press_15 : decode cX12_press 15 = .ok (.invokestatic 132, 3) := by decide +kernel
theorem dX12_press_18 : decode cX12_press 18 = .ok (.ifCond .eq 34, 3) := by decide +kernel
theorem dX12_press_21 : decode cX12_press 21 = .ok (.iload_n 3, 1) := by decide +kernel
theorem dX12_press_22 : decode cX12_press 22 = .ok (.iconst 1, 1) := by decide +kernel
theorem dX12_press_23 : decode cX12_press 23 = .ok (.bipush 99, 2) := by decide +kernel
theorem dX12_press_25 : decode cX12_press 25 = .ok (.invokestatic 82, 3) := by decide +kernel
theorem dX12_press_28 : decode cX12_press 28 = .ok (.ifCond .eq 24, 3) := by decide +kernel
theorem dX12_press_31 : decode cX12_press 31 = .ok (.aload_n 0, 1) := by decide +kernel
theorem dX12_press_32 : decode cX12_press 32 = .ok (.getfield 29, 3) := by decide +kernel
theorem dX12_press_35 : decode cX12_press 35 = .ok (.iload_n 1, 1) := by decide +kernel
theorem dX12_press_36 : decode cX12_press 36 = .ok (.iaload, 1) := by decide +kernel
theorem dX12_press_37 : decode cX12_press 37 = .ok (.bipush 6, 2) := by decide +kernel
theorem dX12_press_39 : decode cX12_press 39 = .ok (.if_icmp .ge 13, 3) := by decide +kernel
theorem dX12_press_42 : decode cX12_press 42 = .ok (.aload_n 0, 1) := by decide +kernel
theorem dX12_press_43 : decode cX12_press 43 = .ok (.iload_n 1, 1) := by decide +kernel
theorem dX12_press_44 : decode cX12_press 44 = .ok (.iload_n 2, 1) := by decide +kernel
theorem dX12_press_45 : decode cX12_press 45 = .ok (.iload_n 3, 1) := by decide +kernel
theorem dX12_press_46 : decode cX12_press 46 = .ok (.invokevirtual 188, 3) := by decide +kernel
theorem dX12_press_49 : decode cX12_press 49 = .ok (.goto 9, 3) := by decide +kernel
theorem dX12_press_52 : decode cX12_press 52 = .ok (.aload_n 0, 1) := by decide +kernel
theorem dX12_press_53 : decode cX12_press 53 = .ok (.bipush (-6), 2) := by decide +kernel
theorem dX12_press_55 : decode cX12_press 55 = .ok (.invokevirtual 75, 3) := by decide +kernel
theorem dX12_press_58 : decode cX12_press 58 = .ok (.ireturn, 1) := by decide +kernel
set_option maxRecDepth 20000 in
theorem ggX12_rub_X12_isPerson : GoodIn wsX12_rub wsX12_isPerson := goodIn_r _ [5, 6, 7, 8, 4, 9, 40, 41, 42, 43, 44, 45, 46, 47, 48, 49, 50, 51, 52, 53, 54, 55, 56, 57, 58, 59, 60, 61, 62, 63, 64, 65, 66] (by decide +kernel) (by decide +kernel)
set_option maxRecDepth 20000 in
theorem gX12_rub_X12_isPerson : GoodIn wsX12_rub (wsV RX12 96 RX12 yX12_isPerson wsX12_isPerson) := goodIn_app (goodIn_of _ (by decide +kernel)) ggX12_rub_X12_isPerson
set_option maxRecDepth 20000 in
theorem ggX12_rub_X12_no : GoodIn wsX12_rub wsX12_no := goodIn_r _ [13, 14, 40, 41, 42, 43, 44, 45, 46, 47, 48, 49, 50, 51, 52, 53, 54, 55, 56, 57, 58, 59, 60, 61, 62, 63, 64, 65, 66] (by decide +kernel) (by decide +kernel)
set_option maxRecDepth 20000 in
theorem gX12_rub_X12_no : GoodIn wsX12_rub (wsV RX12 75 RX12 yX12_no wsX12_no) := goodIn_app (goodIn_of _ (by decide +kernel)) ggX12_rub_X12_no
set_option maxRecDepth 20000 in
theorem ggX12_rub_X12_lives : GoodIn wsX12_rub wsX12_lives := goodIn_r _ [18, 19, 20, 21, 4, 22, 7, 8, 9, 40, 41, 42, 43, 44, 45, 46, 47, 48, 49, 50, 51, 52, 53, 54, 55, 56, 57, 58, 59, 60, 61, 62, 63, 64, 65, 66] (by decide +kernel) (by decide +kernel)
set_option maxRecDepth 20000 in
theorem gX12_rub_X12_lives : GoodIn wsX12_rub (wsV RX12 129 RX12 yX12_lives wsX12_lives) := goodIn_app (goodIn_of _ (by decide +kernel)) ggX12_rub_X12_lives
set_option maxRecDepth 20000 in
theorem ggX12_rub_X12_isDeed : GoodIn wsX12_rub wsX12_isDeed := goodIn_r _ [25, 7, 8, 4, 9] (by decide +kernel) (by decide +kernel)
set_option maxRecDepth 20000 in
theorem gX12_rub_X12_isDeed : GoodIn wsX12_rub (va_wsS RX12 132 yX12_isDeed wsX12_isDeed) := goodIn_app (goodIn_of _ (by decide +kernel)) ggX12_rub_X12_isDeed
set_option maxRecDepth 20000 in
theorem ggX12_rub_X12_rubs : GoodIn wsX12_rub wsX12_rubs := goodIn_r _ [29, 30, 31, 32, 33, 34, 35, 36, 37, 38, 4, 39, 40, 41, 42, 43, 44, 45, 46, 47, 48, 49, 50, 51, 52, 53, 54, 55, 56, 57, 58, 59, 60, 61, 62, 63, 64, 65, 66] (by decide +kernel) (by decide +kernel)
set_option maxRecDepth 20000 in
theorem gX12_rub_X12_rubs : GoodIn wsX12_rub (wsV RX12 175 RX12 yX12_rubs wsX12_rubs) := goodIn_app (goodIn_of _ (by decide +kernel)) ggX12_rub_X12_rubs
theorem dX12_rub_0 : decode cX12_rub 0 = .ok (.aload_n 0, 1) := by decide +kernel
theorem dX12_rub_1 : decode cX12_rub 1 = .ok (.iload_n 1, 1) := by decide +kernel
theorem dX12_rub_2 : decode cX12_rub 2 = .ok (.invokevirtual 96, 3) := by decide +kernel
theorem dX12_rub_5 : decode cX12_rub 5 = .ok (.ifCond .ne 9, 3) := by decide +kernel
theorem dX12_rub_8 : decode cX12_rub 8 = .ok (.aload_n 0, 1) := by decide +kernel
theorem dX12_rub_9 : decode cX12_rub 9 = .ok (.iconst (-1), 1) := by decide +kernel
theorem dX12_rub_10 : decode cX12_rub 10 = .ok (.invokevirtual 75, 3) := by decide +kernel
theorem dX12_rub_13 : decode cX12_rub 13 = .ok (.ireturn, 1) := by decide +kernel
theorem dX12_rub_14 : decode cX12_rub 14 = .ok (.aload_n 0, 1) := by decide +kernel
theorem dX12_rub_15 : decode cX12_rub 15 = .ok (.iload_n 1, 1) := by decide +kernel
theorem dX12_rub_16 : decode cX12_rub 16 = .ok (.iload_n 2, 1) := by decide +kernel
theorem dX12_rub_17 : decode cX12_rub 17 = .ok (.invokevirtual 129, 3) := by decide +kernel
theorem dX12_rub_20 : decode cX12_rub 20 = .ok (.ifCond .eq 20, 3) := by decide +kernel
theorem dX12_rub_23 : decode cX12_rub 23 = .ok (.iload_n 3, 1) := by decide +kernel
theorem dX12_rub_24 : decode cX12_rub 24 = .ok (.invokestatic 132, 3) := by decide +kernel
theorem dX12_rub_27 : decode cX12_rub 27 = .ok (.ifCond .eq 13, 3) := by decide +kernel
theorem dX12_rub_30 : decode cX12_rub 30 = .ok (.aload_n 0, 1) := by decide +kernel
theorem dX12_rub_31 : decode cX12_rub 31 = .ok (.iload_n 1, 1) := by decide +kernel
theorem dX12_rub_32 : decode cX12_rub 32 = .ok (.iload_n 2, 1) := by decide +kernel
theorem dX12_rub_33 : decode cX12_rub 33 = .ok (.iload_n 3, 1) := by decide +kernel
theorem dX12_rub_34 : decode cX12_rub 34 = .ok (.invokevirtual 175, 3) := by decide +kernel
theorem dX12_rub_37 : decode cX12_rub 37 = .ok (.goto 9, 3) := by decide +kernel
theorem dX12_rub_40 : decode cX12_rub 40 = .ok (.aload_n 0, 1) := by decide +kernel
theorem dX12_rub_41 : decode cX12_rub 41 = .ok (.bipush (-6), 2) := by decide +kernel
theorem dX12_rub_43 : decode cX12_rub 43 = .ok (.invokevirtual 75, 3) := by decide +kernel
theorem dX12_rub_46 : decode cX12_rub 46 = .ok (.ireturn, 1) := by decide +kernel
set_option maxRecDepth 20000 in
theorem ggX12_dies_X12_isPerson : GoodIn wsX12_dies wsX12_isPerson := goodIn_r _ [6, 7, 8, 9, 5, 10, 16, 17, 18, 19, 20, 21, 22, 23, 24, 25, 26, 27, 28, 29, 30, 31, 32, 33, 34, 35, 36, 37, 38, 39, 40, 41, 42] (by decide +kernel) (by decide +kernel)
set_option maxRecDepth 20000 in
theorem gX12_dies_X12_isPerson : GoodIn wsX12_dies (wsV RX12 96 RX12 yX12_isPerson wsX12_isPerson) := goodIn_app (goodIn_of _ (by decide +kernel)) ggX12_dies_X12_isPerson
set_option maxRecDepth 20000 in
theorem ggX12_dies_X12_no : GoodIn wsX12_dies wsX12_no := goodIn_r _ [14, 15, 16, 17, 18, 19, 20, 21, 22, 23, 24, 25, 26, 27, 28, 29, 30, 31, 32, 33, 34, 35, 36, 37, 38, 39, 40, 41, 42] (by decide +kernel) (by decide +kernel)
set_option maxRecDepth 20000 in
theorem gX12_dies_X12_no : GoodIn wsX12_dies (wsV RX12 75 RX12 yX12_no wsX12_no) := goodIn_app (goodIn_of _ (by decide +kernel)) ggX12_dies_X12_no
theorem dX12_dies_0 : decode cX12_dies 0 = .ok (.aload_n 0, 1) := by decide +kernel
theorem dX12_dies_1 : decode cX12_dies 1 = .ok (.iload_n 1, 1) := by decide +kernel
theorem dX12_dies_2 : decode cX12_dies 2 = .ok (.invokevirtual 96, 3) := by decide +kernel
theorem dX12_dies_5 : decode cX12_dies 5 = .ok (.ifCond .ne 9, 3) := by decide +kernel
theorem dX12_dies_8 : decode cX12_dies 8 = .ok (.aload_n 0, 1) := by decide +kernel
theorem dX12_dies_9 : decode cX12_dies 9 = .ok (.iconst (-1), 1) := by decide +kernel
theorem dX12_dies_10 : decode cX12_dies 10 = .ok (.invokevirtual 75, 3) := by decide +kernel
theorem dX12_dies_13 : decode cX12_dies 13 = .ok (.ireturn, 1) := by decide +kernel
theorem dX12_dies_14 : decode cX12_dies 14 = .ok (.aload_n 0, 1) := by decide +kernel
theorem dX12_dies_15 : decode cX12_dies 15 = .ok (.getfield 29, 3) := by decide +kernel
theorem dX12_dies_18 : decode cX12_dies 18 = .ok (.iload_n 1, 1) := by decide +kernel
theorem dX12_dies_19 : decode cX12_dies 19 = .ok (.iaload, 1) := by decide +kernel
theorem dX12_dies_20 : decode cX12_dies 20 = .ok (.bipush 6, 2) := by decide +kernel
theorem dX12_dies_22 : decode cX12_dies 22 = .ok (.if_icmp .ge 17, 3) := by decide +kernel
theorem dX12_dies_25 : decode cX12_dies 25 = .ok (.aload_n 0, 1) := by decide +kernel
theorem dX12_dies_26 : decode cX12_dies 26 = .ok (.getfield 29, 3) := by decide +kernel
theorem dX12_dies_29 : decode cX12_dies 29 = .ok (.iload_n 1, 1) := by decide +kernel
theorem dX12_dies_30 : decode cX12_dies 30 = .ok (.dup2, 1) := by decide +kernel
theorem dX12_dies_31 : decode cX12_dies 31 = .ok (.iaload, 1) := by decide +kernel
theorem dX12_dies_32 : decode cX12_dies 32 = .ok (.iconst 1, 1) := by decide +kernel
theorem dX12_dies_33 : decode cX12_dies 33 = .ok (.iadd, 1) := by decide +kernel
theorem dX12_dies_34 : decode cX12_dies 34 = .ok (.dup_x2, 1) := by decide +kernel
theorem dX12_dies_35 : decode cX12_dies 35 = .ok (.iastore, 1) := by decide +kernel
theorem dX12_dies_36 : decode cX12_dies 36 = .ok (.goto 9, 3) := by decide +kernel
theorem dX12_dies_39 : decode cX12_dies 39 = .ok (.aload_n 0, 1) := by decide +kernel
theorem dX12_dies_40 : decode cX12_dies 40 = .ok (.bipush (-6), 2) := by decide +kernel
theorem dX12_dies_42 : decode cX12_dies 42 = .ok (.invokevirtual 75, 3) := by decide +kernel
theorem dX12_dies_45 : decode cX12_dies 45 = .ok (.ireturn, 1) := by decide +kernel
theorem dX12_draw_0 : decode cX12_draw 0 = .ok (.aload_n 0, 1) := by decide +kernel
theorem dX12_draw_1 : decode cX12_draw 1 = .ok (.aload_n 0, 1) := by decide +kernel
theorem dX12_draw_2 : decode cX12_draw 2 = .ok (.getfield 69, 3) := by decide +kernel
theorem dX12_draw_5 : decode cX12_draw 5 = .ok (.ldc_w 288, 3) := by decide +kernel
theorem dX12_draw_8 : decode cX12_draw 8 = .ok (.imul, 1) := by decide +kernel
theorem dX12_draw_9 : decode cX12_draw 9 = .ok (.sipush 12345, 3) := by decide +kernel
theorem dX12_draw_12 : decode cX12_draw 12 = .ok (.iadd, 1) := by decide +kernel
theorem dX12_draw_13 : decode cX12_draw 13 = .ok (.putfield 69, 3) := by decide +kernel
theorem dX12_draw_16 : decode cX12_draw 16 = .ok (.aload_n 0, 1) := by decide +kernel
theorem dX12_draw_17 : decode cX12_draw 17 = .ok (.getfield 69, 3) := by decide +kernel
theorem dX12_draw_20 : decode cX12_draw 20 = .ok (.bipush 16, 2) := by decide +kernel
theorem dX12_draw_22 : decode cX12_draw 22 = .ok (.iushr, 1) := by decide +kernel
theorem dX12_draw_23 : decode cX12_draw 23 = .ok (.iload_n 1, 1) := by decide +kernel
theorem dX12_draw_24 : decode cX12_draw 24 = .ok (.irem, 1) := by decide +kernel
theorem dX12_draw_25 : decode cX12_draw 25 = .ok (.ireturn, 1) := by decide +kernel
set_option maxRecDepth 20000 in
theorem ggX12_year_X12_draw : GoodIn wsX12_year wsX12_draw := goodIn_r _ [7, 8, 9, 54, 55, 56, 57, 58, 59, 60, 61, 62, 63, 64, 65, 66, 67, 68, 69, 70, 71, 72, 73, 74, 75, 76, 77, 78, 79, 80] (by decide +kernel) (by decide +kernel)
set_option maxRecDepth 20000 in
theorem gX12_year_X12_draw : GoodIn wsX12_year (wsV RX12 289 RX12 yX12_draw wsX12_draw) := goodIn_app (goodIn_of _ (by decide +kernel)) ggX12_year_X12_draw
set_option maxRecDepth 20000 in
theorem ggX12_year_X12_presses : GoodIn wsX12_year wsX12_presses := goodIn_r _ [13, 2, 14, 15, 16, 17, 18, 19, 20, 21, 22, 23, 24, 25, 26, 27, 28, 6, 29, 30, 31, 32, 33, 34, 35, 36, 37, 38, 54, 55, 56, 57, 58, 59, 60, 61, 62, 63, 64, 65, 66, 67, 68, 69, 70, 71, 72, 73, 74, 75, 76, 77, 78, 79, 80] (by decide +kernel) (by decide +kernel)
set_option maxRecDepth 20000 in
theorem gX12_year_X12_presses : GoodIn wsX12_year (wsV RX12 188 RX12 yX12_presses wsX12_presses) := goodIn_app (goodIn_of _ (by decide +kernel)) ggX12_year_X12_presses
set_option maxRecDepth 20000 in
theorem ggX12_year_X12_lives : GoodIn wsX12_year wsX12_lives := goodIn_r _ [42, 2, 43, 44, 6, 45, 46, 47, 48, 54, 55, 56, 57, 58, 59, 60, 61, 62, 63, 64, 65, 66, 67, 68, 69, 70, 71, 72, 73, 74, 75, 76, 77, 78, 79, 80] (by decide +kernel) (by decide +kernel)
set_option maxRecDepth 20000 in
theorem gX12_year_X12_lives : GoodIn wsX12_year (wsV RX12 129 RX12 yX12_lives wsX12_lives) := goodIn_app (goodIn_of _ (by decide +kernel)) ggX12_year_X12_lives
set_option maxRecDepth 20000 in
theorem ggX12_year_X12_rubs : GoodIn wsX12_year wsX12_rubs := goodIn_r _ [52, 15, 53, 16, 17, 18, 19, 35, 36, 37, 6, 38, 54, 55, 56, 57, 58, 59, 60, 61, 62, 63, 64, 65, 66, 67, 68, 69, 70, 71, 72, 73, 74, 75, 76, 77, 78, 79, 80] (by decide +kernel) (by decide +kernel)
set_option maxRecDepth 20000 in
theorem gX12_year_X12_rubs : GoodIn wsX12_year (wsV RX12 175 RX12 yX12_rubs wsX12_rubs) := goodIn_app (goodIn_of _ (by decide +kernel)) ggX12_year_X12_rubs
theorem dX12_year_0 : decode cX12_year 0 = .ok (.aload_n 0, 1) := by decide +kernel
theorem dX12_year_1 : decode cX12_year 1 = .ok (.aload_n 0, 1) := by decide +kernel
theorem dX12_year_2 : decode cX12_year 2 = .ok (.getfield 79, 3) := by decide +kernel
theorem dX12_year_5 : decode cX12_year 5 = .ok (.invokevirtual 289, 3) := by decide +kernel
theorem dX12_year_8 : decode cX12_year 8 = .ok (.istore_n 1, 1) := by decide +kernel
theorem dX12_year_9 : decode cX12_year 9 = .ok (.aload_n 0, 1) := by decide +kernel
theorem dX12_year_10 : decode cX12_year 10 = .ok (.bipush 8, 2) := by decide +kernel
theorem dX12_year_12 : decode cX12_year 12 = .ok (.invokevirtual 289, 3) := by decide +kernel
theorem dX12_year_15 : decode cX12_year 15 = .ok (.istore_n 2, 1) := by decide +kernel
theorem dX12_year_16 : decode cX12_year 16 = .ok (.iload_n 2, 1) := by decide +kernel
theorem dX12_year_17 : decode cX12_year 17 = .ok (.iconst 5, 1) := by decide +kernel
theorem dX12_year_18 : decode cX12_year 18 = .ok (.if_icmp .ge 43, 3) := by decide +kernel
theorem dX12_year_21 : decode cX12_year 21 = .ok (.aload_n 0, 1) := by decide +kernel
theorem dX12_year_22 : decode cX12_year 22 = .ok (.bipush 8, 2) := by decide +kernel
theorem dX12_year_24 : decode cX12_year 24 = .ok (.invokevirtual 289, 3) := by decide +kernel
theorem dX12_year_27 : decode cX12_year 27 = .ok (.istore_n 3, 1) := by decide +kernel
theorem dX12_year_28 : decode cX12_year 28 = .ok (.iconst 1, 1) := by decide +kernel
theorem dX12_year_29 : decode cX12_year 29 = .ok (.aload_n 0, 1) := by decide +kernel
theorem dX12_year_30 : decode cX12_year 30 = .ok (.bipush 60, 2) := by decide +kernel
theorem dX12_year_32 : decode cX12_year 32 = .ok (.invokevirtual 289, 3) := by decide +kernel
theorem dX12_year_35 : decode cX12_year 35 = .ok (.iadd, 1) := by decide +kernel
theorem dX12_year_36 : decode cX12_year 36 = .ok (.istore 4, 2) := by decide +kernel
theorem dX12_year_38 : decode cX12_year 38 = .ok (.aload_n 0, 1) := by decide +kernel
theorem dX12_year_39 : decode cX12_year 39 = .ok (.getfield 29, 3) := by decide +kernel
theorem dX12_year_42 : decode cX12_year 42 = .ok (.iload_n 1, 1) := by decide +kernel
theorem dX12_year_43 : decode cX12_year 43 = .ok (.iaload, 1) := by decide +kernel
theorem dX12_year_44 : decode cX12_year 44 = .ok (.bipush 6, 2) := by decide +kernel
theorem dX12_year_46 : decode cX12_year 46 = .ok (.if_icmp .ge 12, 3) := by decide +kernel
theorem dX12_year_49 : decode cX12_year 49 = .ok (.aload_n 0, 1) := by decide +kernel
theorem dX12_year_50 : decode cX12_year 50 = .ok (.iload_n 1, 1) := by decide +kernel
theorem dX12_year_51 : decode cX12_year 51 = .ok (.iload_n 3, 1) := by decide +kernel
theorem dX12_year_52 : decode cX12_year 52 = .ok (.iload 4, 2) := by decide +kernel
theorem dX12_year_54 : decode cX12_year 54 = .ok (.invokevirtual 188, 3) := by decide +kernel
theorem dX12_year_57 : decode cX12_year 57 = .ok (.pop, 1) := by decide +kernel
theorem dX12_year_58 : decode cX12_year 58 = .ok (.goto 66, 3) := by decide +kernel
theorem dX12_year_61 : decode cX12_year 61 = .ok (.iload_n 2, 1) := by decide +kernel
theorem dX12_year_62 : decode cX12_year 62 = .ok (.bipush 7, 2) := by decide +kernel
theorem dX12_year_64 : decode cX12_year 64 = .ok (.if_icmp .ge 39, 3) := by decide +kernel
theorem dX12_year_67 : decode cX12_year 67 = .ok (.aload_n 0, 1) := by decide +kernel
theorem dX12_year_68 : decode cX12_year 68 = .ok (.bipush 6, 2) := by decide +kernel
theorem dX12_year_70 : decode cX12_year 70 = .ok (.invokevirtual 289, 3) := by decide +kernel
theorem dX12_year_73 : decode cX12_year 73 = .ok (.istore_n 3, 1) := by decide +kernel
theorem dX12_year_74 : decode cX12_year 74 = .ok (.aload_n 0, 1) := by decide +kernel
theorem dX12_year_75 : decode cX12_year 75 = .ok (.bipush 8, 2) := by decide +kernel
theorem dX12_year_77 : decode cX12_year 77 = .ok (.invokevirtual 289, 3) := by decide +kernel
theorem dX12_year_80 : decode cX12_year 80 = .ok (.istore 4, 2) := by decide +kernel
theorem dX12_year_82 : decode cX12_year 82 = .ok (.aload_n 0, 1) := by decide +kernel
theorem dX12_year_83 : decode cX12_year 83 = .ok (.iload_n 1, 1) := by decide +kernel
theorem dX12_year_84 : decode cX12_year 84 = .ok (.iload_n 3, 1) := by decide +kernel
theorem dX12_year_85 : decode cX12_year 85 = .ok (.invokevirtual 129, 3) := by decide +kernel
theorem dX12_year_88 : decode cX12_year 88 = .ok (.ifCond .eq 12, 3) := by decide +kernel
theorem dX12_year_91 : decode cX12_year 91 = .ok (.aload_n 0, 1) := by decide +kernel
theorem dX12_year_92 : decode cX12_year 92 = .ok (.iload_n 1, 1) := by decide +kernel
theorem dX12_year_93 : decode cX12_year 93 = .ok (.iload_n 3, 1) := by decide +kernel
theorem dX12_year_94 : decode cX12_year 94 = .ok (.iload 4, 2) := by decide +kernel
theorem dX12_year_96 : decode cX12_year 96 = .ok (.invokevirtual 175, 3) := by decide +kernel
theorem dX12_year_99 : decode cX12_year 99 = .ok (.pop, 1) := by decide +kernel
theorem dX12_year_100 : decode cX12_year 100 = .ok (.goto 24, 3) := by decide +kernel
theorem dX12_year_103 : decode cX12_year 103 = .ok (.aload_n 0, 1) := by decide +kernel
theorem dX12_year_104 : decode cX12_year 104 = .ok (.getfield 29, 3) := by decide +kernel
theorem dX12_year_107 : decode cX12_year 107 = .ok (.iload_n 1, 1) := by decide +kernel
theorem dX12_year_108 : decode cX12_year 108 = .ok (.iaload, 1) := by decide +kernel
theorem dX12_year_109 : decode cX12_year 109 = .ok (.bipush 6, 2) := by decide +kernel
theorem dX12_year_111 : decode cX12_year 111 = .ok (.if_icmp .ge 13, 3) := by decide +kernel
theorem dX12_year_114 : decode cX12_year 114 = .ok (.aload_n 0, 1) := by decide +kernel
theorem dX12_year_115 : decode cX12_year 115 = .ok (.getfield 29, 3) := by decide +kernel
theorem dX12_year_118 : decode cX12_year 118 = .ok (.iload_n 1, 1) := by decide +kernel
theorem dX12_year_119 : decode cX12_year 119 = .ok (.dup2, 1) := by decide +kernel
theorem dX12_year_120 : decode cX12_year 120 = .ok (.iaload, 1) := by decide +kernel
theorem dX12_year_121 : decode cX12_year 121 = .ok (.iconst 1, 1) := by decide +kernel
theorem dX12_year_122 : decode cX12_year 122 = .ok (.iadd, 1) := by decide +kernel
theorem dX12_year_123 : decode cX12_year 123 = .ok (.iastore, 1) := by decide +kernel
theorem dX12_year_124 : decode cX12_year 124 = .ok (.return_, 1) := by decide +kernel
set_option maxRecDepth 20000 in
theorem ggX12_years_X12_no : GoodIn wsX12_years wsX12_no := goodIn_r _ [6, 7, 67, 68, 69, 70, 71, 72, 73, 74, 75, 76, 77, 78, 79, 80, 81, 82, 83, 84, 85, 86, 87, 88, 89, 90, 91, 92, 93] (by decide +kernel) (by decide +kernel)
set_option maxRecDepth 20000 in
theorem gX12_years_X12_no : GoodIn wsX12_years (wsV RX12 75 RX12 yX12_no wsX12_no) := goodIn_app (goodIn_of _ (by decide +kernel)) ggX12_years_X12_no
set_option maxRecDepth 20000 in
theorem ggX12_years_X12_within : GoodIn wsX12_years wsX12_within := goodIn_r _ [10] (by decide +kernel) (by decide +kernel)
set_option maxRecDepth 20000 in
theorem gX12_years_X12_within : GoodIn wsX12_years (va_wsS RX12 82 yX12_within wsX12_within) := goodIn_app (goodIn_of _ (by decide +kernel)) ggX12_years_X12_within
set_option maxRecDepth 20000 in
theorem ggX12_years_X12_year : GoodIn wsX12_years wsX12_year := goodIn_r _ [14, 1, 15, 16, 17, 18, 5, 19, 20, 21, 22, 23, 24, 25, 26, 27, 28, 29, 30, 31, 32, 33, 34, 35, 36, 37, 38, 39, 40, 41, 42, 43, 44, 45, 46, 47, 48, 49, 50, 51, 52, 53, 54, 55, 56, 57, 8, 9, 10, 58, 59, 60, 61, 62, 67, 68, 69, 70, 71, 72, 73, 74, 75, 76, 77, 78, 79, 80, 81, 82, 83, 84, 85, 86, 87, 88, 89, 90, 91, 92, 93] (by decide +kernel) (by decide +kernel)
set_option maxRecDepth 20000 in
theorem gX12_years_X12_year : GoodIn wsX12_years (wsV RX12 292 RX12 yX12_year wsX12_year) := goodIn_app (goodIn_of _ (by decide +kernel)) ggX12_years_X12_year
set_option maxRecDepth 20000 in
theorem ggX12_years_X12_allDead : GoodIn wsX12_years wsX12_allDead := goodIn_r _ [66, 1, 15, 67, 68, 69, 70, 71, 72, 73, 74, 75, 76, 77, 78, 79, 80, 81, 82, 83, 84, 85, 86, 87, 88, 89, 90, 91, 92, 93] (by decide +kernel) (by decide +kernel)
set_option maxRecDepth 20000 in
theorem gX12_years_X12_allDead : GoodIn wsX12_years (wsV RX12 282 RX12 yX12_allDead wsX12_allDead) := goodIn_app (goodIn_of _ (by decide +kernel)) ggX12_years_X12_allDead
theorem dX12_years_0 : decode cX12_years 0 = .ok (.aload_n 0, 1) := by decide +kernel
theorem dX12_years_1 : decode cX12_years 1 = .ok (.getfield 79, 3) := by decide +kernel
theorem dX12_years_4 : decode cX12_years 4 = .ok (.ifCond .ne 10, 3) := by decide +kernel
theorem dX12_years_7 : decode cX12_years 7 = .ok (.aload_n 0, 1) := by decide +kernel
theorem dX12_years_8 : decode cX12_years 8 = .ok (.bipush (-5), 2) := by decide +kernel
theorem dX12_years_10 : decode cX12_years 10 = .ok (.invokevirtual 75, 3) := by decide +kernel
theorem dX12_years_13 : decode cX12_years 13 = .ok (.ireturn, 1) := by decide +kernel
theorem dX12_years_14 : decode cX12_years 14 = .ok (.iload_n 1, 1) := by decide +kernel
theorem dX12_years_15 : decode cX12_years 15 = .ok (.iconst 1, 1) := by decide +kernel
theorem dX12_years_16 : decode cX12_years 16 = .ok (.bipush 100, 2) := by decide +kernel
theorem dX12_years_18 : decode cX12_years 18 = .ok (.invokestatic 82, 3) := by decide +kernel
theorem dX12_years_21 : decode cX12_years 21 = .ok (.ifCond .ne 10, 3) := by decide +kernel
theorem dX12_years_24 : decode cX12_years 24 = .ok (.aload_n 0, 1) := by decide +kernel
theorem dX12_years_25 : decode cX12_years 25 = .ok (.bipush (-6), 2) := by decide +kernel
theorem dX12_years_27 : decode cX12_years 27 = .ok (.invokevirtual 75, 3) := by decide +kernel
theorem dX12_years_30 : decode cX12_years 30 = .ok (.ireturn, 1) := by decide +kernel
theorem dX12_years_31 : decode cX12_years 31 = .ok (.iconst 0, 1) := by decide +kernel
theorem dX12_years_32 : decode cX12_years 32 = .ok (.istore_n 2, 1) := by decide +kernel
theorem dX12_years_33 : decode cX12_years 33 = .ok (.iload_n 2, 1) := by decide +kernel
theorem dX12_years_34 : decode cX12_years 34 = .ok (.iload_n 1, 1) := by decide +kernel
theorem dX12_years_35 : decode cX12_years 35 = .ok (.if_icmp .ge 13, 3) := by decide +kernel
theorem dX12_years_38 : decode cX12_years 38 = .ok (.aload_n 0, 1) := by decide +kernel
theorem dX12_years_39 : decode cX12_years 39 = .ok (.invokevirtual 292, 3) := by decide +kernel
theorem dX12_years_42 : decode cX12_years 42 = .ok (.iinc 2 1, 3) := by decide +kernel
theorem dX12_years_45 : decode cX12_years 45 = .ok (.goto (-12), 3) := by decide +kernel
theorem dX12_years_48 : decode cX12_years 48 = .ok (.aload_n 0, 1) := by decide +kernel
theorem dX12_years_49 : decode cX12_years 49 = .ok (.invokevirtual 282, 3) := by decide +kernel
theorem dX12_years_52 : decode cX12_years 52 = .ok (.ireturn, 1) := by decide +kernel
theorem dX12_seed_0 : decode cX12_seed 0 = .ok (.aload_n 0, 1) := by decide +kernel
theorem dX12_seed_1 : decode cX12_seed 1 = .ok (.getfield 69, 3) := by decide +kernel
theorem dX12_seed_4 : decode cX12_seed 4 = .ok (.istore_n 2, 1) := by decide +kernel
theorem dX12_seed_5 : decode cX12_seed 5 = .ok (.aload_n 0, 1) := by decide +kernel
theorem dX12_seed_6 : decode cX12_seed 6 = .ok (.iload_n 1, 1) := by decide +kernel
theorem dX12_seed_7 : decode cX12_seed 7 = .ok (.putfield 69, 3) := by decide +kernel
theorem dX12_seed_10 : decode cX12_seed 10 = .ok (.iload_n 2, 1) := by decide +kernel
theorem dX12_seed_11 : decode cX12_seed 11 = .ok (.ireturn, 1) := by decide +kernel
theorem dX12_ran_0 : decode cX12_ran 0 = .ok (.aload_n 0, 1) := by decide +kernel
theorem dX12_ran_1 : decode cX12_ran 1 = .ok (.getfield 295, 3) := by decide +kernel
theorem dX12_ran_4 : decode cX12_ran 4 = .ok (.bipush 20, 2) := by decide +kernel
theorem dX12_ran_6 : decode cX12_ran 6 = .ok (.if_icmp .ge 13, 3) := by decide +kernel
theorem dX12_ran_9 : decode cX12_ran 9 = .ok (.aload_n 0, 1) := by decide +kernel
theorem dX12_ran_10 : decode cX12_ran 10 = .ok (.getfield 44, 3) := by decide +kernel
theorem dX12_ran_13 : decode cX12_ran 13 = .ok (.aload_n 0, 1) := by decide +kernel
theorem dX12_ran_14 : decode cX12_ran 14 = .ok (.getfield 295, 3) := by decide +kernel
theorem dX12_ran_17 : decode cX12_ran 17 = .ok (.iload_n 1, 1) := by decide +kernel
theorem dX12_ran_18 : decode cX12_ran 18 = .ok (.iastore, 1) := by decide +kernel
theorem dX12_ran_19 : decode cX12_ran 19 = .ok (.aload_n 0, 1) := by decide +kernel
theorem dX12_ran_20 : decode cX12_ran 20 = .ok (.dup, 1) := by decide +kernel
theorem dX12_ran_21 : decode cX12_ran 21 = .ok (.getfield 295, 3) := by decide +kernel
theorem dX12_ran_24 : decode cX12_ran 24 = .ok (.iconst 1, 1) := by decide +kernel
theorem dX12_ran_25 : decode cX12_ran 25 = .ok (.iadd, 1) := by decide +kernel
theorem dX12_ran_26 : decode cX12_ran 26 = .ok (.putfield 295, 3) := by decide +kernel
theorem dX12_ran_29 : decode cX12_ran 29 = .ok (.return_, 1) := by decide +kernel
set_option maxRecDepth 20000 in
theorem ggX12_livesBy_X12_ran : GoodIn wsX12_livesBy wsX12_ran := goodIn_r _ [7, 8, 9, 10, 11, 12, 13, 14, 15, 16, 17, 18, 19, 20, 21, 22, 23, 24, 25, 26, 27, 28, 29, 30, 31, 32, 33, 34, 35, 36] (by decide +kernel) (by decide +kernel)
set_option maxRecDepth 20000 in
theorem gX12_livesBy_X12_ran : GoodIn wsX12_livesBy (wsV RX12 298 RX12 yX12_ran wsX12_ran) := goodIn_app (goodIn_of _ (by decide +kernel)) ggX12_livesBy_X12_ran
theorem dX12_livesBy_0 : decode cX12_livesBy 0 = .ok (.aload_n 0, 1) := by decide +kernel
theorem dX12_livesBy_1 : decode cX12_livesBy 1 = .ok (.getfield 20, 3) := by decide +kernel
theorem dX12_livesBy_4 : decode cX12_livesBy 4 = .ok (.iload_n 1, 1) := by decide +kernel
theorem dX12_livesBy_5 : decode cX12_livesBy 5 = .ok (.iaload, 1) := by decide +kernel
theorem dX12_livesBy_6 : decode cX12_livesBy 6 = .ok (.istore_n 3, 1) := by decide +kernel
theorem dX12_livesBy_7 : decode cX12_livesBy 7 = .ok (.iload_n 3, 1) := by decide +kernel
theorem dX12_livesBy_8 : decode cX12_livesBy 8 = .ok (.bipush 6, 2) := by decide +kernel
theorem dX12_livesBy_10 : decode cX12_livesBy 10 = .ok (.if_icmp .ne 9, 3) := by decide +kernel
theorem dX12_livesBy_13 : decode cX12_livesBy 13 = .ok (.aload_n 0, 1) := by decide +kernel
theorem dX12_livesBy_14 : decode cX12_livesBy 14 = .ok (.bipush 70, 2) := by decide +kernel
theorem dX12_livesBy_16 : decode cX12_livesBy 16 = .ok (.invokevirtual 298, 3) := by decide +kernel
theorem dX12_livesBy_19 : decode cX12_livesBy 19 = .ok (.iload_n 3, 1) := by decide +kernel
theorem dX12_livesBy_20 : decode cX12_livesBy 20 = .ok (.iconst 1, 1) := by decide +kernel
theorem dX12_livesBy_21 : decode cX12_livesBy 21 = .ok (.if_icmp .eq 9, 3) := by decide +kernel
theorem dX12_livesBy_24 : decode cX12_livesBy 24 = .ok (.iload_n 3, 1) := by decide +kernel
theorem dX12_livesBy_25 : decode cX12_livesBy 25 = .ok (.bipush 6, 2) := by decide +kernel
theorem dX12_livesBy_27 : decode cX12_livesBy 27 = .ok (.if_icmp .ne 9, 3) := by decide +kernel
theorem dX12_livesBy_30 : decode cX12_livesBy 30 = .ok (.aload_n 0, 1) := by decide +kernel
theorem dX12_livesBy_31 : decode cX12_livesBy 31 = .ok (.bipush 20, 2) := by decide +kernel
theorem dX12_livesBy_33 : decode cX12_livesBy 33 = .ok (.invokevirtual 298, 3) := by decide +kernel
theorem dX12_livesBy_36 : decode cX12_livesBy 36 = .ok (.iload_n 3, 1) := by decide +kernel
theorem dX12_livesBy_37 : decode cX12_livesBy 37 = .ok (.iconst 4, 1) := by decide +kernel
theorem dX12_livesBy_38 : decode cX12_livesBy 38 = .ok (.if_icmp .eq 8, 3) := by decide +kernel
theorem dX12_livesBy_41 : decode cX12_livesBy 41 = .ok (.iload_n 3, 1) := by decide +kernel
theorem dX12_livesBy_42 : decode cX12_livesBy 42 = .ok (.iconst 5, 1) := by decide +kernel
theorem dX12_livesBy_43 : decode cX12_livesBy 43 = .ok (.if_icmp .ne 9, 3) := by decide +kernel
theorem dX12_livesBy_46 : decode cX12_livesBy 46 = .ok (.aload_n 0, 1) := by decide +kernel
theorem dX12_livesBy_47 : decode cX12_livesBy 47 = .ok (.bipush 51, 2) := by decide +kernel
theorem dX12_livesBy_49 : decode cX12_livesBy 49 = .ok (.invokevirtual 298, 3) := by decide +kernel
theorem dX12_livesBy_52 : decode cX12_livesBy 52 = .ok (.aload_n 0, 1) := by decide +kernel
theorem dX12_livesBy_53 : decode cX12_livesBy 53 = .ok (.bipush 10, 2) := by decide +kernel
theorem dX12_livesBy_55 : decode cX12_livesBy 55 = .ok (.invokevirtual 298, 3) := by decide +kernel
theorem dX12_livesBy_58 : decode cX12_livesBy 58 = .ok (.iload_n 2, 1) := by decide +kernel
theorem dX12_livesBy_59 : decode cX12_livesBy 59 = .ok (.iload_n 1, 1) := by decide +kernel
theorem dX12_livesBy_60 : decode cX12_livesBy 60 = .ok (.iadd, 1) := by decide +kernel
theorem dX12_livesBy_61 : decode cX12_livesBy 61 = .ok (.istore 4, 2) := by decide +kernel
theorem dX12_livesBy_63 : decode cX12_livesBy 63 = .ok (.iload_n 3, 1) := by decide +kernel
theorem dX12_livesBy_64 : decode cX12_livesBy 64 = .ok (.iconst 4, 1) := by decide +kernel
theorem dX12_livesBy_65 : decode cX12_livesBy 65 = .ok (.if_icmp .eq 8, 3) := by decide +kernel
theorem dX12_livesBy_68 : decode cX12_livesBy 68 = .ok (.iload_n 3, 1) := by decide +kernel
theorem dX12_livesBy_69 : decode cX12_livesBy 69 = .ok (.iconst 5, 1) := by decide +kernel
theorem dX12_livesBy_70 : decode cX12_livesBy 70 = .ok (.if_icmp .ne 8, 3) := by decide +kernel
theorem dX12_livesBy_73 : decode cX12_livesBy 73 = .ok (.iload 4, 2) := by decide +kernel
theorem dX12_livesBy_75 : decode cX12_livesBy 75 = .ok (.iload_n 1, 1) := by decide +kernel
theorem dX12_livesBy_76 : decode cX12_livesBy 76 = .ok (.isub, 1) := by decide +kernel
theorem dX12_livesBy_77 : decode cX12_livesBy 77 = .ok (.ireturn, 1) := by decide +kernel
theorem dX12_livesBy_78 : decode cX12_livesBy 78 = .ok (.iload_n 3, 1) := by decide +kernel
theorem dX12_livesBy_79 : decode cX12_livesBy 79 = .ok (.iconst 1, 1) := by decide +kernel
theorem dX12_livesBy_80 : decode cX12_livesBy 80 = .ok (.if_icmp .ne 13, 3) := by decide +kernel
theorem dX12_livesBy_83 : decode cX12_livesBy 83 = .ok (.iload 4, 2) := by decide +kernel
theorem dX12_livesBy_85 : decode cX12_livesBy 85 = .ok (.aload_n 0, 1) := by decide +kernel
theorem dX12_livesBy_86 : decode cX12_livesBy 86 = .ok (.getfield 23, 3) := by decide +kernel
theorem dX12_livesBy_89 : decode cX12_livesBy 89 = .ok (.iload_n 1, 1) := by decide +kernel
theorem dX12_livesBy_90 : decode cX12_livesBy 90 = .ok (.iaload, 1) := by decide +kernel
theorem dX12_livesBy_91 : decode cX12_livesBy 91 = .ok (.iadd, 1) := by decide +kernel
theorem dX12_livesBy_92 : decode cX12_livesBy 92 = .ok (.ireturn, 1) := by decide +kernel
theorem dX12_livesBy_93 : decode cX12_livesBy 93 = .ok (.iload_n 3, 1) := by decide +kernel
theorem dX12_livesBy_94 : decode cX12_livesBy 94 = .ok (.bipush 6, 2) := by decide +kernel
theorem dX12_livesBy_96 : decode cX12_livesBy 96 = .ok (.if_icmp .ne 17, 3) := by decide +kernel
theorem dX12_livesBy_99 : decode cX12_livesBy 99 = .ok (.iload 4, 2) := by decide +kernel
theorem dX12_livesBy_101 : decode cX12_livesBy 101 = .ok (.aload_n 0, 1) := by decide +kernel
theorem dX12_livesBy_102 : decode cX12_livesBy 102 = .ok (.getfield 23, 3) := by decide +kernel
theorem dX12_livesBy_105 : decode cX12_livesBy 105 = .ok (.iload_n 1, 1) := by decide +kernel
theorem dX12_livesBy_106 : decode cX12_livesBy 106 = .ok (.iaload, 1) := by decide +kernel
theorem dX12_livesBy_107 : decode cX12_livesBy 107 = .ok (.iadd, 1) := by decide +kernel
theorem dX12_livesBy_108 : decode cX12_livesBy 108 = .ok (.iconst 2, 1) := by decide +kernel
theorem dX12_livesBy_109 : decode cX12_livesBy 109 = .ok (.imul, 1) := by decide +kernel
theorem dX12_livesBy_110 : decode cX12_livesBy 110 = .ok (.goto 5, 3) := by decide +kernel
theorem dX12_livesBy_113 : decode cX12_livesBy 113 = .ok (.iload 4, 2) := by decide +kernel
theorem dX12_livesBy_115 : decode cX12_livesBy 115 = .ok (.ireturn, 1) := by decide +kernel
set_option maxRecDepth 20000 in
theorem ggX12_goesBy_X12_ran : GoodIn wsX12_goesBy wsX12_ran := goodIn_r _ [7, 8, 9, 14, 15, 16, 17, 18, 19, 20, 21, 22, 23, 24, 25, 26, 27, 28, 29, 30, 31, 32, 33, 34, 35, 36, 37, 38, 39, 40] (by decide +kernel) (by decide +kernel)
set_option maxRecDepth 20000 in
theorem gX12_goesBy_X12_ran : GoodIn wsX12_goesBy (wsV RX12 298 RX12 yX12_ran wsX12_ran) := goodIn_app (goodIn_of _ (by decide +kernel)) ggX12_goesBy_X12_ran
set_option maxRecDepth 20000 in
theorem ggX12_goesBy_X12_livesBy : GoodIn wsX12_goesBy wsX12_livesBy := goodIn_r _ [13, 1, 2, 3, 4, 5, 6, 7, 8, 9, 14, 15, 16, 17, 18, 19, 20, 21, 22, 23, 24, 25, 26, 27, 28, 29, 30, 31, 32, 33, 34, 35, 36, 37, 38, 39, 40] (by decide +kernel) (by decide +kernel)
set_option maxRecDepth 20000 in
theorem gX12_goesBy_X12_livesBy : GoodIn wsX12_goesBy (wsV RX12 302 RX12 yX12_livesBy wsX12_livesBy) := goodIn_app (goodIn_of _ (by decide +kernel)) ggX12_goesBy_X12_livesBy
theorem dX12_goesBy_0 : decode cX12_goesBy 0 = .ok (.aload_n 0, 1) := by decide +kernel
theorem dX12_goesBy_1 : decode cX12_goesBy 1 = .ok (.getfield 20, 3) := by decide +kernel
theorem dX12_goesBy_4 : decode cX12_goesBy 4 = .ok (.iload_n 1, 1) := by decide +kernel
theorem dX12_goesBy_5 : decode cX12_goesBy 5 = .ok (.iaload, 1) := by decide +kernel
theorem dX12_goesBy_6 : decode cX12_goesBy 6 = .ok (.istore_n 3, 1) := by decide +kernel
theorem dX12_goesBy_7 : decode cX12_goesBy 7 = .ok (.iload_n 2, 1) := by decide +kernel
theorem dX12_goesBy_8 : decode cX12_goesBy 8 = .ok (.istore 4, 2) := by decide +kernel
theorem dX12_goesBy_10 : decode cX12_goesBy 10 = .ok (.iload_n 3, 1) := by decide +kernel
theorem dX12_goesBy_11 : decode cX12_goesBy 11 = .ok (.bipush 6, 2) := by decide +kernel
theorem dX12_goesBy_13 : decode cX12_goesBy 13 = .ok (.if_icmp .ne 19, 3) := by decide +kernel
theorem dX12_goesBy_16 : decode cX12_goesBy 16 = .ok (.aload_n 0, 1) := by decide +kernel
theorem dX12_goesBy_17 : decode cX12_goesBy 17 = .ok (.bipush 71, 2) := by decide +kernel
theorem dX12_goesBy_19 : decode cX12_goesBy 19 = .ok (.invokevirtual 298, 3) := by decide +kernel
theorem dX12_goesBy_22 : decode cX12_goesBy 22 = .ok (.iload_n 2, 1) := by decide +kernel
theorem dX12_goesBy_23 : decode cX12_goesBy 23 = .ok (.aload_n 0, 1) := by decide +kernel
theorem dX12_goesBy_24 : decode cX12_goesBy 24 = .ok (.getfield 23, 3) := by decide +kernel
theorem dX12_goesBy_27 : decode cX12_goesBy 27 = .ok (.iload_n 1, 1) := by decide +kernel
theorem dX12_goesBy_28 : decode cX12_goesBy 28 = .ok (.iaload, 1) := by decide +kernel
theorem dX12_goesBy_29 : decode cX12_goesBy 29 = .ok (.isub, 1) := by decide +kernel
theorem dX12_goesBy_30 : decode cX12_goesBy 30 = .ok (.istore 4, 2) := by decide +kernel
theorem dX12_goesBy_32 : decode cX12_goesBy 32 = .ok (.iload_n 3, 1) := by decide +kernel
theorem dX12_goesBy_33 : decode cX12_goesBy 33 = .ok (.iconst 3, 1) := by decide +kernel
theorem dX12_goesBy_34 : decode cX12_goesBy 34 = .ok (.if_icmp .ne 14, 3) := by decide +kernel
theorem dX12_goesBy_37 : decode cX12_goesBy 37 = .ok (.aload_n 0, 1) := by decide +kernel
theorem dX12_goesBy_38 : decode cX12_goesBy 38 = .ok (.bipush 40, 2) := by decide +kernel
theorem dX12_goesBy_40 : decode cX12_goesBy 40 = .ok (.invokevirtual 298, 3) := by decide +kernel
theorem dX12_goesBy_43 : decode cX12_goesBy 43 = .ok (.iload_n 2, 1) := by decide +kernel
theorem dX12_goesBy_44 : decode cX12_goesBy 44 = .ok (.iconst 1, 1) := by decide +kernel
theorem dX12_goesBy_45 : decode cX12_goesBy 45 = .ok (.iadd, 1) := by decide +kernel
theorem dX12_goesBy_46 : decode cX12_goesBy 46 = .ok (.istore 4, 2) := by decide +kernel
theorem dX12_goesBy_48 : decode cX12_goesBy 48 = .ok (.iload_n 3, 1) := by decide +kernel
theorem dX12_goesBy_49 : decode cX12_goesBy 49 = .ok (.iconst 2, 1) := by decide +kernel
theorem dX12_goesBy_50 : decode cX12_goesBy 50 = .ok (.if_icmp .eq 8, 3) := by decide +kernel
theorem dX12_goesBy_53 : decode cX12_goesBy 53 = .ok (.iload_n 3, 1) := by decide +kernel
theorem dX12_goesBy_54 : decode cX12_goesBy 54 = .ok (.iconst 3, 1) := by decide +kernel
theorem dX12_goesBy_55 : decode cX12_goesBy 55 = .ok (.if_icmp .ne 9, 3) := by decide +kernel
theorem dX12_goesBy_58 : decode cX12_goesBy 58 = .ok (.aload_n 0, 1) := by decide +kernel
theorem dX12_goesBy_59 : decode cX12_goesBy 59 = .ok (.bipush 30, 2) := by decide +kernel
theorem dX12_goesBy_61 : decode cX12_goesBy 61 = .ok (.invokevirtual 298, 3) := by decide +kernel
theorem dX12_goesBy_64 : decode cX12_goesBy 64 = .ok (.aload_n 0, 1) := by decide +kernel
theorem dX12_goesBy_65 : decode cX12_goesBy 65 = .ok (.bipush 11, 2) := by decide +kernel
theorem dX12_goesBy_67 : decode cX12_goesBy 67 = .ok (.invokevirtual 298, 3) := by decide +kernel
theorem dX12_goesBy_70 : decode cX12_goesBy 70 = .ok (.aload_n 0, 1) := by decide +kernel
theorem dX12_goesBy_71 : decode cX12_goesBy 71 = .ok (.iload_n 1, 1) := by decide +kernel
theorem dX12_goesBy_72 : decode cX12_goesBy 72 = .ok (.iload 4, 2) := by decide +kernel
theorem dX12_goesBy_74 : decode cX12_goesBy 74 = .ok (.invokevirtual 302, 3) := by decide +kernel
theorem dX12_goesBy_77 : decode cX12_goesBy 77 = .ok (.iconst 2, 1) := by decide +kernel
theorem dX12_goesBy_78 : decode cX12_goesBy 78 = .ok (.imul, 1) := by decide +kernel
theorem dX12_goesBy_79 : decode cX12_goesBy 79 = .ok (.istore 5, 2) := by decide +kernel
theorem dX12_goesBy_81 : decode cX12_goesBy 81 = .ok (.iload_n 3, 1) := by decide +kernel
theorem dX12_goesBy_82 : decode cX12_goesBy 82 = .ok (.iconst 2, 1) := by decide +kernel
theorem dX12_goesBy_83 : decode cX12_goesBy 83 = .ok (.if_icmp .eq 8, 3) := by decide +kernel
theorem dX12_goesBy_86 : decode cX12_goesBy 86 = .ok (.iload_n 3, 1) := by decide +kernel
theorem dX12_goesBy_87 : decode cX12_goesBy 87 = .ok (.iconst 3, 1) := by decide +kernel
theorem dX12_goesBy_88 : decode cX12_goesBy 88 = .ok (.if_icmp .ne 10, 3) := by decide +kernel
theorem dX12_goesBy_91 : decode cX12_goesBy 91 = .ok (.iload 5, 2) := by decide +kernel
theorem dX12_goesBy_93 : decode cX12_goesBy 93 = .ok (.iconst 3, 1) := by decide +kernel
theorem dX12_goesBy_94 : decode cX12_goesBy 94 = .ok (.imul, 1) := by decide +kernel
theorem dX12_goesBy_95 : decode cX12_goesBy 95 = .ok (.goto 5, 3) := by decide +kernel
theorem dX12_goesBy_98 : decode cX12_goesBy 98 = .ok (.iload 5, 2) := by decide +kernel
theorem dX12_goesBy_100 : decode cX12_goesBy 100 = .ok (.ireturn, 1) := by decide +kernel
set_option maxRecDepth 20000 in
theorem ggX12_looksBy_X12_ran : GoodIn wsX12_looksBy wsX12_ran := goodIn_r _ [7, 8, 9, 18, 19, 20, 21, 22, 23, 24, 25, 26, 27, 28, 29, 30, 31, 32, 33, 34, 35, 36, 37, 38, 39, 40, 41, 42, 43, 44] (by decide +kernel) (by decide +kernel)
set_option maxRecDepth 20000 in
theorem gX12_looksBy_X12_ran : GoodIn wsX12_looksBy (wsV RX12 298 RX12 yX12_ran wsX12_ran) := goodIn_app (goodIn_of _ (by decide +kernel)) ggX12_looksBy_X12_ran
set_option maxRecDepth 20000 in
theorem ggX12_looksBy_X12_goesBy : GoodIn wsX12_looksBy wsX12_goesBy := goodIn_r _ [13, 1, 2, 3, 4, 5, 6, 7, 8, 9, 14, 15, 16, 17, 18, 19, 20, 21, 22, 23, 24, 25, 26, 27, 28, 29, 30, 31, 32, 33, 34, 35, 36, 37, 38, 39, 40, 41, 42, 43, 44] (by decide +kernel) (by decide +kernel)
set_option maxRecDepth 20000 in
theorem gX12_looksBy_X12_goesBy : GoodIn wsX12_looksBy (wsV RX12 305 RX12 yX12_goesBy wsX12_goesBy) := goodIn_app (goodIn_of _ (by decide +kernel)) ggX12_looksBy_X12_goesBy
set_option maxRecDepth 20000 in
theorem ggX12_looksBy_X12_livesBy : GoodIn wsX12_looksBy wsX12_livesBy := goodIn_r _ [17, 1, 2, 3, 4, 5, 6, 7, 8, 9, 18, 19, 20, 21, 22, 23, 24, 25, 26, 27, 28, 29, 30, 31, 32, 33, 34, 35, 36, 37, 38, 39, 40, 41, 42, 43, 44] (by decide +kernel) (by decide +kernel)
set_option maxRecDepth 20000 in
theorem gX12_looksBy_X12_livesBy : GoodIn wsX12_looksBy (wsV RX12 302 RX12 yX12_livesBy wsX12_livesBy) := goodIn_app (goodIn_of _ (by decide +kernel)) ggX12_looksBy_X12_livesBy
theorem dX12_looksBy_0 : decode cX12_looksBy 0 = .ok (.aload_n 0, 1) := by decide +kernel
theorem dX12_looksBy_1 : decode cX12_looksBy 1 = .ok (.getfield 20, 3) := by decide +kernel
theorem dX12_looksBy_4 : decode cX12_looksBy 4 = .ok (.iload_n 1, 1) := by decide +kernel
theorem dX12_looksBy_5 : decode cX12_looksBy 5 = .ok (.iaload, 1) := by decide +kernel
theorem dX12_looksBy_6 : decode cX12_looksBy 6 = .ok (.istore_n 3, 1) := by decide +kernel
theorem dX12_looksBy_7 : decode cX12_looksBy 7 = .ok (.iload_n 3, 1) := by decide +kernel
theorem dX12_looksBy_8 : decode cX12_looksBy 8 = .ok (.iconst 5, 1) := by decide +kernel
theorem dX12_looksBy_9 : decode cX12_looksBy 9 = .ok (.if_icmp .ne 9, 3) := by decide +kernel
theorem dX12_looksBy_12 : decode cX12_looksBy 12 = .ok (.aload_n 0, 1) := by decide +kernel
theorem dX12_looksBy_13 : decode cX12_looksBy 13 = .ok (.bipush 60, 2) := by decide +kernel
theorem dX12_looksBy_15 : decode cX12_looksBy 15 = .ok (.invokevirtual 298, 3) := by decide +kernel
theorem dX12_looksBy_18 : decode cX12_looksBy 18 = .ok (.iload_n 3, 1) := by decide +kernel
theorem dX12_looksBy_19 : decode cX12_looksBy 19 = .ok (.iconst 4, 1) := by decide +kernel
theorem dX12_looksBy_20 : decode cX12_looksBy 20 = .ok (.if_icmp .eq 8, 3) := by decide +kernel
theorem dX12_looksBy_23 : decode cX12_looksBy 23 = .ok (.iload_n 3, 1) := by decide +kernel
theorem dX12_looksBy_24 : decode cX12_looksBy 24 = .ok (.iconst 5, 1) := by decide +kernel
theorem dX12_looksBy_25 : decode cX12_looksBy 25 = .ok (.if_icmp .ne 9, 3) := by decide +kernel
theorem dX12_looksBy_28 : decode cX12_looksBy 28 = .ok (.aload_n 0, 1) := by decide +kernel
theorem dX12_looksBy_29 : decode cX12_looksBy 29 = .ok (.bipush 50, 2) := by decide +kernel
theorem dX12_looksBy_31 : decode cX12_looksBy 31 = .ok (.invokevirtual 298, 3) := by decide +kernel
theorem dX12_looksBy_34 : decode cX12_looksBy 34 = .ok (.aload_n 0, 1) := by decide +kernel
theorem dX12_looksBy_35 : decode cX12_looksBy 35 = .ok (.bipush 12, 2) := by decide +kernel
theorem dX12_looksBy_37 : decode cX12_looksBy 37 = .ok (.invokevirtual 298, 3) := by decide +kernel
theorem dX12_looksBy_40 : decode cX12_looksBy 40 = .ok (.aload_n 0, 1) := by decide +kernel
theorem dX12_looksBy_41 : decode cX12_looksBy 41 = .ok (.iload_n 1, 1) := by decide +kernel
theorem dX12_looksBy_42 : decode cX12_looksBy 42 = .ok (.iload_n 2, 1) := by decide +kernel
theorem dX12_looksBy_43 : decode cX12_looksBy 43 = .ok (.invokevirtual 305, 3) := by decide +kernel
theorem dX12_looksBy_46 : decode cX12_looksBy 46 = .ok (.istore 4, 2) := by decide +kernel
theorem dX12_looksBy_48 : decode cX12_looksBy 48 = .ok (.iload 4, 2) := by decide +kernel
theorem dX12_looksBy_50 : decode cX12_looksBy 50 = .ok (.aload_n 0, 1) := by decide +kernel
theorem dX12_looksBy_51 : decode cX12_looksBy 51 = .ok (.iload_n 1, 1) := by decide +kernel
theorem dX12_looksBy_52 : decode cX12_looksBy 52 = .ok (.iload_n 2, 1) := by decide +kernel
theorem dX12_looksBy_53 : decode cX12_looksBy 53 = .ok (.aload_n 0, 1) := by decide +kernel
theorem dX12_looksBy_54 : decode cX12_looksBy 54 = .ok (.getfield 23, 3) := by decide +kernel
theorem dX12_looksBy_57 : decode cX12_looksBy 57 = .ok (.iload_n 1, 1) := by decide +kernel
theorem dX12_looksBy_58 : decode cX12_looksBy 58 = .ok (.iaload, 1) := by decide +kernel
theorem dX12_looksBy_59 : decode cX12_looksBy 59 = .ok (.isub, 1) := by decide +kernel
theorem dX12_looksBy_60 : decode cX12_looksBy 60 = .ok (.invokevirtual 302, 3) := by decide +kernel
theorem dX12_looksBy_63 : decode cX12_looksBy 63 = .ok (.ixor, 1) := by decide +kernel
theorem dX12_looksBy_64 : decode cX12_looksBy 64 = .ok (.istore 5, 2) := by decide +kernel
theorem dX12_looksBy_66 : decode cX12_looksBy 66 = .ok (.iload_n 3, 1) := by decide +kernel
theorem dX12_looksBy_67 : decode cX12_looksBy 67 = .ok (.iconst 4, 1) := by decide +kernel
theorem dX12_looksBy_68 : decode cX12_looksBy 68 = .ok (.if_icmp .ne 9, 3) := by decide +kernel
theorem dX12_looksBy_71 : decode cX12_looksBy 71 = .ok (.iload 5, 2) := by decide +kernel
theorem dX12_looksBy_73 : decode cX12_looksBy 73 = .ok (.ineg, 1) := by decide +kernel
theorem dX12_looksBy_74 : decode cX12_looksBy 74 = .ok (.goto 18, 3) := by decide +kernel
theorem dX12_looksBy_77 : decode cX12_looksBy 77 = .ok (.iload_n 3, 1) := by decide +kernel
theorem dX12_looksBy_78 : decode cX12_looksBy 78 = .ok (.iconst 5, 1) := by decide +kernel
theorem dX12_looksBy_79 : decode cX12_looksBy 79 = .ok (.if_icmp .ne 11, 3) := by decide +kernel
theorem dX12_looksBy_82 : decode cX12_looksBy 82 = .ok (.iload 5, 2) := by decide +kernel
theorem dX12_looksBy_84 : decode cX12_looksBy 84 = .ok (.ineg, 1) := by decide +kernel
theorem dX12_looksBy_85 : decode cX12_looksBy 85 = .ok (.iconst 5, 1) := by decide +kernel
theorem dX12_looksBy_86 : decode cX12_looksBy 86 = .ok (.ixor, 1) := by decide +kernel
theorem dX12_looksBy_87 : decode cX12_looksBy 87 = .ok (.goto 5, 3) := by decide +kernel
theorem dX12_looksBy_90 : decode cX12_looksBy 90 = .ok (.iload 5, 2) := by decide +kernel
theorem dX12_looksBy_92 : decode cX12_looksBy 92 = .ok (.ireturn, 1) := by decide +kernel
set_option maxRecDepth 20000 in
theorem ggX12_act_X12_isPerson : GoodIn wsX12_act wsX12_isPerson := goodIn_r _ [6, 7, 8, 9, 5, 10, 30, 31, 32, 33, 34, 35, 36, 37, 38, 39, 40, 41, 42, 43, 44, 45, 46, 47, 48, 49, 50, 51, 52, 53, 54, 55, 56] (by decide +kernel) (by decide +kernel)
set_option maxRecDepth 20000 in
theorem gX12_act_X12_isPerson : GoodIn wsX12_act (wsV RX12 96 RX12 yX12_isPerson wsX12_isPerson) := goodIn_app (goodIn_of _ (by decide +kernel)) ggX12_act_X12_isPerson
set_option maxRecDepth 20000 in
theorem ggX12_act_X12_within : GoodIn wsX12_act wsX12_within := goodIn_r _ [10] (by decide +kernel) (by decide +kernel)
set_option maxRecDepth 20000 in
theorem gX12_act_X12_within : GoodIn wsX12_act (va_wsS RX12 82 yX12_within wsX12_within) := goodIn_app (goodIn_of _ (by decide +kernel)) ggX12_act_X12_within
set_option maxRecDepth 20000 in
theorem ggX12_act_X12_livesBy : GoodIn wsX12_act wsX12_livesBy := goodIn_r _ [14, 15, 16, 17, 18, 19, 5, 20, 1, 21, 30, 31, 32, 33, 34, 35, 36, 37, 38, 39, 40, 41, 42, 43, 44, 45, 46, 47, 48, 49, 50, 51, 52, 53, 54, 55, 56] (by decide +kernel) (by decide +kernel)
set_option maxRecDepth 20000 in
theorem gX12_act_X12_livesBy : GoodIn wsX12_act (wsV RX12 302 RX12 yX12_livesBy wsX12_livesBy) := goodIn_app (goodIn_of _ (by decide +kernel)) ggX12_act_X12_livesBy
set_option maxRecDepth 20000 in
theorem ggX12_act_X12_goesBy : GoodIn wsX12_act wsX12_goesBy := goodIn_r _ [25, 15, 16, 17, 18, 19, 5, 20, 1, 21, 11, 12, 13, 14, 30, 31, 32, 33, 34, 35, 36, 37, 38, 39, 40, 41, 42, 43, 44, 45, 46, 47, 48, 49, 50, 51, 52, 53, 54, 55, 56] (by decide +kernel) (by decide +kernel)
set_option maxRecDepth 20000 in
theorem gX12_act_X12_goesBy : GoodIn wsX12_act (wsV RX12 305 RX12 yX12_goesBy wsX12_goesBy) := goodIn_app (goodIn_of _ (by decide +kernel)) ggX12_act_X12_goesBy
set_option maxRecDepth 20000 in
theorem ggX12_act_X12_looksBy : GoodIn wsX12_act wsX12_looksBy := goodIn_r _ [29, 15, 16, 17, 18, 19, 5, 20, 1, 21, 22, 23, 24, 25, 11, 12, 13, 14, 30, 31, 32, 33, 34, 35, 36, 37, 38, 39, 40, 41, 42, 43, 44, 45, 46, 47, 48, 49, 50, 51, 52, 53, 54, 55, 56] (by decide +kernel) (by decide +kernel)
set_option maxRecDepth 20000 in
theorem gX12_act_X12_looksBy : GoodIn wsX12_act (wsV RX12 308 RX12 yX12_looksBy wsX12_looksBy) := goodIn_app (goodIn_of _ (by decide +kernel)) ggX12_act_X12_looksBy
theorem dX12_act_0 : decode cX12_act 0 = .ok (.aload_n 0, 1) := by decide +kernel
theorem dX12_act_1 : decode cX12_act 1 = .ok (.iconst 0, 1) := by decide +kernel
theorem dX12_act_2 : decode cX12_act 2 = .ok (.putfield 295, 3) := by decide +kernel
theorem dX12_act_5 : decode cX12_act 5 = .ok (.aload_n 0, 1) := by decide +kernel
theorem dX12_act_6 : decode cX12_act 6 = .ok (.iload_n 1, 1) := by decide +kernel
theorem dX12_act_7 : decode cX12_act 7 = .ok (.invokevirtual 96, 3) := by decide +kernel
theorem dX12_act_10 : decode cX12_act 10 = .ok (.ifCond .eq 12, 3) := by decide +kernel
theorem dX12_act_13 : decode cX12_act 13 = .ok (.iload_n 2, 1) := by decide +kernel
theorem dX12_act_14 : decode cX12_act 14 = .ok (.iconst 0, 1) := by decide +kernel
theorem dX12_act_15 : decode cX12_act 15 = .ok (.iconst 2, 1) := by decide +kernel
theorem dX12_act_16 : decode cX12_act 16 = .ok (.invokestatic 82, 3) := by decide +kernel
theorem dX12_act_19 : decode cX12_act 19 = .ok (.ifCond .ne 5, 3) := by decide +kernel
theorem dX12_act_22 : decode cX12_act 22 = .ok (.iconst 0, 1) := by decide +kernel
theorem dX12_act_23 : decode cX12_act 23 = .ok (.ireturn, 1) := by decide +kernel
theorem dX12_act_24 : decode cX12_act 24 = .ok (.iload_n 2, 1) := by decide +kernel
theorem dX12_act_25 : decode cX12_act 25 = .ok (.ifCond .ne 12, 3) := by decide +kernel
theorem dX12_act_28 : decode cX12_act 28 = .ok (.aload_n 0, 1) := by decide +kernel
theorem dX12_act_29 : decode cX12_act 29 = .ok (.iload_n 1, 1) := by decide +kernel
theorem dX12_act_30 : decode cX12_act 30 = .ok (.iload_n 3, 1) := by decide +kernel
theorem dX12_act_31 : decode cX12_act 31 = .ok (.invokevirtual 302, 3) := by decide +kernel
theorem dX12_act_34 : decode cX12_act 34 = .ok (.goto 23, 3) := by decide +kernel
theorem dX12_act_37 : decode cX12_act 37 = .ok (.iload_n 2, 1) := by decide +kernel
theorem dX12_act_38 : decode cX12_act 38 = .ok (.iconst 1, 1) := by decide +kernel
theorem dX12_act_39 : decode cX12_act 39 = .ok (.if_icmp .ne 12, 3) := by decide +kernel
theorem dX12_act_42 : decode cX12_act 42 = .ok (.aload_n 0, 1) := by decide +kernel
theorem dX12_act_43 : decode cX12_act 43 = .ok (.iload_n 1, 1) := by decide +kernel
theorem dX12_act_44 : decode cX12_act 44 = .ok (.iload_n 3, 1) := by decide +kernel
theorem dX12_act_45 : decode cX12_act 45 = .ok (.invokevirtual 305, 3) := by decide +kernel
theorem dX12_act_48 : decode cX12_act 48 = .ok (.goto 9, 3) := by decide +kernel
theorem dX12_act_51 : decode cX12_act 51 = .ok (.aload_n 0, 1) := by decide +kernel
theorem dX12_act_52 : decode cX12_act 52 = .ok (.iload_n 1, 1) := by decide +kernel
theorem dX12_act_53 : decode cX12_act 53 = .ok (.iload_n 3, 1) := by decide +kernel
theorem dX12_act_54 : decode cX12_act 54 = .ok (.invokevirtual 308, 3) := by decide +kernel
theorem dX12_act_57 : decode cX12_act 57 = .ok (.ireturn, 1) := by decide +kernel
theorem dX12_trace_0 : decode cX12_trace 0 = .ok (.iload_n 1, 1) := by decide +kernel
theorem dX12_trace_1 : decode cX12_trace 1 = .ok (.ifCond .lt 26, 3) := by decide +kernel
theorem dX12_trace_4 : decode cX12_trace 4 = .ok (.iload_n 1, 1) := by decide +kernel
theorem dX12_trace_5 : decode cX12_trace 5 = .ok (.aload_n 0, 1) := by decide +kernel
theorem dX12_trace_6 : decode cX12_trace 6 = .ok (.getfield 295, 3) := by decide +kernel
theorem dX12_trace_9 : decode cX12_trace 9 = .ok (.if_icmp .ge 18, 3) := by decide +kernel
theorem dX12_trace_12 : decode cX12_trace 12 = .ok (.iload_n 1, 1) := by decide +kernel
theorem dX12_trace_13 : decode cX12_trace 13 = .ok (.bipush 20, 2) := by decide +kernel
theorem dX12_trace_15 : decode cX12_trace 15 = .ok (.if_icmp .ge 12, 3) := by decide +kernel
theorem dX12_trace_18 : decode cX12_trace 18 = .ok (.aload_n 0, 1) := by decide +kernel
theorem dX12_trace_19 : decode cX12_trace 19 = .ok (.getfield 44, 3) := by decide +kernel
theorem dX12_trace_22 : decode cX12_trace 22 = .ok (.iload_n 1, 1) := by decide +kernel
theorem dX12_trace_23 : decode cX12_trace 23 = .ok (.iaload, 1) := by decide +kernel
theorem dX12_trace_24 : decode cX12_trace 24 = .ok (.goto 4, 3) := by decide +kernel
theorem dX12_trace_27 : decode cX12_trace 27 = .ok (.iconst (-1), 1) := by decide +kernel
theorem dX12_trace_28 : decode cX12_trace 28 = .ok (.ireturn, 1) := by decide +kernel
theorem dX12_keep_0 : decode cX12_keep 0 = .ok (.iconst 0, 1) := by decide +kernel
theorem dX12_keep_1 : decode cX12_keep 1 = .ok (.istore_n 2, 1) := by decide +kernel
theorem dX12_keep_2 : decode cX12_keep 2 = .ok (.iload_n 2, 1) := by decide +kernel
theorem dX12_keep_3 : decode cX12_keep 3 = .ok (.bipush 6, 2) := by decide +kernel
theorem dX12_keep_5 : decode cX12_keep 5 = .ok (.if_icmp .ge 54, 3) := by decide +kernel
theorem dX12_keep_8 : decode cX12_keep 8 = .ok (.aload_n 1, 1) := by decide +kernel
theorem dX12_keep_9 : decode cX12_keep 9 = .ok (.iload_n 2, 1) := by decide +kernel
theorem dX12_keep_10 : decode cX12_keep 10 = .ok (.aload_n 0, 1) := by decide +kernel
theorem dX12_keep_11 : decode cX12_keep 11 = .ok (.getfield 20, 3) := by decide +kernel
theorem dX12_keep_14 : decode cX12_keep 14 = .ok (.iload_n 2, 1) := by decide +kernel
theorem dX12_keep_15 : decode cX12_keep 15 = .ok (.iaload, 1) := by decide +kernel
theorem dX12_keep_16 : decode cX12_keep 16 = .ok (.iastore, 1) := by decide +kernel
theorem dX12_keep_17 : decode cX12_keep 17 = .ok (.aload_n 1, 1) := by decide +kernel
theorem dX12_keep_18 : decode cX12_keep 18 = .ok (.bipush 6, 2) := by decide +kernel
theorem dX12_keep_20 : decode cX12_keep 20 = .ok (.iload_n 2, 1) := by decide +kernel
theorem dX12_keep_21 : decode cX12_keep 21 = .ok (.iadd, 1) := by decide +kernel
theorem dX12_keep_22 : decode cX12_keep 22 = .ok (.aload_n 0, 1) := by decide +kernel
theorem dX12_keep_23 : decode cX12_keep 23 = .ok (.getfield 23, 3) := by decide +kernel
theorem dX12_keep_26 : decode cX12_keep 26 = .ok (.iload_n 2, 1) := by decide +kernel
theorem dX12_keep_27 : decode cX12_keep 27 = .ok (.iaload, 1) := by decide +kernel
theorem dX12_keep_28 : decode cX12_keep 28 = .ok (.iastore, 1) := by decide +kernel
theorem dX12_keep_29 : decode cX12_keep 29 = .ok (.aload_n 1, 1) := by decide +kernel
theorem dX12_keep_30 : decode cX12_keep 30 = .ok (.bipush 12, 2) := by decide +kernel
theorem dX12_keep_32 : decode cX12_keep 32 = .ok (.iload_n 2, 1) := by decide +kernel
theorem dX12_keep_33 : decode cX12_keep 33 = .ok (.iadd, 1) := by decide +kernel
theorem dX12_keep_34 : decode cX12_keep 34 = .ok (.aload_n 0, 1) := by decide +kernel
theorem dX12_keep_35 : decode cX12_keep 35 = .ok (.getfield 26, 3) := by decide +kernel
theorem dX12_keep_38 : decode cX12_keep 38 = .ok (.iload_n 2, 1) := by decide +kernel
theorem dX12_keep_39 : decode cX12_keep 39 = .ok (.iaload, 1) := by decide +kernel
theorem dX12_keep_40 : decode cX12_keep 40 = .ok (.iastore, 1) := by decide +kernel
theorem dX12_keep_41 : decode cX12_keep 41 = .ok (.aload_n 1, 1) := by decide +kernel
theorem dX12_keep_42 : decode cX12_keep 42 = .ok (.bipush 18, 2) := by decide +kernel
theorem dX12_keep_44 : decode cX12_keep 44 = .ok (.iload_n 2, 1) := by decide +kernel
theorem dX12_keep_45 : decode cX12_keep 45 = .ok (.iadd, 1) := by decide +kernel
theorem dX12_keep_46 : decode cX12_keep 46 = .ok (.aload_n 0, 1) := by decide +kernel
theorem dX12_keep_47 : decode cX12_keep 47 = .ok (.getfield 29, 3) := by decide +kernel
theorem dX12_keep_50 : decode cX12_keep 50 = .ok (.iload_n 2, 1) := by decide +kernel
theorem dX12_keep_51 : decode cX12_keep 51 = .ok (.iaload, 1) := by decide +kernel
theorem dX12_keep_52 : decode cX12_keep 52 = .ok (.iastore, 1) := by decide +kernel
theorem dX12_keep_53 : decode cX12_keep 53 = .ok (.iinc 2 1, 3) := by decide +kernel
theorem dX12_keep_56 : decode cX12_keep 56 = .ok (.goto (-54), 3) := by decide +kernel
theorem dX12_keep_59 : decode cX12_keep 59 = .ok (.iconst 0, 1) := by decide +kernel
theorem dX12_keep_60 : decode cX12_keep 60 = .ok (.istore_n 2, 1) := by decide +kernel
theorem dX12_keep_61 : decode cX12_keep 61 = .ok (.iload_n 2, 1) := by decide +kernel
theorem dX12_keep_62 : decode cX12_keep 62 = .ok (.bipush 36, 2) := by decide +kernel
theorem dX12_keep_64 : decode cX12_keep 64 = .ok (.if_icmp .ge 33, 3) := by decide +kernel
theorem dX12_keep_67 : decode cX12_keep 67 = .ok (.aload_n 1, 1) := by decide +kernel
theorem dX12_keep_68 : decode cX12_keep 68 = .ok (.bipush 24, 2) := by decide +kernel
theorem dX12_keep_70 : decode cX12_keep 70 = .ok (.iload_n 2, 1) := by decide +kernel
theorem dX12_keep_71 : decode cX12_keep 71 = .ok (.iadd, 1) := by decide +kernel
theorem dX12_keep_72 : decode cX12_keep 72 = .ok (.aload_n 0, 1) := by decide +kernel
theorem dX12_keep_73 : decode cX12_keep 73 = .ok (.getfield 32, 3) := by decide +kernel
theorem dX12_keep_76 : decode cX12_keep 76 = .ok (.iload_n 2, 1) := by decide +kernel
theorem dX12_keep_77 : decode cX12_keep 77 = .ok (.iaload, 1) := by decide +kernel
theorem dX12_keep_78 : decode cX12_keep 78 = .ok (.iastore, 1) := by decide +kernel
theorem dX12_keep_79 : decode cX12_keep 79 = .ok (.aload_n 1, 1) := by decide +kernel
theorem dX12_keep_80 : decode cX12_keep 80 = .ok (.bipush 60, 2) := by decide +kernel
theorem dX12_keep_82 : decode cX12_keep 82 = .ok (.iload_n 2, 1) := by decide +kernel
theorem dX12_keep_83 : decode cX12_keep 83 = .ok (.iadd, 1) := by decide +kernel
theorem dX12_keep_84 : decode cX12_keep 84 = .ok (.aload_n 0, 1) := by decide +kernel
theorem dX12_keep_85 : decode cX12_keep 85 = .ok (.getfield 35, 3) := by decide +kernel
theorem dX12_keep_88 : decode cX12_keep 88 = .ok (.iload_n 2, 1) := by decide +kernel
theorem dX12_keep_89 : decode cX12_keep 89 = .ok (.iaload, 1) := by decide +kernel
theorem dX12_keep_90 : decode cX12_keep 90 = .ok (.iastore, 1) := by decide +kernel
theorem dX12_keep_91 : decode cX12_keep 91 = .ok (.iinc 2 1, 3) := by decide +kernel
theorem dX12_keep_94 : decode cX12_keep 94 = .ok (.goto (-33), 3) := by decide +kernel
theorem dX12_keep_97 : decode cX12_keep 97 = .ok (.iconst 0, 1) := by decide +kernel
theorem dX12_keep_98 : decode cX12_keep 98 = .ok (.istore_n 2, 1) := by decide +kernel
theorem dX12_keep_99 : decode cX12_keep 99 = .ok (.iload_n 2, 1) := by decide +kernel
theorem dX12_keep_100 : decode cX12_keep 100 = .ok (.sipush 288, 3) := by decide +kernel
theorem dX12_keep_103 : decode cX12_keep 103 = .ok (.if_icmp .ge 21, 3) := by decide +kernel
theorem dX12_keep_106 : decode cX12_keep 106 = .ok (.aload_n 1, 1) := by decide +kernel
theorem dX12_keep_107 : decode cX12_keep 107 = .ok (.bipush 96, 2) := by decide +kernel
theorem dX12_keep_109 : decode cX12_keep 109 = .ok (.iload_n 2, 1) := by decide +kernel
theorem dX12_keep_110 : decode cX12_keep 110 = .ok (.iadd, 1) := by decide +kernel
theorem dX12_keep_111 : decode cX12_keep 111 = .ok (.aload_n 0, 1) := by decide +kernel
theorem dX12_keep_112 : decode cX12_keep 112 = .ok (.getfield 38, 3) := by decide +kernel
theorem dX12_keep_115 : decode cX12_keep 115 = .ok (.iload_n 2, 1) := by decide +kernel
theorem dX12_keep_116 : decode cX12_keep 116 = .ok (.iaload, 1) := by decide +kernel
theorem dX12_keep_117 : decode cX12_keep 117 = .ok (.iastore, 1) := by decide +kernel
theorem dX12_keep_118 : decode cX12_keep 118 = .ok (.iinc 2 1, 3) := by decide +kernel
theorem dX12_keep_121 : decode cX12_keep 121 = .ok (.goto (-22), 3) := by decide +kernel
theorem dX12_keep_124 : decode cX12_keep 124 = .ok (.aload_n 1, 1) := by decide +kernel
theorem dX12_keep_125 : decode cX12_keep 125 = .ok (.sipush 384, 3) := by decide +kernel
theorem dX12_keep_128 : decode cX12_keep 128 = .ok (.aload_n 0, 1) := by decide +kernel
theorem dX12_keep_129 : decode cX12_keep 129 = .ok (.getfield 79, 3) := by decide +kernel
theorem dX12_keep_132 : decode cX12_keep 132 = .ok (.iastore, 1) := by decide +kernel
theorem dX12_keep_133 : decode cX12_keep 133 = .ok (.aload_n 1, 1) := by decide +kernel
theorem dX12_keep_134 : decode cX12_keep 134 = .ok (.sipush 385, 3) := by decide +kernel
theorem dX12_keep_137 : decode cX12_keep 137 = .ok (.aload_n 0, 1) := by decide +kernel
theorem dX12_keep_138 : decode cX12_keep 138 = .ok (.getfield 65, 3) := by decide +kernel
theorem dX12_keep_141 : decode cX12_keep 141 = .ok (.iastore, 1) := by decide +kernel
theorem dX12_keep_142 : decode cX12_keep 142 = .ok (.aload_n 1, 1) := by decide +kernel
theorem dX12_keep_143 : decode cX12_keep 143 = .ok (.sipush 386, 3) := by decide +kernel
theorem dX12_keep_146 : decode cX12_keep 146 = .ok (.aload_n 0, 1) := by decide +kernel
theorem dX12_keep_147 : decode cX12_keep 147 = .ok (.getfield 69, 3) := by decide +kernel
theorem dX12_keep_150 : decode cX12_keep 150 = .ok (.iastore, 1) := by decide +kernel
theorem dX12_keep_151 : decode cX12_keep 151 = .ok (.return_, 1) := by decide +kernel
theorem dX12_again_0 : decode cX12_again 0 = .ok (.iconst 0, 1) := by decide +kernel
theorem dX12_again_1 : decode cX12_again 1 = .ok (.istore_n 2, 1) := by decide +kernel
theorem dX12_again_2 : decode cX12_again 2 = .ok (.iload_n 2, 1) := by decide +kernel
theorem dX12_again_3 : decode cX12_again 3 = .ok (.bipush 6, 2) := by decide +kernel
theorem dX12_again_5 : decode cX12_again 5 = .ok (.if_icmp .ge 54, 3) := by decide +kernel
theorem dX12_again_8 : decode cX12_again 8 = .ok (.aload_n 0, 1) := by decide +kernel
theorem dX12_again_9 : decode cX12_again 9 = .ok (.getfield 20, 3) := by decide +kernel
theorem dX12_again_12 : decode cX12_again 12 = .ok (.iload_n 2, 1) := by decide +kernel
theorem dX12_again_13 : decode cX12_again 13 = .ok (.aload_n 1, 1) := by decide +kernel
theorem dX12_again_14 : decode cX12_again 14 = .ok (.iload_n 2, 1) := by decide +kernel
theorem dX12_again_15 : decode cX12_again 15 = .ok (.iaload, 1) := by decide +kernel
theorem dX12_again_16 : decode cX12_again 16 = .ok (.iastore, 1) := by decide +kernel
theorem dX12_again_17 : decode cX12_again 17 = .ok (.aload_n 0, 1) := by decide +kernel
theorem dX12_again_18 : decode cX12_again 18 = .ok (.getfield 23, 3) := by decide +kernel
theorem dX12_again_21 : decode cX12_again 21 = .ok (.iload_n 2, 1) := by decide +kernel
theorem dX12_again_22 : decode cX12_again 22 = .ok (.aload_n 1, 1) := by decide +kernel
theorem dX12_again_23 : decode cX12_again 23 = .ok (.bipush 6, 2) := by decide +kernel
theorem dX12_again_25 : decode cX12_again 25 = .ok (.iload_n 2, 1) := by decide +kernel
theorem dX12_again_26 : decode cX12_again 26 = .ok (.iadd, 1) := by decide +kernel
theorem dX12_again_27 : decode cX12_again 27 = .ok (.iaload, 1) := by decide +kernel
theorem dX12_again_28 : decode cX12_again 28 = .ok (.iastore, 1) := by decide +kernel
theorem dX12_again_29 : decode cX12_again 29 = .ok (.aload_n 0, 1) := by decide +kernel
theorem dX12_again_30 : decode cX12_again 30 = .ok (.getfield 26, 3) := by decide +kernel
theorem dX12_again_33 : decode cX12_again 33 = .ok (.iload_n 2, 1) := by decide +kernel
theorem dX12_again_34 : decode cX12_again 34 = .ok (.aload_n 1, 1) := by decide +kernel
theorem dX12_again_35 : decode cX12_again 35 = .ok (.bipush 12, 2) := by decide +kernel
theorem dX12_again_37 : decode cX12_again 37 = .ok (.iload_n 2, 1) := by decide +kernel
theorem dX12_again_38 : decode cX12_again 38 = .ok (.iadd, 1) := by decide +kernel
theorem dX12_again_39 : decode cX12_again 39 = .ok (.iaload, 1) := by decide +kernel
theorem dX12_again_40 : decode cX12_again 40 = .ok (.iastore, 1) := by decide +kernel
theorem dX12_again_41 : decode cX12_again 41 = .ok (.aload_n 0, 1) := by decide +kernel
theorem dX12_again_42 : decode cX12_again 42 = .ok (.getfield 29, 3) := by decide +kernel
theorem dX12_again_45 : decode cX12_again 45 = .ok (.iload_n 2, 1) := by decide +kernel
theorem dX12_again_46 : decode cX12_again 46 = .ok (.aload_n 1, 1) := by decide +kernel
theorem dX12_again_47 : decode cX12_again 47 = .ok (.bipush 18, 2) := by decide +kernel
theorem dX12_again_49 : decode cX12_again 49 = .ok (.iload_n 2, 1) := by decide +kernel
theorem dX12_again_50 : decode cX12_again 50 = .ok (.iadd, 1) := by decide +kernel
theorem dX12_again_51 : decode cX12_again 51 = .ok (.iaload, 1) := by decide +kernel
theorem dX12_again_52 : decode cX12_again 52 = .ok (.iastore, 1) := by decide +kernel
theorem dX12_again_53 : decode cX12_again 53 = .ok (.iinc 2 1, 3) := by decide +kernel
theorem dX12_again_56 : decode cX12_again 56 = .ok (.goto (-54), 3) := by decide +kernel
theorem dX12_again_59 : decode cX12_again 59 = .ok (.iconst 0, 1) := by decide +kernel
theorem dX12_again_60 : decode cX12_again 60 = .ok (.istore_n 2, 1) := by decide +kernel
theorem dX12_again_61 : decode cX12_again 61 = .ok (.iload_n 2, 1) := by decide +kernel
theorem dX12_again_62 : decode cX12_again 62 = .ok (.bipush 36, 2) := by decide +kernel
theorem dX12_again_64 : decode cX12_again 64 = .ok (.if_icmp .ge 33, 3) := by decide +kernel
theorem dX12_again_67 : decode cX12_again 67 = .ok (.aload_n 0, 1) := by decide +kernel
theorem dX12_again_68 : decode cX12_again 68 = .ok (.getfield 32, 3) := by decide +kernel
theorem dX12_again_71 : decode cX12_again 71 = .ok (.iload_n 2, 1) := by decide +kernel
theorem dX12_again_72 : decode cX12_again 72 = .ok (.aload_n 1, 1) := by decide +kernel
theorem dX12_again_73 : decode cX12_again 73 = .ok (.bipush 24, 2) := by decide +kernel
theorem dX12_again_75 : decode cX12_again 75 = .ok (.iload_n 2, 1) := by decide +kernel
theorem dX12_again_76 : decode cX12_again 76 = .ok (.iadd, 1) := by decide +kernel
theorem dX12_again_77 : decode cX12_again 77 = .ok (.iaload, 1) := by decide +kernel
theorem dX12_again_78 : decode cX12_again 78 = .ok (.iastore, 1) := by decide +kernel
theorem dX12_again_79 : decode cX12_again 79 = .ok (.aload_n 0, 1) := by decide +kernel
theorem dX12_again_80 : decode cX12_again 80 = .ok (.getfield 35, 3) := by decide +kernel
theorem dX12_again_83 : decode cX12_again 83 = .ok (.iload_n 2, 1) := by decide +kernel
theorem dX12_again_84 : decode cX12_again 84 = .ok (.aload_n 1, 1) := by decide +kernel
theorem dX12_again_85 : decode cX12_again 85 = .ok (.bipush 60, 2) := by decide +kernel
theorem dX12_again_87 : decode cX12_again 87 = .ok (.iload_n 2, 1) := by decide +kernel
theorem dX12_again_88 : decode cX12_again 88 = .ok (.iadd, 1) := by decide +kernel
theorem dX12_again_89 : decode cX12_again 89 = .ok (.iaload, 1) := by decide +kernel
theorem dX12_again_90 : decode cX12_again 90 = .ok (.iastore, 1) := by decide +kernel
theorem dX12_again_91 : decode cX12_again 91 = .ok (.iinc 2 1, 3) := by decide +kernel
theorem dX12_again_94 : decode cX12_again 94 = .ok (.goto (-33), 3) := by decide +kernel
theorem dX12_again_97 : decode cX12_again 97 = .ok (.iconst 0, 1) := by decide +kernel
theorem dX12_again_98 : decode cX12_again 98 = .ok (.istore_n 2, 1) := by decide +kernel
theorem dX12_again_99 : decode cX12_again 99 = .ok (.iload_n 2, 1) := by decide +kernel
theorem dX12_again_100 : decode cX12_again 100 = .ok (.sipush 288, 3) := by decide +kernel
theorem dX12_again_103 : decode cX12_again 103 = .ok (.if_icmp .ge 21, 3) := by decide +kernel
theorem dX12_again_106 : decode cX12_again 106 = .ok (.aload_n 0, 1) := by decide +kernel
theorem dX12_again_107 : decode cX12_again 107 = .ok (.getfield 38, 3) := by decide +kernel
theorem dX12_again_110 : decode cX12_again 110 = .ok (.iload_n 2, 1) := by decide +kernel
theorem dX12_again_111 : decode cX12_again 111 = .ok (.aload_n 1, 1) := by decide +kernel
theorem dX12_again_112 : decode cX12_again 112 = .ok (.bipush 96, 2) := by decide +kernel
theorem dX12_again_114 : decode cX12_again 114 = .ok (.iload_n 2, 1) := by decide +kernel
theorem dX12_again_115 : decode cX12_again 115 = .ok (.iadd, 1) := by decide +kernel
theorem dX12_again_116 : decode cX12_again 116 = .ok (.iaload, 1) := by decide +kernel
theorem dX12_again_117 : decode cX12_again 117 = .ok (.iastore, 1) := by decide +kernel
theorem dX12_again_118 : decode cX12_again 118 = .ok (.iinc 2 1, 3) := by decide +kernel
theorem dX12_again_121 : decode cX12_again 121 = .ok (.goto (-22), 3) := by decide +kernel
theorem dX12_again_124 : decode cX12_again 124 = .ok (.aload_n 0, 1) := by decide +kernel
theorem dX12_again_125 : decode cX12_again 125 = .ok (.aload_n 1, 1) := by decide +kernel
theorem dX12_again_126 : decode cX12_again 126 = .ok (.sipush 384, 3) := by decide +kernel
theorem dX12_again_129 : decode cX12_again 129 = .ok (.iaload, 1) := by decide +kernel
theorem dX12_again_130 : decode cX12_again 130 = .ok (.putfield 79, 3) := by decide +kernel
theorem dX12_again_133 : decode cX12_again 133 = .ok (.aload_n 0, 1) := by decide +kernel
theorem dX12_again_134 : decode cX12_again 134 = .ok (.aload_n 1, 1) := by decide +kernel
theorem dX12_again_135 : decode cX12_again 135 = .ok (.sipush 385, 3) := by decide +kernel
theorem dX12_again_138 : decode cX12_again 138 = .ok (.iaload, 1) := by decide +kernel
theorem dX12_again_139 : decode cX12_again 139 = .ok (.putfield 65, 3) := by decide +kernel
theorem dX12_again_142 : decode cX12_again 142 = .ok (.aload_n 0, 1) := by decide +kernel
theorem dX12_again_143 : decode cX12_again 143 = .ok (.aload_n 1, 1) := by decide +kernel
theorem dX12_again_144 : decode cX12_again 144 = .ok (.sipush 386, 3) := by decide +kernel
theorem dX12_again_147 : decode cX12_again 147 = .ok (.iaload, 1) := by decide +kernel
theorem dX12_again_148 : decode cX12_again 148 = .ok (.putfield 69, 3) := by decide +kernel
theorem dX12_again_151 : decode cX12_again 151 = .ok (.return_, 1) := by decide +kernel
set_option maxRecDepth 20000 in
theorem ggX12_image_X12_keep : GoodIn wsX12_image wsX12_keep := goodIn_r _ [8, 9, 10, 11, 12, 13, 14, 15, 3, 16, 17, 18, 19, 20, 21, 22, 23, 24, 25, 26, 27, 28, 29, 30, 31, 32, 33, 34, 35, 36, 37, 38, 39, 40, 41, 42, 43, 44] (by decide +kernel) (by decide +kernel)
set_option maxRecDepth 20000 in
theorem gX12_image_X12_keep : GoodIn wsX12_image (wsV RX12 191 RX12 yX12_keep wsX12_keep) := goodIn_app (goodIn_of _ (by decide +kernel)) ggX12_image_X12_keep
theorem dX12_image_0 : decode cX12_image 0 = .ok (.aload_n 0, 1) := by decide +kernel
theorem dX12_image_1 : decode cX12_image 1 = .ok (.iconst 1, 1) := by decide +kernel
theorem dX12_image_2 : decode cX12_image 2 = .ok (.putfield 311, 3) := by decide +kernel
theorem dX12_image_5 : decode cX12_image 5 = .ok (.aload_n 0, 1) := by decide +kernel
theorem dX12_image_6 : decode cX12_image 6 = .ok (.aload_n 0, 1) := by decide +kernel
theorem dX12_image_7 : decode cX12_image 7 = .ok (.getfield 50, 3) := by decide +kernel
theorem dX12_image_10 : decode cX12_image 10 = .ok (.invokevirtual 191, 3) := by decide +kernel
theorem dX12_image_13 : decode cX12_image 13 = .ok (.aload_n 0, 1) := by decide +kernel
theorem dX12_image_14 : decode cX12_image 14 = .ok (.getfield 79, 3) := by decide +kernel
theorem dX12_image_17 : decode cX12_image 17 = .ok (.ireturn, 1) := by decide +kernel
set_option maxRecDepth 20000 in
theorem ggX12_restore_X12_no : GoodIn wsX12_restore wsX12_no := goodIn_r _ [9, 10, 28, 29, 30, 31, 32, 33, 34, 35, 36, 37, 38, 39, 40, 41, 42, 43, 44, 45, 46, 47, 48, 49, 50, 51, 52, 53, 54] (by decide +kernel) (by decide +kernel)
set_option maxRecDepth 20000 in
theorem gX12_restore_X12_no : GoodIn wsX12_restore (wsV RX12 75 RX12 yX12_no wsX12_no) := goodIn_app (goodIn_of _ (by decide +kernel)) ggX12_restore_X12_no
set_option maxRecDepth 20000 in
theorem ggX12_restore_X12_again : GoodIn wsX12_restore wsX12_again := goodIn_r _ [14, 15, 16, 17, 18, 19, 20, 21, 4, 22, 23, 28, 29, 30, 31, 32, 33, 34, 35, 36, 37, 38, 39, 40, 41, 42, 43, 44, 45, 46, 47, 48, 49, 50, 51, 52, 53, 54] (by decide +kernel) (by decide +kernel)
set_option maxRecDepth 20000 in
theorem gX12_restore_X12_again : GoodIn wsX12_restore (wsV RX12 198 RX12 yX12_again wsX12_again) := goodIn_app (goodIn_of _ (by decide +kernel)) ggX12_restore_X12_again
set_option maxRecDepth 20000 in
theorem ggX12_restore_X12_isRow : GoodIn wsX12_restore wsX12_isRow := goodIn_r _ [27, 3, 28, 29, 30, 31, 32, 33, 34, 35, 36, 37, 38, 39, 40, 41, 42, 43, 44, 45, 46, 47, 48, 49, 50, 51, 52, 53, 54] (by decide +kernel) (by decide +kernel)
set_option maxRecDepth 20000 in
theorem gX12_restore_X12_isRow : GoodIn wsX12_restore (wsV RX12 90 RX12 yX12_isRow wsX12_isRow) := goodIn_app (goodIn_of _ (by decide +kernel)) ggX12_restore_X12_isRow
theorem dX12_restore_0 : decode cX12_restore 0 = .ok (.aload_n 0, 1) := by decide +kernel
theorem dX12_restore_1 : decode cX12_restore 1 = .ok (.getfield 311, 3) := by decide +kernel
theorem dX12_restore_4 : decode cX12_restore 4 = .ok (.ifCond .ne 10, 3) := by decide +kernel
theorem dX12_restore_7 : decode cX12_restore 7 = .ok (.aload_n 0, 1) := by decide +kernel
theorem dX12_restore_8 : decode cX12_restore 8 = .ok (.bipush (-6), 2) := by decide +kernel
theorem dX12_restore_10 : decode cX12_restore 10 = .ok (.invokevirtual 75, 3) := by decide +kernel
theorem dX12_restore_13 : decode cX12_restore 13 = .ok (.ireturn, 1) := by decide +kernel
theorem dX12_restore_14 : decode cX12_restore 14 = .ok (.aload_n 0, 1) := by decide +kernel
theorem dX12_restore_15 : decode cX12_restore 15 = .ok (.aload_n 0, 1) := by decide +kernel
theorem dX12_restore_16 : decode cX12_restore 16 = .ok (.getfield 50, 3) := by decide +kernel
theorem dX12_restore_19 : decode cX12_restore 19 = .ok (.invokevirtual 198, 3) := by decide +kernel
theorem dX12_restore_22 : decode cX12_restore 22 = .ok (.iconst 0, 1) := by decide +kernel
theorem dX12_restore_23 : decode cX12_restore 23 = .ok (.istore_n 1, 1) := by decide +kernel
theorem dX12_restore_24 : decode cX12_restore 24 = .ok (.iload_n 1, 1) := by decide +kernel
theorem dX12_restore_25 : decode cX12_restore 25 = .ok (.bipush 8, 2) := by decide +kernel
theorem dX12_restore_27 : decode cX12_restore 27 = .ok (.if_icmp .ge 37, 3) := by decide +kernel
theorem dX12_restore_30 : decode cX12_restore 30 = .ok (.aload_n 0, 1) := by decide +kernel
theorem dX12_restore_31 : decode cX12_restore 31 = .ok (.iload_n 1, 1) := by decide +kernel
theorem dX12_restore_32 : decode cX12_restore 32 = .ok (.invokevirtual 90, 3) := by decide +kernel
theorem dX12_restore_35 : decode cX12_restore 35 = .ok (.ifCond .ne 23, 3) := by decide +kernel
theorem dX12_restore_38 : decode cX12_restore 38 = .ok (.aload_n 0, 1) := by decide +kernel
theorem dX12_restore_39 : decode cX12_restore 39 = .ok (.getfield 7, 3) := by decide +kernel
theorem dX12_restore_42 : decode cX12_restore 42 = .ok (.iload_n 1, 1) := by decide +kernel
theorem dX12_restore_43 : decode cX12_restore 43 = .ok (.iaload, 1) := by decide +kernel
theorem dX12_restore_44 : decode cX12_restore 44 = .ok (.aload_n 0, 1) := by decide +kernel
theorem dX12_restore_45 : decode cX12_restore 45 = .ok (.getfield 79, 3) := by decide +kernel
theorem dX12_restore_48 : decode cX12_restore 48 = .ok (.if_icmp .lt 10, 3) := by decide +kernel
theorem dX12_restore_51 : decode cX12_restore 51 = .ok (.aload_n 0, 1) := by decide +kernel
theorem dX12_restore_52 : decode cX12_restore 52 = .ok (.getfield 7, 3) := by decide +kernel
theorem dX12_restore_55 : decode cX12_restore 55 = .ok (.iload_n 1, 1) := by decide +kernel
theorem dX12_restore_56 : decode cX12_restore 56 = .ok (.iconst (-1), 1) := by decide +kernel
theorem dX12_restore_57 : decode cX12_restore 57 = .ok (.iastore, 1) := by decide +kernel
theorem dX12_restore_58 : decode cX12_restore 58 = .ok (.iinc 1 1, 3) := by decide +kernel
theorem dX12_restore_61 : decode cX12_restore 61 = .ok (.goto (-37), 3) := by decide +kernel
theorem dX12_restore_64 : decode cX12_restore 64 = .ok (.aload_n 0, 1) := by decide +kernel
theorem dX12_restore_65 : decode cX12_restore 65 = .ok (.getfield 79, 3) := by decide +kernel
theorem dX12_restore_68 : decode cX12_restore 68 = .ok (.ireturn, 1) := by decide +kernel
set_option maxRecDepth 20000 in
theorem ggX12_status_X12_allDead : GoodIn wsX12_status wsX12_allDead := goodIn_r _ [10, 1, 11, 29, 30, 31, 32, 33, 34, 35, 36, 37, 38, 39, 40, 41, 42, 43, 44, 45, 46, 47, 48, 49, 50, 51, 52, 53, 54, 55] (by decide +kernel) (by decide +kernel)
set_option maxRecDepth 20000 in
theorem gX12_status_X12_allDead : GoodIn wsX12_status (wsV RX12 282 RX12 yX12_allDead wsX12_allDead) := goodIn_app (goodIn_of _ (by decide +kernel)) ggX12_status_X12_allDead
set_option maxRecDepth 20000 in
theorem ggX12_status_X12_allStrength : GoodIn wsX12_status wsX12_allStrength := goodIn_r _ [15, 1, 16, 29, 30, 31, 32, 33, 34, 35, 36, 37, 38, 39, 40, 41, 42, 43, 44, 45, 46, 47, 48, 49, 50, 51, 52, 53, 54, 55] (by decide +kernel) (by decide +kernel)
set_option maxRecDepth 20000 in
theorem gX12_status_X12_allStrength : GoodIn wsX12_status (wsV RX12 279 RX12 yX12_allStrength wsX12_allStrength) := goodIn_app (goodIn_of _ (by decide +kernel)) ggX12_status_X12_allStrength
set_option maxRecDepth 20000 in
theorem ggX12_status_X12_allSmears : GoodIn wsX12_status wsX12_allSmears := goodIn_r _ [20, 1, 21, 22, 23, 9, 24, 25, 29, 30, 31, 32, 33, 34, 35, 36, 37, 38, 39, 40, 41, 42, 43, 44, 45, 46, 47, 48, 49, 50, 51, 52, 53, 54, 55] (by decide +kernel) (by decide +kernel)
set_option maxRecDepth 20000 in
theorem gX12_status_X12_allSmears : GoodIn wsX12_status (wsV RX12 285 RX12 yX12_allSmears wsX12_allSmears) := goodIn_app (goodIn_of _ (by decide +kernel)) ggX12_status_X12_allSmears
set_option maxRecDepth 20000 in
theorem ggX12_status_X12_within : GoodIn wsX12_status wsX12_within := goodIn_r _ [28] (by decide +kernel) (by decide +kernel)
set_option maxRecDepth 20000 in
theorem gX12_status_X12_within : GoodIn wsX12_status (va_wsS RX12 82 yX12_within wsX12_within) := goodIn_app (goodIn_of _ (by decide +kernel)) ggX12_status_X12_within
theorem dX12_status_0 : decode cX12_status 0 = .ok (.iload_n 1, 1) := by decide +kernel
theorem dX12_status_1 : decode cX12_status 1 = .ok (.tableswitch 78 0 6 #[43, 48, 53, 58, 63, 68, 73], 43) := by decide +kernel
theorem dX12_status_44 : decode cX12_status 44 = .ok (.aload_n 0, 1) := by decide +kernel
theorem dX12_status_45 : decode cX12_status 45 = .ok (.getfield 79, 3) := by decide +kernel
theorem dX12_status_48 : decode cX12_status 48 = .ok (.ireturn, 1) := by decide +kernel
theorem dX12_status_49 : decode cX12_status 49 = .ok (.aload_n 0, 1) := by decide +kernel
theorem dX12_status_50 : decode cX12_status 50 = .ok (.invokevirtual 282, 3) := by decide +kernel
theorem dX12_status_53 : decode cX12_status 53 = .ok (.ireturn, 1) := by decide +kernel
theorem dX12_status_54 : decode cX12_status 54 = .ok (.aload_n 0, 1) := by decide +kernel
theorem dX12_status_55 : decode cX12_status 55 = .ok (.getfield 65, 3) := by decide +kernel
theorem dX12_status_58 : decode cX12_status 58 = .ok (.ireturn, 1) := by decide +kernel
theorem dX12_status_59 : decode cX12_status 59 = .ok (.aload_n 0, 1) := by decide +kernel
theorem dX12_status_60 : decode cX12_status 60 = .ok (.invokevirtual 279, 3) := by decide +kernel
theorem dX12_status_63 : decode cX12_status 63 = .ok (.ireturn, 1) := by decide +kernel
theorem dX12_status_64 : decode cX12_status 64 = .ok (.aload_n 0, 1) := by decide +kernel
theorem dX12_status_65 : decode cX12_status 65 = .ok (.invokevirtual 285, 3) := by decide +kernel
theorem dX12_status_68 : decode cX12_status 68 = .ok (.ireturn, 1) := by decide +kernel
theorem dX12_status_69 : decode cX12_status 69 = .ok (.aload_n 0, 1) := by decide +kernel
theorem dX12_status_70 : decode cX12_status 70 = .ok (.getfield 69, 3) := by decide +kernel
theorem dX12_status_73 : decode cX12_status 73 = .ok (.ireturn, 1) := by decide +kernel
theorem dX12_status_74 : decode cX12_status 74 = .ok (.aload_n 0, 1) := by decide +kernel
theorem dX12_status_75 : decode cX12_status 75 = .ok (.getfield 295, 3) := by decide +kernel
theorem dX12_status_78 : decode cX12_status 78 = .ok (.ireturn, 1) := by decide +kernel
theorem dX12_status_79 : decode cX12_status 79 = .ok (.iload_n 1, 1) := by decide +kernel
theorem dX12_status_80 : decode cX12_status 80 = .ok (.bipush 11, 2) := by decide +kernel
theorem dX12_status_82 : decode cX12_status 82 = .ok (.bipush 17, 2) := by decide +kernel
theorem dX12_status_84 : decode cX12_status 84 = .ok (.invokestatic 82, 3) := by decide +kernel
theorem dX12_status_87 : decode cX12_status 87 = .ok (.ifCond .eq 15, 3) := by decide +kernel
theorem dX12_status_90 : decode cX12_status 90 = .ok (.aload_n 0, 1) := by decide +kernel
theorem dX12_status_91 : decode cX12_status 91 = .ok (.getfield 47, 3) := by decide +kernel
theorem dX12_status_94 : decode cX12_status 94 = .ok (.iload_n 1, 1) := by decide +kernel
theorem dX12_status_95 : decode cX12_status 95 = .ok (.bipush 10, 2) := by decide +kernel
theorem dX12_status_97 : decode cX12_status 97 = .ok (.isub, 1) := by decide +kernel
theorem dX12_status_98 : decode cX12_status 98 = .ok (.iaload, 1) := by decide +kernel
theorem dX12_status_99 : decode cX12_status 99 = .ok (.goto 4, 3) := by decide +kernel
theorem dX12_status_102 : decode cX12_status 102 = .ok (.iconst (-1), 1) := by decide +kernel
theorem dX12_status_103 : decode cX12_status 103 = .ok (.ireturn, 1) := by decide +kernel
