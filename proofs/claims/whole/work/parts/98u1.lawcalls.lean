set_option maxRecDepth 20000 in
theorem gk_X11_init_0 : GoodIn wsL_law [.code yX11_init cX11_init 2 none] := goodIn_q wsL_cs_in [(0, 9)] rfl (by decide +kernel)
set_option maxRecDepth 20000 in
theorem gk_wsX11_init_r1 : GoodIn wsL_law wsX11_init_r1 := goodIn_q wsL_cs_in [(0, 10), (0, 11), (0, 12), (0, 13), (0, 14), (0, 15), (0, 16), (0, 17), (0, 18), (0, 19), (0, 20), (0, 21), (0, 22), (0, 23), (1, 0), (1, 1), (1, 2), (1, 3), (1, 4), (1, 5), (1, 6), (1, 7), (1, 8), (1, 9)] rfl (by decide +kernel)
set_option maxRecDepth 20000 in
theorem gk_wsX11_init_r2 : GoodIn wsL_law wsX11_init_r2 := goodIn_q wsL_cs_in [(1, 10), (1, 11), (1, 12), (1, 13), (1, 14), (1, 15), (1, 16), (1, 17), (1, 18), (1, 19), (1, 20), (1, 21), (1, 22), (1, 23), (2, 0), (2, 1), (2, 2), (2, 3), (2, 4), (2, 5), (2, 6), (2, 7), (2, 8), (2, 9)] rfl (by decide +kernel)
set_option maxRecDepth 20000 in
theorem gk_wsX11_init_r3 : GoodIn wsL_law wsX11_init_r3 := goodIn_q wsL_cs_in [(2, 10), (2, 11), (2, 12), (2, 13), (2, 14), (2, 15), (2, 16), (2, 17), (2, 18), (2, 19), (2, 20), (2, 21), (2, 22), (2, 23), (3, 0), (3, 1), (3, 2), (3, 3), (3, 4), (3, 5)] rfl (by decide +kernel)
set_option maxRecDepth 20000 in
theorem ggL_law_X11_init : GoodIn wsL_law wsX11_init := goodIn_app gk_X11_init_0 (goodIn_app (goodIn_app (goodIn_app (goodIn_app (goodIn_app (goodIn_app gk_wsX11_init_r1 (goodIn_app gk_wsX11_init_r2 gk_wsX11_init_r3)) gku_X11) gku_X9) gku_X4) gku_X6) gku_X7)
set_option maxRecDepth 20000 in
theorem gL_law_X11_init : GoodIn wsL_law (wsX11_init) := ggL_law_X11_init
set_option maxRecDepth 20000 in
theorem gk_X12_init_0 : GoodIn wsL_law [.code yX12_init cX12_init 2 none] := goodIn_q wsL_cs_in [(3, 8)] rfl (by decide +kernel)
set_option maxRecDepth 20000 in
theorem gk_wsX12_init_r1 : GoodIn wsL_law wsX12_init_r1 := goodIn_q wsL_cs_in [(3, 9), (0, 11), (0, 12), (0, 15), (3, 10), (3, 11), (3, 2), (3, 12), (3, 13), (3, 14), (3, 15), (3, 16), (3, 17), (3, 18), (3, 19), (3, 20), (3, 21), (3, 22), (3, 23), (4, 0), (4, 1), (4, 2), (4, 3), (4, 4)] rfl (by decide +kernel)
set_option maxRecDepth 20000 in
theorem gk_wsX12_init_r2 : GoodIn wsL_law wsX12_init_r2 := goodIn_q wsL_cs_in [(4, 5), (4, 6)] rfl (by decide +kernel)
set_option maxRecDepth 20000 in
theorem ggL_law_X12_init : GoodIn wsL_law wsX12_init := goodIn_app gk_X12_init_0 (goodIn_app (goodIn_app gk_wsX12_init_r1 gk_wsX12_init_r2) gku_X12)
set_option maxRecDepth 20000 in
theorem gL_law_X12_init : GoodIn wsL_law (wsX12_init) := ggL_law_X12_init
set_option maxRecDepth 20000 in
theorem gk_X11_row_0 : GoodIn wsL_law [.code yX11_row cX11_row 5 (some .int)] := goodIn_q wsL_cs_in [(4, 10)] rfl (by decide +kernel)
set_option maxRecDepth 20000 in
theorem gk_wsX11_row_r1 : GoodIn wsL_law wsX11_row_r1 := goodIn_q wsL_cs_in [(4, 11), (4, 12), (4, 13), (0, 2), (4, 14), (0, 14), (4, 15), (4, 16), (4, 17), (4, 18), (4, 19), (4, 20), (4, 21), (4, 22), (0, 16), (4, 23), (5, 0), (5, 1), (1, 16), (5, 2), (3, 4), (5, 3), (5, 4), (5, 5)] rfl (by decide +kernel)
set_option maxRecDepth 20000 in
theorem gk_wsX11_row_r2 : GoodIn wsL_law wsX11_row_r2 := goodIn_q wsL_cs_in [(5, 6), (3, 5), (3, 3), (5, 7), (5, 8), (5, 9), (5, 10)] rfl (by decide +kernel)
set_option maxRecDepth 20000 in
theorem ggL_law_X11_row : GoodIn wsL_law wsX11_row := goodIn_app gk_X11_row_0 (goodIn_app (goodIn_app (goodIn_app gk_wsX11_row_r1 gk_wsX11_row_r2) gku_X11) gku_X7)
set_option maxRecDepth 20000 in
theorem gL_law_X11_row : GoodIn wsL_law (wsV RL 13 RX11 yX11_row wsX11_row) := goodIn_app (goodIn_q wsL_cs_in [(4, 7), (4, 8), (4, 9), (0, 2)] rfl (by decide +kernel)) ggL_law_X11_row
set_option maxRecDepth 20000 in
theorem gk_X12_row_0 : GoodIn wsL_law [.code yX12_row cX12_row 5 (some .int)] := goodIn_q wsL_cs_in [(5, 14)] rfl (by decide +kernel)
set_option maxRecDepth 20000 in
theorem gk_X12_row_l1 : GoodIn wsL_law [.fieldLink RX12 7 "CarbonCopiesModel" "holding" "[I", .fieldLink RX12 13 "CarbonCopiesModel" "rowLength" "[I", .fieldLink RX12 16 "CarbonCopiesModel" "rowOf" "[J", .methodLink RX12 82 yX12_within, .static yX12_within, .initialized RX12, .code yX12_within cX12_within 3 (some .boolean), .methodLink RX12 75 yX12_no, .instanceMethod yX12_no, .selects RX12 yX12_no yX12_no, .code yX12_no cX12_no 2 (some .int), .fieldLink RX12 47 "CarbonCopiesModel" "refusals" "[I"] := goodIn_q wsL_cs_in [(3, 10), (3, 11), (3, 12), (5, 15), (5, 16), (0, 5), (5, 17), (5, 18), (5, 19), (5, 20), (5, 21), (3, 22)] rfl (by decide +kernel)
set_option maxRecDepth 20000 in
theorem ggL_law_X12_row : GoodIn wsL_law wsX12_row := goodIn_app gk_X12_row_0 (goodIn_app gk_X12_row_l1 gku_X12)
set_option maxRecDepth 20000 in
theorem gL_law_X12_row : GoodIn wsL_law (wsV RL 17 RX12 yX12_row wsX12_row) := goodIn_app (goodIn_q wsL_cs_in [(5, 11), (5, 12), (5, 13), (0, 5)] rfl (by decide +kernel)) ggL_law_X12_row
set_option maxRecDepth 20000 in
theorem gk_X11_set_0 : GoodIn wsL_law [.code yX11_set cX11_set 6 (some .int)] := goodIn_q wsL_cs_in [(6, 1)] rfl (by decide +kernel)
set_option maxRecDepth 20000 in
theorem gk_wsX11_set_r1 : GoodIn wsL_law wsX11_set_r1 := goodIn_q wsL_cs_in [(4, 11), (4, 12), (4, 13), (0, 2), (4, 14), (0, 14), (6, 2), (6, 3), (6, 4), (1, 16), (6, 5), (3, 4), (6, 6), (6, 7), (6, 8), (6, 9), (6, 10), (6, 11), (6, 12), (4, 15), (4, 16), (4, 17), (4, 18), (4, 19)] rfl (by decide +kernel)
set_option maxRecDepth 20000 in
theorem gk_wsX11_set_r2 : GoodIn wsL_law wsX11_set_r2 := goodIn_q wsL_cs_in [(4, 20), (4, 21), (4, 22), (0, 16), (6, 13), (6, 14), (6, 15), (6, 16), (3, 5), (6, 17), (6, 18), (6, 19), (6, 20), (6, 21), (3, 3), (6, 22)] rfl (by decide +kernel)
set_option maxRecDepth 20000 in
theorem ggL_law_X11_set : GoodIn wsL_law wsX11_set := goodIn_app gk_X11_set_0 (goodIn_app (goodIn_app (goodIn_app gk_wsX11_set_r1 gk_wsX11_set_r2) gku_X11) gku_X7)
set_option maxRecDepth 20000 in
theorem gL_law_X11_set : GoodIn wsL_law (wsV RL 20 RX11 yX11_set wsX11_set) := goodIn_app (goodIn_q wsL_cs_in [(5, 22), (5, 23), (6, 0), (0, 2)] rfl (by decide +kernel)) ggL_law_X11_set
set_option maxRecDepth 20000 in
theorem gk_X12_set_0 : GoodIn wsL_law [.code yX12_set cX12_set 7 (some .int)] := goodIn_q wsL_cs_in [(7, 2)] rfl (by decide +kernel)
set_option maxRecDepth 20000 in
theorem gk_X12_set_l1 : GoodIn wsL_law [.fieldLink RX12 13 "CarbonCopiesModel" "rowLength" "[I", .fieldLink RX12 7 "CarbonCopiesModel" "holding" "[I", .fieldLink RX12 16 "CarbonCopiesModel" "rowOf" "[J", .methodLink RX12 93 yX12_noRow, .instanceMethod yX12_noRow, .selects RX12 yX12_noRow yX12_noRow, .initialized RX12, .code yX12_noRow cX12_noRow 2 (some .int), .methodLink RX12 82 yX12_within, .static yX12_within, .code yX12_within cX12_within 3 (some .boolean), .methodLink RX12 90 yX12_isRow, .instanceMethod yX12_isRow, .selects RX12 yX12_isRow yX12_isRow, .code yX12_isRow cX12_isRow 2 (some .boolean), .methodLink RX12 75 yX12_no, .instanceMethod yX12_no, .selects RX12 yX12_no yX12_no, .code yX12_no cX12_no 2 (some .int), .fieldLink RX12 47 "CarbonCopiesModel" "refusals" "[I"] := goodIn_q wsL_cs_in [(3, 11), (3, 10), (3, 12), (7, 3), (7, 4), (7, 5), (0, 5), (7, 6), (5, 15), (5, 16), (5, 17), (7, 7), (7, 8), (7, 9), (7, 10), (5, 18), (5, 19), (5, 20), (5, 21), (3, 22)] rfl (by decide +kernel)
set_option maxRecDepth 20000 in
theorem ggL_law_X12_set : GoodIn wsL_law wsX12_set := goodIn_app gk_X12_set_0 (goodIn_app gk_X12_set_l1 gku_X12)
set_option maxRecDepth 20000 in
theorem gL_law_X12_set : GoodIn wsL_law (wsV RL 24 RX12 yX12_set wsX12_set) := goodIn_app (goodIn_q wsL_cs_in [(6, 23), (7, 0), (7, 1), (0, 5)] rfl (by decide +kernel)) ggL_law_X12_set
set_option maxRecDepth 20000 in
theorem gk_X11_copy_0 : GoodIn wsL_law [.code yX11_copy cX11_copy 9 (some .int)] := goodIn_q wsL_cs_in [(7, 14)] rfl (by decide +kernel)
set_option maxRecDepth 20000 in
theorem gk_wsX11_copy_r1 : GoodIn wsL_law wsX11_copy_r1 := goodIn_q wsL_cs_in [(7, 15), (7, 16), (7, 17), (7, 18), (7, 19), (4, 11), (4, 12), (4, 13), (0, 2), (4, 14), (0, 14), (7, 20), (7, 21), (7, 22), (7, 23), (6, 9), (6, 10), (6, 11), (1, 16), (6, 12), (3, 4), (6, 2), (6, 3), (6, 4)] rfl (by decide +kernel)
set_option maxRecDepth 20000 in
theorem gk_wsX11_copy_r2 : GoodIn wsL_law wsX11_copy_r2 := goodIn_q wsL_cs_in [(6, 5), (4, 15), (4, 16), (4, 17), (4, 18), (4, 19), (4, 20), (4, 21), (4, 22), (0, 16), (8, 0), (8, 1), (8, 2), (8, 3), (3, 5), (6, 17)] rfl (by decide +kernel)
set_option maxRecDepth 20000 in
theorem ggL_law_X11_copy : GoodIn wsL_law wsX11_copy := goodIn_app gk_X11_copy_0 (goodIn_app (goodIn_app (goodIn_app gk_wsX11_copy_r1 gk_wsX11_copy_r2) gku_X7) gku_X11)
set_option maxRecDepth 20000 in
theorem gL_law_X11_copy : GoodIn wsL_law (wsV RL 25 RX11 yX11_copy wsX11_copy) := goodIn_app (goodIn_q wsL_cs_in [(7, 11), (7, 12), (7, 13), (0, 2)] rfl (by decide +kernel)) ggL_law_X11_copy
set_option maxRecDepth 20000 in
theorem gk_X12_copy_0 : GoodIn wsL_law [.code yX12_copy cX12_copy 7 (some .int)] := goodIn_q wsL_cs_in [(8, 7)] rfl (by decide +kernel)
set_option maxRecDepth 20000 in
theorem gk_X12_copy_l1 : GoodIn wsL_law [.fieldLink RX12 7 "CarbonCopiesModel" "holding" "[I", .fieldLink RX12 13 "CarbonCopiesModel" "rowLength" "[I", .fieldLink RX12 16 "CarbonCopiesModel" "rowOf" "[J", .methodLink RX12 82 yX12_within, .static yX12_within, .initialized RX12, .code yX12_within cX12_within 3 (some .boolean), .methodLink RX12 75 yX12_no, .instanceMethod yX12_no, .selects RX12 yX12_no yX12_no, .code yX12_no cX12_no 2 (some .int), .fieldLink RX12 47 "CarbonCopiesModel" "refusals" "[I", .methodLink RX12 90 yX12_isRow, .instanceMethod yX12_isRow, .selects RX12 yX12_isRow yX12_isRow, .code yX12_isRow cX12_isRow 2 (some .boolean)] := goodIn_q wsL_cs_in [(3, 10), (3, 11), (3, 12), (5, 15), (5, 16), (0, 5), (5, 17), (5, 18), (5, 19), (5, 20), (5, 21), (3, 22), (7, 7), (7, 8), (7, 9), (7, 10)] rfl (by decide +kernel)
set_option maxRecDepth 20000 in
theorem ggL_law_X12_copy : GoodIn wsL_law wsX12_copy := goodIn_app gk_X12_copy_0 (goodIn_app gk_X12_copy_l1 gku_X12)
set_option maxRecDepth 20000 in
theorem gL_law_X12_copy : GoodIn wsL_law (wsV RL 29 RX12 yX12_copy wsX12_copy) := goodIn_app (goodIn_q wsL_cs_in [(8, 4), (8, 5), (8, 6), (0, 5)] rfl (by decide +kernel)) ggL_law_X12_copy
set_option maxRecDepth 20000 in
theorem gk_X11_element_0 : GoodIn wsL_law [.code yX11_element cX11_element 4 (some .long)] := goodIn_q wsL_cs_in [(8, 11)] rfl (by decide +kernel)
set_option maxRecDepth 20000 in
theorem gk_X11_element_l1 : GoodIn wsL_law [.methodLink RX11 76 yX11_shelfAt, .instanceMethod yX11_shelfAt, .selects RX11 yX11_shelfAt yX11_shelfAt, .initialized RX11, .code yX11_shelfAt cX11_shelfAt 2 (some (.object "CarbonCopies$Shelf")), .fieldLink RX11 11 "CarbonCopies" "shelves" "[LCarbonCopies$Shelf;", .methodLink RX11 122 yX7_elementAt, .instanceMethod yX7_elementAt, .selects RX7 yX7_elementAt yX7_elementAt, .initialized RX7, .code yX7_elementAt cX7_elementAt 2 (some .long), .fieldLink RX7 9 "CarbonCopies$Shelf" "elements" "[J", .methodLink RX7 38 yX7_hasElement, .instanceMethod yX7_hasElement, .selects RX7 yX7_hasElement yX7_hasElement, .code yX7_hasElement cX7_hasElement 2 (some .boolean), .fieldLink RX7 19 "CarbonCopies$Shelf" "size" "I", .methodLink RX7 22 yX7_hasRow, .instanceMethod yX7_hasRow, .selects RX7 yX7_hasRow yX7_hasRow, .code yX7_hasRow cX7_hasRow 1 (some .boolean), .fieldLink RX7 15 "CarbonCopies$Shelf" "held" "I"] := goodIn_q wsL_cs_in [(4, 11), (4, 12), (4, 13), (0, 2), (4, 14), (0, 14), (8, 12), (8, 13), (8, 14), (1, 16), (8, 15), (3, 3), (6, 22), (6, 14), (6, 15), (6, 16), (3, 5), (6, 17), (6, 3), (6, 4), (6, 5), (3, 4)] rfl (by decide +kernel)
set_option maxRecDepth 20000 in
theorem ggL_law_X11_element : GoodIn wsL_law wsX11_element := goodIn_app gk_X11_element_0 (goodIn_app (goodIn_app gk_X11_element_l1 gku_X11) gku_X7)
set_option maxRecDepth 20000 in
theorem gL_law_X11_element : GoodIn wsL_law (wsV RL 30 RX11 yX11_element wsX11_element) := goodIn_app (goodIn_q wsL_cs_in [(8, 8), (8, 9), (8, 10), (0, 2)] rfl (by decide +kernel)) ggL_law_X11_element
set_option maxRecDepth 20000 in
theorem gk_X12_element_0 : GoodIn wsL_law [.code yX12_element cX12_element 3 (some .long)] := goodIn_q wsL_cs_in [(8, 19)] rfl (by decide +kernel)
set_option maxRecDepth 20000 in
theorem gk_X12_element_l1 : GoodIn wsL_law [.fieldLink RX12 13 "CarbonCopiesModel" "rowLength" "[I", .fieldLink RX12 16 "CarbonCopiesModel" "rowOf" "[J", .methodLink RX12 82 yX12_within, .static yX12_within, .initialized RX12, .code yX12_within cX12_within 3 (some .boolean), .methodLink RX12 90 yX12_isRow, .instanceMethod yX12_isRow, .selects RX12 yX12_isRow yX12_isRow, .code yX12_isRow cX12_isRow 2 (some .boolean), .fieldLink RX12 7 "CarbonCopiesModel" "holding" "[I"] := goodIn_q wsL_cs_in [(3, 11), (3, 12), (5, 15), (5, 16), (0, 5), (5, 17), (7, 7), (7, 8), (7, 9), (7, 10), (3, 10)] rfl (by decide +kernel)
set_option maxRecDepth 20000 in
theorem ggL_law_X12_element : GoodIn wsL_law wsX12_element := goodIn_app gk_X12_element_0 (goodIn_app gk_X12_element_l1 gku_X12)
set_option maxRecDepth 20000 in
theorem gL_law_X12_element : GoodIn wsL_law (wsV RL 34 RX12 yX12_element wsX12_element) := goodIn_app (goodIn_q wsL_cs_in [(8, 16), (8, 17), (8, 18), (0, 5)] rfl (by decide +kernel)) ggL_law_X12_element
set_option maxRecDepth 20000 in
theorem gk_X11_show_0 : GoodIn wsL_law [.code yX11_show cX11_show 4 (some .int)] := goodIn_q wsL_cs_in [(8, 23)] rfl (by decide +kernel)
set_option maxRecDepth 20000 in
theorem gk_X11_show_l1 : GoodIn wsL_law [.fieldLink RX11 31 "CarbonCopies" "truth" "LCarbonCopies$Land;", .fieldLink RX11 130 "CarbonCopies$Shelf" "held" "I", .methodLink RX11 76 yX11_shelfAt, .instanceMethod yX11_shelfAt, .selects RX11 yX11_shelfAt yX11_shelfAt, .initialized RX11, .code yX11_shelfAt cX11_shelfAt 2 (some (.object "CarbonCopies$Shelf")), .fieldLink RX11 11 "CarbonCopies" "shelves" "[LCarbonCopies$Shelf;", .methodLink RX11 126 yX4_personAt, .instanceMethod yX4_personAt, .selects RX4 yX4_personAt yX4_personAt, .initialized RX4, .code yX4_personAt cX4_personAt 2 (some (.object "CarbonCopies$Person")), .fieldLink RX4 21 "CarbonCopies$Land" "count" "I", .fieldLink RX4 11 "CarbonCopies$Land" "persons" "[LCarbonCopies$Person;", .methodLink RX11 80 yX11_refuse, .instanceMethod yX11_refuse, .selects RX11 yX11_refuse yX11_refuse, .code yX11_refuse cX11_refuse 2 (some .int), .methodLink RX11 190 yX11_refuseLess, .instanceMethod yX11_refuseLess, .selects RX11 yX11_refuseLess yX11_refuseLess, .code yX11_refuseLess cX11_refuseLess 3 (some .int), .fieldLink RX11 15 "CarbonCopies" "refusals" "[I"] := goodIn_q wsL_cs_in [(1, 0), (7, 23), (4, 11), (4, 12), (4, 13), (0, 2), (4, 14), (0, 14), (9, 0), (9, 1), (9, 2), (0, 23), (9, 3), (2, 5), (2, 3), (4, 15), (4, 16), (4, 17), (4, 18), (4, 19), (4, 20), (4, 21), (4, 22), (0, 16)] rfl (by decide +kernel)
set_option maxRecDepth 20000 in
theorem ggL_law_X11_show : GoodIn wsL_law wsX11_show := goodIn_app gk_X11_show_0 (goodIn_app (goodIn_app (goodIn_app gk_X11_show_l1 gku_X11) gku_X7) gku_X4)
set_option maxRecDepth 20000 in
theorem gL_law_X11_show : GoodIn wsL_law (wsV RL 35 RX11 yX11_show wsX11_show) := goodIn_app (goodIn_q wsL_cs_in [(8, 20), (8, 21), (8, 22), (0, 2)] rfl (by decide +kernel)) ggL_law_X11_show
set_option maxRecDepth 20000 in
theorem gk_X12_show_0 : GoodIn wsL_law [.code yX12_show cX12_show 3 (some .int)] := goodIn_q wsL_cs_in [(9, 7)] rfl (by decide +kernel)
set_option maxRecDepth 20000 in
theorem gk_X12_show_l1 : GoodIn wsL_law [.fieldLink RX12 7 "CarbonCopiesModel" "holding" "[I", .methodLink RX12 82 yX12_within, .static yX12_within, .initialized RX12, .code yX12_within cX12_within 3 (some .boolean), .methodLink RX12 96 yX12_isPerson, .instanceMethod yX12_isPerson, .selects RX12 yX12_isPerson yX12_isPerson, .code yX12_isPerson cX12_isPerson 2 (some .boolean), .fieldLink RX12 79 "CarbonCopiesModel" "persons" "I", .methodLink RX12 75 yX12_no, .instanceMethod yX12_no, .selects RX12 yX12_no yX12_no, .code yX12_no cX12_no 2 (some .int), .fieldLink RX12 47 "CarbonCopiesModel" "refusals" "[I"] := goodIn_q wsL_cs_in [(3, 10), (5, 15), (5, 16), (0, 5), (5, 17), (9, 8), (9, 9), (9, 10), (9, 11), (9, 12), (5, 18), (5, 19), (5, 20), (5, 21), (3, 22)] rfl (by decide +kernel)
set_option maxRecDepth 20000 in
theorem ggL_law_X12_show : GoodIn wsL_law wsX12_show := goodIn_app gk_X12_show_0 (goodIn_app gk_X12_show_l1 gku_X12)
set_option maxRecDepth 20000 in
theorem gL_law_X12_show : GoodIn wsL_law (wsV RL 39 RX12 yX12_show wsX12_show) := goodIn_app (goodIn_q wsL_cs_in [(9, 4), (9, 5), (9, 6), (0, 5)] rfl (by decide +kernel)) ggL_law_X12_show
set_option maxRecDepth 20000 in
theorem gk_X11_holds_0 : GoodIn wsL_law [.code yX11_holds cX11_holds 3 (some .int)] := goodIn_q wsL_cs_in [(9, 16)] rfl (by decide +kernel)
set_option maxRecDepth 20000 in
theorem gk_X11_holds_l1 : GoodIn wsL_law [.fieldLink RX11 130 "CarbonCopies$Shelf" "held" "I", .methodLink RX11 76 yX11_shelfAt, .instanceMethod yX11_shelfAt, .selects RX11 yX11_shelfAt yX11_shelfAt, .initialized RX11, .code yX11_shelfAt cX11_shelfAt 2 (some (.object "CarbonCopies$Shelf")), .fieldLink RX11 11 "CarbonCopies" "shelves" "[LCarbonCopies$Shelf;"] := goodIn_q wsL_cs_in [(7, 23), (4, 11), (4, 12), (4, 13), (0, 2), (4, 14), (0, 14)] rfl (by decide +kernel)
set_option maxRecDepth 20000 in
theorem ggL_law_X11_holds : GoodIn wsL_law wsX11_holds := goodIn_app gk_X11_holds_0 (goodIn_app (goodIn_app gk_X11_holds_l1 gku_X7) gku_X11)
set_option maxRecDepth 20000 in
theorem gL_law_X11_holds : GoodIn wsL_law (wsV RL 40 RX11 yX11_holds wsX11_holds) := goodIn_app (goodIn_q wsL_cs_in [(9, 13), (9, 14), (9, 15), (0, 2)] rfl (by decide +kernel)) ggL_law_X11_holds
set_option maxRecDepth 20000 in
theorem gk_X12_holds_0 : GoodIn wsL_law [.code yX12_holds cX12_holds 2 (some .int)] := goodIn_q wsL_cs_in [(9, 20)] rfl (by decide +kernel)
set_option maxRecDepth 20000 in
theorem gk_X12_holds_l1 : GoodIn wsL_law [.fieldLink RX12 7 "CarbonCopiesModel" "holding" "[I", .methodLink RX12 82 yX12_within, .static yX12_within, .initialized RX12, .code yX12_within cX12_within 3 (some .boolean)] := goodIn_q wsL_cs_in [(3, 10), (5, 15), (5, 16), (0, 5), (5, 17)] rfl (by decide +kernel)
set_option maxRecDepth 20000 in
theorem ggL_law_X12_holds : GoodIn wsL_law wsX12_holds := goodIn_app gk_X12_holds_0 (goodIn_app gk_X12_holds_l1 gku_X12)
set_option maxRecDepth 20000 in
theorem gL_law_X12_holds : GoodIn wsL_law (wsV RL 44 RX12 yX12_holds wsX12_holds) := goodIn_app (goodIn_q wsL_cs_in [(9, 17), (9, 18), (9, 19), (0, 5)] rfl (by decide +kernel)) ggL_law_X12_holds
set_option maxRecDepth 20000 in
theorem gk_X11_says_0 : GoodIn wsL_law [.code yX11_says cX11_says 5 (some .int)] := goodIn_q wsL_cs_in [(10, 0)] rfl (by decide +kernel)
set_option maxRecDepth 20000 in
theorem gk_wsX11_says_r1 : GoodIn wsL_law wsX11_says_r1 := goodIn_q wsL_cs_in [(1, 0), (7, 23), (10, 1), (10, 2), (4, 11), (4, 12), (4, 13), (0, 2), (4, 14), (0, 14), (4, 15), (4, 16), (4, 17), (4, 18), (4, 19), (4, 20), (4, 21), (4, 22), (0, 16), (6, 2), (6, 3), (6, 4), (1, 16), (6, 5)] rfl (by decide +kernel)
set_option maxRecDepth 20000 in
theorem gk_wsX11_says_r2 : GoodIn wsL_law wsX11_says_r2 := goodIn_q wsL_cs_in [(3, 4), (9, 0), (9, 1), (9, 2), (0, 23), (9, 3), (2, 5), (2, 3), (10, 3), (10, 4), (10, 5), (10, 6), (10, 7), (10, 8), (10, 9), (10, 10), (10, 11), (10, 12), (10, 13), (10, 14), (10, 15), (10, 16), (10, 17), (10, 18)] rfl (by decide +kernel)
set_option maxRecDepth 20000 in
theorem gk_wsX11_says_r3 : GoodIn wsL_law wsX11_says_r3 := goodIn_q wsL_cs_in [(10, 19), (10, 20), (10, 21), (10, 22), (10, 23), (11, 0), (11, 1), (11, 2), (11, 3), (11, 4), (11, 5), (11, 6), (11, 7), (11, 8), (11, 9), (11, 10), (11, 11), (11, 12), (11, 13), (11, 14), (11, 15), (11, 16), (11, 17), (11, 18)] rfl (by decide +kernel)
set_option maxRecDepth 20000 in
theorem gk_wsX11_says_r4 : GoodIn wsL_law wsX11_says_r4 := goodIn_q wsL_cs_in [(11, 19), (11, 20), (11, 21), (11, 22), (11, 23), (12, 0), (12, 1), (12, 2), (12, 3), (12, 4), (12, 5), (12, 6), (12, 7), (12, 8), (12, 9), (12, 10), (12, 11), (12, 12), (12, 13), (12, 14), (12, 15)] rfl (by decide +kernel)
set_option maxRecDepth 20000 in
theorem ggL_law_X11_says : GoodIn wsL_law wsX11_says := goodIn_app gk_X11_says_0 (goodIn_app (goodIn_app (goodIn_app (goodIn_app (goodIn_app (goodIn_app (goodIn_app (goodIn_app (goodIn_app (goodIn_app (goodIn_app gk_wsX11_says_r1 (goodIn_app gk_wsX11_says_r2 (goodIn_app gk_wsX11_says_r3 gk_wsX11_says_r4))) gku_X11) gku_X7) gku_X0) gku_X1) gku_X2) gku_X3) gku_X5) gku_X8) gku_X10) gku_X4)
set_option maxRecDepth 20000 in
theorem gL_law_X11_says : GoodIn wsL_law (wsV RL 45 RX11 yX11_says wsX11_says) := goodIn_app (goodIn_q wsL_cs_in [(9, 21), (9, 22), (9, 23), (0, 2)] rfl (by decide +kernel)) ggL_law_X11_says
set_option maxRecDepth 20000 in
theorem gk_X12_says_0 : GoodIn wsL_law [.code yX12_says cX12_says 4 (some .int)] := goodIn_q wsL_cs_in [(12, 19)] rfl (by decide +kernel)
set_option maxRecDepth 20000 in
theorem gk_wsX12_says_r1 : GoodIn wsL_law wsX12_says_r1 := goodIn_q wsL_cs_in [(3, 10), (3, 13), (3, 15), (3, 16), (5, 15), (5, 16), (0, 5), (5, 17), (5, 18), (5, 19), (5, 20), (5, 21), (3, 22), (7, 7), (7, 8), (7, 9), (7, 10), (12, 20), (12, 21), (12, 22), (12, 23), (13, 0), (13, 1), (13, 2)] rfl (by decide +kernel)
set_option maxRecDepth 20000 in
theorem gk_wsX12_says_r2 : GoodIn wsL_law wsX12_says_r2 := goodIn_q wsL_cs_in [(13, 3), (13, 4), (13, 5), (3, 14)] rfl (by decide +kernel)
set_option maxRecDepth 20000 in
theorem ggL_law_X12_says : GoodIn wsL_law wsX12_says := goodIn_app gk_X12_says_0 (goodIn_app (goodIn_app gk_wsX12_says_r1 gk_wsX12_says_r2) gku_X12)
set_option maxRecDepth 20000 in
theorem gL_law_X12_says : GoodIn wsL_law (wsV RL 48 RX12 yX12_says wsX12_says) := goodIn_app (goodIn_q wsL_cs_in [(12, 16), (12, 17), (12, 18), (0, 5)] rfl (by decide +kernel)) ggL_law_X12_says
set_option maxRecDepth 20000 in
theorem gk_X11_person_0 : GoodIn wsL_law [.code yX11_person cX11_person 4 (some .int)] := goodIn_q wsL_cs_in [(13, 9)] rfl (by decide +kernel)
set_option maxRecDepth 20000 in
theorem gk_wsX11_person_r1 : GoodIn wsL_law wsX11_person_r1 := goodIn_q wsL_cs_in [(1, 0), (4, 15), (4, 16), (4, 17), (0, 2), (4, 18), (4, 19), (4, 20), (4, 21), (4, 22), (0, 16), (13, 10), (13, 11), (13, 12), (0, 23), (13, 13), (2, 5), (13, 14), (13, 15), (13, 16), (13, 17), (13, 18), (13, 19), (13, 20)] rfl (by decide +kernel)
set_option maxRecDepth 20000 in
theorem gk_wsX11_person_r2 : GoodIn wsL_law wsX11_person_r2 := goodIn_q wsL_cs_in [(13, 21), (13, 22), (2, 3), (13, 23), (14, 0), (14, 1), (11, 19), (2, 8), (14, 2), (14, 3), (12, 1), (14, 4), (14, 5), (12, 11), (14, 6), (14, 7), (11, 1), (14, 8), (14, 9), (10, 17), (14, 10), (14, 11), (11, 11), (2, 2)] rfl (by decide +kernel)
set_option maxRecDepth 20000 in
theorem gk_wsX11_person_r3 : GoodIn wsL_law wsX11_person_r3 := goodIn_q wsL_cs_in [(14, 12), (11, 6), (14, 13), (14, 14), (14, 15), (14, 16), (14, 17), (14, 18), (14, 19), (0, 11), (0, 12), (0, 15), (14, 20), (14, 21), (14, 22), (14, 23), (11, 8), (15, 0), (15, 1), (15, 2), (15, 3), (15, 4), (15, 5), (15, 6)] rfl (by decide +kernel)
set_option maxRecDepth 20000 in
theorem gk_wsX11_person_r4 : GoodIn wsL_law wsX11_person_r4 := goodIn_q wsL_cs_in [(15, 7), (15, 8), (15, 9), (15, 10), (15, 11), (15, 12), (15, 13), (15, 14), (15, 15), (15, 16), (15, 17), (15, 18), (15, 19), (15, 20), (15, 21), (15, 22), (15, 23), (16, 0), (16, 1), (16, 2), (16, 3), (16, 4), (16, 5), (16, 6)] rfl (by decide +kernel)
set_option maxRecDepth 20000 in
theorem gk_wsX11_person_r5 : GoodIn wsL_law wsX11_person_r5 := goodIn_q wsL_cs_in [(16, 7), (5, 9), (16, 8), (16, 9), (16, 10), (16, 11), (16, 12), (16, 13), (16, 14), (16, 15)] rfl (by decide +kernel)
set_option maxRecDepth 20000 in
theorem ggL_law_X11_person : GoodIn wsL_law wsX11_person := goodIn_app gk_X11_person_0 (goodIn_app (goodIn_app (goodIn_app (goodIn_app (goodIn_app (goodIn_app (goodIn_app (goodIn_app (goodIn_app (goodIn_app gk_wsX11_person_r1 (goodIn_app gk_wsX11_person_r2 (goodIn_app gk_wsX11_person_r3 (goodIn_app gk_wsX11_person_r4 gk_wsX11_person_r5)))) gku_X11) gku_X4) gku_X0) gku_X1) gku_X2) gku_X3) gku_X5) gku_X8) gku_X10)
set_option maxRecDepth 20000 in
theorem gL_law_X11_person : GoodIn wsL_law (wsV RL 49 RX11 yX11_person wsX11_person) := goodIn_app (goodIn_q wsL_cs_in [(13, 6), (13, 7), (13, 8), (0, 2)] rfl (by decide +kernel)) ggL_law_X11_person
set_option maxRecDepth 20000 in
theorem gk_X12_person_0 : GoodIn wsL_law [.code yX12_person cX12_person 4 (some .int)] := goodIn_q wsL_cs_in [(16, 19)] rfl (by decide +kernel)
set_option maxRecDepth 20000 in
theorem gk_X12_person_l1 : GoodIn wsL_law [.fieldLink RX12 79 "CarbonCopiesModel" "persons" "I", .methodLink RX12 82 yX12_within, .static yX12_within, .initialized RX12, .code yX12_within cX12_within 3 (some .boolean), .methodLink RX12 75 yX12_no, .instanceMethod yX12_no, .selects RX12 yX12_no yX12_no, .code yX12_no cX12_no 2 (some .int), .fieldLink RX12 47 "CarbonCopiesModel" "refusals" "[I", .methodLink RX12 110 yX12_newPerson, .instanceMethod yX12_newPerson, .selects RX12 yX12_newPerson yX12_newPerson, .code yX12_newPerson cX12_newPerson 5 (some .int), .fieldLink RX12 20 "CarbonCopiesModel" "kind" "[I", .fieldLink RX12 23 "CarbonCopiesModel" "a" "[I", .fieldLink RX12 26 "CarbonCopiesModel" "thick" "[I", .fieldLink RX12 29 "CarbonCopiesModel" "out" "[I", .fieldLink RX12 32 "CarbonCopiesModel" "smears" "[I", .fieldLink RX12 35 "CarbonCopiesModel" "drift" "[I", .fieldLink RX12 38 "CarbonCopiesModel" "strength" "[I"] := goodIn_q wsL_cs_in [(9, 12), (5, 15), (5, 16), (0, 5), (5, 17), (5, 18), (5, 19), (5, 20), (5, 21), (3, 22), (16, 20), (16, 21), (16, 22), (16, 23), (3, 13), (3, 14), (3, 15), (3, 16), (3, 17), (3, 18), (3, 19)] rfl (by decide +kernel)
set_option maxRecDepth 20000 in
theorem ggL_law_X12_person : GoodIn wsL_law wsX12_person := goodIn_app gk_X12_person_0 (goodIn_app gk_X12_person_l1 gku_X12)
set_option maxRecDepth 20000 in
theorem gL_law_X12_person : GoodIn wsL_law (wsV RL 52 RX12 yX12_person wsX12_person) := goodIn_app (goodIn_q wsL_cs_in [(16, 16), (16, 17), (16, 18), (0, 5)] rfl (by decide +kernel)) ggL_law_X12_person
set_option maxRecDepth 20000 in
theorem gk_X11_ask_0 : GoodIn wsL_law [.code yX11_ask cX11_ask 3 (some .int)] := goodIn_q wsL_cs_in [(17, 3)] rfl (by decide +kernel)
set_option maxRecDepth 20000 in
theorem gk_X11_ask_l1 : GoodIn wsL_law [.fieldLink RX11 31 "CarbonCopies" "truth" "LCarbonCopies$Land;", .fieldLink RX11 155 "CarbonCopies$Land" "least" "I", .methodLink RX11 80 yX11_refuse, .instanceMethod yX11_refuse, .selects RX11 yX11_refuse yX11_refuse, .initialized RX11, .code yX11_refuse cX11_refuse 2 (some .int), .methodLink RX11 190 yX11_refuseLess, .instanceMethod yX11_refuseLess, .selects RX11 yX11_refuseLess yX11_refuseLess, .code yX11_refuseLess cX11_refuseLess 3 (some .int), .fieldLink RX11 15 "CarbonCopies" "refusals" "[I"] := goodIn_q wsL_cs_in [(1, 0), (17, 4), (4, 15), (4, 16), (4, 17), (0, 2), (4, 18), (4, 19), (4, 20), (4, 21), (4, 22), (0, 16)] rfl (by decide +kernel)
set_option maxRecDepth 20000 in
theorem ggL_law_X11_ask : GoodIn wsL_law wsX11_ask := goodIn_app gk_X11_ask_0 (goodIn_app (goodIn_app gk_X11_ask_l1 gku_X11) gku_X4)
set_option maxRecDepth 20000 in
theorem gL_law_X11_ask : GoodIn wsL_law (wsV RL 53 RX11 yX11_ask wsX11_ask) := goodIn_app (goodIn_q wsL_cs_in [(17, 0), (17, 1), (17, 2), (0, 2)] rfl (by decide +kernel)) ggL_law_X11_ask
set_option maxRecDepth 20000 in
theorem gk_X12_ask_0 : GoodIn wsL_law [.code yX12_ask cX12_ask 3 (some .int)] := goodIn_q wsL_cs_in [(17, 8)] rfl (by decide +kernel)
set_option maxRecDepth 20000 in
theorem gk_X12_ask_l1 : GoodIn wsL_law [.fieldLink RX12 65 "CarbonCopiesModel" "least" "I", .methodLink RX12 82 yX12_within, .static yX12_within, .initialized RX12, .code yX12_within cX12_within 3 (some .boolean), .methodLink RX12 75 yX12_no, .instanceMethod yX12_no, .selects RX12 yX12_no yX12_no, .code yX12_no cX12_no 2 (some .int), .fieldLink RX12 47 "CarbonCopiesModel" "refusals" "[I"] := goodIn_q wsL_cs_in [(4, 4), (5, 15), (5, 16), (0, 5), (5, 17), (5, 18), (5, 19), (5, 20), (5, 21), (3, 22)] rfl (by decide +kernel)
set_option maxRecDepth 20000 in
theorem ggL_law_X12_ask : GoodIn wsL_law wsX12_ask := goodIn_app gk_X12_ask_0 (goodIn_app gk_X12_ask_l1 gku_X12)
set_option maxRecDepth 20000 in
theorem gL_law_X12_ask : GoodIn wsL_law (wsV RL 56 RX12 yX12_ask wsX12_ask) := goodIn_app (goodIn_q wsL_cs_in [(17, 5), (17, 6), (17, 7), (0, 5)] rfl (by decide +kernel)) ggL_law_X12_ask
set_option maxRecDepth 20000 in
theorem gk_X11_personOf_0 : GoodIn wsL_law [.code yX11_personOf cX11_personOf 4 (some .int)] := goodIn_q wsL_cs_in [(17, 12)] rfl (by decide +kernel)
set_option maxRecDepth 20000 in
theorem gk_wsX11_personOf_r1 : GoodIn wsL_law wsX11_personOf_r1 := goodIn_q wsL_cs_in [(1, 0), (17, 13), (17, 14), (10, 1), (10, 2), (9, 0), (9, 1), (9, 2), (0, 23), (9, 3), (2, 5), (2, 3), (4, 15), (4, 16), (4, 17), (0, 2), (4, 18), (4, 19), (4, 20), (4, 21), (4, 22), (0, 16), (17, 15), (17, 16)] rfl (by decide +kernel)
set_option maxRecDepth 20000 in
theorem gk_wsX11_personOf_r2 : GoodIn wsL_law wsX11_personOf_r2 := goodIn_q wsL_cs_in [(17, 17), (17, 18), (11, 6), (17, 19), (17, 20), (17, 21), (17, 22), (17, 23), (18, 0), (14, 20), (18, 1), (18, 2), (18, 3), (18, 4), (18, 5), (18, 6), (18, 7), (18, 8), (18, 9), (18, 10), (18, 11), (18, 12), (18, 13), (18, 14)] rfl (by decide +kernel)
set_option maxRecDepth 20000 in
theorem gk_wsX11_personOf_r3 : GoodIn wsL_law wsX11_personOf_r3 := goodIn_q wsL_cs_in [(18, 15), (18, 16), (18, 17), (18, 18), (18, 19), (18, 20), (18, 21), (18, 22), (18, 23), (14, 21), (19, 0), (19, 1), (19, 2), (19, 3), (19, 4), (19, 5), (19, 6)] rfl (by decide +kernel)
set_option maxRecDepth 20000 in
theorem ggL_law_X11_personOf : GoodIn wsL_law wsX11_personOf := goodIn_app gk_X11_personOf_0 (goodIn_app (goodIn_app (goodIn_app (goodIn_app (goodIn_app (goodIn_app (goodIn_app (goodIn_app (goodIn_app (goodIn_app gk_wsX11_personOf_r1 (goodIn_app gk_wsX11_personOf_r2 gk_wsX11_personOf_r3)) gku_X11) gku_X0) gku_X1) gku_X2) gku_X3) gku_X5) gku_X8) gku_X10) gku_X4)
set_option maxRecDepth 20000 in
theorem gL_law_X11_personOf : GoodIn wsL_law (wsV RL 57 RX11 yX11_personOf wsX11_personOf) := goodIn_app (goodIn_q wsL_cs_in [(17, 9), (17, 10), (17, 11), (0, 2)] rfl (by decide +kernel)) ggL_law_X11_personOf
set_option maxRecDepth 20000 in
theorem gk_X12_personOf_0 : GoodIn wsL_law [.code yX12_personOf cX12_personOf 3 (some .int)] := goodIn_q wsL_cs_in [(19, 10)] rfl (by decide +kernel)
set_option maxRecDepth 20000 in
theorem gk_wsX12_personOf_r1 : GoodIn wsL_law wsX12_personOf_r1 := goodIn_q wsL_cs_in [(3, 13), (3, 14), (3, 15), (3, 16), (9, 8), (9, 9), (9, 10), (0, 5), (9, 11), (9, 12), (5, 15), (5, 16), (5, 17), (5, 18), (5, 19), (5, 20), (5, 21), (3, 22), (19, 11), (19, 12), (19, 13), (19, 14), (19, 15), (19, 16)] rfl (by decide +kernel)
set_option maxRecDepth 20000 in
theorem gk_wsX12_personOf_r2 : GoodIn wsL_law wsX12_personOf_r2 := goodIn_q wsL_cs_in [(19, 17), (19, 18), (3, 19), (19, 19), (19, 20), (19, 21), (19, 22), (3, 17)] rfl (by decide +kernel)
set_option maxRecDepth 20000 in
theorem ggL_law_X12_personOf : GoodIn wsL_law wsX12_personOf := goodIn_app gk_X12_personOf_0 (goodIn_app (goodIn_app gk_wsX12_personOf_r1 gk_wsX12_personOf_r2) gku_X12)
set_option maxRecDepth 20000 in
theorem gL_law_X12_personOf : GoodIn wsL_law (wsV RL 60 RX12 yX12_personOf wsX12_personOf) := goodIn_app (goodIn_q wsL_cs_in [(19, 7), (19, 8), (19, 9), (0, 5)] rfl (by decide +kernel)) ggL_law_X12_personOf
set_option maxRecDepth 20000 in
theorem gk_X11_copyOf_0 : GoodIn wsL_law [.code yX11_copyOf cX11_copyOf 5 (some .int)] := goodIn_q wsL_cs_in [(20, 2)] rfl (by decide +kernel)
set_option maxRecDepth 20000 in
theorem gk_wsX11_copyOf_r1 : GoodIn wsL_law wsX11_copyOf_r1 := goodIn_q wsL_cs_in [(1, 0), (20, 3), (17, 4), (9, 0), (9, 1), (9, 2), (0, 23), (9, 3), (2, 5), (2, 3), (20, 4), (18, 1), (0, 2), (18, 2), (4, 15), (4, 16), (4, 17), (4, 18), (4, 19), (4, 20), (4, 21), (4, 22), (0, 16), (20, 5)] rfl (by decide +kernel)
set_option maxRecDepth 20000 in
theorem gk_wsX11_copyOf_r2 : GoodIn wsL_law wsX11_copyOf_r2 := goodIn_q wsL_cs_in [(20, 6), (20, 7), (20, 8), (11, 6), (20, 9), (17, 20), (17, 21), (17, 22), (17, 23), (18, 0), (14, 20), (18, 3), (18, 4), (18, 5), (18, 6), (18, 7), (18, 8), (18, 9), (18, 10), (18, 11), (20, 10), (20, 11), (20, 12), (20, 13)] rfl (by decide +kernel)
set_option maxRecDepth 20000 in
theorem gk_wsX11_copyOf_r3 : GoodIn wsL_law wsX11_copyOf_r3 := goodIn_q wsL_cs_in [(20, 14), (20, 15), (20, 16), (20, 17), (20, 18), (20, 19), (20, 20), (20, 21), (15, 0), (20, 22), (20, 23), (21, 0), (21, 1), (21, 2), (21, 3), (21, 4)] rfl (by decide +kernel)
set_option maxRecDepth 20000 in
theorem ggL_law_X11_copyOf : GoodIn wsL_law wsX11_copyOf := goodIn_app gk_X11_copyOf_0 (goodIn_app (goodIn_app (goodIn_app (goodIn_app (goodIn_app (goodIn_app (goodIn_app (goodIn_app (goodIn_app (goodIn_app gk_wsX11_copyOf_r1 (goodIn_app gk_wsX11_copyOf_r2 gk_wsX11_copyOf_r3)) gku_X11) gku_X0) gku_X1) gku_X2) gku_X3) gku_X5) gku_X8) gku_X10) gku_X4)
set_option maxRecDepth 20000 in
theorem gL_law_X11_copyOf : GoodIn wsL_law (wsV RL 61 RX11 yX11_copyOf wsX11_copyOf) := goodIn_app (goodIn_q wsL_cs_in [(19, 23), (20, 0), (20, 1), (0, 2)] rfl (by decide +kernel)) ggL_law_X11_copyOf
set_option maxRecDepth 20000 in
theorem gk_X12_copyOf_0 : GoodIn wsL_law [.code yX12_copyOf cX12_copyOf 4 (some .int)] := goodIn_q wsL_cs_in [(21, 8)] rfl (by decide +kernel)
set_option maxRecDepth 20000 in
theorem gk_wsX12_copyOf_r1 : GoodIn wsL_law wsX12_copyOf_r1 := goodIn_q wsL_cs_in [(3, 17), (9, 8), (9, 9), (9, 10), (0, 5), (9, 11), (9, 12), (5, 15), (5, 16), (5, 17), (21, 9), (21, 10), (21, 11), (5, 18), (5, 19), (5, 20), (5, 21), (3, 22), (21, 12), (21, 13), (21, 14), (21, 15), (21, 16), (21, 17)] rfl (by decide +kernel)
set_option maxRecDepth 20000 in
theorem gk_wsX12_copyOf_r2 : GoodIn wsL_law wsX12_copyOf_r2 := goodIn_q wsL_cs_in [(21, 18), (21, 19), (4, 4), (19, 15), (19, 16), (19, 17), (19, 18), (3, 19), (21, 20), (21, 21), (21, 22), (21, 23), (3, 16)] rfl (by decide +kernel)
set_option maxRecDepth 20000 in
theorem ggL_law_X12_copyOf : GoodIn wsL_law wsX12_copyOf := goodIn_app gk_X12_copyOf_0 (goodIn_app (goodIn_app gk_wsX12_copyOf_r1 gk_wsX12_copyOf_r2) gku_X12)
set_option maxRecDepth 20000 in
theorem gL_law_X12_copyOf : GoodIn wsL_law (wsV RL 64 RX12 yX12_copyOf wsX12_copyOf) := goodIn_app (goodIn_q wsL_cs_in [(21, 5), (21, 6), (21, 7), (0, 5)] rfl (by decide +kernel)) ggL_law_X12_copyOf
set_option maxRecDepth 20000 in
theorem gk_X11_strength_0 : GoodIn wsL_law [.code yX11_strength cX11_strength 5 (some .int)] := goodIn_q wsL_cs_in [(22, 3)] rfl (by decide +kernel)
set_option maxRecDepth 20000 in
theorem gk_wsX11_strength_r1 : GoodIn wsL_law wsX11_strength_r1 := goodIn_q wsL_cs_in [(1, 0), (9, 0), (9, 1), (9, 2), (0, 23), (9, 3), (2, 5), (2, 3), (20, 4), (18, 1), (0, 2), (18, 2), (22, 4), (18, 3), (18, 4), (4, 15), (4, 16), (4, 17), (4, 18), (4, 19), (4, 20), (4, 21), (4, 22), (0, 16)] rfl (by decide +kernel)
set_option maxRecDepth 20000 in
theorem gk_wsX11_strength_r2 : GoodIn wsL_law wsX11_strength_r2 := goodIn_q wsL_cs_in [(22, 5), (17, 21), (17, 22), (17, 23), (11, 6), (18, 0), (14, 20), (18, 5), (18, 6), (18, 7), (22, 6), (18, 9), (18, 10), (18, 11)] rfl (by decide +kernel)
set_option maxRecDepth 20000 in
theorem ggL_law_X11_strength : GoodIn wsL_law wsX11_strength := goodIn_app gk_X11_strength_0 (goodIn_app (goodIn_app (goodIn_app (goodIn_app (goodIn_app (goodIn_app (goodIn_app (goodIn_app (goodIn_app (goodIn_app gk_wsX11_strength_r1 gk_wsX11_strength_r2) gku_X11) gku_X4) gku_X0) gku_X1) gku_X2) gku_X3) gku_X5) gku_X8) gku_X10)
set_option maxRecDepth 20000 in
theorem gL_law_X11_strength : GoodIn wsL_law (wsV RL 65 RX11 yX11_strength wsX11_strength) := goodIn_app (goodIn_q wsL_cs_in [(22, 0), (22, 1), (22, 2), (0, 2)] rfl (by decide +kernel)) ggL_law_X11_strength
set_option maxRecDepth 20000 in
theorem gk_X12_strength_0 : GoodIn wsL_law [.code yX12_strength cX12_strength 4 (some .int)] := goodIn_q wsL_cs_in [(22, 10)] rfl (by decide +kernel)
set_option maxRecDepth 20000 in
theorem gk_wsX12_strength_r1 : GoodIn wsL_law wsX12_strength_r1 := goodIn_q wsL_cs_in [(9, 8), (9, 9), (9, 10), (0, 5), (9, 11), (9, 12), (5, 15), (5, 16), (5, 17), (21, 9), (21, 10), (21, 11), (22, 11), (22, 12), (22, 13), (19, 15), (19, 16), (19, 17), (19, 18), (3, 19), (5, 18), (5, 19), (5, 20), (5, 21)] rfl (by decide +kernel)
set_option maxRecDepth 20000 in
theorem gk_wsX12_strength_r2 : GoodIn wsL_law wsX12_strength_r2 := goodIn_q wsL_cs_in [(3, 22)] rfl (by decide +kernel)
set_option maxRecDepth 20000 in
theorem ggL_law_X12_strength : GoodIn wsL_law wsX12_strength := goodIn_app gk_X12_strength_0 (goodIn_app (goodIn_app gk_wsX12_strength_r1 gk_wsX12_strength_r2) gku_X12)
set_option maxRecDepth 20000 in
theorem gL_law_X12_strength : GoodIn wsL_law (wsV RL 68 RX12 yX12_strength wsX12_strength) := goodIn_app (goodIn_q wsL_cs_in [(22, 7), (22, 8), (22, 9), (0, 5)] rfl (by decide +kernel)) ggL_law_X12_strength
set_option maxRecDepth 20000 in
theorem gk_X11_drift_0 : GoodIn wsL_law [.code yX11_drift cX11_drift 4 (some .int)] := goodIn_q wsL_cs_in [(22, 17)] rfl (by decide +kernel)
set_option maxRecDepth 20000 in
theorem gk_X11_drift_l1 : GoodIn wsL_law [.fieldLink RX11 31 "CarbonCopies" "truth" "LCarbonCopies$Land;", .fieldLink RX11 193 "CarbonCopies$Person" "drifts" "[I", .methodLink RX11 126 yX4_personAt, .instanceMethod yX4_personAt, .selects RX4 yX4_personAt yX4_personAt, .initialized RX4, .code yX4_personAt cX4_personAt 2 (some (.object "CarbonCopies$Person")), .fieldLink RX4 21 "CarbonCopies$Land" "count" "I", .fieldLink RX4 11 "CarbonCopies$Land" "persons" "[LCarbonCopies$Person;", .methodLink RX11 171 yX11_isCopy, .static yX11_isCopy, .initialized RX11, .code yX11_isCopy cX11_isCopy 1 (some .boolean), .methodLink RX11 190 yX11_refuseLess, .instanceMethod yX11_refuseLess, .selects RX11 yX11_refuseLess yX11_refuseLess, .code yX11_refuseLess cX11_refuseLess 3 (some .int), .fieldLink RX11 15 "CarbonCopies" "refusals" "[I"] := goodIn_q wsL_cs_in [(1, 0), (22, 18), (9, 0), (9, 1), (9, 2), (0, 23), (9, 3), (2, 5), (2, 3), (20, 4), (18, 1), (0, 2), (18, 2), (4, 19), (4, 20), (4, 21), (4, 22), (0, 16)] rfl (by decide +kernel)
set_option maxRecDepth 20000 in
theorem ggL_law_X11_drift : GoodIn wsL_law wsX11_drift := goodIn_app gk_X11_drift_0 (goodIn_app (goodIn_app (goodIn_app (goodIn_app (goodIn_app (goodIn_app (goodIn_app (goodIn_app (goodIn_app gk_X11_drift_l1 gku_X11) gku_X0) gku_X1) gku_X2) gku_X3) gku_X5) gku_X8) gku_X10) gku_X4)
set_option maxRecDepth 20000 in
theorem gL_law_X11_drift : GoodIn wsL_law (wsV RL 69 RX11 yX11_drift wsX11_drift) := goodIn_app (goodIn_q wsL_cs_in [(22, 14), (22, 15), (22, 16), (0, 2)] rfl (by decide +kernel)) ggL_law_X11_drift
set_option maxRecDepth 20000 in
theorem gk_X12_drift_0 : GoodIn wsL_law [.code yX12_drift cX12_drift 3 (some .int)] := goodIn_q wsL_cs_in [(22, 22)] rfl (by decide +kernel)
set_option maxRecDepth 20000 in
theorem gk_X12_drift_l1 : GoodIn wsL_law [.fieldLink RX12 35 "CarbonCopiesModel" "drift" "[I", .methodLink RX12 96 yX12_isPerson, .instanceMethod yX12_isPerson, .selects RX12 yX12_isPerson yX12_isPerson, .initialized RX12, .code yX12_isPerson cX12_isPerson 2 (some .boolean), .fieldLink RX12 79 "CarbonCopiesModel" "persons" "I", .methodLink RX12 82 yX12_within, .static yX12_within, .code yX12_within cX12_within 3 (some .boolean), .methodLink RX12 86 yX12_isCopy, .static yX12_isCopy, .code yX12_isCopy cX12_isCopy 1 (some .boolean), .methodLink RX12 75 yX12_no, .instanceMethod yX12_no, .selects RX12 yX12_no yX12_no, .code yX12_no cX12_no 2 (some .int), .fieldLink RX12 47 "CarbonCopiesModel" "refusals" "[I"] := goodIn_q wsL_cs_in [(3, 18), (9, 8), (9, 9), (9, 10), (0, 5), (9, 11), (9, 12), (5, 15), (5, 16), (5, 17), (21, 9), (21, 10), (21, 11), (5, 18), (5, 19), (5, 20), (5, 21), (3, 22)] rfl (by decide +kernel)
set_option maxRecDepth 20000 in
theorem ggL_law_X12_drift : GoodIn wsL_law wsX12_drift := goodIn_app gk_X12_drift_0 (goodIn_app gk_X12_drift_l1 gku_X12)
set_option maxRecDepth 20000 in
theorem gL_law_X12_drift : GoodIn wsL_law (wsV RL 72 RX12 yX12_drift wsX12_drift) := goodIn_app (goodIn_q wsL_cs_in [(22, 19), (22, 20), (22, 21), (0, 5)] rfl (by decide +kernel)) ggL_law_X12_drift
set_option maxRecDepth 20000 in
theorem gk_X11_loss_0 : GoodIn wsL_law [.code yX11_loss cX11_loss 4 (some .int)] := goodIn_q wsL_cs_in [(23, 2)] rfl (by decide +kernel)
set_option maxRecDepth 20000 in
theorem gk_wsX11_loss_r1 : GoodIn wsL_law wsX11_loss_r1 := goodIn_q wsL_cs_in [(1, 0), (9, 0), (9, 1), (9, 2), (0, 23), (9, 3), (2, 5), (2, 3), (4, 15), (4, 16), (4, 17), (0, 2), (4, 18), (4, 19), (4, 20), (4, 21), (4, 22), (0, 16), (10, 12), (10, 13), (10, 14), (10, 15), (10, 16), (10, 17)] rfl (by decide +kernel)
set_option maxRecDepth 20000 in
theorem gk_wsX11_loss_r2 : GoodIn wsL_law wsX11_loss_r2 := goodIn_q wsL_cs_in [(10, 18), (10, 19), (10, 20), (10, 21), (10, 22), (10, 23), (11, 0), (11, 1), (11, 2), (11, 3), (11, 4), (11, 5), (11, 6), (11, 7), (11, 8), (11, 9), (11, 10), (11, 11), (11, 12), (11, 13), (11, 14), (11, 15), (11, 16), (11, 17)] rfl (by decide +kernel)
set_option maxRecDepth 20000 in
theorem gk_wsX11_loss_r3 : GoodIn wsL_law wsX11_loss_r3 := goodIn_q wsL_cs_in [(11, 18), (11, 19), (11, 20), (11, 21), (11, 22), (11, 23), (12, 0), (12, 1), (12, 2), (12, 3), (12, 4), (12, 5), (12, 6), (12, 7), (12, 8), (12, 9), (12, 10), (12, 11), (12, 12), (12, 13), (12, 14), (12, 15)] rfl (by decide +kernel)
set_option maxRecDepth 20000 in
theorem ggL_law_X11_loss : GoodIn wsL_law wsX11_loss := goodIn_app gk_X11_loss_0 (goodIn_app (goodIn_app (goodIn_app (goodIn_app (goodIn_app (goodIn_app (goodIn_app (goodIn_app (goodIn_app (goodIn_app gk_wsX11_loss_r1 (goodIn_app gk_wsX11_loss_r2 gk_wsX11_loss_r3)) gku_X11) gku_X4) gku_X0) gku_X1) gku_X2) gku_X3) gku_X5) gku_X8) gku_X10)
set_option maxRecDepth 20000 in
theorem gL_law_X11_loss : GoodIn wsL_law (wsV RL 73 RX11 yX11_loss wsX11_loss) := goodIn_app (goodIn_q wsL_cs_in [(22, 23), (23, 0), (23, 1), (0, 2)] rfl (by decide +kernel)) ggL_law_X11_loss
set_option maxRecDepth 20000 in
theorem gk_X12_loss_0 : GoodIn wsL_law [.code yX12_loss cX12_loss 3 (some .int)] := goodIn_q wsL_cs_in [(23, 6)] rfl (by decide +kernel)
set_option maxRecDepth 20000 in
theorem gk_X12_loss_l1 : GoodIn wsL_law [.methodLink RX12 96 yX12_isPerson, .instanceMethod yX12_isPerson, .selects RX12 yX12_isPerson yX12_isPerson, .initialized RX12, .code yX12_isPerson cX12_isPerson 2 (some .boolean), .fieldLink RX12 79 "CarbonCopiesModel" "persons" "I", .methodLink RX12 82 yX12_within, .static yX12_within, .code yX12_within cX12_within 3 (some .boolean), .methodLink RX12 75 yX12_no, .instanceMethod yX12_no, .selects RX12 yX12_no yX12_no, .code yX12_no cX12_no 2 (some .int), .fieldLink RX12 47 "CarbonCopiesModel" "refusals" "[I", .methodLink RX12 106 yX12_lossAt, .instanceMethod yX12_lossAt, .selects RX12 yX12_lossAt yX12_lossAt, .code yX12_lossAt cX12_lossAt 3 (some .int), .fieldLink RX12 20 "CarbonCopiesModel" "kind" "[I", .fieldLink RX12 26 "CarbonCopiesModel" "thick" "[I", .fieldLink RX12 23 "CarbonCopiesModel" "a" "[I"] := goodIn_q wsL_cs_in [(9, 8), (9, 9), (9, 10), (0, 5), (9, 11), (9, 12), (5, 15), (5, 16), (5, 17), (5, 18), (5, 19), (5, 20), (5, 21), (3, 22), (13, 2), (13, 3), (13, 4), (13, 5), (3, 13), (3, 15), (3, 14)] rfl (by decide +kernel)
set_option maxRecDepth 20000 in
theorem ggL_law_X12_loss : GoodIn wsL_law wsX12_loss := goodIn_app gk_X12_loss_0 (goodIn_app gk_X12_loss_l1 gku_X12)
set_option maxRecDepth 20000 in
theorem gL_law_X12_loss : GoodIn wsL_law (wsV RL 76 RX12 yX12_loss wsX12_loss) := goodIn_app (goodIn_q wsL_cs_in [(23, 3), (23, 4), (23, 5), (0, 5)] rfl (by decide +kernel)) ggL_law_X12_loss
set_option maxRecDepth 20000 in
theorem gk_X11_land_0 : GoodIn wsL_law [.code yX11_land cX11_land 4 (some .int)] := goodIn_q wsL_cs_in [(23, 10)] rfl (by decide +kernel)
set_option maxRecDepth 20000 in
theorem gk_wsX11_land_r1 : GoodIn wsL_law wsX11_land_r1 := goodIn_q wsL_cs_in [(1, 1), (1, 0), (1, 6), (23, 11), (1, 14), (4, 11), (4, 12), (4, 13), (0, 2), (4, 14), (0, 14), (6, 2), (6, 3), (6, 4), (1, 16), (6, 5), (3, 4), (6, 6), (6, 7), (6, 8), (6, 9), (6, 10), (6, 11), (6, 12)] rfl (by decide +kernel)
set_option maxRecDepth 20000 in
theorem gk_wsX11_land_r2 : GoodIn wsL_law wsX11_land_r2 := goodIn_q wsL_cs_in [(4, 15), (4, 16), (4, 17), (4, 18), (4, 19), (4, 20), (4, 21), (4, 22), (0, 16), (23, 12), (23, 13), (23, 14), (0, 23), (23, 15), (2, 6), (2, 7), (2, 5), (13, 23), (23, 16), (9, 1), (9, 2), (9, 3), (2, 3), (13, 19)] rfl (by decide +kernel)
set_option maxRecDepth 20000 in
theorem gk_wsX11_land_r3 : GoodIn wsL_law wsX11_land_r3 := goodIn_q wsL_cs_in [(13, 20), (13, 21), (13, 22), (14, 0), (14, 1), (11, 19), (2, 8), (14, 2), (14, 3), (12, 1), (14, 4), (14, 5), (12, 11), (14, 6), (14, 7), (11, 1), (14, 8), (14, 9), (10, 17), (14, 10), (14, 11), (11, 11), (2, 2), (14, 12)] rfl (by decide +kernel)
set_option maxRecDepth 20000 in
theorem gk_wsX11_land_r4 : GoodIn wsL_law wsX11_land_r4 := goodIn_q wsL_cs_in [(11, 6), (14, 13), (14, 14), (14, 15), (14, 16), (14, 17), (14, 18), (14, 19), (0, 11), (0, 12), (0, 15), (14, 20), (14, 21), (14, 22), (14, 23), (11, 8), (15, 0), (15, 1), (15, 2), (15, 3), (15, 4), (15, 5), (15, 6), (15, 7)] rfl (by decide +kernel)
set_option maxRecDepth 20000 in
theorem gk_wsX11_land_r5 : GoodIn wsL_law wsX11_land_r5 := goodIn_q wsL_cs_in [(15, 8), (15, 9), (15, 10), (15, 11), (15, 12), (15, 13), (15, 14), (15, 15), (15, 16), (15, 17), (15, 18), (15, 19), (15, 20), (15, 21), (15, 22), (15, 23), (16, 0), (23, 17), (23, 18), (23, 19), (23, 20), (23, 21), (23, 22), (7, 17)] rfl (by decide +kernel)
set_option maxRecDepth 20000 in
theorem gk_wsX11_land_r6 : GoodIn wsL_law wsX11_land_r6 := goodIn_q wsL_cs_in [(7, 18), (7, 19), (23, 23), (24, 0), (24, 1), (24, 2), (24, 3), (24, 4), (24, 5), (24, 6), (24, 7), (24, 8), (1, 5), (24, 9), (24, 10), (24, 11), (5, 4), (5, 5), (5, 6), (2, 14), (2, 13), (2, 15), (2, 16), (24, 12)] rfl (by decide +kernel)
set_option maxRecDepth 20000 in
theorem gk_wsX11_land_r7 : GoodIn wsL_law wsX11_land_r7 := goodIn_q wsL_cs_in [(24, 13), (24, 14), (24, 15), (24, 16), (8, 13), (8, 14), (8, 15), (3, 3), (6, 22), (6, 14), (6, 15), (6, 16), (3, 5), (6, 17), (24, 17), (24, 18), (24, 19), (24, 20), (24, 21), (24, 22), (24, 23), (25, 0), (25, 1), (25, 2)] rfl (by decide +kernel)
set_option maxRecDepth 20000 in
theorem gk_wsX11_land_r8 : GoodIn wsL_law wsX11_land_r8 := goodIn_q wsL_cs_in [(25, 3), (25, 4), (2, 18), (2, 22), (25, 5), (2, 19), (2, 17), (2, 20), (2, 21), (25, 6), (25, 7), (25, 8), (25, 9), (25, 10), (25, 11), (25, 12), (25, 13), (25, 14), (25, 15), (25, 16), (25, 17), (25, 18), (25, 19), (25, 20)] rfl (by decide +kernel)
set_option maxRecDepth 20000 in
theorem gk_wsX11_land_r9 : GoodIn wsL_law wsX11_land_r9 := goodIn_q wsL_cs_in [(25, 21), (25, 22), (25, 23), (26, 0), (26, 1), (26, 2), (26, 3), (26, 4), (26, 5), (26, 6), (26, 7), (26, 8), (26, 9), (26, 10), (26, 11), (26, 12), (26, 13), (26, 14), (26, 15), (26, 16), (26, 17), (26, 18), (26, 19), (26, 20)] rfl (by decide +kernel)
set_option maxRecDepth 20000 in
theorem gk_wsX11_land_r10 : GoodIn wsL_law wsX11_land_r10 := goodIn_q wsL_cs_in [(26, 21), (26, 22), (26, 23), (27, 0), (27, 1), (27, 2), (27, 3), (27, 4), (27, 5), (27, 6), (27, 7), (27, 8), (27, 9), (27, 10), (27, 11), (27, 12), (27, 13), (27, 14), (27, 15), (27, 16), (27, 17), (27, 18), (27, 19), (27, 20)] rfl (by decide +kernel)
set_option maxRecDepth 20000 in
theorem gk_wsX11_land_r11 : GoodIn wsL_law wsX11_land_r11 := goodIn_q wsL_cs_in [(27, 21), (27, 22), (27, 23), (28, 0), (28, 1), (28, 2), (28, 3), (28, 4), (28, 5), (28, 6), (28, 7), (28, 8), (28, 9), (28, 10), (28, 11), (28, 12), (28, 13), (13, 11), (13, 12), (13, 13), (28, 14), (28, 15), (28, 16), (28, 17)] rfl (by decide +kernel)
set_option maxRecDepth 20000 in
theorem gk_wsX11_land_r12 : GoodIn wsL_law wsX11_land_r12 := goodIn_q wsL_cs_in [(28, 18), (28, 19), (28, 20), (28, 21), (28, 22), (28, 23), (29, 0), (29, 1), (29, 2), (29, 3), (29, 4), (29, 5), (29, 6), (29, 7), (13, 15), (13, 16), (13, 17), (13, 18), (16, 1), (16, 2), (16, 3), (16, 4), (16, 5), (16, 6)] rfl (by decide +kernel)
set_option maxRecDepth 20000 in
theorem gk_wsX11_land_r13 : GoodIn wsL_law wsX11_land_r13 := goodIn_q wsL_cs_in [(16, 7), (5, 9), (16, 8), (16, 9), (16, 10), (16, 11), (16, 12), (16, 13), (16, 14), (16, 15), (29, 8), (29, 9), (29, 10), (29, 11), (29, 12), (29, 13), (29, 14), (29, 15), (29, 16), (18, 3), (18, 4), (29, 17), (29, 18), (29, 19)] rfl (by decide +kernel)
set_option maxRecDepth 20000 in
theorem gk_wsX11_land_r14 : GoodIn wsL_law wsX11_land_r14 := goodIn_q wsL_cs_in [(29, 20), (29, 21), (29, 22), (10, 13), (10, 14), (10, 15), (10, 16), (10, 18), (10, 19), (10, 20), (10, 21), (10, 22), (10, 23), (11, 0), (11, 2), (11, 3), (11, 4), (11, 5), (11, 7), (11, 9), (11, 10), (11, 12), (11, 13), (11, 14)] rfl (by decide +kernel)
set_option maxRecDepth 20000 in
theorem gk_wsX11_land_r15 : GoodIn wsL_law wsX11_land_r15 := goodIn_q wsL_cs_in [(11, 15), (11, 16), (11, 17), (11, 18), (11, 20), (11, 21), (11, 22), (11, 23), (12, 0), (12, 2), (12, 3), (12, 4), (12, 5), (29, 23), (12, 7), (12, 8), (12, 9), (12, 10), (12, 12), (12, 13), (12, 14), (12, 15), (30, 0), (30, 1)] rfl (by decide +kernel)
set_option maxRecDepth 20000 in
theorem gk_wsX11_land_r16 : GoodIn wsL_law wsX11_land_r16 := goodIn_q wsL_cs_in [(30, 2), (30, 3), (30, 4), (30, 5), (30, 6), (30, 7), (30, 8), (30, 9), (30, 10), (30, 11), (30, 12), (30, 13), (30, 14), (30, 15), (30, 16), (30, 17), (30, 18), (30, 19), (30, 20), (30, 21), (30, 22), (30, 23), (31, 0), (31, 1)] rfl (by decide +kernel)
set_option maxRecDepth 20000 in
theorem gk_wsX11_land_r17 : GoodIn wsL_law wsX11_land_r17 := goodIn_q wsL_cs_in [(31, 2), (31, 3), (31, 4), (31, 5), (31, 6), (31, 7), (31, 8), (31, 9), (18, 1), (18, 2), (31, 10), (31, 11), (31, 12), (31, 13), (31, 14), (31, 15), (31, 16)] rfl (by decide +kernel)
set_option maxRecDepth 20000 in
theorem ggL_law_X11_land : GoodIn wsL_law wsX11_land := goodIn_app gk_X11_land_0 (goodIn_app (goodIn_app (goodIn_app (goodIn_app (goodIn_app (goodIn_app (goodIn_app (goodIn_app (goodIn_app (goodIn_app (goodIn_app (goodIn_app gk_wsX11_land_r1 (goodIn_app gk_wsX11_land_r2 (goodIn_app gk_wsX11_land_r3 (goodIn_app gk_wsX11_land_r4 (goodIn_app gk_wsX11_land_r5 (goodIn_app gk_wsX11_land_r6 (goodIn_app gk_wsX11_land_r7 (goodIn_app gk_wsX11_land_r8 (goodIn_app gk_wsX11_land_r9 (goodIn_app gk_wsX11_land_r10 (goodIn_app gk_wsX11_land_r11 (goodIn_app gk_wsX11_land_r12 (goodIn_app gk_wsX11_land_r13 (goodIn_app gk_wsX11_land_r14 (goodIn_app gk_wsX11_land_r15 (goodIn_app gk_wsX11_land_r16 gk_wsX11_land_r17)))))))))))))))) gku_X11) gku_X6) gku_X7) gku_X4) gku_X0) gku_X1) gku_X2) gku_X3) gku_X5) gku_X8) gku_X10)
set_option maxRecDepth 20000 in
theorem gL_law_X11_land : GoodIn wsL_law (wsV RL 77 RX11 yX11_land wsX11_land) := goodIn_app (goodIn_q wsL_cs_in [(23, 7), (23, 8), (23, 9), (0, 2)] rfl (by decide +kernel)) ggL_law_X11_land
set_option maxRecDepth 20000 in
theorem gk_X12_land_0 : GoodIn wsL_law [.code yX12_land cX12_land 5 (some .int)] := goodIn_q wsL_cs_in [(31, 20)] rfl (by decide +kernel)
set_option maxRecDepth 20000 in
theorem gk_wsX12_land_r1 : GoodIn wsL_law wsX12_land_r1 := goodIn_q wsL_cs_in [(4, 0), (31, 21), (31, 22), (3, 11), (4, 6), (7, 3), (7, 4), (7, 5), (0, 5), (7, 6), (3, 10), (5, 15), (5, 16), (5, 17), (7, 7), (7, 8), (7, 9), (7, 10), (5, 18), (5, 19), (5, 20), (5, 21), (3, 22), (31, 23)] rfl (by decide +kernel)
set_option maxRecDepth 20000 in
theorem gk_wsX12_land_r2 : GoodIn wsL_law wsX12_land_r2 := goodIn_q wsL_cs_in [(32, 0), (32, 1), (32, 2), (3, 13), (3, 14), (3, 15), (3, 16), (3, 17), (3, 18), (3, 19), (9, 12), (4, 4), (4, 5), (32, 3), (32, 4), (32, 5), (32, 6), (3, 20), (32, 7), (32, 8), (32, 9), (32, 10), (3, 12), (32, 11)] rfl (by decide +kernel)
set_option maxRecDepth 20000 in
theorem gk_wsX12_land_r3 : GoodIn wsL_law wsX12_land_r3 := goodIn_q wsL_cs_in [(32, 12), (32, 13), (32, 14), (32, 15), (32, 16), (32, 17), (32, 18), (32, 19), (32, 20), (32, 21), (32, 22), (32, 23), (25, 11), (25, 12), (25, 13), (25, 14), (25, 15), (25, 16), (25, 17), (25, 18), (25, 19), (25, 20), (25, 21), (33, 0)] rfl (by decide +kernel)
set_option maxRecDepth 20000 in
theorem gk_wsX12_land_r4 : GoodIn wsL_law wsX12_land_r4 := goodIn_q wsL_cs_in [(25, 23), (26, 0), (26, 1), (26, 2), (26, 3), (26, 4), (26, 5), (26, 6), (26, 7), (26, 8), (26, 9), (26, 10), (26, 11), (26, 12), (26, 13), (26, 14), (26, 15), (26, 16), (26, 17), (26, 18), (26, 19), (26, 20), (26, 21), (26, 22)] rfl (by decide +kernel)
set_option maxRecDepth 20000 in
theorem gk_wsX12_land_r5 : GoodIn wsL_law wsX12_land_r5 := goodIn_q wsL_cs_in [(26, 23), (27, 0), (27, 1), (27, 2), (27, 3), (27, 4), (27, 5), (27, 6), (27, 7), (27, 8), (27, 9), (27, 10), (33, 1), (33, 2), (33, 3), (33, 4), (33, 5), (33, 6), (33, 7), (33, 8), (16, 20), (16, 21), (16, 22), (16, 23)] rfl (by decide +kernel)
set_option maxRecDepth 20000 in
theorem gk_wsX12_land_r6 : GoodIn wsL_law wsX12_land_r6 := goodIn_q wsL_cs_in [(33, 9), (33, 10), (33, 11), (33, 12), (33, 13), (33, 14), (33, 15), (33, 16), (4, 1), (33, 17), (5, 4), (5, 5), (5, 6), (33, 18), (29, 14), (29, 15), (33, 19), (33, 20), (33, 21), (33, 22), (13, 2), (13, 3), (13, 4), (13, 5)] rfl (by decide +kernel)
set_option maxRecDepth 20000 in
theorem gk_wsX12_land_r7 : GoodIn wsL_law wsX12_land_r7 := goodIn_q wsL_cs_in [(19, 15), (19, 16), (19, 17), (19, 18), (21, 20), (21, 21), (21, 22), (21, 23), (21, 9), (21, 10), (21, 11), (33, 23), (34, 0), (34, 1), (34, 2), (34, 3), (34, 4), (34, 5), (34, 6)] rfl (by decide +kernel)
set_option maxRecDepth 20000 in
theorem ggL_law_X12_land : GoodIn wsL_law wsX12_land := goodIn_app gk_X12_land_0 (goodIn_app (goodIn_app gk_wsX12_land_r1 (goodIn_app gk_wsX12_land_r2 (goodIn_app gk_wsX12_land_r3 (goodIn_app gk_wsX12_land_r4 (goodIn_app gk_wsX12_land_r5 (goodIn_app gk_wsX12_land_r6 gk_wsX12_land_r7)))))) gku_X12)
set_option maxRecDepth 20000 in
theorem gL_law_X12_land : GoodIn wsL_law (wsV RL 80 RX12 yX12_land wsX12_land) := goodIn_app (goodIn_q wsL_cs_in [(31, 17), (31, 18), (31, 19), (0, 5)] rfl (by decide +kernel)) ggL_law_X12_land
set_option maxRecDepth 20000 in
theorem gk_X11_fault_0 : GoodIn wsL_law [.code yX11_fault cX11_fault 1 (some .int)] := goodIn_q wsL_cs_in [(34, 10)] rfl (by decide +kernel)
set_option maxRecDepth 20000 in
theorem gk_X11_fault_l1 : GoodIn wsL_law [.fieldLink RX11 71 "CarbonCopies" "faultPlace" "I"] := goodIn_q wsL_cs_in [(1, 14)] rfl (by decide +kernel)
set_option maxRecDepth 20000 in
theorem ggL_law_X11_fault : GoodIn wsL_law wsX11_fault := goodIn_app gk_X11_fault_0 (goodIn_app gk_X11_fault_l1 gku_X11)
set_option maxRecDepth 20000 in
theorem gL_law_X11_fault : GoodIn wsL_law (wsV RL 81 RX11 yX11_fault wsX11_fault) := goodIn_app (goodIn_q wsL_cs_in [(34, 7), (34, 8), (34, 9), (0, 2)] rfl (by decide +kernel)) ggL_law_X11_fault
set_option maxRecDepth 20000 in
theorem gk_X12_fault_0 : GoodIn wsL_law [.code yX12_fault cX12_fault 1 (some .int)] := goodIn_q wsL_cs_in [(34, 14)] rfl (by decide +kernel)
set_option maxRecDepth 20000 in
theorem gk_X12_fault_l1 : GoodIn wsL_law [.fieldLink RX12 72 "CarbonCopiesModel" "fault" "I"] := goodIn_q wsL_cs_in [(4, 6)] rfl (by decide +kernel)
set_option maxRecDepth 20000 in
theorem ggL_law_X12_fault : GoodIn wsL_law wsX12_fault := goodIn_app gk_X12_fault_0 (goodIn_app gk_X12_fault_l1 gku_X12)
set_option maxRecDepth 20000 in
theorem gL_law_X12_fault : GoodIn wsL_law (wsV RL 85 RX12 yX12_fault wsX12_fault) := goodIn_app (goodIn_q wsL_cs_in [(34, 11), (34, 12), (34, 13), (0, 5)] rfl (by decide +kernel)) ggL_law_X12_fault
set_option maxRecDepth 20000 in
theorem gk_X11_have_0 : GoodIn wsL_law [.code yX11_have cX11_have 4 (some .int)] := goodIn_q wsL_cs_in [(34, 18)] rfl (by decide +kernel)
set_option maxRecDepth 20000 in
theorem gk_wsX11_have_r1 : GoodIn wsL_law wsX11_have_r1 := goodIn_q wsL_cs_in [(1, 0), (17, 4), (9, 0), (9, 1), (9, 2), (0, 23), (9, 3), (2, 5), (2, 3), (4, 15), (4, 16), (4, 17), (0, 2), (4, 18), (4, 19), (4, 20), (4, 21), (4, 22), (0, 16), (22, 4), (18, 3), (18, 4), (34, 19), (34, 20)] rfl (by decide +kernel)
set_option maxRecDepth 20000 in
theorem gk_wsX11_have_r2 : GoodIn wsL_law wsX11_have_r2 := goodIn_q wsL_cs_in [(34, 21), (34, 22), (11, 6), (34, 23), (15, 0), (17, 20), (17, 21), (17, 22), (17, 23), (18, 0), (14, 20), (18, 1), (18, 2), (18, 5), (18, 6), (18, 7), (18, 8), (18, 9), (18, 10), (18, 11), (35, 0), (35, 1), (35, 2), (35, 3)] rfl (by decide +kernel)
set_option maxRecDepth 20000 in
theorem gk_wsX11_have_r3 : GoodIn wsL_law wsX11_have_r3 := goodIn_q wsL_cs_in [(35, 4), (35, 5), (35, 6)] rfl (by decide +kernel)
set_option maxRecDepth 20000 in
theorem ggL_law_X11_have : GoodIn wsL_law wsX11_have := goodIn_app gk_X11_have_0 (goodIn_app (goodIn_app (goodIn_app (goodIn_app (goodIn_app (goodIn_app (goodIn_app (goodIn_app (goodIn_app (goodIn_app gk_wsX11_have_r1 (goodIn_app gk_wsX11_have_r2 gk_wsX11_have_r3)) gku_X11) gku_X4) gku_X0) gku_X1) gku_X2) gku_X3) gku_X5) gku_X8) gku_X10)
set_option maxRecDepth 20000 in
theorem gL_law_X11_have : GoodIn wsL_law (wsV RL 86 RX11 yX11_have wsX11_have) := goodIn_app (goodIn_q wsL_cs_in [(34, 15), (34, 16), (34, 17), (0, 2)] rfl (by decide +kernel)) ggL_law_X11_have
set_option maxRecDepth 20000 in
theorem gk_X12_have_0 : GoodIn wsL_law [.code yX12_have cX12_have 3 (some .int)] := goodIn_q wsL_cs_in [(35, 10)] rfl (by decide +kernel)
set_option maxRecDepth 20000 in
theorem gk_wsX12_have_r1 : GoodIn wsL_law wsX12_have_r1 := goodIn_q wsL_cs_in [(9, 8), (9, 9), (9, 10), (0, 5), (9, 11), (9, 12), (5, 15), (5, 16), (5, 17), (5, 18), (5, 19), (5, 20), (5, 21), (3, 22), (22, 11), (22, 12), (22, 13), (35, 11), (35, 12), (35, 13), (35, 14), (3, 16), (21, 16), (21, 17)] rfl (by decide +kernel)
set_option maxRecDepth 20000 in
theorem gk_wsX12_have_r2 : GoodIn wsL_law wsX12_have_r2 := goodIn_q wsL_cs_in [(21, 18), (21, 19), (4, 4), (19, 15), (19, 16), (19, 17), (19, 18), (3, 19)] rfl (by decide +kernel)
set_option maxRecDepth 20000 in
theorem ggL_law_X12_have : GoodIn wsL_law wsX12_have := goodIn_app gk_X12_have_0 (goodIn_app (goodIn_app gk_wsX12_have_r1 gk_wsX12_have_r2) gku_X12)
set_option maxRecDepth 20000 in
theorem gL_law_X12_have : GoodIn wsL_law (wsV RL 89 RX12 yX12_have wsX12_have) := goodIn_app (goodIn_q wsL_cs_in [(35, 7), (35, 8), (35, 9), (0, 5)] rfl (by decide +kernel)) ggL_law_X12_have
set_option maxRecDepth 20000 in
theorem gk_X11_all_0 : GoodIn wsL_law [.code yX11_all cX11_all 3 (some .int)] := goodIn_q wsL_cs_in [(35, 18)] rfl (by decide +kernel)
set_option maxRecDepth 20000 in
theorem gk_wsX11_all_r1 : GoodIn wsL_law wsX11_all_r1 := goodIn_q wsL_cs_in [(1, 0), (17, 4), (9, 0), (9, 1), (9, 2), (0, 23), (9, 3), (2, 5), (2, 3), (4, 15), (4, 16), (4, 17), (0, 2), (4, 18), (4, 19), (4, 20), (4, 21), (4, 22), (0, 16), (35, 19), (35, 20), (35, 21), (35, 22), (11, 6)] rfl (by decide +kernel)
set_option maxRecDepth 20000 in
theorem gk_wsX11_all_r2 : GoodIn wsL_law wsX11_all_r2 := goodIn_q wsL_cs_in [(35, 23), (15, 0), (36, 0), (20, 6), (20, 7), (20, 8), (20, 9), (17, 20), (17, 21), (17, 22), (17, 23), (18, 0), (14, 20), (18, 1), (18, 2), (18, 3), (18, 4), (18, 5), (18, 6), (18, 7), (18, 8), (18, 9), (18, 10), (18, 11)] rfl (by decide +kernel)
set_option maxRecDepth 20000 in
theorem gk_wsX11_all_r3 : GoodIn wsL_law wsX11_all_r3 := goodIn_q wsL_cs_in [(20, 10), (20, 11), (20, 12), (36, 1), (20, 14), (20, 15), (20, 16), (36, 2), (36, 3), (36, 4), (36, 5), (36, 6), (36, 7), (36, 8)] rfl (by decide +kernel)
set_option maxRecDepth 20000 in
theorem ggL_law_X11_all : GoodIn wsL_law wsX11_all := goodIn_app gk_X11_all_0 (goodIn_app (goodIn_app (goodIn_app (goodIn_app (goodIn_app (goodIn_app (goodIn_app (goodIn_app (goodIn_app (goodIn_app gk_wsX11_all_r1 (goodIn_app gk_wsX11_all_r2 gk_wsX11_all_r3)) gku_X11) gku_X4) gku_X0) gku_X1) gku_X2) gku_X3) gku_X5) gku_X8) gku_X10)
set_option maxRecDepth 20000 in
theorem gL_law_X11_all : GoodIn wsL_law (wsV RL 90 RX11 yX11_all wsX11_all) := goodIn_app (goodIn_q wsL_cs_in [(35, 15), (35, 16), (35, 17), (0, 2)] rfl (by decide +kernel)) ggL_law_X11_all
set_option maxRecDepth 20000 in
theorem gk_X12_all_0 : GoodIn wsL_law [.code yX12_all cX12_all 4 (some .int)] := goodIn_q wsL_cs_in [(36, 12)] rfl (by decide +kernel)
set_option maxRecDepth 20000 in
theorem gk_wsX12_all_r1 : GoodIn wsL_law wsX12_all_r1 := goodIn_q wsL_cs_in [(3, 16), (9, 8), (9, 9), (9, 10), (0, 5), (9, 11), (9, 12), (5, 15), (5, 16), (5, 17), (5, 18), (5, 19), (5, 20), (5, 21), (3, 22), (21, 12), (21, 13), (21, 14), (21, 15), (21, 16), (21, 17), (21, 18), (21, 19), (4, 4)] rfl (by decide +kernel)
set_option maxRecDepth 20000 in
theorem gk_wsX12_all_r2 : GoodIn wsL_law wsX12_all_r2 := goodIn_q wsL_cs_in [(19, 15), (19, 16), (19, 17), (19, 18), (3, 19)] rfl (by decide +kernel)
set_option maxRecDepth 20000 in
theorem ggL_law_X12_all : GoodIn wsL_law wsX12_all := goodIn_app gk_X12_all_0 (goodIn_app (goodIn_app gk_wsX12_all_r1 gk_wsX12_all_r2) gku_X12)
set_option maxRecDepth 20000 in
theorem gL_law_X12_all : GoodIn wsL_law (wsV RL 93 RX12 yX12_all wsX12_all) := goodIn_app (goodIn_q wsL_cs_in [(36, 9), (36, 10), (36, 11), (0, 5)] rfl (by decide +kernel)) ggL_law_X12_all
set_option maxRecDepth 20000 in
theorem gk_X11_force_0 : GoodIn wsL_law [.code yX11_force cX11_force 6 (some .int)] := goodIn_q wsL_cs_in [(36, 16)] rfl (by decide +kernel)
set_option maxRecDepth 20000 in
theorem gk_wsX11_force_r1 : GoodIn wsL_law wsX11_force_r1 := goodIn_q wsL_cs_in [(1, 0), (9, 0), (9, 1), (9, 2), (0, 23), (9, 3), (2, 5), (2, 3), (4, 19), (4, 20), (4, 21), (0, 2), (4, 22), (0, 16), (22, 4), (18, 3), (18, 4), (20, 17), (20, 18), (20, 19), (20, 20), (11, 6), (20, 21), (15, 0)] rfl (by decide +kernel)
set_option maxRecDepth 20000 in
theorem gk_wsX11_force_r2 : GoodIn wsL_law wsX11_force_r2 := goodIn_q wsL_cs_in [(18, 1), (18, 2), (20, 22), (20, 23), (21, 0), (21, 1), (21, 2), (21, 3), (21, 4), (36, 17), (36, 18), (36, 19), (36, 20), (10, 2), (17, 4), (36, 21), (36, 22), (36, 23), (37, 0), (37, 1), (17, 20), (17, 21), (17, 22), (17, 23)] rfl (by decide +kernel)
set_option maxRecDepth 20000 in
theorem gk_wsX11_force_r3 : GoodIn wsL_law wsX11_force_r3 := goodIn_q wsL_cs_in [(18, 0), (14, 20), (18, 5), (18, 6), (18, 7), (18, 8), (18, 9), (18, 10), (18, 11), (29, 17), (29, 18), (29, 19), (29, 20), (29, 21), (29, 13), (29, 14), (5, 5), (29, 15), (29, 22), (10, 13), (10, 14), (10, 15), (10, 16), (10, 17)] rfl (by decide +kernel)
set_option maxRecDepth 20000 in
theorem gk_wsX11_force_r4 : GoodIn wsL_law wsX11_force_r4 := goodIn_q wsL_cs_in [(10, 18), (10, 19), (10, 20), (10, 21), (10, 22), (10, 23), (11, 0), (11, 1), (11, 2), (11, 3), (11, 4), (11, 5), (11, 7), (11, 8), (11, 9), (11, 10), (11, 11), (11, 12), (11, 13), (11, 14), (11, 15), (11, 16), (11, 17), (11, 18)] rfl (by decide +kernel)
set_option maxRecDepth 20000 in
theorem gk_wsX11_force_r5 : GoodIn wsL_law wsX11_force_r5 := goodIn_q wsL_cs_in [(11, 19), (11, 20), (11, 21), (11, 22), (11, 23), (12, 0), (12, 1), (12, 2), (12, 3), (12, 4), (12, 5), (29, 23), (12, 7), (12, 8), (12, 9), (12, 10), (12, 11), (12, 12), (12, 13), (12, 14), (12, 15), (30, 0), (30, 1), (30, 2)] rfl (by decide +kernel)
set_option maxRecDepth 20000 in
theorem gk_wsX11_force_r6 : GoodIn wsL_law wsX11_force_r6 := goodIn_q wsL_cs_in [(30, 3), (30, 4), (30, 5), (30, 6), (37, 2), (37, 3), (37, 4), (37, 5), (37, 6), (37, 7), (37, 8)] rfl (by decide +kernel)
set_option maxRecDepth 20000 in
theorem ggL_law_X11_force : GoodIn wsL_law wsX11_force := goodIn_app gk_X11_force_0 (goodIn_app (goodIn_app (goodIn_app (goodIn_app (goodIn_app (goodIn_app (goodIn_app (goodIn_app (goodIn_app (goodIn_app gk_wsX11_force_r1 (goodIn_app gk_wsX11_force_r2 (goodIn_app gk_wsX11_force_r3 (goodIn_app gk_wsX11_force_r4 (goodIn_app gk_wsX11_force_r5 gk_wsX11_force_r6))))) gku_X11) gku_X4) gku_X0) gku_X1) gku_X2) gku_X3) gku_X5) gku_X8) gku_X10)
set_option maxRecDepth 20000 in
theorem gL_law_X11_force : GoodIn wsL_law (wsV RL 94 RX11 yX11_force wsX11_force) := goodIn_app (goodIn_q wsL_cs_in [(36, 13), (36, 14), (36, 15), (0, 2)] rfl (by decide +kernel)) ggL_law_X11_force
set_option maxRecDepth 20000 in
theorem gk_X12_force_0 : GoodIn wsL_law [.code yX12_force cX12_force 6 (some .int)] := goodIn_q wsL_cs_in [(37, 12)] rfl (by decide +kernel)
set_option maxRecDepth 20000 in
theorem gk_wsX12_force_r1 : GoodIn wsL_law wsX12_force_r1 := goodIn_q wsL_cs_in [(9, 8), (9, 9), (9, 10), (0, 5), (9, 11), (9, 12), (5, 15), (5, 16), (5, 17), (37, 13), (37, 14), (37, 15), (37, 16), (5, 18), (5, 19), (5, 20), (5, 21), (3, 22), (22, 11), (22, 12), (22, 13), (21, 20), (21, 21), (21, 22)] rfl (by decide +kernel)
set_option maxRecDepth 20000 in
theorem gk_wsX12_force_r2 : GoodIn wsL_law wsX12_force_r2 := goodIn_q wsL_cs_in [(21, 23), (3, 16), (21, 9), (21, 10), (21, 11), (37, 17), (37, 18), (37, 19), (37, 20), (4, 1), (33, 17), (5, 4), (5, 5), (5, 6), (4, 4), (33, 19), (33, 20), (33, 21), (33, 22), (33, 18), (29, 14), (29, 15), (13, 2), (13, 3)] rfl (by decide +kernel)
set_option maxRecDepth 20000 in
theorem gk_wsX12_force_r3 : GoodIn wsL_law wsX12_force_r3 := goodIn_q wsL_cs_in [(13, 4), (13, 5), (3, 13), (3, 15), (3, 14), (19, 15), (19, 16), (19, 17), (19, 18), (3, 19)] rfl (by decide +kernel)
set_option maxRecDepth 20000 in
theorem ggL_law_X12_force : GoodIn wsL_law wsX12_force := goodIn_app gk_X12_force_0 (goodIn_app (goodIn_app gk_wsX12_force_r1 (goodIn_app gk_wsX12_force_r2 gk_wsX12_force_r3)) gku_X12)
set_option maxRecDepth 20000 in
theorem gL_law_X12_force : GoodIn wsL_law (wsV RL 98 RX12 yX12_force wsX12_force) := goodIn_app (goodIn_q wsL_cs_in [(37, 9), (37, 10), (37, 11), (0, 5)] rfl (by decide +kernel)) ggL_law_X12_force
set_option maxRecDepth 20000 in
theorem gk_X11_got_0 : GoodIn wsL_law [.code yX11_got cX11_got 5 (some .int)] := goodIn_q wsL_cs_in [(38, 0)] rfl (by decide +kernel)
set_option maxRecDepth 20000 in
theorem gk_wsX11_got_r1 : GoodIn wsL_law wsX11_got_r1 := goodIn_q wsL_cs_in [(1, 0), (9, 0), (9, 1), (9, 2), (0, 23), (9, 3), (2, 5), (2, 3), (4, 15), (4, 16), (4, 17), (0, 2), (4, 18), (4, 19), (4, 20), (4, 21), (4, 22), (0, 16), (20, 17), (20, 18), (20, 19), (20, 20), (11, 6), (20, 21)] rfl (by decide +kernel)
set_option maxRecDepth 20000 in
theorem gk_wsX11_got_r2 : GoodIn wsL_law wsX11_got_r2 := goodIn_q wsL_cs_in [(15, 0), (18, 1), (18, 2), (20, 22), (20, 23), (21, 0), (21, 1), (21, 2), (21, 3), (21, 4), (38, 1), (29, 18), (29, 19), (29, 20), (29, 21), (29, 13), (29, 14), (5, 5), (29, 15), (29, 22), (10, 13), (10, 14), (10, 15), (10, 16)] rfl (by decide +kernel)
set_option maxRecDepth 20000 in
theorem gk_wsX11_got_r3 : GoodIn wsL_law wsX11_got_r3 := goodIn_q wsL_cs_in [(10, 17), (10, 18), (10, 19), (10, 20), (10, 21), (10, 22), (10, 23), (11, 0), (11, 1), (11, 2), (11, 3), (11, 4), (11, 5), (11, 7), (11, 8), (11, 9), (11, 10), (11, 11), (11, 12), (11, 13), (11, 14), (11, 15), (11, 16), (11, 17)] rfl (by decide +kernel)
set_option maxRecDepth 20000 in
theorem gk_wsX11_got_r4 : GoodIn wsL_law wsX11_got_r4 := goodIn_q wsL_cs_in [(11, 18), (11, 19), (11, 20), (11, 21), (11, 22), (11, 23), (12, 0), (12, 1), (12, 2), (12, 3), (12, 4), (12, 5), (29, 23), (12, 7), (12, 8), (12, 9), (12, 10), (12, 11), (12, 12), (12, 13), (12, 14), (12, 15), (30, 0), (30, 1)] rfl (by decide +kernel)
set_option maxRecDepth 20000 in
theorem gk_wsX11_got_r5 : GoodIn wsL_law wsX11_got_r5 := goodIn_q wsL_cs_in [(30, 2), (38, 2), (30, 4), (30, 5), (30, 6)] rfl (by decide +kernel)
set_option maxRecDepth 20000 in
theorem ggL_law_X11_got : GoodIn wsL_law wsX11_got := goodIn_app gk_X11_got_0 (goodIn_app (goodIn_app (goodIn_app (goodIn_app (goodIn_app (goodIn_app (goodIn_app (goodIn_app (goodIn_app (goodIn_app gk_wsX11_got_r1 (goodIn_app gk_wsX11_got_r2 (goodIn_app gk_wsX11_got_r3 (goodIn_app gk_wsX11_got_r4 gk_wsX11_got_r5)))) gku_X11) gku_X4) gku_X0) gku_X1) gku_X2) gku_X3) gku_X5) gku_X8) gku_X10)
set_option maxRecDepth 20000 in
theorem gL_law_X11_got : GoodIn wsL_law (wsV RL 99 RX11 yX11_got wsX11_got) := goodIn_app (goodIn_q wsL_cs_in [(37, 21), (37, 22), (37, 23), (0, 2)] rfl (by decide +kernel)) ggL_law_X11_got
set_option maxRecDepth 20000 in
theorem gk_X12_got_0 : GoodIn wsL_law [.code yX12_got cX12_got 4 (some .int)] := goodIn_q wsL_cs_in [(38, 6)] rfl (by decide +kernel)
set_option maxRecDepth 20000 in
theorem gk_wsX12_got_r1 : GoodIn wsL_law wsX12_got_r1 := goodIn_q wsL_cs_in [(4, 1), (9, 8), (9, 9), (9, 10), (0, 5), (9, 11), (9, 12), (5, 15), (5, 16), (5, 17), (5, 18), (5, 19), (5, 20), (5, 21), (3, 22), (21, 20), (21, 21), (21, 22), (21, 23), (3, 16), (21, 9), (21, 10), (21, 11), (33, 19)] rfl (by decide +kernel)
set_option maxRecDepth 20000 in
theorem gk_wsX12_got_r2 : GoodIn wsL_law wsX12_got_r2 := goodIn_q wsL_cs_in [(33, 20), (33, 21), (33, 22), (33, 18), (29, 14), (5, 5), (29, 15), (13, 2), (13, 3), (13, 4), (13, 5), (3, 13), (3, 15), (3, 14)] rfl (by decide +kernel)
set_option maxRecDepth 20000 in
theorem ggL_law_X12_got : GoodIn wsL_law wsX12_got := goodIn_app gk_X12_got_0 (goodIn_app (goodIn_app gk_wsX12_got_r1 gk_wsX12_got_r2) gku_X12)
set_option maxRecDepth 20000 in
theorem gL_law_X12_got : GoodIn wsL_law (wsV RL 102 RX12 yX12_got wsX12_got) := goodIn_app (goodIn_q wsL_cs_in [(38, 3), (38, 4), (38, 5), (0, 5)] rfl (by decide +kernel)) ggL_law_X12_got
set_option maxRecDepth 20000 in
theorem gk_X11_which_0 : GoodIn wsL_law [.code yX11_which cX11_which 8 (some .int)] := goodIn_q wsL_cs_in [(38, 10)] rfl (by decide +kernel)
set_option maxRecDepth 20000 in
theorem gk_wsX11_which_r1 : GoodIn wsL_law wsX11_which_r1 := goodIn_q wsL_cs_in [(1, 0), (1, 7), (4, 11), (4, 12), (4, 13), (0, 2), (4, 14), (0, 14), (38, 11), (38, 12), (38, 13), (38, 14), (6, 2), (6, 3), (6, 4), (1, 16), (6, 5), (3, 4), (6, 6), (6, 7), (6, 8), (6, 9), (6, 10), (6, 11)] rfl (by decide +kernel)
set_option maxRecDepth 20000 in
theorem gk_wsX11_which_r2 : GoodIn wsL_law wsX11_which_r2 := goodIn_q wsL_cs_in [(6, 12), (4, 15), (4, 16), (4, 17), (4, 18), (4, 19), (4, 20), (4, 21), (4, 22), (0, 16), (38, 15), (38, 16), (38, 17), (0, 23), (38, 18), (2, 5), (23, 16), (9, 1), (9, 2), (9, 3), (2, 3), (38, 19), (20, 18), (20, 19)] rfl (by decide +kernel)
set_option maxRecDepth 20000 in
theorem gk_wsX11_which_r3 : GoodIn wsL_law wsX11_which_r3 := goodIn_q wsL_cs_in [(20, 20), (11, 6), (20, 21), (15, 0), (18, 1), (18, 2), (20, 22), (20, 23), (21, 0), (38, 20), (21, 2), (21, 3), (21, 4), (38, 21), (38, 22), (38, 23), (39, 0), (17, 21), (17, 22), (17, 23), (18, 0), (14, 20), (18, 3), (18, 4)] rfl (by decide +kernel)
set_option maxRecDepth 20000 in
theorem gk_wsX11_which_r4 : GoodIn wsL_law wsX11_which_r4 := goodIn_q wsL_cs_in [(18, 5), (18, 6), (18, 7), (39, 1), (18, 9), (18, 10), (18, 11), (39, 2), (24, 13), (24, 14), (24, 15), (24, 16), (8, 13), (8, 14), (8, 15), (3, 3), (6, 22), (6, 14), (6, 15), (6, 16), (3, 5), (6, 17)] rfl (by decide +kernel)
set_option maxRecDepth 20000 in
theorem ggL_law_X11_which : GoodIn wsL_law wsX11_which := goodIn_app gk_X11_which_0 (goodIn_app (goodIn_app (goodIn_app (goodIn_app (goodIn_app (goodIn_app (goodIn_app (goodIn_app (goodIn_app (goodIn_app (goodIn_app gk_wsX11_which_r1 (goodIn_app gk_wsX11_which_r2 (goodIn_app gk_wsX11_which_r3 gk_wsX11_which_r4))) gku_X11) gku_X7) gku_X4) gku_X0) gku_X1) gku_X2) gku_X3) gku_X5) gku_X8) gku_X10)
set_option maxRecDepth 20000 in
theorem gL_law_X11_which : GoodIn wsL_law (wsV RL 103 RX11 yX11_which wsX11_which) := goodIn_app (goodIn_q wsL_cs_in [(38, 7), (38, 8), (38, 9), (0, 2)] rfl (by decide +kernel)) ggL_law_X11_which
