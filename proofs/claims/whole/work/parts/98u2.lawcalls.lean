set_option maxRecDepth 20000 in
theorem gk_X12_which_0 : GoodIn wsL_law [.code yX12_which cX12_which 10 (some .int)] := goodIn_q wsL_cs_in [(39, 6)] rfl (by decide +kernel)
set_option maxRecDepth 20000 in
theorem gk_wsX12_which_r1 : GoodIn wsL_law wsX12_which_r1 := goodIn_q wsL_cs_in [(9, 12), (39, 7), (39, 8), (39, 9), (0, 5), (39, 10), (3, 11), (7, 3), (7, 4), (7, 5), (7, 6), (3, 10), (5, 15), (5, 16), (5, 17), (7, 7), (7, 8), (7, 9), (7, 10), (5, 18), (5, 19), (5, 20), (5, 21), (3, 22)] rfl (by decide +kernel)
set_option maxRecDepth 20000 in
theorem gk_wsX12_which_r2 : GoodIn wsL_law wsX12_which_r2 := goodIn_q wsL_cs_in [(39, 11), (39, 12), (39, 13), (39, 14), (39, 15), (39, 16), (5, 5), (39, 17), (21, 20), (21, 21), (21, 22), (21, 23), (3, 16), (21, 9), (21, 10), (21, 11), (39, 18), (39, 19), (39, 20), (39, 21), (3, 12), (19, 15), (19, 16), (19, 17)] rfl (by decide +kernel)
set_option maxRecDepth 20000 in
theorem gk_wsX12_which_r3 : GoodIn wsL_law wsX12_which_r3 := goodIn_q wsL_cs_in [(19, 18), (3, 19)] rfl (by decide +kernel)
set_option maxRecDepth 20000 in
theorem ggL_law_X12_which : GoodIn wsL_law wsX12_which := goodIn_app gk_X12_which_0 (goodIn_app (goodIn_app gk_wsX12_which_r1 (goodIn_app gk_wsX12_which_r2 gk_wsX12_which_r3)) gku_X12)
set_option maxRecDepth 20000 in
theorem gL_law_X12_which : GoodIn wsL_law (wsV RL 106 RX12 yX12_which wsX12_which) := goodIn_app (goodIn_q wsL_cs_in [(39, 3), (39, 4), (39, 5), (0, 5)] rfl (by decide +kernel)) ggL_law_X12_which
set_option maxRecDepth 20000 in
theorem gk_X11_next_0 : GoodIn wsL_law [.code yX11_next cX11_next 7 (some .int)] := goodIn_q wsL_cs_in [(40, 1)] rfl (by decide +kernel)
set_option maxRecDepth 20000 in
theorem gk_wsX11_next_r1 : GoodIn wsL_law wsX11_next_r1 := goodIn_q wsL_cs_in [(1, 0), (1, 7), (4, 11), (4, 12), (4, 13), (0, 2), (4, 14), (0, 14), (38, 11), (38, 12), (38, 13), (38, 14), (6, 2), (6, 3), (6, 4), (1, 16), (6, 5), (3, 4), (6, 6), (6, 7), (6, 8), (6, 9), (6, 10), (6, 11)] rfl (by decide +kernel)
set_option maxRecDepth 20000 in
theorem gk_wsX11_next_r2 : GoodIn wsL_law wsX11_next_r2 := goodIn_q wsL_cs_in [(6, 12), (4, 19), (4, 20), (4, 21), (4, 22), (0, 16), (38, 15), (38, 16), (38, 17), (0, 23), (38, 18), (2, 5), (23, 16), (9, 1), (9, 2), (9, 3), (2, 3), (38, 19), (20, 18), (20, 19), (20, 20), (11, 6), (20, 21), (15, 0)] rfl (by decide +kernel)
set_option maxRecDepth 20000 in
theorem gk_wsX11_next_r3 : GoodIn wsL_law wsX11_next_r3 := goodIn_q wsL_cs_in [(18, 1), (18, 2), (20, 22), (20, 23), (21, 0), (38, 20), (21, 2), (21, 3), (21, 4), (38, 21), (38, 22), (38, 23), (39, 0), (17, 21), (17, 22), (17, 23), (18, 0), (14, 20), (18, 3), (18, 4), (18, 5), (18, 6), (18, 7), (39, 1)] rfl (by decide +kernel)
set_option maxRecDepth 20000 in
theorem gk_wsX11_next_r4 : GoodIn wsL_law wsX11_next_r4 := goodIn_q wsL_cs_in [(18, 9), (18, 10), (18, 11), (39, 2), (24, 13), (24, 14), (24, 15), (24, 16), (8, 13), (8, 14), (8, 15), (3, 3), (6, 22), (6, 14), (6, 15), (6, 16), (3, 5), (6, 17), (40, 2), (40, 3), (40, 4), (40, 5), (40, 6), (29, 14)] rfl (by decide +kernel)
set_option maxRecDepth 20000 in
theorem gk_wsX11_next_r5 : GoodIn wsL_law wsX11_next_r5 := goodIn_q wsL_cs_in [(5, 5), (29, 15), (40, 7), (40, 8), (40, 9), (40, 10), (17, 4), (9, 0), (20, 4), (20, 5), (20, 6), (20, 7), (20, 8), (20, 9), (17, 20), (18, 8), (20, 10), (20, 11), (20, 12), (20, 13), (20, 14), (20, 15), (20, 16)] rfl (by decide +kernel)
set_option maxRecDepth 20000 in
theorem ggL_law_X11_next : GoodIn wsL_law wsX11_next := goodIn_app gk_X11_next_0 (goodIn_app (goodIn_app (goodIn_app (goodIn_app (goodIn_app (goodIn_app (goodIn_app (goodIn_app (goodIn_app (goodIn_app (goodIn_app gk_wsX11_next_r1 (goodIn_app gk_wsX11_next_r2 (goodIn_app gk_wsX11_next_r3 (goodIn_app gk_wsX11_next_r4 gk_wsX11_next_r5)))) gku_X11) gku_X7) gku_X4) gku_X0) gku_X1) gku_X2) gku_X3) gku_X5) gku_X8) gku_X10)
set_option maxRecDepth 20000 in
theorem gL_law_X11_next : GoodIn wsL_law (wsV RL 107 RX11 yX11_next wsX11_next) := goodIn_app (goodIn_q wsL_cs_in [(39, 22), (39, 23), (40, 0), (0, 2)] rfl (by decide +kernel)) ggL_law_X11_next
set_option maxRecDepth 20000 in
theorem gk_X12_next_0 : GoodIn wsL_law [.code yX12_next cX12_next 7 (some .int)] := goodIn_q wsL_cs_in [(40, 14)] rfl (by decide +kernel)
set_option maxRecDepth 20000 in
theorem gk_wsX12_next_r1 : GoodIn wsL_law wsX12_next_r1 := goodIn_q wsL_cs_in [(39, 7), (39, 8), (39, 9), (0, 5), (39, 10), (3, 11), (7, 3), (7, 4), (7, 5), (7, 6), (3, 10), (5, 15), (5, 16), (5, 17), (7, 7), (7, 8), (7, 9), (7, 10), (37, 13), (37, 14), (37, 15), (37, 16), (5, 18), (5, 19)] rfl (by decide +kernel)
set_option maxRecDepth 20000 in
theorem gk_wsX12_next_r2 : GoodIn wsL_law wsX12_next_r2 := goodIn_q wsL_cs_in [(5, 20), (5, 21), (3, 22), (40, 15), (40, 16), (40, 17), (40, 18), (9, 12), (39, 11), (39, 12), (39, 13), (39, 14), (39, 15), (39, 16), (5, 5), (39, 17), (21, 20), (21, 21), (21, 22), (21, 23), (3, 16), (21, 9), (21, 10), (21, 11)] rfl (by decide +kernel)
set_option maxRecDepth 20000 in
theorem gk_wsX12_next_r3 : GoodIn wsL_law wsX12_next_r3 := goodIn_q wsL_cs_in [(39, 18), (39, 19), (39, 20), (39, 21), (3, 12), (19, 15), (19, 16), (19, 17), (19, 18), (3, 19), (40, 19), (40, 20), (40, 21), (40, 22), (33, 18), (29, 14), (29, 15), (21, 16), (21, 17), (21, 18), (21, 19), (4, 4)] rfl (by decide +kernel)
set_option maxRecDepth 20000 in
theorem ggL_law_X12_next : GoodIn wsL_law wsX12_next := goodIn_app gk_X12_next_0 (goodIn_app (goodIn_app gk_wsX12_next_r1 (goodIn_app gk_wsX12_next_r2 gk_wsX12_next_r3)) gku_X12)
set_option maxRecDepth 20000 in
theorem gL_law_X12_next : GoodIn wsL_law (wsV RL 110 RX12 yX12_next wsX12_next) := goodIn_app (goodIn_q wsL_cs_in [(40, 11), (40, 12), (40, 13), (0, 5)] rfl (by decide +kernel)) ggL_law_X12_next
set_option maxRecDepth 20000 in
theorem gk_X11_unlike_0 : GoodIn wsL_law [.code yX11_unlike cX11_unlike 5 (some .int)] := goodIn_q wsL_cs_in [(41, 2)] rfl (by decide +kernel)
set_option maxRecDepth 20000 in
theorem gk_wsX11_unlike_r1 : GoodIn wsL_law wsX11_unlike_r1 := goodIn_q wsL_cs_in [(40, 7), (40, 8), (40, 9), (0, 2), (40, 10), (1, 0), (17, 4), (9, 0), (9, 1), (9, 2), (0, 23), (9, 3), (2, 5), (2, 3), (20, 4), (18, 1), (18, 2), (20, 5), (20, 6), (20, 7), (20, 8), (11, 6), (20, 9), (17, 20)] rfl (by decide +kernel)
set_option maxRecDepth 20000 in
theorem gk_wsX11_unlike_r2 : GoodIn wsL_law wsX11_unlike_r2 := goodIn_q wsL_cs_in [(17, 21), (17, 22), (17, 23), (18, 0), (14, 20), (18, 3), (18, 4), (18, 5), (18, 6), (18, 7), (18, 8), (18, 9), (18, 10), (18, 11), (20, 10), (20, 11), (20, 12), (20, 13), (20, 14), (20, 15), (20, 16), (4, 15), (4, 16), (4, 17)] rfl (by decide +kernel)
set_option maxRecDepth 20000 in
theorem gk_wsX11_unlike_r3 : GoodIn wsL_law wsX11_unlike_r3 := goodIn_q wsL_cs_in [(4, 18), (4, 19), (4, 20), (4, 21), (4, 22), (0, 16), (41, 3), (41, 4), (41, 5), (41, 6), (41, 7), (41, 8), (41, 9)] rfl (by decide +kernel)
set_option maxRecDepth 20000 in
theorem ggL_law_X11_unlike : GoodIn wsL_law wsX11_unlike := goodIn_app gk_X11_unlike_0 (goodIn_app (goodIn_app (goodIn_app (goodIn_app (goodIn_app (goodIn_app (goodIn_app (goodIn_app (goodIn_app (goodIn_app gk_wsX11_unlike_r1 (goodIn_app gk_wsX11_unlike_r2 gk_wsX11_unlike_r3)) gku_X11) gku_X4) gku_X0) gku_X1) gku_X2) gku_X3) gku_X5) gku_X8) gku_X10)
set_option maxRecDepth 20000 in
theorem gL_law_X11_unlike : GoodIn wsL_law (wsV RL 111 RX11 yX11_unlike wsX11_unlike) := goodIn_app (goodIn_q wsL_cs_in [(40, 23), (41, 0), (41, 1), (0, 2)] rfl (by decide +kernel)) ggL_law_X11_unlike
set_option maxRecDepth 20000 in
theorem gk_X12_unlike_0 : GoodIn wsL_law [.code yX12_unlike cX12_unlike 3 (some .int)] := goodIn_q wsL_cs_in [(41, 13)] rfl (by decide +kernel)
set_option maxRecDepth 20000 in
theorem gk_wsX12_unlike_r1 : GoodIn wsL_law wsX12_unlike_r1 := goodIn_q wsL_cs_in [(41, 14), (41, 15), (41, 16), (0, 5), (41, 17), (9, 8), (9, 9), (9, 10), (9, 11), (9, 12), (5, 15), (5, 16), (5, 17), (21, 9), (21, 10), (21, 11), (41, 18), (41, 19), (41, 20), (41, 21), (21, 12), (21, 13), (21, 14), (21, 15)] rfl (by decide +kernel)
set_option maxRecDepth 20000 in
theorem gk_wsX12_unlike_r2 : GoodIn wsL_law wsX12_unlike_r2 := goodIn_q wsL_cs_in [(21, 16), (21, 17), (21, 18), (21, 19), (4, 4), (19, 15), (19, 16), (19, 17), (19, 18), (3, 19), (41, 22), (41, 4), (41, 5), (41, 6), (41, 7), (41, 8), (41, 9), (5, 18), (5, 19), (5, 20), (5, 21), (3, 22)] rfl (by decide +kernel)
set_option maxRecDepth 20000 in
theorem ggL_law_X12_unlike : GoodIn wsL_law wsX12_unlike := goodIn_app gk_X12_unlike_0 (goodIn_app (goodIn_app gk_wsX12_unlike_r1 gk_wsX12_unlike_r2) gku_X12)
set_option maxRecDepth 20000 in
theorem gL_law_X12_unlike : GoodIn wsL_law (wsV RL 114 RX12 yX12_unlike wsX12_unlike) := goodIn_app (goodIn_q wsL_cs_in [(41, 10), (41, 11), (41, 12), (0, 5)] rfl (by decide +kernel)) ggL_law_X12_unlike
set_option maxRecDepth 20000 in
theorem gk_X11_odd_0 : GoodIn wsL_law [.code yX11_odd cX11_odd 3 (some .int)] := goodIn_q wsL_cs_in [(42, 2)] rfl (by decide +kernel)
set_option maxRecDepth 20000 in
theorem gk_wsX11_odd_r1 : GoodIn wsL_law wsX11_odd_r1 := goodIn_q wsL_cs_in [(1, 0), (9, 0), (9, 1), (9, 2), (0, 23), (9, 3), (2, 5), (2, 3), (4, 15), (4, 16), (4, 17), (0, 2), (4, 18), (4, 19), (4, 20), (4, 21), (4, 22), (0, 16), (42, 3), (42, 4), (42, 5), (42, 6), (11, 6), (42, 7)] rfl (by decide +kernel)
set_option maxRecDepth 20000 in
theorem gk_wsX11_odd_r2 : GoodIn wsL_law wsX11_odd_r2 := goodIn_q wsL_cs_in [(15, 0), (42, 8), (42, 9), (42, 10), (42, 11), (42, 12), (42, 13), (42, 14), (42, 15), (42, 16), (42, 17), (42, 18), (10, 2), (17, 4), (20, 5), (20, 6), (20, 7), (20, 8), (20, 9), (17, 20), (17, 21), (17, 22), (17, 23), (18, 0)] rfl (by decide +kernel)
set_option maxRecDepth 20000 in
theorem gk_wsX11_odd_r3 : GoodIn wsL_law wsX11_odd_r3 := goodIn_q wsL_cs_in [(14, 20), (18, 1), (18, 2), (18, 3), (18, 4), (18, 5), (18, 6), (18, 7), (18, 8), (18, 9), (18, 10), (18, 11), (20, 10), (20, 11), (20, 12), (20, 13), (20, 14), (20, 15), (20, 16), (41, 3), (41, 4), (41, 5), (41, 6), (41, 7)] rfl (by decide +kernel)
set_option maxRecDepth 20000 in
theorem gk_wsX11_odd_r4 : GoodIn wsL_law wsX11_odd_r4 := goodIn_q wsL_cs_in [(41, 8), (41, 9)] rfl (by decide +kernel)
set_option maxRecDepth 20000 in
theorem ggL_law_X11_odd : GoodIn wsL_law wsX11_odd := goodIn_app gk_X11_odd_0 (goodIn_app (goodIn_app (goodIn_app (goodIn_app (goodIn_app (goodIn_app (goodIn_app (goodIn_app (goodIn_app (goodIn_app gk_wsX11_odd_r1 (goodIn_app gk_wsX11_odd_r2 (goodIn_app gk_wsX11_odd_r3 gk_wsX11_odd_r4))) gku_X11) gku_X4) gku_X0) gku_X1) gku_X2) gku_X3) gku_X5) gku_X8) gku_X10)
set_option maxRecDepth 20000 in
theorem gL_law_X11_odd : GoodIn wsL_law (wsV RL 115 RX11 yX11_odd wsX11_odd) := goodIn_app (goodIn_q wsL_cs_in [(41, 23), (42, 0), (42, 1), (0, 2)] rfl (by decide +kernel)) ggL_law_X11_odd
set_option maxRecDepth 20000 in
theorem gk_X12_odd_0 : GoodIn wsL_law [.code yX12_odd cX12_odd 7 (some .int)] := goodIn_q wsL_cs_in [(42, 22)] rfl (by decide +kernel)
set_option maxRecDepth 20000 in
theorem gk_wsX12_odd_r1 : GoodIn wsL_law wsX12_odd_r1 := goodIn_q wsL_cs_in [(3, 16), (9, 8), (9, 9), (9, 10), (0, 5), (9, 11), (9, 12), (5, 15), (5, 16), (5, 17), (5, 18), (5, 19), (5, 20), (5, 21), (3, 22), (41, 18), (41, 19), (41, 20), (41, 21), (21, 12), (21, 13), (21, 14), (21, 15), (21, 16)] rfl (by decide +kernel)
set_option maxRecDepth 20000 in
theorem gk_wsX12_odd_r2 : GoodIn wsL_law wsX12_odd_r2 := goodIn_q wsL_cs_in [(21, 17), (21, 18), (21, 19), (4, 4), (19, 15), (19, 16), (19, 17), (19, 18), (3, 19), (41, 22), (41, 4), (41, 5), (41, 6), (41, 7), (41, 8), (41, 9)] rfl (by decide +kernel)
set_option maxRecDepth 20000 in
theorem ggL_law_X12_odd : GoodIn wsL_law wsX12_odd := goodIn_app gk_X12_odd_0 (goodIn_app (goodIn_app gk_wsX12_odd_r1 gk_wsX12_odd_r2) gku_X12)
set_option maxRecDepth 20000 in
theorem gL_law_X12_odd : GoodIn wsL_law (wsV RL 118 RX12 yX12_odd wsX12_odd) := goodIn_app (goodIn_q wsL_cs_in [(42, 19), (42, 20), (42, 21), (0, 5)] rfl (by decide +kernel)) ggL_law_X12_odd
set_option maxRecDepth 20000 in
theorem gk_X11_mend_0 : GoodIn wsL_law [.code yX11_mend cX11_mend 6 (some .int)] := goodIn_q wsL_cs_in [(43, 2)] rfl (by decide +kernel)
set_option maxRecDepth 20000 in
theorem gk_wsX11_mend_r1 : GoodIn wsL_law wsX11_mend_r1 := goodIn_q wsL_cs_in [(1, 0), (17, 4), (9, 0), (9, 1), (9, 2), (0, 23), (9, 3), (2, 5), (2, 3), (4, 15), (4, 16), (4, 17), (0, 2), (4, 18), (4, 19), (4, 20), (4, 21), (4, 22), (0, 16), (43, 3), (43, 4), (43, 5), (43, 6), (11, 6)] rfl (by decide +kernel)
set_option maxRecDepth 20000 in
theorem gk_wsX11_mend_r2 : GoodIn wsL_law wsX11_mend_r2 := goodIn_q wsL_cs_in [(43, 7), (15, 0), (43, 8), (34, 20), (34, 21), (34, 22), (34, 23), (17, 20), (17, 21), (17, 22), (17, 23), (18, 0), (14, 20), (18, 1), (18, 2), (18, 3), (18, 4), (18, 5), (18, 6), (18, 7), (18, 8), (18, 9), (18, 10), (18, 11)] rfl (by decide +kernel)
set_option maxRecDepth 20000 in
theorem gk_wsX11_mend_r3 : GoodIn wsL_law wsX11_mend_r3 := goodIn_q wsL_cs_in [(35, 0), (35, 1), (35, 2), (43, 9), (35, 4), (35, 5), (35, 6), (43, 10), (41, 4), (41, 5), (41, 6), (41, 7), (41, 8), (41, 9), (43, 11), (43, 12), (43, 13), (43, 14), (43, 15), (43, 16), (43, 17), (22, 4)] rfl (by decide +kernel)
set_option maxRecDepth 20000 in
theorem ggL_law_X11_mend : GoodIn wsL_law wsX11_mend := goodIn_app gk_X11_mend_0 (goodIn_app (goodIn_app (goodIn_app (goodIn_app (goodIn_app (goodIn_app (goodIn_app (goodIn_app (goodIn_app (goodIn_app gk_wsX11_mend_r1 (goodIn_app gk_wsX11_mend_r2 gk_wsX11_mend_r3)) gku_X11) gku_X4) gku_X0) gku_X1) gku_X2) gku_X3) gku_X5) gku_X8) gku_X10)
set_option maxRecDepth 20000 in
theorem gL_law_X11_mend : GoodIn wsL_law (wsV RL 119 RX11 yX11_mend wsX11_mend) := goodIn_app (goodIn_q wsL_cs_in [(42, 23), (43, 0), (43, 1), (0, 2)] rfl (by decide +kernel)) ggL_law_X11_mend
set_option maxRecDepth 20000 in
theorem gk_X12_mend_0 : GoodIn wsL_law [.code yX12_mend cX12_mend 5 (some .int)] := goodIn_q wsL_cs_in [(43, 21)] rfl (by decide +kernel)
set_option maxRecDepth 20000 in
theorem gk_wsX12_mend_r1 : GoodIn wsL_law wsX12_mend_r1 := goodIn_q wsL_cs_in [(9, 8), (9, 9), (9, 10), (0, 5), (9, 11), (9, 12), (5, 15), (5, 16), (5, 17), (5, 18), (5, 19), (5, 20), (5, 21), (3, 22), (43, 22), (43, 23), (44, 0), (44, 1), (3, 16), (35, 11), (35, 12), (35, 13), (35, 14), (21, 16)] rfl (by decide +kernel)
set_option maxRecDepth 20000 in
theorem gk_wsX12_mend_r2 : GoodIn wsL_law wsX12_mend_r2 := goodIn_q wsL_cs_in [(21, 17), (21, 18), (21, 19), (4, 4), (19, 15), (19, 16), (19, 17), (19, 18), (3, 19), (41, 22), (41, 4), (41, 5), (41, 6), (41, 7), (41, 8), (41, 9)] rfl (by decide +kernel)
set_option maxRecDepth 20000 in
theorem ggL_law_X12_mend : GoodIn wsL_law wsX12_mend := goodIn_app gk_X12_mend_0 (goodIn_app (goodIn_app gk_wsX12_mend_r1 gk_wsX12_mend_r2) gku_X12)
set_option maxRecDepth 20000 in
theorem gL_law_X12_mend : GoodIn wsL_law (wsV RL 122 RX12 yX12_mend wsX12_mend) := goodIn_app (goodIn_q wsL_cs_in [(43, 18), (43, 19), (43, 20), (0, 5)] rfl (by decide +kernel)) ggL_law_X12_mend
set_option maxRecDepth 20000 in
theorem gk_X11_paired_0 : GoodIn wsL_law [.code yX11_paired cX11_paired 9 (some .int)] := goodIn_q wsL_cs_in [(44, 5)] rfl (by decide +kernel)
set_option maxRecDepth 20000 in
theorem gk_wsX11_paired_r1 : GoodIn wsL_law wsX11_paired_r1 := goodIn_q wsL_cs_in [(1, 0), (10, 2), (1, 10), (9, 0), (9, 1), (9, 2), (0, 23), (9, 3), (2, 5), (2, 3), (4, 19), (4, 20), (4, 21), (0, 2), (4, 22), (0, 16), (44, 6), (44, 7), (44, 8), (44, 9), (1, 8), (17, 4), (1, 9), (1, 12)] rfl (by decide +kernel)
set_option maxRecDepth 20000 in
theorem gk_wsX11_paired_r2 : GoodIn wsL_law wsX11_paired_r2 := goodIn_q wsL_cs_in [(20, 5), (20, 6), (20, 7), (20, 8), (11, 6), (20, 9), (17, 20), (17, 21), (17, 22), (17, 23), (18, 0), (14, 20), (18, 1), (18, 2), (18, 3), (18, 4), (18, 5), (18, 6), (18, 7), (18, 8), (18, 9), (18, 10), (18, 11), (20, 10)] rfl (by decide +kernel)
set_option maxRecDepth 20000 in
theorem gk_wsX11_paired_r3 : GoodIn wsL_law wsX11_paired_r3 := goodIn_q wsL_cs_in [(20, 11), (20, 12), (20, 13), (20, 14), (20, 15), (20, 16), (44, 10), (16, 7), (5, 9), (16, 8), (20, 17), (20, 18), (20, 19), (20, 20), (20, 21), (15, 0), (20, 22), (20, 23), (21, 0), (21, 1), (21, 2), (21, 3), (21, 4), (44, 11)] rfl (by decide +kernel)
set_option maxRecDepth 20000 in
theorem gk_wsX11_paired_r4 : GoodIn wsL_law wsX11_paired_r4 := goodIn_q wsL_cs_in [(44, 12), (44, 13), (44, 14), (40, 6), (29, 14), (5, 5), (29, 15), (44, 15), (44, 16), (44, 17), (44, 18), (41, 3), (41, 4), (41, 5), (41, 6), (41, 7), (41, 8), (41, 9), (44, 19), (44, 20), (44, 21), (44, 22), (20, 4)] rfl (by decide +kernel)
set_option maxRecDepth 20000 in
theorem ggL_law_X11_paired : GoodIn wsL_law wsX11_paired := goodIn_app gk_X11_paired_0 (goodIn_app (goodIn_app (goodIn_app (goodIn_app (goodIn_app (goodIn_app (goodIn_app (goodIn_app (goodIn_app (goodIn_app gk_wsX11_paired_r1 (goodIn_app gk_wsX11_paired_r2 (goodIn_app gk_wsX11_paired_r3 gk_wsX11_paired_r4))) gku_X11) gku_X0) gku_X1) gku_X2) gku_X3) gku_X5) gku_X8) gku_X10) gku_X4)
set_option maxRecDepth 20000 in
theorem gL_law_X11_paired : GoodIn wsL_law (wsV RL 123 RX11 yX11_paired wsX11_paired) := goodIn_app (goodIn_q wsL_cs_in [(44, 2), (44, 3), (44, 4), (0, 2)] rfl (by decide +kernel)) ggL_law_X11_paired
set_option maxRecDepth 20000 in
theorem gk_X12_paired_0 : GoodIn wsL_law [.code yX12_paired cX12_paired 4 (some .int)] := goodIn_q wsL_cs_in [(45, 2)] rfl (by decide +kernel)
set_option maxRecDepth 20000 in
theorem gk_wsX12_paired_r1 : GoodIn wsL_law wsX12_paired_r1 := goodIn_q wsL_cs_in [(3, 16), (45, 3), (4, 3), (9, 8), (9, 9), (9, 10), (0, 5), (9, 11), (9, 12), (5, 15), (5, 16), (5, 17), (37, 13), (37, 14), (37, 15), (37, 16), (5, 18), (5, 19), (5, 20), (5, 21), (3, 22), (45, 4), (45, 5), (45, 6)] rfl (by decide +kernel)
set_option maxRecDepth 20000 in
theorem gk_wsX12_paired_r2 : GoodIn wsL_law wsX12_paired_r2 := goodIn_q wsL_cs_in [(45, 7), (4, 2), (45, 8), (45, 9), (45, 10), (21, 12), (21, 13), (21, 14), (21, 15), (21, 16), (21, 17), (21, 18), (21, 19), (4, 4), (19, 15), (19, 16), (19, 17), (19, 18), (3, 19), (41, 22), (41, 4), (41, 5), (41, 6), (41, 7)] rfl (by decide +kernel)
set_option maxRecDepth 20000 in
theorem gk_wsX12_paired_r3 : GoodIn wsL_law wsX12_paired_r3 := goodIn_q wsL_cs_in [(41, 8), (41, 9)] rfl (by decide +kernel)
set_option maxRecDepth 20000 in
theorem ggL_law_X12_paired : GoodIn wsL_law wsX12_paired := goodIn_app gk_X12_paired_0 (goodIn_app (goodIn_app gk_wsX12_paired_r1 (goodIn_app gk_wsX12_paired_r2 gk_wsX12_paired_r3)) gku_X12)
set_option maxRecDepth 20000 in
theorem gL_law_X12_paired : GoodIn wsL_law (wsV RL 126 RX12 yX12_paired wsX12_paired) := goodIn_app (goodIn_q wsL_cs_in [(44, 23), (45, 0), (45, 1), (0, 5)] rfl (by decide +kernel)) ggL_law_X12_paired
set_option maxRecDepth 20000 in
theorem gk_X11_bear_0 : GoodIn wsL_law [.code yX11_bear cX11_bear 4 (some .int)] := goodIn_q wsL_cs_in [(45, 14)] rfl (by decide +kernel)
set_option maxRecDepth 20000 in
theorem gk_wsX11_bear_r1 : GoodIn wsL_law wsX11_bear_r1 := goodIn_q wsL_cs_in [(1, 0), (17, 4), (9, 0), (9, 1), (9, 2), (0, 23), (9, 3), (2, 5), (2, 3), (4, 15), (4, 16), (4, 17), (0, 2), (4, 18), (4, 19), (4, 20), (4, 21), (4, 22), (0, 16), (22, 4), (18, 3), (18, 4), (45, 15), (45, 16)] rfl (by decide +kernel)
set_option maxRecDepth 20000 in
theorem gk_wsX11_bear_r2 : GoodIn wsL_law wsX11_bear_r2 := goodIn_q wsL_cs_in [(45, 17), (45, 18), (11, 6), (45, 19), (15, 0), (17, 20), (17, 21), (17, 22), (17, 23), (18, 0), (14, 20), (18, 1), (18, 2), (18, 5), (18, 6), (18, 7), (18, 8), (18, 9), (18, 10), (18, 11), (45, 20), (45, 21), (45, 22), (45, 23)] rfl (by decide +kernel)
set_option maxRecDepth 20000 in
theorem gk_wsX11_bear_r3 : GoodIn wsL_law wsX11_bear_r3 := goodIn_q wsL_cs_in [(46, 0), (46, 1), (46, 2)] rfl (by decide +kernel)
set_option maxRecDepth 20000 in
theorem ggL_law_X11_bear : GoodIn wsL_law wsX11_bear := goodIn_app gk_X11_bear_0 (goodIn_app (goodIn_app (goodIn_app (goodIn_app (goodIn_app (goodIn_app (goodIn_app (goodIn_app (goodIn_app (goodIn_app gk_wsX11_bear_r1 (goodIn_app gk_wsX11_bear_r2 gk_wsX11_bear_r3)) gku_X11) gku_X4) gku_X0) gku_X1) gku_X2) gku_X3) gku_X5) gku_X8) gku_X10)
set_option maxRecDepth 20000 in
theorem gL_law_X11_bear : GoodIn wsL_law (wsV RL 127 RX11 yX11_bear wsX11_bear) := goodIn_app (goodIn_q wsL_cs_in [(45, 11), (45, 12), (45, 13), (0, 2)] rfl (by decide +kernel)) ggL_law_X11_bear
set_option maxRecDepth 20000 in
theorem gk_X12_bear_0 : GoodIn wsL_law [.code yX12_bear cX12_bear 3 (some .int)] := goodIn_q wsL_cs_in [(46, 6)] rfl (by decide +kernel)
set_option maxRecDepth 20000 in
theorem gk_wsX12_bear_r1 : GoodIn wsL_law wsX12_bear_r1 := goodIn_q wsL_cs_in [(9, 8), (9, 9), (9, 10), (0, 5), (9, 11), (9, 12), (5, 15), (5, 16), (5, 17), (5, 18), (5, 19), (5, 20), (5, 21), (3, 22), (22, 11), (22, 12), (22, 13), (46, 7), (46, 8), (46, 9), (46, 10), (3, 16), (21, 16), (21, 17)] rfl (by decide +kernel)
set_option maxRecDepth 20000 in
theorem gk_wsX12_bear_r2 : GoodIn wsL_law wsX12_bear_r2 := goodIn_q wsL_cs_in [(21, 18), (21, 19), (4, 4), (19, 15), (19, 16), (19, 17), (19, 18), (3, 19)] rfl (by decide +kernel)
set_option maxRecDepth 20000 in
theorem ggL_law_X12_bear : GoodIn wsL_law wsX12_bear := goodIn_app gk_X12_bear_0 (goodIn_app (goodIn_app gk_wsX12_bear_r1 gk_wsX12_bear_r2) gku_X12)
set_option maxRecDepth 20000 in
theorem gL_law_X12_bear : GoodIn wsL_law (wsV RL 130 RX12 yX12_bear wsX12_bear) := goodIn_app (goodIn_q wsL_cs_in [(46, 3), (46, 4), (46, 5), (0, 5)] rfl (by decide +kernel)) ggL_law_X12_bear
set_option maxRecDepth 20000 in
theorem gk_X11_heir_0 : GoodIn wsL_law [.code yX11_heir cX11_heir 2 (some .int)] := goodIn_q wsL_cs_in [(46, 14)] rfl (by decide +kernel)
set_option maxRecDepth 20000 in
theorem gk_wsX11_heir_r1 : GoodIn wsL_law wsX11_heir_r1 := goodIn_q wsL_cs_in [(1, 0), (46, 15), (4, 15), (4, 16), (4, 17), (0, 2), (4, 18), (4, 19), (4, 20), (4, 21), (4, 22), (0, 16), (22, 4), (18, 3), (18, 4), (46, 16), (46, 17), (46, 18), (0, 23), (46, 19), (2, 5), (2, 6), (23, 16), (9, 1)] rfl (by decide +kernel)
set_option maxRecDepth 20000 in
theorem gk_wsX11_heir_r2 : GoodIn wsL_law wsX11_heir_r2 := goodIn_q wsL_cs_in [(9, 2), (9, 3), (2, 3), (46, 20), (45, 16), (45, 17), (45, 18), (11, 6), (45, 19), (15, 0), (17, 20), (17, 21), (17, 22), (17, 23), (18, 0), (14, 20), (18, 1), (18, 2), (18, 5), (18, 6), (18, 7), (18, 8), (18, 9), (18, 10)] rfl (by decide +kernel)
set_option maxRecDepth 20000 in
theorem gk_wsX11_heir_r3 : GoodIn wsL_law wsX11_heir_r3 := goodIn_q wsL_cs_in [(18, 11), (45, 20), (45, 21), (45, 22), (46, 21), (46, 0), (46, 1), (46, 2)] rfl (by decide +kernel)
set_option maxRecDepth 20000 in
theorem ggL_law_X11_heir : GoodIn wsL_law wsX11_heir := goodIn_app gk_X11_heir_0 (goodIn_app (goodIn_app (goodIn_app (goodIn_app (goodIn_app (goodIn_app (goodIn_app (goodIn_app (goodIn_app (goodIn_app gk_wsX11_heir_r1 (goodIn_app gk_wsX11_heir_r2 gk_wsX11_heir_r3)) gku_X11) gku_X4) gku_X0) gku_X1) gku_X2) gku_X3) gku_X5) gku_X8) gku_X10)
set_option maxRecDepth 20000 in
theorem gL_law_X11_heir : GoodIn wsL_law (wsV RL 131 RX11 yX11_heir wsX11_heir) := goodIn_app (goodIn_q wsL_cs_in [(46, 11), (46, 12), (46, 13), (0, 2)] rfl (by decide +kernel)) ggL_law_X11_heir
set_option maxRecDepth 20000 in
theorem gk_X12_heir_0 : GoodIn wsL_law [.code yX12_heir cX12_heir 4 (some .int)] := goodIn_q wsL_cs_in [(47, 1)] rfl (by decide +kernel)
set_option maxRecDepth 20000 in
theorem gk_wsX12_heir_r1 : GoodIn wsL_law wsX12_heir_r1 := goodIn_q wsL_cs_in [(9, 12), (5, 18), (5, 19), (5, 20), (0, 5), (5, 21), (3, 22), (22, 11), (22, 12), (22, 13), (5, 15), (5, 16), (5, 17), (46, 7), (46, 8), (46, 9), (46, 10), (3, 16), (21, 16), (21, 17), (21, 18), (21, 19), (4, 4), (19, 15)] rfl (by decide +kernel)
set_option maxRecDepth 20000 in
theorem gk_wsX12_heir_r2 : GoodIn wsL_law wsX12_heir_r2 := goodIn_q wsL_cs_in [(19, 16), (19, 17), (19, 18), (3, 19)] rfl (by decide +kernel)
set_option maxRecDepth 20000 in
theorem ggL_law_X12_heir : GoodIn wsL_law wsX12_heir := goodIn_app gk_X12_heir_0 (goodIn_app (goodIn_app gk_wsX12_heir_r1 gk_wsX12_heir_r2) gku_X12)
set_option maxRecDepth 20000 in
theorem gL_law_X12_heir : GoodIn wsL_law (wsV RL 134 RX12 yX12_heir wsX12_heir) := goodIn_app (goodIn_q wsL_cs_in [(46, 22), (46, 23), (47, 0), (0, 5)] rfl (by decide +kernel)) ggL_law_X12_heir
set_option maxRecDepth 20000 in
theorem gk_X11_straight_0 : GoodIn wsL_law [.code yX11_straight cX11_straight 4 (some .int)] := goodIn_q wsL_cs_in [(47, 5)] rfl (by decide +kernel)
set_option maxRecDepth 20000 in
theorem gk_wsX11_straight_r1 : GoodIn wsL_law wsX11_straight_r1 := goodIn_q wsL_cs_in [(1, 0), (9, 0), (9, 1), (9, 2), (0, 23), (9, 3), (2, 5), (2, 3), (4, 19), (4, 20), (4, 21), (0, 2), (4, 22), (0, 16), (47, 6), (47, 7), (47, 8), (47, 9), (11, 6), (47, 10), (14, 22), (47, 11), (47, 12), (47, 13)] rfl (by decide +kernel)
set_option maxRecDepth 20000 in
theorem gk_wsX11_straight_r2 : GoodIn wsL_law wsX11_straight_r2 := goodIn_q wsL_cs_in [(47, 14), (47, 15), (47, 16), (47, 17), (47, 18), (47, 19), (47, 20), (47, 21), (47, 22), (47, 23), (48, 0), (5, 5), (48, 1), (48, 2), (48, 3), (48, 4), (48, 5), (48, 6), (48, 7), (48, 8), (48, 9), (48, 10), (48, 11), (48, 12)] rfl (by decide +kernel)
set_option maxRecDepth 20000 in
theorem gk_wsX11_straight_r3 : GoodIn wsL_law wsX11_straight_r3 := goodIn_q wsL_cs_in [(48, 13), (48, 14), (48, 15), (48, 16), (48, 17), (48, 18), (48, 19), (48, 20)] rfl (by decide +kernel)
set_option maxRecDepth 20000 in
theorem ggL_law_X11_straight : GoodIn wsL_law wsX11_straight := goodIn_app gk_X11_straight_0 (goodIn_app (goodIn_app (goodIn_app (goodIn_app (goodIn_app (goodIn_app (goodIn_app (goodIn_app (goodIn_app (goodIn_app gk_wsX11_straight_r1 (goodIn_app gk_wsX11_straight_r2 gk_wsX11_straight_r3)) gku_X11) gku_X4) gku_X0) gku_X1) gku_X2) gku_X3) gku_X5) gku_X8) gku_X10)
set_option maxRecDepth 20000 in
theorem gL_law_X11_straight : GoodIn wsL_law (wsV RL 135 RX11 yX11_straight wsX11_straight) := goodIn_app (goodIn_q wsL_cs_in [(47, 2), (47, 3), (47, 4), (0, 2)] rfl (by decide +kernel)) ggL_law_X11_straight
set_option maxRecDepth 20000 in
theorem gk_X12_straight_0 : GoodIn wsL_law [.code yX12_straight cX12_straight 9 (some .int)] := goodIn_q wsL_cs_in [(49, 0)] rfl (by decide +kernel)
set_option maxRecDepth 20000 in
theorem gk_X12_straight_l1 : GoodIn wsL_law [.fieldLink RX12 35 "CarbonCopiesModel" "drift" "[I", .methodLink RX12 271 Lib.Math.abs.name, .static Lib.Math.abs.name, .initialized "java/lang/Math", .code Lib.Math.abs.name Lib.Math.abs.code 1 (some .int), .methodLink RX12 96 yX12_isPerson, .instanceMethod yX12_isPerson, .selects RX12 yX12_isPerson yX12_isPerson, .initialized RX12, .code yX12_isPerson cX12_isPerson 2 (some .boolean), .fieldLink RX12 79 "CarbonCopiesModel" "persons" "I", .methodLink RX12 82 yX12_within, .static yX12_within, .code yX12_within cX12_within 3 (some .boolean), .methodLink RX12 216 yX12_no10, .instanceMethod yX12_no10, .selects RX12 yX12_no10 yX12_no10, .code yX12_no10 cX12_no10 2 (some .int), .methodLink RX12 75 yX12_no, .instanceMethod yX12_no, .selects RX12 yX12_no yX12_no, .code yX12_no cX12_no 2 (some .int), .fieldLink RX12 47 "CarbonCopiesModel" "refusals" "[I"] := goodIn_q wsL_cs_in [(3, 18), (49, 1), (48, 0), (5, 5), (48, 1), (9, 8), (9, 9), (9, 10), (0, 5), (9, 11), (9, 12), (5, 15), (5, 16), (5, 17), (37, 13), (37, 14), (37, 15), (37, 16), (5, 18), (5, 19), (5, 20), (5, 21), (3, 22)] rfl (by decide +kernel)
set_option maxRecDepth 20000 in
theorem ggL_law_X12_straight : GoodIn wsL_law wsX12_straight := goodIn_app gk_X12_straight_0 (goodIn_app gk_X12_straight_l1 gku_X12)
set_option maxRecDepth 20000 in
theorem gL_law_X12_straight : GoodIn wsL_law (wsV RL 138 RX12 yX12_straight wsX12_straight) := goodIn_app (goodIn_q wsL_cs_in [(48, 21), (48, 22), (48, 23), (0, 5)] rfl (by decide +kernel)) ggL_law_X12_straight
set_option maxRecDepth 20000 in
theorem gk_X11_judge_0 : GoodIn wsL_law [.code yX11_judge cX11_judge 5 (some .int)] := goodIn_q wsL_cs_in [(49, 5)] rfl (by decide +kernel)
set_option maxRecDepth 20000 in
theorem gk_wsX11_judge_r1 : GoodIn wsL_law wsX11_judge_r1 := goodIn_q wsL_cs_in [(1, 0), (4, 11), (4, 12), (4, 13), (0, 2), (4, 14), (0, 14), (49, 6), (49, 7), (49, 8), (38, 14), (6, 2), (6, 3), (6, 4), (1, 16), (6, 5), (3, 4), (6, 6), (6, 7), (6, 8), (6, 9), (6, 10), (6, 11), (6, 12)] rfl (by decide +kernel)
set_option maxRecDepth 20000 in
theorem gk_wsX11_judge_r2 : GoodIn wsL_law wsX11_judge_r2 := goodIn_q wsL_cs_in [(4, 19), (4, 20), (4, 21), (4, 22), (0, 16), (49, 9), (49, 10), (49, 11), (0, 23), (49, 12), (2, 4), (49, 13), (23, 16), (9, 1), (9, 2), (9, 3), (2, 5), (2, 3), (39, 2), (24, 13), (24, 14), (24, 15), (24, 16), (8, 13)] rfl (by decide +kernel)
set_option maxRecDepth 20000 in
theorem gk_wsX11_judge_r3 : GoodIn wsL_law wsX11_judge_r3 := goodIn_q wsL_cs_in [(8, 14), (8, 15), (3, 3), (6, 22), (6, 14), (6, 15), (6, 16), (3, 5), (6, 17), (49, 14), (49, 15), (49, 16), (49, 17), (18, 3), (18, 4), (18, 1), (18, 2)] rfl (by decide +kernel)
set_option maxRecDepth 20000 in
theorem ggL_law_X11_judge : GoodIn wsL_law wsX11_judge := goodIn_app gk_X11_judge_0 (goodIn_app (goodIn_app (goodIn_app (goodIn_app (goodIn_app (goodIn_app (goodIn_app (goodIn_app (goodIn_app (goodIn_app (goodIn_app gk_wsX11_judge_r1 (goodIn_app gk_wsX11_judge_r2 gk_wsX11_judge_r3)) gku_X11) gku_X7) gku_X4) gku_X0) gku_X1) gku_X2) gku_X3) gku_X5) gku_X8) gku_X10)
set_option maxRecDepth 20000 in
theorem gL_law_X11_judge : GoodIn wsL_law (wsV RL 139 RX11 yX11_judge wsX11_judge) := goodIn_app (goodIn_q wsL_cs_in [(49, 2), (49, 3), (49, 4), (0, 2)] rfl (by decide +kernel)) ggL_law_X11_judge
set_option maxRecDepth 20000 in
theorem gk_X12_judge_0 : GoodIn wsL_law [.code yX12_judge cX12_judge 5 (some .int)] := goodIn_q wsL_cs_in [(49, 21)] rfl (by decide +kernel)
set_option maxRecDepth 20000 in
theorem gk_wsX12_judge_r1 : GoodIn wsL_law wsX12_judge_r1 := goodIn_q wsL_cs_in [(4, 0), (39, 7), (39, 8), (39, 9), (0, 5), (39, 10), (3, 11), (7, 3), (7, 4), (7, 5), (7, 6), (3, 10), (5, 15), (5, 16), (5, 17), (7, 7), (7, 8), (7, 9), (7, 10), (37, 13), (37, 14), (37, 15), (37, 16), (5, 18)] rfl (by decide +kernel)
set_option maxRecDepth 20000 in
theorem gk_wsX12_judge_r2 : GoodIn wsL_law wsX12_judge_r2 := goodIn_q wsL_cs_in [(5, 19), (5, 20), (5, 21), (3, 22), (31, 23), (32, 0), (32, 1), (32, 2), (3, 13), (3, 14), (3, 15), (3, 16), (3, 17), (3, 18), (3, 19), (9, 12), (4, 4), (4, 5), (49, 22), (49, 23), (50, 0), (50, 1), (39, 18), (39, 19)] rfl (by decide +kernel)
set_option maxRecDepth 20000 in
theorem gk_wsX12_judge_r3 : GoodIn wsL_law wsX12_judge_r3 := goodIn_q wsL_cs_in [(39, 20), (39, 21), (3, 12), (50, 2), (50, 3), (50, 4), (50, 5), (9, 8), (9, 9), (9, 10), (9, 11), (21, 20), (21, 21), (21, 22), (21, 23), (21, 9), (21, 10), (21, 11), (33, 13), (33, 14), (33, 15), (33, 16), (4, 1), (33, 17)] rfl (by decide +kernel)
set_option maxRecDepth 20000 in
theorem gk_wsX12_judge_r4 : GoodIn wsL_law wsX12_judge_r4 := goodIn_q wsL_cs_in [(5, 4), (5, 5), (5, 6), (33, 18), (29, 14), (29, 15), (33, 19), (33, 20), (33, 21), (33, 22), (13, 2), (13, 3), (13, 4), (13, 5), (19, 15), (19, 16), (19, 17), (19, 18), (33, 23), (34, 0), (34, 1), (34, 2), (34, 3), (34, 4)] rfl (by decide +kernel)
set_option maxRecDepth 20000 in
theorem gk_wsX12_judge_r5 : GoodIn wsL_law wsX12_judge_r5 := goodIn_q wsL_cs_in [(34, 5), (34, 6)] rfl (by decide +kernel)
set_option maxRecDepth 20000 in
theorem ggL_law_X12_judge : GoodIn wsL_law wsX12_judge := goodIn_app gk_X12_judge_0 (goodIn_app (goodIn_app gk_wsX12_judge_r1 (goodIn_app gk_wsX12_judge_r2 (goodIn_app gk_wsX12_judge_r3 (goodIn_app gk_wsX12_judge_r4 gk_wsX12_judge_r5)))) gku_X12)
set_option maxRecDepth 20000 in
theorem gL_law_X12_judge : GoodIn wsL_law (wsV RL 142 RX12 yX12_judge wsX12_judge) := goodIn_app (goodIn_q wsL_cs_in [(49, 18), (49, 19), (49, 20), (0, 5)] rfl (by decide +kernel)) ggL_law_X12_judge
set_option maxRecDepth 20000 in
theorem gk_X11_behind_0 : GoodIn wsL_law [.code yX11_behind cX11_behind 6 (some .int)] := goodIn_q wsL_cs_in [(50, 9)] rfl (by decide +kernel)
set_option maxRecDepth 20000 in
theorem gk_wsX11_behind_r1 : GoodIn wsL_law wsX11_behind_r1 := goodIn_q wsL_cs_in [(1, 0), (1, 1), (4, 11), (4, 12), (4, 13), (0, 2), (4, 14), (0, 14), (49, 6), (49, 7), (49, 8), (38, 14), (6, 2), (6, 3), (6, 4), (1, 16), (6, 5), (3, 4), (6, 6), (6, 7), (6, 8), (6, 9), (6, 10), (6, 11)] rfl (by decide +kernel)
set_option maxRecDepth 20000 in
theorem gk_wsX11_behind_r2 : GoodIn wsL_law wsX11_behind_r2 := goodIn_q wsL_cs_in [(6, 12), (4, 15), (4, 16), (4, 17), (4, 18), (4, 19), (4, 20), (4, 21), (4, 22), (0, 16), (49, 9), (49, 10), (49, 11), (0, 23), (49, 12), (2, 4), (49, 13), (23, 16), (9, 1), (9, 2), (9, 3), (2, 5), (2, 3), (39, 2)] rfl (by decide +kernel)
set_option maxRecDepth 20000 in
theorem gk_wsX11_behind_r3 : GoodIn wsL_law wsX11_behind_r3 := goodIn_q wsL_cs_in [(24, 13), (24, 14), (24, 15), (24, 16), (8, 13), (8, 14), (8, 15), (3, 3), (6, 22), (6, 14), (6, 15), (6, 16), (3, 5), (6, 17), (49, 14), (49, 15), (49, 16), (49, 17), (18, 3), (18, 4), (18, 1), (18, 2), (23, 12), (23, 13)] rfl (by decide +kernel)
set_option maxRecDepth 20000 in
theorem gk_wsX11_behind_r4 : GoodIn wsL_law wsX11_behind_r4 := goodIn_q wsL_cs_in [(23, 14), (23, 15), (2, 6), (2, 7), (13, 23), (13, 19), (13, 20), (13, 21), (13, 22), (14, 0), (14, 1), (11, 19), (2, 8), (14, 2), (14, 3), (12, 1), (14, 4), (14, 5), (12, 11), (14, 6), (14, 7), (11, 1), (14, 8), (14, 9)] rfl (by decide +kernel)
set_option maxRecDepth 20000 in
theorem gk_wsX11_behind_r5 : GoodIn wsL_law wsX11_behind_r5 := goodIn_q wsL_cs_in [(10, 17), (14, 10), (14, 11), (11, 11), (2, 2), (14, 12), (11, 6), (14, 13), (14, 14), (14, 15), (14, 16), (14, 17), (14, 18), (14, 19), (0, 11), (0, 12), (0, 15), (14, 20), (14, 21), (14, 22), (14, 23), (11, 8), (15, 0), (15, 1)] rfl (by decide +kernel)
set_option maxRecDepth 20000 in
theorem gk_wsX11_behind_r6 : GoodIn wsL_law wsX11_behind_r6 := goodIn_q wsL_cs_in [(15, 2), (15, 3), (15, 4), (15, 5), (15, 6), (15, 7), (15, 8), (15, 9), (15, 10), (15, 11), (15, 12), (15, 13), (15, 14), (15, 15), (15, 16), (15, 17), (15, 18), (15, 19), (15, 20), (15, 21), (15, 22), (15, 23), (16, 0), (23, 17)] rfl (by decide +kernel)
set_option maxRecDepth 20000 in
theorem gk_wsX11_behind_r7 : GoodIn wsL_law wsX11_behind_r7 := goodIn_q wsL_cs_in [(23, 18), (23, 19), (23, 20), (23, 21), (23, 22), (7, 17), (7, 18), (7, 19), (23, 23), (24, 0), (24, 1), (24, 2), (24, 3), (24, 4), (24, 5), (50, 10), (50, 11), (50, 12), (50, 13), (50, 14), (31, 6), (31, 7), (31, 8), (31, 9)] rfl (by decide +kernel)
set_option maxRecDepth 20000 in
theorem gk_wsX11_behind_r8 : GoodIn wsL_law wsX11_behind_r8 := goodIn_q wsL_cs_in [(29, 16), (5, 4), (5, 5), (5, 6), (31, 10), (31, 11), (31, 12), (50, 15), (31, 14), (31, 15), (31, 16), (50, 16), (29, 9), (29, 10), (29, 11), (29, 12), (29, 13), (29, 14), (29, 15), (29, 17), (29, 18), (29, 19), (29, 20), (29, 21)] rfl (by decide +kernel)
set_option maxRecDepth 20000 in
theorem gk_wsX11_behind_r9 : GoodIn wsL_law wsX11_behind_r9 := goodIn_q wsL_cs_in [(29, 22), (10, 13), (10, 14), (10, 15), (10, 16), (10, 18), (10, 19), (10, 20), (10, 21), (10, 22), (10, 23), (11, 0), (11, 2), (11, 3), (11, 4), (11, 5), (11, 7), (11, 9), (11, 10), (11, 12), (11, 13), (11, 14), (11, 15), (11, 16)] rfl (by decide +kernel)
set_option maxRecDepth 20000 in
theorem gk_wsX11_behind_r10 : GoodIn wsL_law wsX11_behind_r10 := goodIn_q wsL_cs_in [(11, 17), (11, 18), (11, 20), (11, 21), (11, 22), (11, 23), (12, 0), (12, 2), (12, 3), (12, 4), (12, 5), (29, 23), (12, 7), (12, 8), (12, 9), (12, 10), (12, 12), (12, 13), (12, 14), (12, 15), (30, 0), (30, 1), (30, 2), (30, 3)] rfl (by decide +kernel)
set_option maxRecDepth 20000 in
theorem gk_wsX11_behind_r11 : GoodIn wsL_law wsX11_behind_r11 := goodIn_q wsL_cs_in [(30, 4), (30, 5), (30, 6), (30, 7), (30, 8), (30, 9), (30, 10), (30, 11), (30, 12), (30, 13), (30, 14), (30, 15), (30, 16), (30, 17), (30, 18), (30, 19), (30, 20), (30, 21), (30, 22), (30, 23), (31, 0), (50, 17), (31, 2), (31, 3)] rfl (by decide +kernel)
set_option maxRecDepth 20000 in
theorem gk_wsX11_behind_r12 : GoodIn wsL_law wsX11_behind_r12 := goodIn_q wsL_cs_in [(31, 4), (50, 18), (50, 19), (50, 20), (50, 21), (50, 22), (50, 23), (51, 0), (51, 1), (51, 2), (51, 3), (51, 4), (51, 5), (51, 6), (51, 7), (51, 8), (51, 9), (51, 10), (51, 11), (51, 12), (51, 13), (51, 14), (51, 15), (51, 16)] rfl (by decide +kernel)
set_option maxRecDepth 20000 in
theorem gk_wsX11_behind_r13 : GoodIn wsL_law wsX11_behind_r13 := goodIn_q wsL_cs_in [(51, 17), (51, 18), (18, 20), (18, 21), (18, 22), (18, 23), (19, 0), (19, 1), (19, 2), (51, 19), (19, 4), (19, 5), (19, 6)] rfl (by decide +kernel)
set_option maxRecDepth 20000 in
theorem ggL_law_X11_behind : GoodIn wsL_law wsX11_behind := goodIn_app gk_X11_behind_0 (goodIn_app (goodIn_app (goodIn_app (goodIn_app (goodIn_app (goodIn_app (goodIn_app (goodIn_app (goodIn_app (goodIn_app (goodIn_app gk_wsX11_behind_r1 (goodIn_app gk_wsX11_behind_r2 (goodIn_app gk_wsX11_behind_r3 (goodIn_app gk_wsX11_behind_r4 (goodIn_app gk_wsX11_behind_r5 (goodIn_app gk_wsX11_behind_r6 (goodIn_app gk_wsX11_behind_r7 (goodIn_app gk_wsX11_behind_r8 (goodIn_app gk_wsX11_behind_r9 (goodIn_app gk_wsX11_behind_r10 (goodIn_app gk_wsX11_behind_r11 (goodIn_app gk_wsX11_behind_r12 gk_wsX11_behind_r13)))))))))))) gku_X11) gku_X7) gku_X4) gku_X0) gku_X1) gku_X2) gku_X3) gku_X5) gku_X8) gku_X10)
set_option maxRecDepth 20000 in
theorem gL_law_X11_behind : GoodIn wsL_law (wsV RL 143 RX11 yX11_behind wsX11_behind) := goodIn_app (goodIn_q wsL_cs_in [(50, 6), (50, 7), (50, 8), (0, 2)] rfl (by decide +kernel)) ggL_law_X11_behind
set_option maxRecDepth 20000 in
theorem gk_X12_behind_0 : GoodIn wsL_law [.code yX12_behind cX12_behind 7 (some .int)] := goodIn_q wsL_cs_in [(51, 23)] rfl (by decide +kernel)
set_option maxRecDepth 20000 in
theorem gk_wsX12_behind_r1 : GoodIn wsL_law wsX12_behind_r1 := goodIn_q wsL_cs_in [(4, 0), (39, 7), (39, 8), (39, 9), (0, 5), (39, 10), (3, 11), (7, 3), (7, 4), (7, 5), (7, 6), (3, 10), (5, 15), (5, 16), (5, 17), (7, 7), (7, 8), (7, 9), (7, 10), (5, 18), (5, 19), (5, 20), (5, 21), (3, 22)] rfl (by decide +kernel)
set_option maxRecDepth 20000 in
theorem gk_wsX12_behind_r2 : GoodIn wsL_law wsX12_behind_r2 := goodIn_q wsL_cs_in [(31, 23), (32, 0), (32, 1), (32, 2), (3, 13), (3, 14), (3, 15), (3, 16), (3, 17), (3, 18), (3, 19), (9, 12), (4, 4), (4, 5), (49, 22), (49, 23), (50, 0), (50, 1), (39, 18), (39, 19), (39, 20), (39, 21), (3, 12), (50, 2)] rfl (by decide +kernel)
set_option maxRecDepth 20000 in
theorem gk_wsX12_behind_r3 : GoodIn wsL_law wsX12_behind_r3 := goodIn_q wsL_cs_in [(50, 3), (50, 4), (50, 5), (9, 8), (9, 9), (9, 10), (9, 11), (21, 20), (21, 21), (21, 22), (21, 23), (21, 9), (21, 10), (21, 11), (33, 13), (33, 14), (33, 15), (33, 16), (4, 1), (33, 17), (5, 4), (5, 5), (5, 6), (33, 18)] rfl (by decide +kernel)
set_option maxRecDepth 20000 in
theorem gk_wsX12_behind_r4 : GoodIn wsL_law wsX12_behind_r4 := goodIn_q wsL_cs_in [(29, 14), (29, 15), (33, 19), (33, 20), (33, 21), (33, 22), (13, 2), (13, 3), (13, 4), (13, 5), (19, 15), (19, 16), (19, 17), (19, 18), (33, 23), (34, 0), (34, 1), (34, 2), (52, 0), (52, 1), (52, 2), (52, 3), (52, 4), (52, 5)] rfl (by decide +kernel)
set_option maxRecDepth 20000 in
theorem gk_wsX12_behind_r5 : GoodIn wsL_law wsX12_behind_r5 := goodIn_q wsL_cs_in [(52, 6), (52, 7), (52, 8), (52, 9), (52, 10), (52, 11), (19, 19), (19, 20), (19, 21), (19, 22), (34, 3), (34, 4), (34, 5), (34, 6)] rfl (by decide +kernel)
set_option maxRecDepth 20000 in
theorem ggL_law_X12_behind : GoodIn wsL_law wsX12_behind := goodIn_app gk_X12_behind_0 (goodIn_app (goodIn_app gk_wsX12_behind_r1 (goodIn_app gk_wsX12_behind_r2 (goodIn_app gk_wsX12_behind_r3 (goodIn_app gk_wsX12_behind_r4 gk_wsX12_behind_r5)))) gku_X12)
set_option maxRecDepth 20000 in
theorem gL_law_X12_behind : GoodIn wsL_law (wsV RL 146 RX12 yX12_behind wsX12_behind) := goodIn_app (goodIn_q wsL_cs_in [(51, 20), (51, 21), (51, 22), (0, 5)] rfl (by decide +kernel)) ggL_law_X12_behind
set_option maxRecDepth 20000 in
theorem gk_X11_done_0 : GoodIn wsL_law [.code yX11_done cX11_done 5 (some .int)] := goodIn_q wsL_cs_in [(52, 15)] rfl (by decide +kernel)
set_option maxRecDepth 20000 in
theorem gk_wsX11_done_r1 : GoodIn wsL_law wsX11_done_r1 := goodIn_q wsL_cs_in [(1, 0), (4, 11), (4, 12), (4, 13), (0, 2), (4, 14), (0, 14), (49, 6), (49, 7), (49, 8), (38, 14), (6, 2), (6, 3), (6, 4), (1, 16), (6, 5), (3, 4), (6, 6), (6, 7), (6, 8), (6, 9), (6, 10), (6, 11), (6, 12)] rfl (by decide +kernel)
set_option maxRecDepth 20000 in
theorem gk_wsX11_done_r2 : GoodIn wsL_law wsX11_done_r2 := goodIn_q wsL_cs_in [(4, 15), (4, 16), (4, 17), (4, 18), (4, 19), (4, 20), (4, 21), (4, 22), (0, 16), (49, 9), (49, 10), (49, 11), (0, 23), (49, 12), (2, 4), (49, 13), (23, 16), (9, 1), (9, 2), (9, 3), (2, 5), (2, 3), (39, 2), (24, 13)] rfl (by decide +kernel)
set_option maxRecDepth 20000 in
theorem gk_wsX11_done_r3 : GoodIn wsL_law wsX11_done_r3 := goodIn_q wsL_cs_in [(24, 14), (24, 15), (24, 16), (8, 13), (8, 14), (8, 15), (3, 3), (6, 22), (6, 14), (6, 15), (6, 16), (3, 5), (6, 17), (49, 14), (49, 15), (49, 16), (49, 17), (18, 3), (18, 4), (18, 1), (18, 2), (50, 10), (50, 11), (50, 12)] rfl (by decide +kernel)
set_option maxRecDepth 20000 in
theorem gk_wsX11_done_r4 : GoodIn wsL_law wsX11_done_r4 := goodIn_q wsL_cs_in [(50, 13), (50, 14), (31, 6), (31, 7), (31, 8), (11, 6), (31, 9), (14, 20), (14, 21), (29, 16), (5, 4), (5, 5), (5, 6), (31, 10), (31, 11), (31, 12), (50, 15), (31, 14), (31, 15), (31, 16), (50, 16), (29, 9), (29, 10), (29, 11)] rfl (by decide +kernel)
set_option maxRecDepth 20000 in
theorem gk_wsX11_done_r5 : GoodIn wsL_law wsX11_done_r5 := goodIn_q wsL_cs_in [(29, 12), (15, 0), (29, 13), (29, 14), (29, 15), (14, 22), (29, 17), (29, 18), (29, 19), (29, 20), (29, 21), (29, 22), (10, 13), (10, 14), (10, 15), (10, 16), (10, 17), (10, 18), (10, 19), (10, 20), (10, 21), (10, 22), (10, 23), (11, 0)] rfl (by decide +kernel)
set_option maxRecDepth 20000 in
theorem gk_wsX11_done_r6 : GoodIn wsL_law wsX11_done_r6 := goodIn_q wsL_cs_in [(11, 1), (11, 2), (11, 3), (11, 4), (11, 5), (11, 7), (11, 8), (11, 9), (11, 10), (11, 11), (11, 12), (11, 13), (11, 14), (11, 15), (11, 16), (11, 17), (11, 18), (11, 19), (11, 20), (11, 21), (11, 22), (11, 23), (12, 0), (12, 1)] rfl (by decide +kernel)
set_option maxRecDepth 20000 in
theorem gk_wsX11_done_r7 : GoodIn wsL_law wsX11_done_r7 := goodIn_q wsL_cs_in [(12, 2), (12, 3), (12, 4), (12, 5), (29, 23), (12, 7), (12, 8), (12, 9), (12, 10), (12, 11), (12, 12), (12, 13), (12, 14), (12, 15), (30, 0), (30, 1), (30, 2), (30, 3), (30, 4), (30, 5), (30, 6), (30, 7), (30, 8), (30, 9)] rfl (by decide +kernel)
set_option maxRecDepth 20000 in
theorem gk_wsX11_done_r8 : GoodIn wsL_law wsX11_done_r8 := goodIn_q wsL_cs_in [(30, 10), (30, 11), (30, 12), (30, 13), (30, 14), (30, 15), (30, 16), (30, 17), (30, 18), (30, 19), (30, 20), (30, 21), (30, 22), (30, 23), (31, 0), (50, 17), (31, 2), (31, 3), (31, 4), (51, 10), (51, 11), (51, 12), (51, 13)] rfl (by decide +kernel)
set_option maxRecDepth 20000 in
theorem ggL_law_X11_done : GoodIn wsL_law wsX11_done := goodIn_app gk_X11_done_0 (goodIn_app (goodIn_app (goodIn_app (goodIn_app (goodIn_app (goodIn_app (goodIn_app (goodIn_app (goodIn_app (goodIn_app (goodIn_app gk_wsX11_done_r1 (goodIn_app gk_wsX11_done_r2 (goodIn_app gk_wsX11_done_r3 (goodIn_app gk_wsX11_done_r4 (goodIn_app gk_wsX11_done_r5 (goodIn_app gk_wsX11_done_r6 (goodIn_app gk_wsX11_done_r7 gk_wsX11_done_r8))))))) gku_X11) gku_X7) gku_X4) gku_X0) gku_X1) gku_X2) gku_X3) gku_X5) gku_X8) gku_X10)
set_option maxRecDepth 20000 in
theorem gL_law_X11_done : GoodIn wsL_law (wsV RL 147 RX11 yX11_done wsX11_done) := goodIn_app (goodIn_q wsL_cs_in [(52, 12), (52, 13), (52, 14), (0, 2)] rfl (by decide +kernel)) ggL_law_X11_done
set_option maxRecDepth 20000 in
theorem gk_X12_done_0 : GoodIn wsL_law [.code yX12_done cX12_done 4 (some .int)] := goodIn_q wsL_cs_in [(52, 19)] rfl (by decide +kernel)
set_option maxRecDepth 20000 in
theorem gk_wsX12_done_r1 : GoodIn wsL_law wsX12_done_r1 := goodIn_q wsL_cs_in [(4, 0), (39, 7), (39, 8), (39, 9), (0, 5), (39, 10), (3, 11), (7, 3), (7, 4), (7, 5), (7, 6), (3, 10), (5, 15), (5, 16), (5, 17), (7, 7), (7, 8), (7, 9), (7, 10), (5, 18), (5, 19), (5, 20), (5, 21), (3, 22)] rfl (by decide +kernel)
set_option maxRecDepth 20000 in
theorem gk_wsX12_done_r2 : GoodIn wsL_law wsX12_done_r2 := goodIn_q wsL_cs_in [(31, 23), (32, 0), (32, 1), (32, 2), (3, 13), (3, 14), (3, 15), (3, 16), (3, 17), (3, 18), (3, 19), (9, 12), (4, 4), (4, 5), (49, 22), (49, 23), (50, 0), (50, 1), (39, 18), (39, 19), (39, 20), (39, 21), (3, 12), (50, 2)] rfl (by decide +kernel)
set_option maxRecDepth 20000 in
theorem gk_wsX12_done_r3 : GoodIn wsL_law wsX12_done_r3 := goodIn_q wsL_cs_in [(50, 3), (50, 4), (50, 5), (9, 8), (9, 9), (9, 10), (9, 11), (21, 20), (21, 21), (21, 22), (21, 23), (21, 9), (21, 10), (21, 11), (33, 13), (33, 14), (33, 15), (33, 16), (4, 1), (33, 17), (5, 4), (5, 5), (5, 6), (33, 18)] rfl (by decide +kernel)
set_option maxRecDepth 20000 in
theorem gk_wsX12_done_r4 : GoodIn wsL_law wsX12_done_r4 := goodIn_q wsL_cs_in [(29, 14), (29, 15), (33, 19), (33, 20), (33, 21), (33, 22), (13, 2), (13, 3), (13, 4), (13, 5), (19, 15), (19, 16), (19, 17), (19, 18), (33, 23), (34, 0), (34, 1), (34, 2), (52, 4), (52, 5), (52, 6), (52, 7), (34, 3), (34, 4)] rfl (by decide +kernel)
set_option maxRecDepth 20000 in
theorem gk_wsX12_done_r5 : GoodIn wsL_law wsX12_done_r5 := goodIn_q wsL_cs_in [(34, 5), (34, 6)] rfl (by decide +kernel)
set_option maxRecDepth 20000 in
theorem ggL_law_X12_done : GoodIn wsL_law wsX12_done := goodIn_app gk_X12_done_0 (goodIn_app (goodIn_app gk_wsX12_done_r1 (goodIn_app gk_wsX12_done_r2 (goodIn_app gk_wsX12_done_r3 (goodIn_app gk_wsX12_done_r4 gk_wsX12_done_r5)))) gku_X12)
set_option maxRecDepth 20000 in
theorem gL_law_X12_done : GoodIn wsL_law (wsV RL 150 RX12 yX12_done wsX12_done) := goodIn_app (goodIn_q wsL_cs_in [(52, 16), (52, 17), (52, 18), (0, 5)] rfl (by decide +kernel)) ggL_law_X12_done
set_option maxRecDepth 20000 in
theorem gk_X11_press_0 : GoodIn wsL_law [.code yX11_press cX11_press 5 (some .int)] := goodIn_q wsL_cs_in [(52, 23)] rfl (by decide +kernel)
set_option maxRecDepth 20000 in
theorem gk_wsX11_press_r1 : GoodIn wsL_law wsX11_press_r1 := goodIn_q wsL_cs_in [(1, 0), (9, 0), (9, 1), (9, 2), (0, 23), (9, 3), (2, 5), (2, 3), (4, 15), (4, 16), (4, 17), (0, 2), (4, 18), (4, 19), (4, 20), (4, 21), (4, 22), (0, 16), (22, 4), (18, 3), (18, 4), (42, 3), (42, 4), (42, 5)] rfl (by decide +kernel)
set_option maxRecDepth 20000 in
theorem gk_wsX11_press_r2 : GoodIn wsL_law wsX11_press_r2 := goodIn_q wsL_cs_in [(42, 6), (11, 6), (42, 7), (15, 0), (42, 8), (42, 9), (42, 10), (42, 11), (42, 12), (42, 13), (42, 14), (53, 0), (29, 9), (29, 10), (29, 11), (29, 12), (29, 13), (29, 14), (5, 5), (29, 15), (14, 20), (29, 16), (5, 4), (5, 6)] rfl (by decide +kernel)
set_option maxRecDepth 20000 in
theorem gk_wsX11_press_r3 : GoodIn wsL_law wsX11_press_r3 := goodIn_q wsL_cs_in [(14, 22), (29, 17), (29, 18), (29, 19), (29, 20), (29, 21), (29, 22), (10, 13), (10, 14), (10, 15), (10, 16), (10, 17), (10, 18), (10, 19), (10, 20), (10, 21), (10, 22), (10, 23), (11, 0), (11, 1), (11, 2), (11, 3), (11, 4), (11, 5)] rfl (by decide +kernel)
set_option maxRecDepth 20000 in
theorem gk_wsX11_press_r4 : GoodIn wsL_law wsX11_press_r4 := goodIn_q wsL_cs_in [(11, 7), (11, 8), (11, 9), (11, 10), (11, 11), (11, 12), (11, 13), (11, 14), (11, 15), (11, 16), (11, 17), (11, 18), (11, 19), (11, 20), (11, 21), (11, 22), (11, 23), (12, 0), (12, 1), (12, 2), (12, 3), (12, 4), (12, 5), (29, 23)] rfl (by decide +kernel)
set_option maxRecDepth 20000 in
theorem gk_wsX11_press_r5 : GoodIn wsL_law wsX11_press_r5 := goodIn_q wsL_cs_in [(12, 7), (12, 8), (12, 9), (12, 10), (12, 11), (12, 12), (12, 13), (12, 14), (12, 15), (30, 0), (30, 1), (30, 2), (30, 3), (30, 4), (30, 5), (30, 6), (30, 7), (30, 8), (30, 9), (30, 10), (30, 11), (30, 12), (30, 13), (30, 14)] rfl (by decide +kernel)
set_option maxRecDepth 20000 in
theorem gk_wsX11_press_r6 : GoodIn wsL_law wsX11_press_r6 := goodIn_q wsL_cs_in [(30, 15), (30, 16), (30, 17), (30, 18), (30, 19), (30, 20), (30, 21), (30, 22), (30, 23), (31, 0), (53, 1), (31, 2), (31, 3), (31, 4)] rfl (by decide +kernel)
set_option maxRecDepth 20000 in
theorem ggL_law_X11_press : GoodIn wsL_law wsX11_press := goodIn_app gk_X11_press_0 (goodIn_app (goodIn_app (goodIn_app (goodIn_app (goodIn_app (goodIn_app (goodIn_app (goodIn_app (goodIn_app (goodIn_app gk_wsX11_press_r1 (goodIn_app gk_wsX11_press_r2 (goodIn_app gk_wsX11_press_r3 (goodIn_app gk_wsX11_press_r4 (goodIn_app gk_wsX11_press_r5 gk_wsX11_press_r6))))) gku_X11) gku_X4) gku_X0) gku_X1) gku_X2) gku_X3) gku_X5) gku_X8) gku_X10)
set_option maxRecDepth 20000 in
theorem gL_law_X11_press : GoodIn wsL_law (wsV RL 151 RX11 yX11_press wsX11_press) := goodIn_app (goodIn_q wsL_cs_in [(52, 20), (52, 21), (52, 22), (0, 2)] rfl (by decide +kernel)) ggL_law_X11_press
set_option maxRecDepth 20000 in
theorem gk_X12_press_0 : GoodIn wsL_law [.code yX12_press cX12_press 4 (some .int)] := goodIn_q wsL_cs_in [(53, 5)] rfl (by decide +kernel)
set_option maxRecDepth 20000 in
theorem gk_wsX12_press_r1 : GoodIn wsL_law wsX12_press_r1 := goodIn_q wsL_cs_in [(3, 16), (9, 8), (9, 9), (9, 10), (0, 5), (9, 11), (9, 12), (5, 15), (5, 16), (5, 17), (5, 18), (5, 19), (5, 20), (5, 21), (3, 22), (22, 11), (22, 12), (22, 13), (33, 13), (33, 14), (33, 15), (33, 16), (4, 1), (3, 19)] rfl (by decide +kernel)
set_option maxRecDepth 20000 in
theorem gk_wsX12_press_r2 : GoodIn wsL_law wsX12_press_r2 := goodIn_q wsL_cs_in [(33, 17), (5, 4), (5, 5), (5, 6), (3, 13), (3, 14), (3, 18), (33, 18), (29, 14), (29, 15), (33, 19), (33, 20), (33, 21), (33, 22), (13, 2), (13, 3), (13, 4), (13, 5), (3, 15), (19, 15), (19, 16), (19, 17), (19, 18)] rfl (by decide +kernel)
set_option maxRecDepth 20000 in
theorem ggL_law_X12_press : GoodIn wsL_law wsX12_press := goodIn_app gk_X12_press_0 (goodIn_app (goodIn_app gk_wsX12_press_r1 gk_wsX12_press_r2) gku_X12)
set_option maxRecDepth 20000 in
theorem gL_law_X12_press : GoodIn wsL_law (wsV RL 154 RX12 yX12_press wsX12_press) := goodIn_app (goodIn_q wsL_cs_in [(53, 2), (53, 3), (53, 4), (0, 5)] rfl (by decide +kernel)) ggL_law_X12_press
set_option maxRecDepth 20000 in
theorem gk_X11_rub_0 : GoodIn wsL_law [.code yX11_rub cX11_rub 5 (some .int)] := goodIn_q wsL_cs_in [(53, 9)] rfl (by decide +kernel)
set_option maxRecDepth 20000 in
theorem gk_wsX11_rub_r1 : GoodIn wsL_law wsX11_rub_r1 := goodIn_q wsL_cs_in [(1, 0), (9, 0), (9, 1), (9, 2), (0, 23), (9, 3), (2, 5), (2, 3), (4, 15), (4, 16), (4, 17), (0, 2), (4, 18), (4, 19), (4, 20), (4, 21), (4, 22), (0, 16), (20, 17), (20, 18), (20, 19), (20, 20), (11, 6), (20, 21)] rfl (by decide +kernel)
set_option maxRecDepth 20000 in
theorem gk_wsX11_rub_r2 : GoodIn wsL_law wsX11_rub_r2 := goodIn_q wsL_cs_in [(15, 0), (18, 1), (18, 2), (20, 22), (20, 23), (21, 0), (21, 1), (21, 2), (21, 3), (21, 4), (22, 4), (18, 3), (18, 4), (53, 10), (31, 6), (31, 7), (31, 8), (31, 9), (14, 20), (14, 21), (29, 16), (5, 4), (5, 5), (5, 6)] rfl (by decide +kernel)
set_option maxRecDepth 20000 in
theorem gk_wsX11_rub_r3 : GoodIn wsL_law wsX11_rub_r3 := goodIn_q wsL_cs_in [(31, 10), (31, 11), (31, 12), (53, 11), (31, 14), (31, 15), (31, 16)] rfl (by decide +kernel)
set_option maxRecDepth 20000 in
theorem ggL_law_X11_rub : GoodIn wsL_law wsX11_rub := goodIn_app gk_X11_rub_0 (goodIn_app (goodIn_app (goodIn_app (goodIn_app (goodIn_app (goodIn_app (goodIn_app (goodIn_app (goodIn_app (goodIn_app gk_wsX11_rub_r1 (goodIn_app gk_wsX11_rub_r2 gk_wsX11_rub_r3)) gku_X11) gku_X4) gku_X0) gku_X1) gku_X2) gku_X3) gku_X5) gku_X8) gku_X10)
set_option maxRecDepth 20000 in
theorem gL_law_X11_rub : GoodIn wsL_law (wsV RL 155 RX11 yX11_rub wsX11_rub) := goodIn_app (goodIn_q wsL_cs_in [(53, 6), (53, 7), (53, 8), (0, 2)] rfl (by decide +kernel)) ggL_law_X11_rub
set_option maxRecDepth 20000 in
theorem gk_X12_rub_0 : GoodIn wsL_law [.code yX12_rub cX12_rub 4 (some .int)] := goodIn_q wsL_cs_in [(53, 15)] rfl (by decide +kernel)
set_option maxRecDepth 20000 in
theorem gk_wsX12_rub_r1 : GoodIn wsL_law wsX12_rub_r1 := goodIn_q wsL_cs_in [(9, 8), (9, 9), (9, 10), (0, 5), (9, 11), (9, 12), (5, 15), (5, 16), (5, 17), (5, 18), (5, 19), (5, 20), (5, 21), (3, 22), (21, 20), (21, 21), (21, 22), (21, 23), (3, 16), (21, 9), (21, 10), (21, 11), (22, 11), (22, 12)] rfl (by decide +kernel)
set_option maxRecDepth 20000 in
theorem gk_wsX12_rub_r2 : GoodIn wsL_law wsX12_rub_r2 := goodIn_q wsL_cs_in [(22, 13), (33, 23), (34, 0), (34, 1), (34, 2), (3, 19), (3, 17), (33, 17), (5, 4), (5, 5), (5, 6), (19, 15), (19, 16), (19, 17), (19, 18)] rfl (by decide +kernel)
set_option maxRecDepth 20000 in
theorem ggL_law_X12_rub : GoodIn wsL_law wsX12_rub := goodIn_app gk_X12_rub_0 (goodIn_app (goodIn_app gk_wsX12_rub_r1 gk_wsX12_rub_r2) gku_X12)
set_option maxRecDepth 20000 in
theorem gL_law_X12_rub : GoodIn wsL_law (wsV RL 158 RX12 yX12_rub wsX12_rub) := goodIn_app (goodIn_q wsL_cs_in [(53, 12), (53, 13), (53, 14), (0, 5)] rfl (by decide +kernel)) ggL_law_X12_rub
set_option maxRecDepth 20000 in
theorem gk_X11_dies_0 : GoodIn wsL_law [.code yX11_dies cX11_dies 3 (some .int)] := goodIn_q wsL_cs_in [(53, 19)] rfl (by decide +kernel)
set_option maxRecDepth 20000 in
theorem gk_wsX11_dies_r1 : GoodIn wsL_law wsX11_dies_r1 := goodIn_q wsL_cs_in [(1, 0), (10, 2), (9, 0), (9, 1), (9, 2), (0, 23), (9, 3), (2, 5), (2, 3), (4, 15), (4, 16), (4, 17), (0, 2), (4, 18), (4, 19), (4, 20), (4, 21), (4, 22), (0, 16), (42, 3), (42, 4), (42, 5), (42, 6), (11, 6)] rfl (by decide +kernel)
set_option maxRecDepth 20000 in
theorem gk_wsX11_dies_r2 : GoodIn wsL_law wsX11_dies_r2 := goodIn_q wsL_cs_in [(42, 7), (15, 0), (42, 8), (42, 9), (42, 10), (42, 11), (42, 12), (42, 13), (42, 14)] rfl (by decide +kernel)
set_option maxRecDepth 20000 in
theorem ggL_law_X11_dies : GoodIn wsL_law wsX11_dies := goodIn_app gk_X11_dies_0 (goodIn_app (goodIn_app (goodIn_app (goodIn_app (goodIn_app (goodIn_app (goodIn_app (goodIn_app (goodIn_app (goodIn_app gk_wsX11_dies_r1 gk_wsX11_dies_r2) gku_X11) gku_X0) gku_X1) gku_X2) gku_X3) gku_X5) gku_X8) gku_X10) gku_X4)
set_option maxRecDepth 20000 in
theorem gL_law_X11_dies : GoodIn wsL_law (wsV RL 159 RX11 yX11_dies wsX11_dies) := goodIn_app (goodIn_q wsL_cs_in [(53, 16), (53, 17), (53, 18), (0, 2)] rfl (by decide +kernel)) ggL_law_X11_dies
set_option maxRecDepth 20000 in
theorem gk_X12_dies_0 : GoodIn wsL_law [.code yX12_dies cX12_dies 2 (some .int)] := goodIn_q wsL_cs_in [(53, 23)] rfl (by decide +kernel)
set_option maxRecDepth 20000 in
theorem gk_X12_dies_l1 : GoodIn wsL_law [.fieldLink RX12 29 "CarbonCopiesModel" "out" "[I", .methodLink RX12 96 yX12_isPerson, .instanceMethod yX12_isPerson, .selects RX12 yX12_isPerson yX12_isPerson, .initialized RX12, .code yX12_isPerson cX12_isPerson 2 (some .boolean), .fieldLink RX12 79 "CarbonCopiesModel" "persons" "I", .methodLink RX12 82 yX12_within, .static yX12_within, .code yX12_within cX12_within 3 (some .boolean), .methodLink RX12 75 yX12_no, .instanceMethod yX12_no, .selects RX12 yX12_no yX12_no, .code yX12_no cX12_no 2 (some .int), .fieldLink RX12 47 "CarbonCopiesModel" "refusals" "[I"] := goodIn_q wsL_cs_in [(3, 16), (9, 8), (9, 9), (9, 10), (0, 5), (9, 11), (9, 12), (5, 15), (5, 16), (5, 17), (5, 18), (5, 19), (5, 20), (5, 21), (3, 22)] rfl (by decide +kernel)
set_option maxRecDepth 20000 in
theorem ggL_law_X12_dies : GoodIn wsL_law wsX12_dies := goodIn_app gk_X12_dies_0 (goodIn_app gk_X12_dies_l1 gku_X12)
set_option maxRecDepth 20000 in
theorem gL_law_X12_dies : GoodIn wsL_law (wsV RL 162 RX12 yX12_dies wsX12_dies) := goodIn_app (goodIn_q wsL_cs_in [(53, 20), (53, 21), (53, 22), (0, 5)] rfl (by decide +kernel)) ggL_law_X12_dies
set_option maxRecDepth 20000 in
theorem gk_X11_years_0 : GoodIn wsL_law [.code yX11_years cX11_years 3 (some .int)] := goodIn_q wsL_cs_in [(54, 3)] rfl (by decide +kernel)
set_option maxRecDepth 20000 in
theorem gk_wsX11_years_r1 : GoodIn wsL_law wsX11_years_r1 := goodIn_q wsL_cs_in [(1, 0), (46, 15), (4, 15), (4, 16), (4, 17), (0, 2), (4, 18), (4, 19), (4, 20), (4, 21), (4, 22), (0, 16), (54, 4), (54, 5), (54, 6), (0, 23), (54, 7), (2, 5), (49, 13), (54, 8), (54, 9), (54, 10), (54, 11), (2, 7)] rfl (by decide +kernel)
set_option maxRecDepth 20000 in
theorem gk_wsX11_years_r2 : GoodIn wsL_law wsX11_years_r2 := goodIn_q wsL_cs_in [(54, 12), (23, 16), (9, 1), (9, 2), (9, 3), (2, 3), (54, 13), (42, 4), (42, 5), (42, 6), (11, 6), (42, 7), (15, 0), (42, 8), (42, 9), (42, 10), (54, 14), (42, 12), (42, 13), (42, 14), (50, 16), (29, 9), (29, 10), (29, 11)] rfl (by decide +kernel)
set_option maxRecDepth 20000 in
theorem gk_wsX11_years_r3 : GoodIn wsL_law wsX11_years_r3 := goodIn_q wsL_cs_in [(29, 12), (29, 13), (29, 14), (5, 5), (29, 15), (14, 20), (29, 16), (5, 4), (5, 6), (14, 22), (18, 3), (18, 4), (29, 17), (29, 18), (29, 19), (29, 20), (29, 21), (29, 22), (10, 13), (10, 14), (10, 15), (10, 16), (10, 17), (10, 18)] rfl (by decide +kernel)
set_option maxRecDepth 20000 in
theorem gk_wsX11_years_r4 : GoodIn wsL_law wsX11_years_r4 := goodIn_q wsL_cs_in [(10, 19), (10, 20), (10, 21), (10, 22), (10, 23), (11, 0), (11, 1), (11, 2), (11, 3), (11, 4), (11, 5), (11, 7), (11, 8), (11, 9), (11, 10), (11, 11), (11, 12), (11, 13), (11, 14), (11, 15), (11, 16), (11, 17), (11, 18), (11, 19)] rfl (by decide +kernel)
set_option maxRecDepth 20000 in
theorem gk_wsX11_years_r5 : GoodIn wsL_law wsX11_years_r5 := goodIn_q wsL_cs_in [(11, 20), (11, 21), (11, 22), (11, 23), (12, 0), (12, 1), (12, 2), (12, 3), (12, 4), (12, 5), (29, 23), (12, 7), (12, 8), (12, 9), (12, 10), (12, 11), (12, 12), (12, 13), (12, 14), (12, 15), (30, 0), (30, 1), (30, 2), (30, 3)] rfl (by decide +kernel)
set_option maxRecDepth 20000 in
theorem gk_wsX11_years_r6 : GoodIn wsL_law wsX11_years_r6 := goodIn_q wsL_cs_in [(30, 4), (30, 5), (30, 6), (30, 7), (30, 8), (30, 9), (30, 10), (30, 11), (30, 12), (30, 13), (30, 14), (30, 15), (30, 16), (30, 17), (30, 18), (30, 19), (30, 20), (30, 21), (30, 22), (30, 23), (31, 0), (50, 17), (31, 2), (31, 3)] rfl (by decide +kernel)
set_option maxRecDepth 20000 in
theorem gk_wsX11_years_r7 : GoodIn wsL_law wsX11_years_r7 := goodIn_q wsL_cs_in [(31, 4), (38, 19), (20, 18), (20, 19), (20, 20), (20, 21), (18, 1), (18, 2), (20, 22), (20, 23), (21, 0), (38, 20), (21, 2), (21, 3), (21, 4), (50, 14), (31, 6), (31, 7), (31, 8), (31, 9), (14, 21), (31, 10), (31, 11), (31, 12)] rfl (by decide +kernel)
set_option maxRecDepth 20000 in
theorem gk_wsX11_years_r8 : GoodIn wsL_law wsX11_years_r8 := goodIn_q wsL_cs_in [(50, 15), (31, 14), (31, 15), (31, 16), (51, 10), (51, 11), (51, 12), (51, 13)] rfl (by decide +kernel)
set_option maxRecDepth 20000 in
theorem ggL_law_X11_years : GoodIn wsL_law wsX11_years := goodIn_app gk_X11_years_0 (goodIn_app (goodIn_app (goodIn_app (goodIn_app (goodIn_app (goodIn_app (goodIn_app (goodIn_app (goodIn_app (goodIn_app gk_wsX11_years_r1 (goodIn_app gk_wsX11_years_r2 (goodIn_app gk_wsX11_years_r3 (goodIn_app gk_wsX11_years_r4 (goodIn_app gk_wsX11_years_r5 (goodIn_app gk_wsX11_years_r6 (goodIn_app gk_wsX11_years_r7 gk_wsX11_years_r8))))))) gku_X11) gku_X4) gku_X0) gku_X1) gku_X2) gku_X3) gku_X5) gku_X8) gku_X10)
set_option maxRecDepth 20000 in
theorem gL_law_X11_years : GoodIn wsL_law (wsV RL 163 RX11 yX11_years wsX11_years) := goodIn_app (goodIn_q wsL_cs_in [(54, 0), (54, 1), (54, 2), (0, 2)] rfl (by decide +kernel)) ggL_law_X11_years
set_option maxRecDepth 20000 in
theorem gk_X12_years_0 : GoodIn wsL_law [.code yX12_years cX12_years 3 (some .int)] := goodIn_q wsL_cs_in [(54, 18)] rfl (by decide +kernel)
set_option maxRecDepth 20000 in
theorem gk_wsX12_years_r1 : GoodIn wsL_law wsX12_years_r1 := goodIn_q wsL_cs_in [(9, 12), (5, 18), (5, 19), (5, 20), (0, 5), (5, 21), (3, 22), (5, 15), (5, 16), (5, 17), (54, 19), (54, 20), (54, 21), (54, 22), (3, 16), (54, 23), (55, 0), (55, 1), (55, 2), (4, 5), (55, 3), (33, 13), (33, 14), (33, 15)] rfl (by decide +kernel)
set_option maxRecDepth 20000 in
theorem gk_wsX12_years_r2 : GoodIn wsL_law wsX12_years_r2 := goodIn_q wsL_cs_in [(33, 16), (4, 1), (3, 19), (33, 17), (5, 4), (5, 5), (5, 6), (3, 13), (3, 14), (3, 18), (33, 18), (29, 14), (29, 15), (33, 19), (33, 20), (33, 21), (33, 22), (13, 2), (13, 3), (13, 4), (13, 5), (3, 15), (19, 15), (19, 16)] rfl (by decide +kernel)
set_option maxRecDepth 20000 in
theorem gk_wsX12_years_r3 : GoodIn wsL_law wsX12_years_r3 := goodIn_q wsL_cs_in [(19, 17), (19, 18), (21, 20), (21, 21), (21, 22), (21, 23), (21, 9), (21, 10), (21, 11), (33, 23), (34, 0), (34, 1), (34, 2), (3, 17), (52, 4), (52, 5), (52, 6), (52, 7)] rfl (by decide +kernel)
set_option maxRecDepth 20000 in
theorem ggL_law_X12_years : GoodIn wsL_law wsX12_years := goodIn_app gk_X12_years_0 (goodIn_app (goodIn_app gk_wsX12_years_r1 (goodIn_app gk_wsX12_years_r2 gk_wsX12_years_r3)) gku_X12)
set_option maxRecDepth 20000 in
theorem gL_law_X12_years : GoodIn wsL_law (wsV RL 166 RX12 yX12_years wsX12_years) := goodIn_app (goodIn_q wsL_cs_in [(54, 15), (54, 16), (54, 17), (0, 5)] rfl (by decide +kernel)) ggL_law_X12_years
set_option maxRecDepth 20000 in
theorem gk_X11_seed_0 : GoodIn wsL_law [.code yX11_seed cX11_seed 3 (some .int)] := goodIn_q wsL_cs_in [(55, 7)] rfl (by decide +kernel)
set_option maxRecDepth 20000 in
theorem gk_X11_seed_l1 : GoodIn wsL_law [.fieldLink RX11 31 "CarbonCopies" "truth" "LCarbonCopies$Land;", .fieldLink RX11 299 "CarbonCopies$Land" "drawn" "I"] := goodIn_q wsL_cs_in [(1, 0), (55, 8)] rfl (by decide +kernel)
set_option maxRecDepth 20000 in
theorem ggL_law_X11_seed : GoodIn wsL_law wsX11_seed := goodIn_app gk_X11_seed_0 (goodIn_app (goodIn_app gk_X11_seed_l1 gku_X11) gku_X4)
set_option maxRecDepth 20000 in
theorem gL_law_X11_seed : GoodIn wsL_law (wsV RL 167 RX11 yX11_seed wsX11_seed) := goodIn_app (goodIn_q wsL_cs_in [(55, 4), (55, 5), (55, 6), (0, 2)] rfl (by decide +kernel)) ggL_law_X11_seed
set_option maxRecDepth 20000 in
theorem gk_X12_seed_0 : GoodIn wsL_law [.code yX12_seed cX12_seed 3 (some .int)] := goodIn_q wsL_cs_in [(55, 12)] rfl (by decide +kernel)
set_option maxRecDepth 20000 in
theorem gk_X12_seed_l1 : GoodIn wsL_law [.fieldLink RX12 69 "CarbonCopiesModel" "seed" "I"] := goodIn_q wsL_cs_in [(4, 5)] rfl (by decide +kernel)
set_option maxRecDepth 20000 in
theorem ggL_law_X12_seed : GoodIn wsL_law wsX12_seed := goodIn_app gk_X12_seed_0 (goodIn_app gk_X12_seed_l1 gku_X12)
set_option maxRecDepth 20000 in
theorem gL_law_X12_seed : GoodIn wsL_law (wsV RL 170 RX12 yX12_seed wsX12_seed) := goodIn_app (goodIn_q wsL_cs_in [(55, 9), (55, 10), (55, 11), (0, 5)] rfl (by decide +kernel)) ggL_law_X12_seed
set_option maxRecDepth 20000 in
theorem gk_X11_act_0 : GoodIn wsL_law [.code yX11_act cX11_act 5 (some .int)] := goodIn_q wsL_cs_in [(55, 16)] rfl (by decide +kernel)
set_option maxRecDepth 20000 in
theorem gk_wsX11_act_r1 : GoodIn wsL_law wsX11_act_r1 := goodIn_q wsL_cs_in [(0, 20), (1, 0), (55, 17), (55, 18), (55, 19), (0, 19), (55, 20), (1, 21), (9, 0), (9, 1), (9, 2), (0, 23), (9, 3), (2, 5), (2, 3), (55, 21), (55, 22), (55, 23), (56, 0), (56, 1), (11, 1), (56, 2), (56, 3), (56, 4)] rfl (by decide +kernel)
set_option maxRecDepth 20000 in
theorem gk_wsX11_act_r2 : GoodIn wsL_law wsX11_act_r2 := goodIn_q wsL_cs_in [(56, 5), (56, 6), (56, 7), (56, 8), (56, 9), (56, 10), (1, 20), (56, 11), (11, 4), (56, 12), (11, 6), (56, 13), (15, 3), (15, 2), (56, 14), (56, 15), (56, 16), (11, 11), (56, 17), (56, 18), (56, 19), (56, 20), (56, 21), (56, 22)] rfl (by decide +kernel)
set_option maxRecDepth 20000 in
theorem gk_wsX11_act_r3 : GoodIn wsL_law wsX11_act_r3 := goodIn_q wsL_cs_in [(11, 17), (56, 23), (11, 19), (57, 0), (57, 1), (57, 2), (57, 3), (57, 4), (57, 5), (57, 6), (11, 22), (57, 7), (57, 8), (57, 9), (57, 10), (57, 11), (57, 12), (57, 13), (57, 14), (57, 15), (57, 16), (57, 17), (57, 18), (57, 19)] rfl (by decide +kernel)
set_option maxRecDepth 20000 in
theorem gk_wsX11_act_r4 : GoodIn wsL_law wsX11_act_r4 := goodIn_q wsL_cs_in [(57, 20), (57, 21), (57, 22), (57, 23), (11, 13), (11, 14), (58, 0), (58, 1), (12, 1), (58, 2), (58, 3), (58, 4), (58, 5), (58, 6), (12, 4), (58, 7), (58, 8), (58, 9), (58, 10), (58, 11), (58, 12), (12, 11), (58, 13), (58, 14)] rfl (by decide +kernel)
set_option maxRecDepth 20000 in
theorem gk_wsX11_act_r5 : GoodIn wsL_law wsX11_act_r5 := goodIn_q wsL_cs_in [(58, 15), (58, 16), (58, 17), (58, 18), (12, 15), (58, 19), (58, 20), (58, 21), (58, 22), (58, 23), (10, 17), (59, 0), (59, 1), (59, 2), (59, 3), (59, 4), (59, 5), (10, 23), (59, 6), (59, 7), (59, 8), (59, 9), (59, 10), (14, 23)] rfl (by decide +kernel)
set_option maxRecDepth 20000 in
theorem gk_wsX11_act_r6 : GoodIn wsL_law wsX11_act_r6 := goodIn_q wsL_cs_in [(59, 11), (59, 12), (59, 13), (59, 14), (59, 15), (59, 16), (59, 17), (59, 18), (59, 19)] rfl (by decide +kernel)
set_option maxRecDepth 20000 in
theorem ggL_law_X11_act : GoodIn wsL_law wsX11_act := goodIn_app gk_X11_act_0 (goodIn_app (goodIn_app (goodIn_app (goodIn_app (goodIn_app (goodIn_app (goodIn_app (goodIn_app (goodIn_app (goodIn_app (goodIn_app gk_wsX11_act_r1 (goodIn_app gk_wsX11_act_r2 (goodIn_app gk_wsX11_act_r3 (goodIn_app gk_wsX11_act_r4 (goodIn_app gk_wsX11_act_r5 gk_wsX11_act_r6))))) gku_X11) gku_X9) gku_X4) gku_X0) gku_X1) gku_X2) gku_X3) gku_X5) gku_X8) gku_X10)
set_option maxRecDepth 20000 in
theorem gL_law_X11_act : GoodIn wsL_law (wsV RL 171 RX11 yX11_act wsX11_act) := goodIn_app (goodIn_q wsL_cs_in [(55, 13), (55, 14), (55, 15), (0, 2)] rfl (by decide +kernel)) ggL_law_X11_act
set_option maxRecDepth 20000 in
theorem gk_X12_act_0 : GoodIn wsL_law [.code yX12_act cX12_act 4 (some .int)] := goodIn_q wsL_cs_in [(59, 23)] rfl (by decide +kernel)
set_option maxRecDepth 20000 in
theorem gk_wsX12_act_r1 : GoodIn wsL_law wsX12_act_r1 := goodIn_q wsL_cs_in [(60, 0), (9, 8), (9, 9), (9, 10), (0, 5), (9, 11), (9, 12), (5, 15), (5, 16), (5, 17), (60, 1), (60, 2), (60, 3), (60, 4), (3, 13), (3, 14), (60, 5), (60, 6), (60, 7), (60, 8), (3, 21), (60, 9), (60, 10), (60, 11)] rfl (by decide +kernel)
set_option maxRecDepth 20000 in
theorem gk_wsX12_act_r2 : GoodIn wsL_law wsX12_act_r2 := goodIn_q wsL_cs_in [(60, 12), (60, 13), (60, 14), (60, 15), (60, 16)] rfl (by decide +kernel)
set_option maxRecDepth 20000 in
theorem ggL_law_X12_act : GoodIn wsL_law wsX12_act := goodIn_app gk_X12_act_0 (goodIn_app (goodIn_app gk_wsX12_act_r1 gk_wsX12_act_r2) gku_X12)
set_option maxRecDepth 20000 in
theorem gL_law_X12_act : GoodIn wsL_law (wsV RL 174 RX12 yX12_act wsX12_act) := goodIn_app (goodIn_q wsL_cs_in [(59, 20), (59, 21), (59, 22), (0, 5)] rfl (by decide +kernel)) ggL_law_X12_act
set_option maxRecDepth 20000 in
theorem gk_X11_trace_0 : GoodIn wsL_law [.code yX11_trace cX11_trace 2 (some .int)] := goodIn_q wsL_cs_in [(60, 20)] rfl (by decide +kernel)
set_option maxRecDepth 20000 in
theorem gk_X11_trace_l1 : GoodIn wsL_law [.fieldLink RX11 22 "CarbonCopies" "steps" "LCarbonCopies$Trace;", .methodLink RX11 314 yX9_bodyAt, .instanceMethod yX9_bodyAt, .selects RX9 yX9_bodyAt yX9_bodyAt, .initialized RX9, .code yX9_bodyAt cX9_bodyAt 2 (some .int), .fieldLink RX9 15 "CarbonCopies$Trace" "count" "I", .fieldLink RX9 9 "CarbonCopies$Trace" "bodies" "[I"] := goodIn_q wsL_cs_in [(0, 20), (60, 21), (60, 22), (60, 23), (0, 19), (61, 0), (1, 21), (1, 20)] rfl (by decide +kernel)
set_option maxRecDepth 20000 in
theorem ggL_law_X11_trace : GoodIn wsL_law wsX11_trace := goodIn_app gk_X11_trace_0 (goodIn_app (goodIn_app gk_X11_trace_l1 gku_X11) gku_X9)
set_option maxRecDepth 20000 in
theorem gL_law_X11_trace : GoodIn wsL_law (wsV RL 175 RX11 yX11_trace wsX11_trace) := goodIn_app (goodIn_q wsL_cs_in [(60, 17), (60, 18), (60, 19), (0, 2)] rfl (by decide +kernel)) ggL_law_X11_trace
set_option maxRecDepth 20000 in
theorem gk_X12_trace_0 : GoodIn wsL_law [.code yX12_trace cX12_trace 2 (some .int)] := goodIn_q wsL_cs_in [(61, 4)] rfl (by decide +kernel)
set_option maxRecDepth 20000 in
theorem gk_X12_trace_l1 : GoodIn wsL_law [.fieldLink RX12 295 "CarbonCopiesModel" "traced" "I", .fieldLink RX12 44 "CarbonCopiesModel" "traces" "[I"] := goodIn_q wsL_cs_in [(60, 0), (3, 21)] rfl (by decide +kernel)
set_option maxRecDepth 20000 in
theorem ggL_law_X12_trace : GoodIn wsL_law wsX12_trace := goodIn_app gk_X12_trace_0 (goodIn_app gk_X12_trace_l1 gku_X12)
set_option maxRecDepth 20000 in
theorem gL_law_X12_trace : GoodIn wsL_law (wsV RL 178 RX12 yX12_trace wsX12_trace) := goodIn_app (goodIn_q wsL_cs_in [(61, 1), (61, 2), (61, 3), (0, 5)] rfl (by decide +kernel)) ggL_law_X12_trace
set_option maxRecDepth 20000 in
theorem gk_X11_image_0 : GoodIn wsL_law [.code yX11_image cX11_image 1 (some .int)] := goodIn_q wsL_cs_in [(61, 8)] rfl (by decide +kernel)
set_option maxRecDepth 20000 in
theorem gk_wsX11_image_r1 : GoodIn wsL_law wsX11_image_r1 := goodIn_q wsL_cs_in [(1, 2), (1, 0), (1, 13), (46, 15), (23, 12), (23, 13), (23, 14), (0, 23), (23, 15), (2, 6), (2, 7), (2, 5), (13, 23), (23, 16), (9, 1), (9, 2), (9, 3), (2, 3), (13, 19), (13, 20), (13, 21), (13, 22), (14, 0), (14, 1)] rfl (by decide +kernel)
set_option maxRecDepth 20000 in
theorem gk_wsX11_image_r2 : GoodIn wsL_law wsX11_image_r2 := goodIn_q wsL_cs_in [(11, 19), (2, 8), (14, 2), (14, 3), (12, 1), (14, 4), (14, 5), (12, 11), (14, 6), (14, 7), (11, 1), (14, 8), (14, 9), (10, 17), (14, 10), (14, 11), (11, 11), (2, 2), (14, 12), (11, 6), (14, 13), (14, 14), (14, 15), (14, 16)] rfl (by decide +kernel)
set_option maxRecDepth 20000 in
theorem gk_wsX11_image_r3 : GoodIn wsL_law wsX11_image_r3 := goodIn_q wsL_cs_in [(14, 17), (14, 18), (14, 19), (0, 11), (0, 12), (0, 15), (14, 20), (14, 21), (14, 22), (14, 23), (11, 8), (15, 0), (15, 1), (15, 2), (15, 3), (15, 4), (15, 5), (15, 6), (15, 7), (15, 8), (15, 9), (15, 10), (15, 11), (15, 12)] rfl (by decide +kernel)
set_option maxRecDepth 20000 in
theorem gk_wsX11_image_r4 : GoodIn wsL_law wsX11_image_r4 := goodIn_q wsL_cs_in [(15, 13), (15, 14), (15, 15), (15, 16), (15, 17), (15, 18), (15, 19), (15, 20), (15, 21), (15, 22), (15, 23), (16, 0), (23, 17), (23, 18), (23, 19), (23, 20), (23, 21), (23, 22), (7, 17), (7, 18), (7, 19), (23, 23), (24, 0), (24, 1)] rfl (by decide +kernel)
set_option maxRecDepth 20000 in
theorem gk_wsX11_image_r5 : GoodIn wsL_law wsX11_image_r5 := goodIn_q wsL_cs_in [(24, 2), (24, 3), (24, 4), (24, 5)] rfl (by decide +kernel)
set_option maxRecDepth 20000 in
theorem ggL_law_X11_image : GoodIn wsL_law wsX11_image := goodIn_app gk_X11_image_0 (goodIn_app (goodIn_app (goodIn_app (goodIn_app (goodIn_app (goodIn_app (goodIn_app (goodIn_app (goodIn_app (goodIn_app gk_wsX11_image_r1 (goodIn_app gk_wsX11_image_r2 (goodIn_app gk_wsX11_image_r3 (goodIn_app gk_wsX11_image_r4 gk_wsX11_image_r5)))) gku_X11) gku_X4) gku_X0) gku_X1) gku_X2) gku_X3) gku_X5) gku_X8) gku_X10)
set_option maxRecDepth 20000 in
theorem gL_law_X11_image : GoodIn wsL_law (wsV RL 179 RX11 yX11_image wsX11_image) := goodIn_app (goodIn_q wsL_cs_in [(61, 5), (61, 6), (61, 7), (0, 2)] rfl (by decide +kernel)) ggL_law_X11_image
set_option maxRecDepth 20000 in
theorem gk_X12_image_0 : GoodIn wsL_law [.code yX12_image cX12_image 1 (some .int)] := goodIn_q wsL_cs_in [(61, 12)] rfl (by decide +kernel)
set_option maxRecDepth 20000 in
theorem gk_X12_image_l1 : GoodIn wsL_law [.fieldLink RX12 311 "CarbonCopiesModel" "imaged" "Z", .fieldLink RX12 50 "CarbonCopiesModel" "old" "[I", .fieldLink RX12 79 "CarbonCopiesModel" "persons" "I", .methodLink RX12 191 yX12_keep, .instanceMethod yX12_keep, .selects RX12 yX12_keep yX12_keep, .initialized RX12, .code yX12_keep cX12_keep 3 none, .fieldLink RX12 20 "CarbonCopiesModel" "kind" "[I", .fieldLink RX12 23 "CarbonCopiesModel" "a" "[I", .fieldLink RX12 26 "CarbonCopiesModel" "thick" "[I", .fieldLink RX12 29 "CarbonCopiesModel" "out" "[I", .fieldLink RX12 32 "CarbonCopiesModel" "smears" "[I", .fieldLink RX12 35 "CarbonCopiesModel" "drift" "[I", .fieldLink RX12 38 "CarbonCopiesModel" "strength" "[I", .fieldLink RX12 65 "CarbonCopiesModel" "least" "I", .fieldLink RX12 69 "CarbonCopiesModel" "seed" "I"] := goodIn_q wsL_cs_in [(61, 13), (3, 23), (9, 12), (31, 23), (32, 0), (32, 1), (0, 5), (32, 2), (3, 13), (3, 14), (3, 15), (3, 16), (3, 17), (3, 18), (3, 19), (4, 4), (4, 5)] rfl (by decide +kernel)
set_option maxRecDepth 20000 in
theorem ggL_law_X12_image : GoodIn wsL_law wsX12_image := goodIn_app gk_X12_image_0 (goodIn_app gk_X12_image_l1 gku_X12)
set_option maxRecDepth 20000 in
theorem gL_law_X12_image : GoodIn wsL_law (wsV RL 182 RX12 yX12_image wsX12_image) := goodIn_app (goodIn_q wsL_cs_in [(61, 9), (61, 10), (61, 11), (0, 5)] rfl (by decide +kernel)) ggL_law_X12_image
set_option maxRecDepth 20000 in
theorem gk_X11_restore_0 : GoodIn wsL_law [.code yX11_restore cX11_restore 3 (some .int)] := goodIn_q wsL_cs_in [(61, 17)] rfl (by decide +kernel)
set_option maxRecDepth 20000 in
theorem gk_wsX11_restore_r1 : GoodIn wsL_law wsX11_restore_r1 := goodIn_q wsL_cs_in [(1, 13), (1, 0), (1, 2), (7, 23), (46, 15), (4, 15), (4, 16), (4, 17), (0, 2), (4, 18), (4, 19), (4, 20), (4, 21), (4, 22), (0, 16), (23, 12), (23, 13), (23, 14), (0, 23), (23, 15), (2, 6), (2, 7), (2, 5), (13, 23)] rfl (by decide +kernel)
set_option maxRecDepth 20000 in
theorem gk_wsX11_restore_r2 : GoodIn wsL_law wsX11_restore_r2 := goodIn_q wsL_cs_in [(23, 16), (9, 1), (9, 2), (9, 3), (2, 3), (13, 19), (13, 20), (13, 21), (13, 22), (14, 0), (14, 1), (11, 19), (2, 8), (14, 2), (14, 3), (12, 1), (14, 4), (14, 5), (12, 11), (14, 6), (14, 7), (11, 1), (14, 8), (14, 9)] rfl (by decide +kernel)
set_option maxRecDepth 20000 in
theorem gk_wsX11_restore_r3 : GoodIn wsL_law wsX11_restore_r3 := goodIn_q wsL_cs_in [(10, 17), (14, 10), (14, 11), (11, 11), (2, 2), (14, 12), (11, 6), (14, 13), (14, 14), (14, 15), (14, 16), (14, 17), (14, 18), (14, 19), (0, 11), (0, 12), (0, 15), (14, 20), (14, 21), (14, 22), (14, 23), (11, 8), (15, 0), (15, 1)] rfl (by decide +kernel)
set_option maxRecDepth 20000 in
theorem gk_wsX11_restore_r4 : GoodIn wsL_law wsX11_restore_r4 := goodIn_q wsL_cs_in [(15, 2), (15, 3), (15, 4), (15, 5), (15, 6), (15, 7), (15, 8), (15, 9), (15, 10), (15, 11), (15, 12), (15, 13), (15, 14), (15, 15), (15, 16), (15, 17), (15, 18), (15, 19), (15, 20), (15, 21), (15, 22), (15, 23), (16, 0), (23, 17)] rfl (by decide +kernel)
set_option maxRecDepth 20000 in
theorem gk_wsX11_restore_r5 : GoodIn wsL_law wsX11_restore_r5 := goodIn_q wsL_cs_in [(23, 18), (23, 19), (23, 20), (23, 21), (23, 22), (7, 17), (7, 18), (7, 19), (23, 23), (24, 0), (24, 1), (24, 2), (24, 3), (24, 4), (24, 5), (4, 11), (4, 12), (4, 13), (4, 14), (0, 14), (6, 9), (6, 10), (6, 11), (1, 16)] rfl (by decide +kernel)
set_option maxRecDepth 20000 in
theorem gk_wsX11_restore_r6 : GoodIn wsL_law wsX11_restore_r6 := goodIn_q wsL_cs_in [(6, 12), (3, 4), (9, 0)] rfl (by decide +kernel)
set_option maxRecDepth 20000 in
theorem ggL_law_X11_restore : GoodIn wsL_law wsX11_restore := goodIn_app gk_X11_restore_0 (goodIn_app (goodIn_app (goodIn_app (goodIn_app (goodIn_app (goodIn_app (goodIn_app (goodIn_app (goodIn_app (goodIn_app (goodIn_app gk_wsX11_restore_r1 (goodIn_app gk_wsX11_restore_r2 (goodIn_app gk_wsX11_restore_r3 (goodIn_app gk_wsX11_restore_r4 (goodIn_app gk_wsX11_restore_r5 gk_wsX11_restore_r6))))) gku_X11) gku_X7) gku_X4) gku_X0) gku_X1) gku_X2) gku_X3) gku_X5) gku_X8) gku_X10)
set_option maxRecDepth 20000 in
theorem gL_law_X11_restore : GoodIn wsL_law (wsV RL 183 RX11 yX11_restore wsX11_restore) := goodIn_app (goodIn_q wsL_cs_in [(61, 14), (61, 15), (61, 16), (0, 2)] rfl (by decide +kernel)) ggL_law_X11_restore
set_option maxRecDepth 20000 in
theorem gk_X12_restore_0 : GoodIn wsL_law [.code yX12_restore cX12_restore 2 (some .int)] := goodIn_q wsL_cs_in [(61, 21)] rfl (by decide +kernel)
set_option maxRecDepth 20000 in
theorem gk_wsX12_restore_r1 : GoodIn wsL_law wsX12_restore_r1 := goodIn_q wsL_cs_in [(61, 13), (3, 23), (3, 10), (9, 12), (5, 18), (5, 19), (5, 20), (0, 5), (5, 21), (3, 22), (34, 3), (34, 4), (34, 5), (34, 6), (3, 13), (3, 14), (3, 15), (3, 16), (3, 17), (3, 18), (3, 19), (4, 4), (4, 5), (7, 7)] rfl (by decide +kernel)
set_option maxRecDepth 20000 in
theorem gk_wsX12_restore_r2 : GoodIn wsL_law wsX12_restore_r2 := goodIn_q wsL_cs_in [(7, 8), (7, 9), (7, 10)] rfl (by decide +kernel)
set_option maxRecDepth 20000 in
theorem ggL_law_X12_restore : GoodIn wsL_law wsX12_restore := goodIn_app gk_X12_restore_0 (goodIn_app (goodIn_app gk_wsX12_restore_r1 gk_wsX12_restore_r2) gku_X12)
set_option maxRecDepth 20000 in
theorem gL_law_X12_restore : GoodIn wsL_law (wsV RL 186 RX12 yX12_restore wsX12_restore) := goodIn_app (goodIn_q wsL_cs_in [(61, 18), (61, 19), (61, 20), (0, 5)] rfl (by decide +kernel)) ggL_law_X12_restore
set_option maxRecDepth 20000 in
theorem gk_X11_status_0 : GoodIn wsL_law [.code yX11_status cX11_status 2 (some .int)] := goodIn_q wsL_cs_in [(62, 1)] rfl (by decide +kernel)
set_option maxRecDepth 20000 in
theorem gk_wsX11_status_r1 : GoodIn wsL_law wsX11_status_r1 := goodIn_q wsL_cs_in [(1, 0), (46, 15), (17, 4), (55, 8), (0, 20), (62, 2), (0, 16), (51, 10), (51, 11), (51, 12), (0, 23), (51, 13), (2, 5), (49, 13), (23, 16), (9, 1), (9, 2), (9, 3), (2, 3), (50, 18), (50, 19), (50, 20), (50, 21), (50, 22)] rfl (by decide +kernel)
set_option maxRecDepth 20000 in
theorem gk_wsX11_status_r2 : GoodIn wsL_law wsX11_status_r2 := goodIn_q wsL_cs_in [(50, 23), (51, 0), (51, 1), (11, 6), (51, 2), (14, 20), (51, 3), (51, 4), (51, 5), (51, 6), (51, 7), (51, 8), (51, 9), (51, 14), (51, 15), (51, 16), (51, 17), (51, 18), (18, 20), (18, 21), (18, 22), (18, 23), (14, 21), (19, 0)] rfl (by decide +kernel)
set_option maxRecDepth 20000 in
theorem gk_wsX11_status_r3 : GoodIn wsL_law wsX11_status_r3 := goodIn_q wsL_cs_in [(19, 1), (19, 2), (51, 19), (19, 4), (19, 5), (19, 6)] rfl (by decide +kernel)
set_option maxRecDepth 20000 in
theorem ggL_law_X11_status : GoodIn wsL_law wsX11_status := goodIn_app gk_X11_status_0 (goodIn_app (goodIn_app (goodIn_app (goodIn_app (goodIn_app (goodIn_app (goodIn_app (goodIn_app (goodIn_app (goodIn_app (goodIn_app gk_wsX11_status_r1 (goodIn_app gk_wsX11_status_r2 gk_wsX11_status_r3)) gku_X11) gku_X4) gku_X9) gku_X0) gku_X1) gku_X2) gku_X3) gku_X5) gku_X8) gku_X10)
set_option maxRecDepth 20000 in
theorem gL_law_X11_status : GoodIn wsL_law (wsV RL 187 RX11 yX11_status wsX11_status) := goodIn_app (goodIn_q wsL_cs_in [(61, 22), (61, 23), (62, 0), (0, 2)] rfl (by decide +kernel)) ggL_law_X11_status
set_option maxRecDepth 20000 in
theorem gk_X12_status_0 : GoodIn wsL_law [.code yX12_status cX12_status 2 (some .int)] := goodIn_q wsL_cs_in [(62, 6)] rfl (by decide +kernel)
set_option maxRecDepth 20000 in
theorem gk_wsX12_status_r1 : GoodIn wsL_law wsX12_status_r1 := goodIn_q wsL_cs_in [(9, 12), (4, 4), (4, 5), (60, 0), (3, 22), (52, 4), (52, 5), (52, 6), (0, 5), (52, 7), (3, 16), (52, 0), (52, 1), (52, 2), (52, 3), (3, 19), (52, 8), (52, 9), (52, 10), (52, 11), (19, 19), (19, 20), (19, 21), (19, 22)] rfl (by decide +kernel)
set_option maxRecDepth 20000 in
theorem gk_wsX12_status_r2 : GoodIn wsL_law wsX12_status_r2 := goodIn_q wsL_cs_in [(3, 17), (5, 15), (5, 16), (5, 17)] rfl (by decide +kernel)
set_option maxRecDepth 20000 in
theorem ggL_law_X12_status : GoodIn wsL_law wsX12_status := goodIn_app gk_X12_status_0 (goodIn_app (goodIn_app gk_wsX12_status_r1 gk_wsX12_status_r2) gku_X12)
set_option maxRecDepth 20000 in
theorem gL_law_X12_status : GoodIn wsL_law (wsV RL 190 RX12 yX12_status wsX12_status) := goodIn_app (goodIn_q wsL_cs_in [(62, 3), (62, 4), (62, 5), (0, 5)] rfl (by decide +kernel)) ggL_law_X12_status
