set_option maxRecDepth 20000 in
theorem gL_law_X10_turn : GoodIn wsL_law (wsV RL 91 RX10 yX10_turn wsX10_turn) := goodIn_app (goodIn_of _ (by decide +kernel)) ggL_law_X10_turn
set_option maxRecDepth 20000 in
theorem ggL_law_L_smoke : GoodIn wsL_law wsL_smoke := goodIn_k _ [(17, 9), (0, 3), (13, 23), (14, 0), (4, 20), (14, 1), (14, 2), (14, 3), (14, 4), (14, 5), (14, 6), (14, 7), (14, 8), (14, 9), (14, 10), (17, 10), (17, 11), (17, 12), (17, 13), (17, 14), (17, 15), (0, 2), (17, 16), (0, 18), (1, 3), (13, 11), (13, 12), (13, 13), (0, 17), (13, 14), (8, 20), (13, 18), (7, 5), (7, 6), (17, 17), (12, 17), (12, 18), (1, 2), (12, 19), (3, 15), (12, 20), (6, 21), (6, 22), (2, 4), (6, 23), (2, 14), (17, 18), (17, 19), (17, 20), (17, 21), (0, 22), (17, 22), (17, 23), (18, 0), (18, 1), (9, 9), (7, 15), (7, 16), (18, 2), (18, 3), (18, 4), (0, 21), (18, 5), (10, 19), (3, 8), (10, 23), (18, 6), (12, 9), (12, 10), (12, 11), (2, 22), (2, 23), (8, 23), (22, 0), (22, 1), (22, 2), (22, 3), (22, 4), (22, 5), (22, 6), (22, 7), (22, 8), (22, 9), (22, 10), (22, 11), (22, 12), (22, 13), (22, 14), (24, 0), (24, 1), (24, 2), (24, 3), (24, 4), (24, 5), (24, 6), (26, 0), (31, 0), (25, 0), (25, 1), (25, 2), (25, 3)] (by decide +kernel) (by decide +kernel)
set_option maxRecDepth 20000 in
theorem gL_law_L_smoke : GoodIn wsL_law (va_wsS RL 94 yL_smoke wsL_smoke) := goodIn_app (goodIn_of _ (by decide +kernel)) ggL_law_L_smoke
set_option maxRecDepth 20000 in
theorem ggL_law_L_other : GoodIn wsL_law wsL_other := goodIn_k _ [(17, 12)] (by decide +kernel) (by decide +kernel)
set_option maxRecDepth 20000 in
theorem gL_law_L_other : GoodIn wsL_law (va_wsS RL 97 yL_other wsL_other) := goodIn_app (goodIn_of _ (by decide +kernel)) ggL_law_L_other
set_option maxRecDepth 20000 in
theorem ggL_law_X10_walk : GoodIn wsL_law wsX10_walk := goodIn_k _ [(18, 10), (1, 7), (0, 18), (1, 11), (13, 10), (10, 8), (15, 17), (15, 18), (15, 19), (15, 20), (1, 6), (15, 21), (15, 22), (14, 20), (14, 21), (14, 22), (0, 17), (14, 23), (8, 20), (15, 0), (6, 21), (6, 22), (2, 4), (6, 23), (2, 14), (15, 1), (7, 15), (0, 2), (7, 16), (16, 19), (16, 20), (16, 21), (16, 22), (3, 21), (16, 3), (18, 11), (18, 12), (18, 13), (18, 14), (2, 22), (2, 23), (8, 23), (18, 6), (12, 9), (12, 10), (12, 11), (13, 19), (6, 2), (6, 3), (6, 4), (22, 0), (22, 1), (22, 2), (22, 3), (22, 4), (22, 5), (22, 6), (22, 7), (22, 8), (22, 9), (22, 10), (22, 11), (22, 12), (22, 13), (22, 14), (28, 0), (28, 1), (28, 2), (28, 3), (28, 4), (28, 5), (27, 0), (27, 1), (24, 0), (24, 1), (24, 2), (24, 3), (24, 4), (24, 5), (24, 6), (31, 0)] (by decide +kernel) (by decide +kernel)
set_option maxRecDepth 20000 in
theorem gL_law_X10_walk : GoodIn wsL_law (wsV RL 101 RX10 yX10_walk wsX10_walk) := goodIn_app (goodIn_of _ (by decide +kernel)) ggL_law_X10_walk
set_option maxRecDepth 20000 in
theorem ggL_law_L_air : GoodIn wsL_law wsL_air := goodIn_k _ [(14, 1), (0, 3), (14, 2), (14, 3), (4, 20), (14, 4), (14, 5), (14, 6), (14, 7), (14, 8), (14, 9), (14, 10)] (by decide +kernel) (by decide +kernel)
set_option maxRecDepth 20000 in
theorem gL_law_L_air : GoodIn wsL_law (va_wsS RL 44 yL_air wsL_air) := goodIn_app (goodIn_of _ (by decide +kernel)) ggL_law_L_air
set_option maxRecDepth 20000 in
theorem ggL_law_L_minute : GoodIn wsL_law wsL_minute := goodIn_k _ [(18, 17), (15, 10), (15, 11), (4, 20), (15, 12), (16, 4), (16, 5), (16, 6)] (by decide +kernel) (by decide +kernel)
set_option maxRecDepth 20000 in
theorem gL_law_L_minute : GoodIn wsL_law (va_wsS RL 104 yL_minute wsL_minute) := goodIn_app (goodIn_of _ (by decide +kernel)) ggL_law_L_minute
set_option maxRecDepth 20000 in
theorem ggL_law_X10_minutes : GoodIn wsL_law wsX10_minutes := goodIn_k _ [(18, 21), (0, 18), (1, 11), (15, 17), (1, 7), (0, 22), (15, 8), (13, 11), (13, 12), (13, 13), (0, 17), (13, 14), (8, 20), (16, 14), (8, 10), (8, 11), (8, 12), (8, 13), (8, 14), (8, 15), (18, 22), (18, 23), (19, 0), (1, 10), (19, 1), (4, 3), (19, 2), (19, 3), (19, 4), (19, 5), (19, 6), (4, 4), (10, 1), (10, 2), (7, 15), (0, 2), (7, 16), (19, 7), (6, 21), (6, 22), (2, 4), (6, 23), (2, 14), (19, 8), (6, 2), (6, 3), (6, 4), (19, 9), (16, 0), (16, 1), (1, 6), (16, 2), (3, 21), (16, 3), (22, 0), (22, 1), (22, 2), (22, 3), (22, 4), (22, 5), (22, 6), (22, 7), (22, 8), (22, 9), (22, 10), (22, 11), (22, 12), (22, 13), (22, 14), (28, 0), (28, 1), (28, 2), (28, 3), (28, 4), (28, 5), (25, 0), (25, 1), (25, 2), (25, 3), (24, 0), (24, 1), (24, 2), (24, 3), (24, 4), (24, 5), (24, 6), (27, 0), (27, 1), (31, 0)] (by decide +kernel) (by decide +kernel)
set_option maxRecDepth 20000 in
theorem gL_law_X10_minutes : GoodIn wsL_law (wsV RL 108 RX10 yX10_minutes wsX10_minutes) := goodIn_app (goodIn_of _ (by decide +kernel)) ggL_law_X10_minutes
set_option maxRecDepth 20000 in
theorem ggL_law_L_walks : GoodIn wsL_law wsL_walks := goodIn_k _ [(19, 12), (0, 3), (19, 13), (19, 14), (19, 15), (19, 16), (13, 23), (14, 0), (4, 20), (14, 1), (14, 2), (14, 3), (14, 4), (14, 5), (14, 6), (14, 7), (14, 8), (14, 9), (14, 10), (17, 10), (17, 11), (17, 12), (18, 15), (18, 16), (18, 17), (15, 10), (15, 11), (15, 12), (16, 4), (16, 5), (16, 6), (19, 17), (19, 18), (19, 19), (0, 2), (19, 20), (0, 18), (1, 13), (1, 11), (1, 17), (19, 21), (1, 7), (0, 22), (15, 8), (15, 17), (13, 10), (15, 9), (13, 11), (13, 12), (13, 13), (0, 17), (13, 14), (8, 20), (19, 22), (19, 23), (20, 0), (1, 10), (20, 1), (9, 23), (10, 0), (4, 3), (4, 4), (10, 1), (10, 2), (20, 2), (20, 3), (20, 4), (2, 4), (20, 5), (2, 14), (20, 6), (6, 21), (6, 22), (6, 23), (20, 7), (20, 8), (20, 9), (20, 10), (7, 21), (10, 8), (20, 11), (20, 12), (20, 13), (1, 16), (20, 14), (20, 15), (20, 16), (20, 17), (20, 18), (20, 19), (15, 1), (7, 15), (7, 16), (15, 0), (20, 20), (20, 21), (20, 22), (20, 23), (21, 0), (18, 12), (18, 13), (18, 14), (2, 22), (2, 23), (8, 23), (16, 14), (8, 10), (8, 11), (8, 12), (8, 13), (8, 14), (8, 15), (21, 1), (21, 2), (21, 3), (21, 4), (21, 5), (21, 6), (21, 7), (18, 6), (12, 9), (12, 10), (12, 11), (13, 19), (6, 2), (6, 3), (6, 4), (18, 22), (18, 23), (19, 0), (19, 1), (19, 2), (19, 3), (19, 4), (19, 5), (19, 6), (19, 7), (19, 8), (19, 9), (16, 0), (16, 1), (1, 6), (16, 2), (3, 21), (16, 3), (15, 18), (15, 19), (15, 20), (15, 21), (15, 22), (21, 8), (21, 9), (21, 10), (21, 11), (22, 0), (22, 1), (22, 2), (22, 3), (22, 4), (22, 5), (22, 6), (22, 7), (22, 8), (22, 9), (22, 10), (22, 11), (22, 12), (22, 13), (22, 14), (29, 0), (25, 0), (25, 1), (25, 2), (25, 3), (28, 0), (28, 1), (28, 2), (28, 3), (28, 4), (28, 5), (24, 0), (24, 1), (24, 2), (24, 3), (24, 4), (24, 5), (24, 6), (31, 0), (27, 0), (27, 1)] (by decide +kernel) (by decide +kernel)
set_option maxRecDepth 20000 in
theorem gL_law_L_walks : GoodIn wsL_law (va_wsS RL 112 yL_walks wsL_walks) := goodIn_app (goodIn_of _ (by decide +kernel)) ggL_law_L_walks
set_option maxRecDepth 20000 in
theorem ggL_law_X10_gallery : GoodIn wsL_law wsX10_gallery := goodIn_k _ [(14, 14), (0, 18), (14, 15), (14, 16), (14, 17), (14, 18), (1, 11), (10, 8), (0, 22), (14, 19), (14, 20), (14, 21), (14, 22), (0, 17), (14, 23), (8, 20), (15, 0), (6, 21), (6, 22), (2, 4), (6, 23), (2, 14), (15, 1), (7, 15), (0, 2), (7, 16), (22, 0), (22, 1), (22, 2), (22, 3), (22, 4), (22, 5), (22, 6), (22, 7), (22, 8), (22, 9), (22, 10), (22, 11), (22, 12), (22, 13), (22, 14), (24, 0), (24, 1), (24, 2), (24, 3), (24, 4), (24, 5), (24, 6), (28, 0), (28, 1), (28, 2), (28, 3), (28, 4), (28, 5), (25, 0), (25, 1), (25, 2), (25, 3), (31, 0)] (by decide +kernel) (by decide +kernel)
set_option maxRecDepth 20000 in
theorem gL_law_X10_gallery : GoodIn wsL_law (wsV RL 48 RX10 yX10_gallery wsX10_gallery) := goodIn_app (goodIn_of _ (by decide +kernel)) ggL_law_X10_gallery
set_option maxRecDepth 20000 in
theorem ggL_law_X10_knot : GoodIn wsL_law wsX10_knot := goodIn_k _ [(15, 5), (0, 18), (15, 6), (0, 22), (15, 7), (15, 8), (1, 11), (15, 9), (13, 11), (13, 12), (13, 13), (0, 17), (13, 14), (8, 20), (13, 18), (7, 5), (0, 2), (7, 6), (15, 0), (6, 21), (6, 22), (2, 4), (6, 23), (2, 14), (15, 1), (7, 15), (7, 16), (22, 0), (22, 1), (22, 2), (22, 3), (22, 4), (22, 5), (22, 6), (22, 7), (22, 8), (22, 9), (22, 10), (22, 11), (22, 12), (22, 13), (22, 14), (24, 0), (24, 1), (24, 2), (24, 3), (24, 4), (24, 5), (24, 6), (25, 0), (25, 1), (25, 2), (25, 3), (28, 0), (28, 1), (28, 2), (28, 3), (28, 4), (28, 5), (31, 0)] (by decide +kernel) (by decide +kernel)
set_option maxRecDepth 20000 in
theorem gL_law_X10_knot : GoodIn wsL_law (wsV RL 51 RX10 yX10_knot wsX10_knot) := goodIn_app (goodIn_of _ (by decide +kernel)) ggL_law_X10_knot
set_option maxRecDepth 20000 in
theorem ggL_law_X10_man : GoodIn wsL_law wsX10_man := goodIn_k _ [(13, 8), (0, 18), (1, 7), (7, 21), (13, 9), (1, 11), (13, 10), (13, 11), (13, 12), (13, 13), (0, 17), (13, 14), (8, 20), (13, 15), (13, 16), (1, 6), (13, 17), (13, 18), (7, 5), (0, 2), (7, 6), (13, 19), (6, 2), (6, 3), (2, 4), (6, 4), (2, 14), (22, 0), (22, 1), (22, 2), (22, 3), (22, 4), (22, 5), (22, 6), (22, 7), (22, 8), (22, 9), (22, 10), (22, 11), (22, 12), (22, 13), (22, 14), (27, 0), (27, 1), (28, 0), (28, 1), (28, 2), (28, 3), (28, 4), (28, 5), (24, 0), (24, 1), (24, 2), (24, 3), (24, 4), (24, 5), (24, 6), (31, 0)] (by decide +kernel) (by decide +kernel)
set_option maxRecDepth 20000 in
theorem gL_law_X10_man : GoodIn wsL_law (wsV RL 24 RX10 yX10_man wsX10_man) := goodIn_app (goodIn_of _ (by decide +kernel)) ggL_law_X10_man
set_option maxRecDepth 20000 in
theorem ggL_law_X10_about : GoodIn wsL_law wsX10_about := goodIn_k _ [(15, 16), (1, 7), (13, 9), (1, 11), (13, 10), (15, 17), (15, 18), (15, 19), (15, 20), (1, 6), (15, 21), (15, 22), (15, 0), (6, 21), (6, 22), (2, 4), (6, 23), (2, 14), (15, 1), (7, 15), (0, 2), (7, 16), (15, 23), (16, 0), (16, 1), (16, 2), (3, 21), (16, 3), (22, 0), (22, 1), (22, 2), (22, 3), (22, 4), (22, 5), (22, 6), (22, 7), (22, 8), (22, 9), (22, 10), (22, 11), (22, 12), (22, 13), (22, 14), (27, 0), (27, 1), (28, 0), (28, 1), (28, 2), (28, 3), (28, 4), (28, 5), (31, 0)] (by decide +kernel) (by decide +kernel)
set_option maxRecDepth 20000 in
theorem gL_law_X10_about : GoodIn wsL_law (wsV RL 54 RX10 yX10_about wsX10_about) := goodIn_app (goodIn_of _ (by decide +kernel)) ggL_law_X10_about
set_option maxRecDepth 20000 in
theorem ggL_law_X10_smelt : GoodIn wsL_law wsX10_smelt := goodIn_k _ [(17, 16), (0, 18), (1, 3), (13, 11), (13, 12), (13, 13), (0, 17), (13, 14), (8, 20), (13, 18), (7, 5), (0, 2), (7, 6), (17, 17), (12, 17), (12, 18), (1, 2), (12, 19), (3, 15), (12, 20), (6, 21), (6, 22), (2, 4), (6, 23), (2, 14), (22, 0), (22, 1), (22, 2), (22, 3), (22, 4), (22, 5), (22, 6), (22, 7), (22, 8), (22, 9), (22, 10), (22, 11), (22, 12), (22, 13), (22, 14), (24, 0), (24, 1), (24, 2), (24, 3), (24, 4), (24, 5), (24, 6), (26, 0), (31, 0)] (by decide +kernel) (by decide +kernel)
set_option maxRecDepth 20000 in
theorem gL_law_X10_smelt : GoodIn wsL_law (wsV RL 116 RX10 yX10_smelt wsX10_smelt) := goodIn_app (goodIn_of _ (by decide +kernel)) ggL_law_X10_smelt
set_option maxRecDepth 20000 in
theorem ggL_law_X10_wayOut : GoodIn wsL_law wsX10_wayOut := goodIn_k _ [(17, 21), (0, 18), (0, 22), (13, 11), (13, 12), (13, 13), (0, 17), (13, 14), (8, 20), (13, 18), (7, 5), (0, 2), (7, 6), (17, 22), (17, 23), (18, 0), (18, 1), (9, 9), (7, 15), (7, 16), (18, 2), (18, 3), (18, 4), (0, 21), (18, 5), (10, 19), (3, 8), (10, 23), (6, 21), (6, 22), (2, 4), (6, 23), (2, 14), (18, 6), (12, 9), (12, 10), (12, 11), (2, 22), (2, 23), (8, 23), (22, 0), (22, 1), (22, 2), (22, 3), (22, 4), (22, 5), (22, 6), (22, 7), (22, 8), (22, 9), (22, 10), (22, 11), (22, 12), (22, 13), (22, 14), (24, 0), (24, 1), (24, 2), (24, 3), (24, 4), (24, 5), (24, 6), (25, 0), (25, 1), (25, 2), (25, 3), (31, 0)] (by decide +kernel) (by decide +kernel)
set_option maxRecDepth 20000 in
theorem gL_law_X10_wayOut : GoodIn wsL_law (wsV RL 119 RX10 yX10_wayOut wsX10_wayOut) := goodIn_app (goodIn_of _ (by decide +kernel)) ggL_law_X10_wayOut
set_option maxRecDepth 20000 in
theorem ggL_law_X10_walks : GoodIn wsL_law wsX10_walks := goodIn_k _ [(19, 20), (0, 18), (1, 13), (1, 11), (1, 17), (19, 21), (1, 7), (0, 22), (15, 8), (15, 17), (13, 10), (15, 9), (13, 11), (13, 12), (13, 13), (0, 17), (13, 14), (8, 20), (19, 22), (19, 23), (20, 0), (1, 10), (20, 1), (9, 23), (10, 0), (4, 3), (4, 4), (10, 1), (10, 2), (20, 2), (20, 3), (20, 4), (2, 4), (20, 5), (2, 14), (20, 6), (6, 21), (6, 22), (6, 23), (20, 7), (20, 8), (20, 9), (0, 2), (20, 10), (7, 21), (10, 8), (20, 11), (20, 12), (20, 13), (1, 16), (20, 14), (20, 15), (20, 16), (20, 17), (20, 18), (20, 19), (15, 1), (7, 15), (7, 16), (15, 0), (20, 20), (20, 21), (20, 22), (20, 23), (21, 0), (18, 12), (18, 13), (18, 14), (2, 22), (2, 23), (8, 23), (16, 14), (8, 10), (8, 11), (8, 12), (8, 13), (8, 14), (8, 15), (21, 1), (21, 2), (21, 3), (21, 4), (21, 5), (21, 6), (21, 7), (18, 6), (12, 9), (12, 10), (12, 11), (13, 19), (6, 2), (6, 3), (6, 4), (18, 22), (18, 23), (19, 0), (19, 1), (19, 2), (19, 3), (19, 4), (19, 5), (19, 6), (19, 7), (19, 8), (19, 9), (16, 0), (16, 1), (1, 6), (16, 2), (3, 21), (16, 3), (15, 18), (15, 19), (15, 20), (15, 21), (15, 22), (21, 8), (21, 9), (21, 10), (21, 11), (22, 0), (22, 1), (22, 2), (22, 3), (22, 4), (22, 5), (22, 6), (22, 7), (22, 8), (22, 9), (22, 10), (22, 11), (22, 12), (22, 13), (22, 14), (29, 0), (25, 0), (25, 1), (25, 2), (25, 3), (28, 0), (28, 1), (28, 2), (28, 3), (28, 4), (28, 5), (24, 0), (24, 1), (24, 2), (24, 3), (24, 4), (24, 5), (24, 6), (31, 0), (27, 0), (27, 1)] (by decide +kernel) (by decide +kernel)
set_option maxRecDepth 20000 in
theorem gL_law_X10_walks : GoodIn wsL_law (wsV RL 122 RX10 yX10_walks wsX10_walks) := goodIn_app (goodIn_of _ (by decide +kernel)) ggL_law_X10_walks
theorem dL_law_0 : decode cL_law 0 = .ok (.new 19, 3) := by decide +kernel
theorem dL_law_3 : decode cL_law 3 = .ok (.dup, 1) := by decide +kernel
theorem dL_law_4 : decode cL_law 4 = .ok (.invokespecial 60, 3) := by decide +kernel
theorem dL_law_7 : decode cL_law 7 = .ok (.astore_n 1, 1) := by decide +kernel
theorem dL_law_8 : decode cL_law 8 = .ok (.bipush 59, 2) := by decide +kernel
theorem dL_law_10 : decode cL_law 10 = .ok (.newarray .int, 2) := by decide +kernel
theorem dL_law_12 : decode cL_law 12 = .ok (.astore_n 2, 1) := by decide +kernel
theorem dL_law_13 : decode cL_law 13 = .ok (.bipush 22, 2) := by decide +kernel
theorem dL_law_15 : decode cL_law 15 = .ok (.newarray .int, 2) := by decide +kernel
theorem dL_law_17 : decode cL_law 17 = .ok (.astore_n 3, 1) := by decide +kernel
theorem dL_law_18 : decode cL_law 18 = .ok (.bipush 64, 2) := by decide +kernel
theorem dL_law_20 : decode cL_law 20 = .ok (.newarray .int, 2) := by decide +kernel
theorem dL_law_22 : decode cL_law 22 = .ok (.astore 4, 2) := by decide +kernel
theorem dL_law_24 : decode cL_law 24 = .ok (.aload_n 0, 1) := by decide +kernel
theorem dL_law_25 : decode cL_law 25 = .ok (.iconst 0, 1) := by decide +kernel
theorem dL_law_26 : decode cL_law 26 = .ok (.bipush 10, 2) := by decide +kernel
theorem dL_law_28 : decode cL_law 28 = .ok (.aload_n 2, 1) := by decide +kernel
theorem dL_law_29 : decode cL_law 29 = .ok (.aload 4, 2) := by decide +kernel
theorem dL_law_31 : decode cL_law 31 = .ok (.invokestatic 61, 3) := by decide +kernel
theorem dL_law_34 : decode cL_law 34 = .ok (.istore 5, 2) := by decide +kernel
theorem dL_law_36 : decode cL_law 36 = .ok (.aload_n 1, 1) := by decide +kernel
theorem dL_law_37 : decode cL_law 37 = .ok (.aload 4, 2) := by decide +kernel
theorem dL_law_39 : decode cL_law 39 = .ok (.iload 5, 2) := by decide +kernel
theorem dL_law_41 : decode cL_law 41 = .ok (.invokestatic 65, 3) := by decide +kernel
theorem dL_law_44 : decode cL_law 44 = .ok (.ifCond .eq 44, 3) := by decide +kernel
theorem dL_law_47 : decode cL_law 47 = .ok (.aload_n 1, 1) := by decide +kernel
theorem dL_law_48 : decode cL_law 48 = .ok (.invokevirtual 69, 3) := by decide +kernel
theorem dL_law_51 : decode cL_law 51 = .ok (.iload 5, 2) := by decide +kernel
theorem dL_law_53 : decode cL_law 53 = .ok (.if_icmp .ne 35, 3) := by decide +kernel
theorem dL_law_56 : decode cL_law 56 = .ok (.aload_n 1, 1) := by decide +kernel
theorem dL_law_57 : decode cL_law 57 = .ok (.invokevirtual 73, 3) := by decide +kernel
theorem dL_law_60 : decode cL_law 60 = .ok (.aload_n 2, 1) := by decide +kernel
theorem dL_law_61 : decode cL_law 61 = .ok (.iconst 0, 1) := by decide +kernel
theorem dL_law_62 : decode cL_law 62 = .ok (.iaload, 1) := by decide +kernel
theorem dL_law_63 : decode cL_law 63 = .ok (.if_icmp .ne 25, 3) := by decide +kernel
