set_option maxRecDepth 20000 in
theorem ggL_X9_job_0 : GoodIn wsL_law [Cond.code yX9_job cX9_job 6 (some .int)] := goodIn_2 _ [(36, 12)] (by decide +kernel) (by decide +kernel)
set_option maxRecDepth 20000 in
theorem ggL_X9_job_1 : GoodIn wsL_law wsX9_job_r1 := goodIn_2 _ [(34, 18), (36, 13), (36, 14), (6, 3), (6, 4), (11, 0), (11, 1), (0, 5), (11, 2), (7, 8), (7, 9), (7, 10), (36, 15), (36, 16), (36, 17), (36, 18), (36, 19), (36, 20), (36, 21), (36, 22), (36, 23), (37, 0), (37, 1), (37, 2)] (by decide +kernel) (by decide +kernel)
set_option maxRecDepth 20000 in
theorem ggL_X9_job_2 : GoodIn wsL_law wsX9_job_r2 := goodIn_2 _ [(37, 3), (6, 2), (37, 4), (37, 5), (37, 6), (37, 7), (37, 8), (37, 9), (37, 10), (17, 8), (17, 9), (17, 10), (5, 18), (5, 19), (7, 7), (14, 18), (14, 19), (5, 20), (5, 17), (17, 11), (17, 12), (17, 13), (17, 14), (5, 12)] (by decide +kernel) (by decide +kernel)
set_option maxRecDepth 20000 in
theorem ggL_X9_job_3 : GoodIn wsL_law wsX9_job_r3 := goodIn_2 _ [(14, 5), (14, 6), (14, 7), (14, 8), (5, 8), (17, 15), (17, 16), (17, 17), (17, 18), (5, 11), (17, 19), (17, 20), (17, 21), (17, 22), (5, 9), (5, 10), (17, 23), (18, 0), (18, 1), (18, 2), (18, 3), (18, 4), (37, 11), (20, 23)] (by decide +kernel) (by decide +kernel)
set_option maxRecDepth 20000 in
theorem ggL_X9_job_4 : GoodIn wsL_law wsX9_job_r4 := goodIn_2 _ [(21, 0), (21, 1), (5, 13), (5, 15), (5, 14), (21, 2), (21, 3), (21, 4), (21, 5), (21, 6), (21, 7), (21, 8), (21, 9), (21, 10), (11, 10), (11, 11), (11, 12), (12, 12), (12, 13), (12, 14), (12, 15), (21, 11), (21, 12), (21, 13)] (by decide +kernel) (by decide +kernel)
set_option maxRecDepth 20000 in
theorem ggL_X9_job_5 : GoodIn wsL_law wsX9_job_r5 := goodIn_2 _ [(21, 14), (21, 15), (21, 16), (21, 17), (21, 18), (21, 19), (21, 20), (21, 21), (21, 22), (21, 23), (22, 0), (22, 1), (22, 2), (37, 12), (24, 14), (24, 15), (24, 16), (24, 17), (5, 21), (24, 18), (24, 19), (24, 20), (24, 21), (7, 6)] (by decide +kernel) (by decide +kernel)
set_option maxRecDepth 20000 in
theorem ggL_X9_job_6 : GoodIn wsL_law wsX9_job_r6 := goodIn_2 _ [(24, 22), (24, 23), (25, 0), (25, 1), (25, 2), (5, 22), (25, 3), (25, 4), (25, 5), (25, 6)] (by decide +kernel) (by decide +kernel)
set_option maxRecDepth 20000 in
theorem ggL_X9_job_7 : GoodIn wsL_law wsX90 := goodIn_2 _ [(39, 0), (39, 1), (39, 2), (39, 3), (39, 4), (39, 5), (39, 6), (39, 7), (39, 8), (39, 9), (39, 10), (39, 11), (39, 12), (39, 13), (39, 14), (39, 15), (39, 16), (39, 17), (39, 18), (39, 19), (39, 20), (39, 21), (39, 22), (39, 23), (39, 24), (39, 25), (39, 26), (39, 27), (39, 28), (39, 29)] (by decide +kernel) (by decide +kernel)
theorem ggL_law_X9_job : GoodIn wsL_law wsX9_job := goodIn_app (a := [Cond.code yX9_job cX9_job 6 (some .int)]) ggL_X9_job_0 (goodIn_app (goodIn_app ggL_X9_job_1 (goodIn_app ggL_X9_job_2 (goodIn_app ggL_X9_job_3 (goodIn_app ggL_X9_job_4 (goodIn_app ggL_X9_job_5 ggL_X9_job_6))))) ggL_X9_job_7)
set_option maxRecDepth 20000 in
theorem gL_law_X9_job : GoodIn wsL_law (wsV RL 111 RX9 yX9_job wsX9_job) := goodIn_app (goodIn_of _ (by decide +kernel)) ggL_law_X9_job

