theorem ggL_law_X4_pass_0 : GoodIn wsL_law [Cond.code yX4_pass cX4_pass 6 (some .int)] := goodIn_r _ [300] (by decide +kernel) (by decide +kernel)
set_option maxRecDepth 20000 in
theorem ggL_law_X4_pass_wsX4_pass_r1 : GoodIn wsL_law wsX4_pass_r1 := goodIn_r _ [36, 111, 112, 14, 113, 114, 115, 301, 302, 303, 35, 304, 305, 56, 306, 54, 307, 308, 309, 310, 125, 43, 311, 312] (by decide +kernel) (by decide +kernel)
set_option maxRecDepth 20000 in
theorem ggL_law_X4_pass_wsX4_pass_r2 : GoodIn wsL_law wsX4_pass_r2 := goodIn_r _ [313, 45, 314, 63, 64, 315, 316, 317, 318, 319, 320, 321, 322, 323, 324, 149, 47, 325, 326, 327, 49, 328, 329, 73] (by decide +kernel) (by decide +kernel)
set_option maxRecDepth 20000 in
theorem ggL_law_X4_pass_wsX4_pass_r3 : GoodIn wsL_law wsX4_pass_r3 := goodIn_r _ [330, 331, 71, 332, 333, 334, 335, 336, 66, 65, 337, 338, 339, 340, 151, 341, 342, 343, 344, 345, 346, 153, 154, 155] (by decide +kernel) (by decide +kernel)
set_option maxRecDepth 20000 in
theorem ggL_law_X4_pass_wsX4_pass_r4 : GoodIn wsL_law wsX4_pass_r4 := goodIn_r _ [347, 348, 349, 350, 351, 72, 352, 353, 354, 355, 356, 357, 358, 359, 360, 361, 362, 363, 200, 152, 202, 203, 204, 205] (by decide +kernel) (by decide +kernel)
set_option maxRecDepth 20000 in
theorem ggL_law_X4_pass_wsX4_pass_r5 : GoodIn wsL_law wsX4_pass_r5 := goodIn_r _ [199, 51, 131, 132, 133, 134, 364, 365, 366, 367, 368, 369, 370, 165, 162, 166, 371, 372, 373, 374, 375, 376, 377, 378] (by decide +kernel) (by decide +kernel)
set_option maxRecDepth 20000 in
theorem ggL_law_X4_pass_wsX4_pass_r6 : GoodIn wsL_law wsX4_pass_r6 := goodIn_r _ [379, 380, 381, 382, 383, 384] (by decide +kernel) (by decide +kernel)
set_option maxRecDepth 20000 in
theorem ggL_law_X4_pass : GoodIn wsL_law wsX4_pass := goodIn_ca (goodIn_ca (goodIn_cons ggL_law_X4_pass_0 (goodIn_app (goodIn_app (goodIn_app (goodIn_app (goodIn_app (goodIn_app ggL_law_X4_pass_wsX4_pass_r1 (goodIn_app ggL_law_X4_pass_wsX4_pass_r2 (goodIn_app ggL_law_X4_pass_wsX4_pass_r3 (goodIn_app ggL_law_X4_pass_wsX4_pass_r4 (goodIn_app ggL_law_X4_pass_wsX4_pass_r5 ggL_law_X4_pass_wsX4_pass_r6))))) (goodIn_sub inlX4 (by decide +kernel))) (goodIn_sub inlX1 (by decide +kernel))) (goodIn_sub inlX2 (by decide +kernel))) (goodIn_sub inlX0 (by decide +kernel))) (goodIn_sub inlX3 (by decide +kernel)))) (goodIn_sub (fun _ h => List.mem_append_left _ (List.mem_append_left _ (List.mem_append_right _ h))) (by decide +kernel))) (goodIn_sub (fun _ h => List.mem_append_right _ h) (by decide +kernel))
set_option maxRecDepth 20000 in
theorem gL_law_X4_pass : GoodIn wsL_law (wsV RL 75 RX4 yX4_pass wsX4_pass) := goodIn_app (goodIn_of _ (by decide +kernel)) ggL_law_X4_pass
