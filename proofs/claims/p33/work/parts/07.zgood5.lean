theorem ggL_law_L_isBehind_0 : GoodIn wsL_law [Cond.code yL_isBehind cL_isBehind 5 (some .boolean)] := goodIn_r _ [524] (by decide +kernel) (by decide +kernel)
set_option maxRecDepth 20000 in
theorem ggL_law_L_isBehind_wsL_isBehind_r1 : GoodIn wsL_law wsL_isBehind_r1 := goodIn_r _ [520, 394, 395, 14, 396, 36, 397, 110, 227, 194, 398, 399, 400, 401, 111, 112, 113, 114, 115, 402, 403, 404, 35, 405] (by decide +kernel) (by decide +kernel)
set_option maxRecDepth 20000 in
theorem ggL_law_L_isBehind_wsL_isBehind_r2 : GoodIn wsL_law wsL_isBehind_r2 := goodIn_r _ [149, 47, 406, 353, 354, 49, 355, 329, 73, 407, 408, 409, 410, 151, 411, 412, 413, 414, 125, 43, 415, 249, 250, 251] (by decide +kernel) (by decide +kernel)
set_option maxRecDepth 20000 in
theorem ggL_law_L_isBehind_wsL_isBehind_r3 : GoodIn wsL_law wsL_isBehind_r3 := goodIn_r _ [252, 253, 416, 338, 339, 340, 341, 342, 343, 344, 71, 345, 346, 153, 154, 155, 347, 348, 349, 350, 332, 351, 72, 352] (by decide +kernel) (by decide +kernel)
set_option maxRecDepth 20000 in
theorem ggL_law_L_isBehind_wsL_isBehind_r4 : GoodIn wsL_law wsL_isBehind_r4 := goodIn_r _ [356, 357, 358, 45, 359, 65, 66, 506, 422, 423, 424, 425, 214, 143, 426, 427, 144, 128, 129, 130, 131, 132, 133, 134] (by decide +kernel) (by decide +kernel)
set_option maxRecDepth 20000 in
theorem ggL_law_L_isBehind_wsL_isBehind_r5 : GoodIn wsL_law wsL_isBehind_r5 := goodIn_r _ [428, 334, 335, 336, 429, 430, 431, 432, 150, 152, 505, 446, 447, 448, 449, 450, 451, 246, 245, 452, 453, 247, 454, 455] (by decide +kernel) (by decide +kernel)
set_option maxRecDepth 20000 in
theorem ggL_law_L_isBehind_wsL_isBehind_r6 : GoodIn wsL_law wsL_isBehind_r6 := goodIn_r _ [248, 234, 235, 236, 456, 457, 458, 459, 330, 460, 461, 521, 438, 439, 440, 178, 441, 442, 443, 444, 63, 64, 315, 316] (by decide +kernel) (by decide +kernel)
set_option maxRecDepth 20000 in
theorem ggL_law_L_isBehind_wsL_isBehind_r7 : GoodIn wsL_law wsL_isBehind_r7 := goodIn_r _ [317, 318, 319, 320] (by decide +kernel) (by decide +kernel)
set_option maxRecDepth 20000 in
theorem ggL_law_L_isBehind : GoodIn wsL_law wsL_isBehind := goodIn_ca (goodIn_ca (goodIn_cons ggL_law_L_isBehind_0 (goodIn_app (goodIn_app (goodIn_app (goodIn_app (goodIn_app ggL_law_L_isBehind_wsL_isBehind_r1 (goodIn_app ggL_law_L_isBehind_wsL_isBehind_r2 (goodIn_app ggL_law_L_isBehind_wsL_isBehind_r3 (goodIn_app ggL_law_L_isBehind_wsL_isBehind_r4 (goodIn_app ggL_law_L_isBehind_wsL_isBehind_r5 (goodIn_app ggL_law_L_isBehind_wsL_isBehind_r6 ggL_law_L_isBehind_wsL_isBehind_r7)))))) (goodIn_sub inlX4 (by decide +kernel))) (goodIn_sub inlX1 (by decide +kernel))) (goodIn_sub inlX0 (by decide +kernel))) (goodIn_sub inlX2 (by decide +kernel)))) (goodIn_sub (fun _ h => List.mem_append_left _ (List.mem_append_left _ (List.mem_append_right _ h))) (by decide +kernel))) (goodIn_sub (fun _ h => List.mem_append_right _ h) (by decide +kernel))
set_option maxRecDepth 20000 in
theorem gL_law_L_isBehind : GoodIn wsL_law (va_wsS RL 71 yL_isBehind wsL_isBehind) := goodIn_app (goodIn_of _ (by decide +kernel)) ggL_law_L_isBehind
