theorem ggL_law_X4_meltsIn_0 : GoodIn wsL_law [Cond.code yX4_meltsIn cX4_meltsIn 7 (some .int)] := goodIn_r _ [473] (by decide +kernel) (by decide +kernel)
set_option maxRecDepth 20000 in
theorem ggL_law_X4_meltsIn_wsX4_meltsIn_r1 : GoodIn wsL_law wsX4_meltsIn_r1 := goodIn_r _ [36, 37, 247, 248, 234, 235, 35, 236, 149, 47, 131, 14, 132, 133, 134, 111, 112, 113, 114, 115, 474, 153, 154, 49] (by decide +kernel) (by decide +kernel)
set_option maxRecDepth 20000 in
theorem ggL_law_X4_meltsIn_wsX4_meltsIn_r2 : GoodIn wsL_law wsX4_meltsIn_r2 := goodIn_r _ [155, 73, 475, 476, 477, 478, 125, 199, 305, 54, 55, 56, 306, 43, 150, 479, 232, 51, 200, 201, 480, 481, 482, 45] (by decide +kernel) (by decide +kernel)
set_option maxRecDepth 20000 in
theorem ggL_law_X4_meltsIn_wsX4_meltsIn_r3 : GoodIn wsL_law wsX4_meltsIn_r3 := goodIn_r _ [483, 63, 64, 65, 66, 484, 485, 185, 127, 128, 129, 130, 486, 487, 488, 489, 71, 72, 329, 330, 331, 332, 351, 383] (by decide +kernel) (by decide +kernel)
set_option maxRecDepth 20000 in
theorem ggL_law_X4_meltsIn_wsX4_meltsIn_r4 : GoodIn wsL_law wsX4_meltsIn_r4 := goodIn_r _ [384, 368, 301, 302, 303, 304, 307, 308, 309, 310, 311, 312, 313, 314, 315, 316, 317, 318, 319, 320, 321, 322, 323, 324] (by decide +kernel) (by decide +kernel)
set_option maxRecDepth 20000 in
theorem ggL_law_X4_meltsIn_wsX4_meltsIn_r5 : GoodIn wsL_law wsX4_meltsIn_r5 := goodIn_r _ [325, 326, 327, 328, 333, 334, 335, 336, 337, 338, 339, 340, 151, 341, 342, 343, 344, 345, 346, 347, 348, 349, 350, 352] (by decide +kernel) (by decide +kernel)
set_option maxRecDepth 20000 in
theorem ggL_law_X4_meltsIn_wsX4_meltsIn_r6 : GoodIn wsL_law wsX4_meltsIn_r6 := goodIn_r _ [353, 354, 355, 356, 357, 358, 359, 360, 361, 362, 363, 152, 202, 203, 204, 205, 364, 365, 366, 367, 369, 370, 165, 162] (by decide +kernel) (by decide +kernel)
set_option maxRecDepth 20000 in
theorem ggL_law_X4_meltsIn_wsX4_meltsIn_r7 : GoodIn wsL_law wsX4_meltsIn_r7 := goodIn_r _ [166, 371, 372, 373, 374, 375, 376, 377, 378, 379, 380, 381, 382] (by decide +kernel) (by decide +kernel)
set_option maxRecDepth 20000 in
theorem ggL_law_X4_meltsIn : GoodIn wsL_law wsX4_meltsIn := goodIn_ca (goodIn_ca (goodIn_cons ggL_law_X4_meltsIn_0 (goodIn_app (goodIn_app (goodIn_app (goodIn_app (goodIn_app (goodIn_app ggL_law_X4_meltsIn_wsX4_meltsIn_r1 (goodIn_app ggL_law_X4_meltsIn_wsX4_meltsIn_r2 (goodIn_app ggL_law_X4_meltsIn_wsX4_meltsIn_r3 (goodIn_app ggL_law_X4_meltsIn_wsX4_meltsIn_r4 (goodIn_app ggL_law_X4_meltsIn_wsX4_meltsIn_r5 (goodIn_app ggL_law_X4_meltsIn_wsX4_meltsIn_r6 ggL_law_X4_meltsIn_wsX4_meltsIn_r7)))))) (goodIn_sub inlX4 (by decide +kernel))) (goodIn_sub inlX0 (by decide +kernel))) (goodIn_sub inlX1 (by decide +kernel))) (goodIn_sub inlX2 (by decide +kernel))) (goodIn_sub inlX3 (by decide +kernel)))) (goodIn_sub (fun _ h => List.mem_append_right _ h) (by decide +kernel))) (goodIn_sub (fun _ h => List.mem_append_left _ (List.mem_append_left _ (List.mem_append_right _ h))) (by decide +kernel))
set_option maxRecDepth 20000 in
theorem gL_law_X4_meltsIn : GoodIn wsL_law (wsV RL 54 RX4 yX4_meltsIn wsX4_meltsIn) := goodIn_app (goodIn_of _ (by decide +kernel)) ggL_law_X4_meltsIn
