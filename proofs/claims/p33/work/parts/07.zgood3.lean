theorem ggL_law_X4_digest_0 : GoodIn wsL_law [Cond.code yX4_digest cX4_digest 5 (some .long)] := goodIn_r _ [390] (by decide +kernel) (by decide +kernel)
set_option maxRecDepth 20000 in
theorem ggL_law_X4_digest_wsX4_digest_r1 : GoodIn wsL_law wsX4_digest_r1 := goodIn_r _ [391, 392, 36, 110, 227, 194, 393, 394, 395, 14, 396, 397, 398, 399, 400, 401, 111, 112, 113, 114, 115, 402, 403, 404] (by decide +kernel) (by decide +kernel)
set_option maxRecDepth 20000 in
theorem ggL_law_X4_digest_wsX4_digest_r2 : GoodIn wsL_law wsX4_digest_r2 := goodIn_r _ [35, 405, 149, 47, 406, 353, 354, 49, 355, 329, 73, 407, 408, 409, 410, 151, 411, 412, 413, 414, 125, 43, 415, 249] (by decide +kernel) (by decide +kernel)
set_option maxRecDepth 20000 in
theorem ggL_law_X4_digest_wsX4_digest_r3 : GoodIn wsL_law wsX4_digest_r3 := goodIn_r _ [250, 251, 252, 253, 416, 338, 339, 340, 341, 342, 343, 344, 71, 345, 346, 153, 154, 155, 347, 348, 349, 350, 332, 351] (by decide +kernel) (by decide +kernel)
set_option maxRecDepth 20000 in
theorem ggL_law_X4_digest_wsX4_digest_r4 : GoodIn wsL_law wsX4_digest_r4 := goodIn_r _ [72, 352, 356, 357, 358, 45, 359, 65, 66, 417, 418, 419, 420, 421, 422, 423, 424, 425, 214, 143, 426, 427, 144, 128] (by decide +kernel) (by decide +kernel)
set_option maxRecDepth 20000 in
theorem ggL_law_X4_digest_wsX4_digest_r5 : GoodIn wsL_law wsX4_digest_r5 := goodIn_r _ [129, 130, 131, 132, 133, 134, 428, 334, 335, 336, 429, 430, 431, 432, 150, 152, 433, 434, 435, 436, 176, 177, 178, 437] (by decide +kernel) (by decide +kernel)
set_option maxRecDepth 20000 in
theorem ggL_law_X4_digest_wsX4_digest_r6 : GoodIn wsL_law wsX4_digest_r6 := goodIn_r _ [438, 439, 440, 441, 442, 443, 444, 63, 64, 315, 316, 317, 318, 319, 320, 445, 446, 447, 448, 449, 450, 451, 246, 245] (by decide +kernel) (by decide +kernel)
set_option maxRecDepth 20000 in
theorem ggL_law_X4_digest_wsX4_digest_r7 : GoodIn wsL_law wsX4_digest_r7 := goodIn_r _ [452, 453, 247, 454, 455, 248, 234, 235, 236, 456, 457, 458, 459, 330, 460, 461, 462, 463, 464, 465, 466, 467, 468, 469] (by decide +kernel) (by decide +kernel)
set_option maxRecDepth 20000 in
theorem ggL_law_X4_digest_wsX4_digest_r8 : GoodIn wsL_law wsX4_digest_r8 := goodIn_r _ [331, 470, 471, 472, 473, 37, 474, 475, 476, 477, 478, 199, 305, 54, 55, 56, 306, 479, 232, 51, 200, 201, 480, 481] (by decide +kernel) (by decide +kernel)
set_option maxRecDepth 20000 in
theorem ggL_law_X4_digest_wsX4_digest_r9 : GoodIn wsL_law wsX4_digest_r9 := goodIn_r _ [482, 483, 484, 485, 185, 127, 486, 487, 488, 489, 383, 384, 368, 301, 302, 303, 304, 307, 308, 309, 310, 311, 312, 313] (by decide +kernel) (by decide +kernel)
set_option maxRecDepth 20000 in
theorem ggL_law_X4_digest_wsX4_digest_r10 : GoodIn wsL_law wsX4_digest_r10 := goodIn_r _ [314, 321, 322, 323, 324, 325, 326, 327, 328, 333, 337, 360, 361, 362, 363, 202, 203, 204, 205, 364, 365, 366, 367, 369] (by decide +kernel) (by decide +kernel)
set_option maxRecDepth 20000 in
theorem ggL_law_X4_digest_wsX4_digest_r11 : GoodIn wsL_law wsX4_digest_r11 := goodIn_r _ [370, 165, 162, 166, 371, 372, 373, 374, 375, 376, 377, 378, 379, 380, 381, 382, 490, 491, 492, 493, 494, 495, 496, 497] (by decide +kernel) (by decide +kernel)
set_option maxRecDepth 20000 in
theorem ggL_law_X4_digest_wsX4_digest_r12 : GoodIn wsL_law wsX4_digest_r12 := goodIn_r _ [498, 499, 500, 501, 502, 503, 504] (by decide +kernel) (by decide +kernel)
set_option maxRecDepth 20000 in
theorem ggL_law_X4_digest : GoodIn wsL_law wsX4_digest := goodIn_ca (goodIn_ca (goodIn_cons ggL_law_X4_digest_0 (goodIn_app (goodIn_app (goodIn_app (goodIn_app (goodIn_app (goodIn_app ggL_law_X4_digest_wsX4_digest_r1 (goodIn_app ggL_law_X4_digest_wsX4_digest_r2 (goodIn_app ggL_law_X4_digest_wsX4_digest_r3 (goodIn_app ggL_law_X4_digest_wsX4_digest_r4 (goodIn_app ggL_law_X4_digest_wsX4_digest_r5 (goodIn_app ggL_law_X4_digest_wsX4_digest_r6 (goodIn_app ggL_law_X4_digest_wsX4_digest_r7 (goodIn_app ggL_law_X4_digest_wsX4_digest_r8 (goodIn_app ggL_law_X4_digest_wsX4_digest_r9 (goodIn_app ggL_law_X4_digest_wsX4_digest_r10 (goodIn_app ggL_law_X4_digest_wsX4_digest_r11 ggL_law_X4_digest_wsX4_digest_r12))))))))))) (goodIn_sub inlX4 (by decide +kernel))) (goodIn_sub inlX1 (by decide +kernel))) (goodIn_sub inlX0 (by decide +kernel))) (goodIn_sub inlX2 (by decide +kernel))) (goodIn_sub inlX3 (by decide +kernel)))) (goodIn_sub (fun _ h => List.mem_append_left _ (List.mem_append_left _ (List.mem_append_right _ h))) (by decide +kernel))) (goodIn_sub (fun _ h => List.mem_append_right _ h) (by decide +kernel))
set_option maxRecDepth 20000 in
theorem gL_law_X4_digest : GoodIn wsL_law (wsV RL 32 RX4 yX4_digest wsX4_digest) := goodIn_app (goodIn_of _ (by decide +kernel)) ggL_law_X4_digest
