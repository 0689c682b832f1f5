theorem ggL_law_L_isFounded_0 : GoodIn wsL_law [Cond.code yL_isFounded cL_isFounded 2 (some .boolean)] := goodIn_r _ [80] (by decide +kernel) (by decide +kernel)
set_option maxRecDepth 20000 in
theorem ggL_law_L_isFounded_wsL_isFounded_r1 : GoodIn wsL_law wsL_isFounded_r1 := goodIn_r _ [81, 82, 83, 2, 84, 85, 86, 87, 88, 27, 28, 89, 79, 90, 91, 92, 93, 94, 95, 96, 97, 98, 17, 62] (by decide +kernel) (by decide +kernel)
set_option maxRecDepth 20000 in
theorem ggL_law_L_isFounded_wsL_isFounded_r2 : GoodIn wsL_law wsL_isFounded_r2 := goodIn_r _ [18, 19, 20, 21, 15, 99, 100, 101, 16, 102, 103, 104, 105, 106, 107, 108, 14, 109, 36, 110, 111, 112, 113, 114] (by decide +kernel) (by decide +kernel)
set_option maxRecDepth 20000 in
theorem ggL_law_L_isFounded_wsL_isFounded_r3 : GoodIn wsL_law wsL_isFounded_r3 := goodIn_r _ [115, 116, 117, 118, 119, 120, 121, 122, 123, 35, 124, 125, 126, 127, 128, 129, 130, 43, 131, 132, 133, 134, 135, 136] (by decide +kernel) (by decide +kernel)
set_option maxRecDepth 20000 in
theorem ggL_law_L_isFounded_wsL_isFounded_r4 : GoodIn wsL_law wsL_isFounded_r4 := goodIn_r _ [137, 138, 22, 139, 140, 141, 142, 143, 144, 145, 146, 147, 148, 149, 47, 150, 151, 152, 153, 154, 49, 155, 73, 156] (by decide +kernel) (by decide +kernel)
set_option maxRecDepth 20000 in
theorem ggL_law_L_isFounded_wsL_isFounded_r5 : GoodIn wsL_law wsL_isFounded_r5 := goodIn_r _ [157, 158, 159, 160, 161, 162, 163, 164, 165, 166, 167, 168, 169, 170, 171, 172, 173, 174, 175, 176, 177, 178, 179, 180] (by decide +kernel) (by decide +kernel)
set_option maxRecDepth 20000 in
theorem ggL_law_L_isFounded_wsL_isFounded_r6 : GoodIn wsL_law wsL_isFounded_r6 := goodIn_r _ [181, 45, 182, 65, 183, 66, 184, 185, 186, 187, 188, 189, 23, 190, 191, 192, 193, 194, 195, 196, 197, 198, 199, 200] (by decide +kernel) (by decide +kernel)
set_option maxRecDepth 20000 in
theorem ggL_law_L_isFounded_wsL_isFounded_r7 : GoodIn wsL_law wsL_isFounded_r7 := goodIn_r _ [201, 202, 203, 204, 205, 51, 206, 207, 208, 209, 210, 211, 212, 213, 214, 215, 216, 217, 218, 219, 220, 221, 222, 223] (by decide +kernel) (by decide +kernel)
set_option maxRecDepth 20000 in
theorem ggL_law_L_isFounded_wsL_isFounded_r8 : GoodIn wsL_law wsL_isFounded_r8 := goodIn_r _ [224, 225, 226, 227, 228, 229, 230, 231, 232, 233, 234, 235, 236, 237, 238, 239, 240, 241, 242, 243, 244, 245, 246, 247] (by decide +kernel) (by decide +kernel)
set_option maxRecDepth 20000 in
theorem ggL_law_L_isFounded_wsL_isFounded_r9 : GoodIn wsL_law wsL_isFounded_r9 := goodIn_r _ [248, 249, 250, 251, 252, 253, 254, 255, 256, 257, 258, 259, 260, 261, 262, 263, 264, 265, 266, 24, 267, 25, 268, 269] (by decide +kernel) (by decide +kernel)
set_option maxRecDepth 20000 in
theorem ggL_law_L_isFounded_wsL_isFounded_r10 : GoodIn wsL_law wsL_isFounded_r10 := goodIn_r _ [270, 271, 272, 273, 274, 275, 276, 277, 278, 279, 280, 281, 282, 283, 284, 285, 286, 287, 288, 289, 290, 291, 292, 293] (by decide +kernel) (by decide +kernel)
set_option maxRecDepth 20000 in
theorem ggL_law_L_isFounded_wsL_isFounded_r11 : GoodIn wsL_law wsL_isFounded_r11 := goodIn_r _ [294, 295, 296, 297, 298, 299, 300, 301, 302, 303, 304, 305, 56, 306, 54, 307, 308, 309, 310, 311, 312, 313, 314, 63] (by decide +kernel) (by decide +kernel)
set_option maxRecDepth 20000 in
theorem ggL_law_L_isFounded_wsL_isFounded_r12 : GoodIn wsL_law wsL_isFounded_r12 := goodIn_r _ [64, 315, 316, 317, 318, 319, 320, 321, 322, 323, 324, 325, 326, 327, 328, 329, 330, 331, 71, 332, 333, 334, 335, 336] (by decide +kernel) (by decide +kernel)
set_option maxRecDepth 20000 in
theorem ggL_law_L_isFounded_wsL_isFounded_r13 : GoodIn wsL_law wsL_isFounded_r13 := goodIn_r _ [337, 338, 339, 340, 341, 342, 343, 344, 345, 346, 347, 348, 349, 350, 351, 72, 352, 353, 354, 355, 356, 357, 358, 359] (by decide +kernel) (by decide +kernel)
set_option maxRecDepth 20000 in
theorem ggL_law_L_isFounded_wsL_isFounded_r14 : GoodIn wsL_law wsL_isFounded_r14 := goodIn_r _ [360, 361, 362, 363, 364, 365, 366, 367, 368, 369, 370, 371, 372, 373, 374, 375, 376, 377, 378, 379, 380, 381, 382, 383] (by decide +kernel) (by decide +kernel)
set_option maxRecDepth 20000 in
theorem ggL_law_L_isFounded_wsL_isFounded_r15 : GoodIn wsL_law wsL_isFounded_r15 := goodIn_r _ [384, 385, 386] (by decide +kernel) (by decide +kernel)
set_option maxRecDepth 20000 in
theorem ggL_law_L_isFounded : GoodIn wsL_law wsL_isFounded := goodIn_ca (goodIn_ca (goodIn_ca (goodIn_cons ggL_law_L_isFounded_0 (goodIn_app (goodIn_app (goodIn_app (goodIn_app (goodIn_app (goodIn_app (goodIn_app ggL_law_L_isFounded_wsL_isFounded_r1 (goodIn_app ggL_law_L_isFounded_wsL_isFounded_r2 (goodIn_app ggL_law_L_isFounded_wsL_isFounded_r3 (goodIn_app ggL_law_L_isFounded_wsL_isFounded_r4 (goodIn_app ggL_law_L_isFounded_wsL_isFounded_r5 (goodIn_app ggL_law_L_isFounded_wsL_isFounded_r6 (goodIn_app ggL_law_L_isFounded_wsL_isFounded_r7 (goodIn_app ggL_law_L_isFounded_wsL_isFounded_r8 (goodIn_app ggL_law_L_isFounded_wsL_isFounded_r9 (goodIn_app ggL_law_L_isFounded_wsL_isFounded_r10 (goodIn_app ggL_law_L_isFounded_wsL_isFounded_r11 (goodIn_app ggL_law_L_isFounded_wsL_isFounded_r12 (goodIn_app ggL_law_L_isFounded_wsL_isFounded_r13 (goodIn_app ggL_law_L_isFounded_wsL_isFounded_r14 ggL_law_L_isFounded_wsL_isFounded_r15)))))))))))))) (goodIn_sub inlX5 (by decide +kernel))) (goodIn_sub inlX4 (by decide +kernel))) (goodIn_sub inlX1 (by decide +kernel))) (goodIn_sub inlX2 (by decide +kernel))) (goodIn_sub inlX0 (by decide +kernel))) (goodIn_sub inlX3 (by decide +kernel)))) (goodIn_sub (fun _ h => List.mem_append_left _ (List.mem_append_left _ (List.mem_append_right _ h))) (by decide +kernel))) (goodIn_sub (fun _ h => List.mem_append_left _ (List.mem_append_right _ h)) (by decide +kernel))) (goodIn_sub (fun _ h => List.mem_append_right _ h) (by decide +kernel))
set_option maxRecDepth 20000 in
theorem gL_law_L_isFounded : GoodIn wsL_law (va_wsS RL 18 yL_isFounded wsL_isFounded) := goodIn_app (goodIn_of _ (by decide +kernel)) ggL_law_L_isFounded
