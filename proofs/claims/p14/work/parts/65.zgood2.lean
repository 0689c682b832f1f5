set_option maxRecDepth 20000 in
theorem ggL_law_L_room : GoodIn wsL_law wsL_room := goodIn_ca (goodIn_ca (goodIn_ca (goodIn_r _ [400, 82, 83, 401, 402, 403, 2, 404, 16, 405, 89, 90, 91, 92, 93, 94, 95, 96, 97, 98, 406, 407, 408, 15, 409, 410, 411, 412, 413, 414, 415, 416, 31, 109, 110, 111, 112, 872, 873, 876, 877, 878, 879, 880, 881, 882, 883, 884, 885, 886, 906, 907] (by decide +kernel) (by decide +kernel)) (goodIn_sub (fun _ h => List.mem_append_left _ (List.mem_append_left _ (List.mem_append_right _ h))) (by decide +kernel))) (goodIn_sub (fun _ h => List.mem_append_left _ (List.mem_append_right _ h)) (by decide +kernel))) (goodIn_sub (fun _ h => List.mem_append_right _ h) (by decide +kernel))
set_option maxRecDepth 20000 in
theorem gL_law_L_room : GoodIn wsL_law (va_wsS RL 149 yL_room wsL_room) := goodIn_app (goodIn_of _ (by decide +kernel)) ggL_law_L_room
set_option maxRecDepth 20000 in
theorem ggL_law_X6_room : GoodIn wsL_law wsX6_room := goodIn_r _ [420, 117, 64, 421, 422, 423, 121, 122, 5, 123, 124, 125, 126, 127, 874, 875, 908, 909, 910, 911, 912, 913, 914, 915, 916, 917, 918, 919, 920, 921] (by decide +kernel) (by decide +kernel)
set_option maxRecDepth 20000 in
theorem gL_law_X6_room : GoodIn wsL_law (wsV RL 151 RX6 yX6_room wsX6_room) := goodIn_app (goodIn_of _ (by decide +kernel)) ggL_law_X6_room
set_option maxRecDepth 20000 in
theorem ggL_law_X6_thrown : GoodIn wsL_law wsX6_thrown := goodIn_r _ [427, 117, 874, 875] (by decide +kernel) (by decide +kernel)
set_option maxRecDepth 20000 in
theorem gL_law_X6_thrown : GoodIn wsL_law (wsV RL 152 RX6 yX6_thrown wsX6_thrown) := goodIn_app (goodIn_of _ (by decide +kernel)) ggL_law_X6_thrown
set_option maxRecDepth 20000 in
theorem ggL_law_L_lamps : GoodIn wsL_law wsL_lamps := goodIn_ca (goodIn_ca (goodIn_r _ [430, 131, 82, 431, 432, 433, 2, 434, 16, 435, 436, 414, 415, 15, 416, 410, 31, 109, 110, 111, 112, 89, 90, 91, 92, 93, 872, 873, 906, 907, 876, 877, 878, 879, 880, 881, 882, 883, 884, 885, 886] (by decide +kernel) (by decide +kernel)) (goodIn_sub (fun _ h => List.mem_append_right _ h) (by decide +kernel))) (goodIn_sub (fun _ h => List.mem_append_left _ (List.mem_append_left _ (List.mem_append_right _ h))) (by decide +kernel))
set_option maxRecDepth 20000 in
theorem gL_law_L_lamps : GoodIn wsL_law (va_wsS RL 156 yL_lamps wsL_lamps) := goodIn_app (goodIn_of _ (by decide +kernel)) ggL_law_L_lamps
set_option maxRecDepth 20000 in
theorem ggL_law_X6_lamps : GoodIn wsL_law wsX6_lamps := goodIn_r _ [440, 117, 64, 422, 441, 442, 443, 5, 444, 421, 121, 122, 123, 124, 125, 126, 127, 874, 875, 908, 909, 910, 911, 912, 913, 914, 915, 916, 917, 918, 919, 920, 921] (by decide +kernel) (by decide +kernel)
set_option maxRecDepth 20000 in
theorem gL_law_X6_lamps : GoodIn wsL_law (wsV RL 158 RX6 yX6_lamps wsX6_lamps) := goodIn_app (goodIn_of _ (by decide +kernel)) ggL_law_X6_lamps
set_option maxRecDepth 20000 in
theorem ggL_law_L_show : GoodIn wsL_law wsL_show := goodIn_ca (goodIn_ca (goodIn_r _ [447, 131, 83, 448, 449, 450, 2, 451, 16, 391, 183, 452, 279, 280, 256, 257, 15, 258, 188, 27, 109, 110, 111, 112, 436, 414, 415, 416, 410, 31, 306, 307, 308, 29, 309, 310, 53, 94, 95, 96, 97, 98, 316, 317, 318, 319, 315, 320, 51, 52, 321, 322, 323, 324, 325, 326, 327, 25, 328, 45, 46, 453, 454, 455, 456, 190, 457, 458, 459, 460, 189, 191, 192, 193, 194, 461, 462, 463, 464, 465, 466, 467, 872, 873, 895, 896, 897, 898, 899, 900, 901, 902, 903, 904, 905, 887, 888, 889, 890, 891, 892, 893, 894, 906, 907, 876, 877, 878, 879, 880, 881, 882, 883, 884, 885, 886] (by decide +kernel) (by decide +kernel)) (goodIn_sub (fun _ h => List.mem_append_right _ h) (by decide +kernel))) (goodIn_sub (fun _ h => List.mem_append_left _ (List.mem_append_right _ h)) (by decide +kernel))
set_option maxRecDepth 20000 in
theorem gL_law_L_show : GoodIn wsL_law (va_wsS RL 159 yL_show wsL_show) := goodIn_app (goodIn_of _ (by decide +kernel)) ggL_law_L_show
set_option maxRecDepth 20000 in
theorem ggL_law_X6_show : GoodIn wsL_law wsX6_show := goodIn_r _ [471, 117, 64, 200, 119, 423, 290, 291, 292, 5, 293, 199, 121, 122, 123, 441, 442, 443, 444, 421, 124, 125, 126, 127, 333, 334, 335, 336, 337, 338, 339, 63, 340, 341, 342, 343, 344, 345, 346, 171, 347, 348, 174, 175, 349, 350, 351, 352, 353, 70, 71, 472, 473, 474, 475, 298, 72, 476, 477, 478, 479, 480, 202, 203, 204, 481, 482, 483, 484, 69, 485, 874, 875, 908, 909, 910, 911, 912, 913, 914, 915, 916, 917, 918, 919, 920, 921] (by decide +kernel) (by decide +kernel)
set_option maxRecDepth 20000 in
theorem gL_law_X6_show : GoodIn wsL_law (wsV RL 161 RX6 yX6_show wsX6_show) := goodIn_app (goodIn_of _ (by decide +kernel)) ggL_law_X6_show
set_option maxRecDepth 20000 in
theorem ggL_law_L_take : GoodIn wsL_law wsL_take := goodIn_ca (goodIn_ca (goodIn_r _ [488, 131, 83, 489, 490, 491, 2, 492, 16, 279, 280, 256, 257, 15, 258, 188, 27, 109, 110, 111, 112, 493, 192, 193, 29, 194, 53, 94, 95, 96, 97, 98, 872, 873, 895, 896, 897, 898, 899, 900, 901, 902, 903, 904, 905, 876, 877, 878, 879, 880, 881, 882, 883, 884, 885, 886] (by decide +kernel) (by decide +kernel)) (goodIn_sub (fun _ h => List.mem_append_right _ h) (by decide +kernel))) (goodIn_sub (fun _ h => List.mem_append_left _ (List.mem_append_right _ h)) (by decide +kernel))
set_option maxRecDepth 20000 in
theorem gL_law_L_take : GoodIn wsL_law (va_wsS RL 162 yL_take wsL_take) := goodIn_app (goodIn_of _ (by decide +kernel)) ggL_law_L_take
set_option maxRecDepth 20000 in
theorem ggL_law_X6_take : GoodIn wsL_law wsX6_take := goodIn_r _ [497, 117, 64, 200, 290, 291, 292, 5, 293, 199, 121, 122, 123, 124, 125, 126, 127, 874, 875, 908, 909, 910, 911, 912, 913, 914, 915, 916, 917, 918, 919, 920, 921] (by decide +kernel) (by decide +kernel)
set_option maxRecDepth 20000 in
theorem gL_law_X6_take : GoodIn wsL_law (wsV RL 164 RX6 yX6_take wsX6_take) := goodIn_app (goodIn_of _ (by decide +kernel)) ggL_law_X6_take
set_option maxRecDepth 20000 in
theorem ggL_law_L_clean : GoodIn wsL_law wsL_clean := goodIn_ca (goodIn_r _ [500, 131, 501, 502, 503, 2, 504, 16, 405, 236, 138, 109, 110, 111, 112, 505, 506, 507, 15, 508, 188, 27, 190, 509, 510, 174, 171, 175, 872, 873, 876, 877, 878, 879, 880, 881, 882, 883, 884, 885, 886, 895, 896, 897, 898, 899, 900, 901, 902, 903, 904, 905] (by decide +kernel) (by decide +kernel)) (goodIn_sub (fun _ h => List.mem_append_right _ h) (by decide +kernel))
set_option maxRecDepth 20000 in
theorem gL_law_L_clean : GoodIn wsL_law (va_wsS RL 165 yL_clean wsL_clean) := goodIn_app (goodIn_of _ (by decide +kernel)) ggL_law_L_clean
set_option maxRecDepth 20000 in
theorem ggL_law_X6_clean : GoodIn wsL_law wsX6_clean := goodIn_r _ [514, 117, 64, 241, 199, 200, 173, 174, 171, 175, 441, 442, 443, 5, 444, 421, 121, 122, 123, 124, 125, 126, 127, 874, 875, 908, 909, 910, 911, 912, 913, 914, 915, 916, 917, 918, 919, 920, 921] (by decide +kernel) (by decide +kernel)
set_option maxRecDepth 20000 in
theorem gL_law_X6_clean : GoodIn wsL_law (wsV RL 167 RX6 yX6_clean wsX6_clean) := goodIn_app (goodIn_of _ (by decide +kernel)) ggL_law_X6_clean
set_option maxRecDepth 20000 in
theorem ggL_law_L_price : GoodIn wsL_law wsL_price := goodIn_ca (goodIn_r _ [517, 82, 518, 519, 520, 2, 521, 16, 522, 89, 90, 91, 92, 93, 872, 873, 876, 877, 878, 879, 880, 881, 882, 883, 884, 885, 886] (by decide +kernel) (by decide +kernel)) (goodIn_sub (fun _ h => List.mem_append_left _ (List.mem_append_left _ (List.mem_append_right _ h))) (by decide +kernel))
set_option maxRecDepth 20000 in
theorem gL_law_L_price : GoodIn wsL_law (va_wsS RL 168 yL_price wsL_price) := goodIn_app (goodIn_of _ (by decide +kernel)) ggL_law_L_price
set_option maxRecDepth 20000 in
theorem ggL_law_X6_price : GoodIn wsL_law wsX6_price := goodIn_r _ [526, 117, 64, 527, 121, 122, 5, 123, 124, 125, 126, 127, 874, 875, 908, 909, 910, 911, 912, 913, 914, 915, 916, 917, 918, 919, 920, 921] (by decide +kernel) (by decide +kernel)
set_option maxRecDepth 20000 in
theorem gL_law_X6_price : GoodIn wsL_law (wsV RL 170 RX6 yX6_price wsX6_price) := goodIn_app (goodIn_of _ (by decide +kernel)) ggL_law_X6_price
