set_option maxRecDepth 20000 in
theorem ggL_law_X6_tour : GoodIn wsL_law wsX6_tour := goodIn_r _ [401, 117, 64, 204, 119, 294, 295, 296, 5, 297, 203, 121, 122, 123, 124, 125, 126, 127, 337, 338, 339, 340, 341, 342, 343, 63, 344, 345, 346, 347, 348, 349, 350, 175, 351, 352, 178, 179, 353, 354, 355, 356, 357, 70, 71, 874, 875, 908, 909, 910, 911, 912, 913, 914, 915, 916, 917, 918, 919, 920, 921] (by decide +kernel) (by decide +kernel)
set_option maxRecDepth 20000 in
theorem gL_law_X6_tour : GoodIn wsL_law (wsV RL 152 RX6 yX6_tour wsX6_tour) := goodIn_app (goodIn_of _ (by decide +kernel)) ggL_law_X6_tour
set_option maxRecDepth 20000 in
theorem ggL_law_L_room : GoodIn wsL_law wsL_room := goodIn_ca (goodIn_ca (goodIn_ca (goodIn_r _ [404, 82, 83, 405, 406, 407, 2, 408, 16, 409, 89, 90, 91, 92, 93, 94, 95, 96, 97, 98, 410, 411, 412, 15, 413, 414, 415, 416, 417, 418, 419, 420, 31, 109, 110, 111, 112, 872, 873, 876, 877, 878, 879, 880, 881, 882, 883, 884, 885, 886, 906, 907] (by decide +kernel) (by decide +kernel)) (goodIn_sub (fun _ h => List.mem_append_left _ (List.mem_append_left _ (List.mem_append_right _ h))) (by decide +kernel))) (goodIn_sub (fun _ h => List.mem_append_left _ (List.mem_append_right _ h)) (by decide +kernel))) (goodIn_sub (fun _ h => List.mem_append_right _ h) (by decide +kernel))
set_option maxRecDepth 20000 in
theorem gL_law_L_room : GoodIn wsL_law (va_wsS RL 153 yL_room wsL_room) := goodIn_app (goodIn_of _ (by decide +kernel)) ggL_law_L_room
set_option maxRecDepth 20000 in
theorem ggL_law_X6_room : GoodIn wsL_law wsX6_room := goodIn_r _ [424, 117, 64, 425, 426, 427, 121, 122, 5, 123, 124, 125, 126, 127, 874, 875, 908, 909, 910, 911, 912, 913, 914, 915, 916, 917, 918, 919, 920, 921] (by decide +kernel) (by decide +kernel)
set_option maxRecDepth 20000 in
theorem gL_law_X6_room : GoodIn wsL_law (wsV RL 155 RX6 yX6_room wsX6_room) := goodIn_app (goodIn_of _ (by decide +kernel)) ggL_law_X6_room
set_option maxRecDepth 20000 in
theorem ggL_law_L_lamps : GoodIn wsL_law wsL_lamps := goodIn_ca (goodIn_ca (goodIn_r _ [430, 135, 82, 431, 432, 433, 2, 434, 16, 435, 436, 418, 419, 15, 420, 414, 31, 109, 110, 111, 112, 89, 90, 91, 92, 93, 872, 873, 906, 907, 876, 877, 878, 879, 880, 881, 882, 883, 884, 885, 886] (by decide +kernel) (by decide +kernel)) (goodIn_sub (fun _ h => List.mem_append_right _ h) (by decide +kernel))) (goodIn_sub (fun _ h => List.mem_append_left _ (List.mem_append_left _ (List.mem_append_right _ h))) (by decide +kernel))
set_option maxRecDepth 20000 in
theorem gL_law_L_lamps : GoodIn wsL_law (va_wsS RL 156 yL_lamps wsL_lamps) := goodIn_app (goodIn_of _ (by decide +kernel)) ggL_law_L_lamps
set_option maxRecDepth 20000 in
theorem ggL_law_X6_lamps : GoodIn wsL_law wsX6_lamps := goodIn_r _ [440, 117, 64, 426, 441, 442, 443, 5, 444, 425, 121, 122, 123, 124, 125, 126, 127, 874, 875, 908, 909, 910, 911, 912, 913, 914, 915, 916, 917, 918, 919, 920, 921] (by decide +kernel) (by decide +kernel)
set_option maxRecDepth 20000 in
theorem gL_law_X6_lamps : GoodIn wsL_law (wsV RL 158 RX6 yX6_lamps wsX6_lamps) := goodIn_app (goodIn_of _ (by decide +kernel)) ggL_law_X6_lamps
set_option maxRecDepth 20000 in
theorem ggL_law_L_show : GoodIn wsL_law wsL_show := goodIn_ca (goodIn_ca (goodIn_r _ [447, 135, 83, 448, 449, 450, 2, 451, 16, 395, 187, 452, 283, 284, 260, 261, 15, 262, 192, 27, 109, 110, 111, 112, 436, 418, 419, 420, 414, 31, 310, 311, 312, 29, 313, 314, 53, 94, 95, 96, 97, 98, 320, 321, 322, 323, 319, 324, 51, 52, 325, 326, 327, 328, 329, 330, 331, 25, 332, 45, 46, 453, 454, 455, 456, 194, 457, 458, 459, 460, 193, 195, 196, 197, 198, 461, 462, 463, 464, 465, 466, 467, 872, 873, 895, 896, 897, 898, 899, 900, 901, 902, 903, 904, 905, 887, 888, 889, 890, 891, 892, 893, 894, 906, 907, 876, 877, 878, 879, 880, 881, 882, 883, 884, 885, 886] (by decide +kernel) (by decide +kernel)) (goodIn_sub (fun _ h => List.mem_append_right _ h) (by decide +kernel))) (goodIn_sub (fun _ h => List.mem_append_left _ (List.mem_append_right _ h)) (by decide +kernel))
set_option maxRecDepth 20000 in
theorem gL_law_L_show : GoodIn wsL_law (va_wsS RL 159 yL_show wsL_show) := goodIn_app (goodIn_of _ (by decide +kernel)) ggL_law_L_show
set_option maxRecDepth 20000 in
theorem ggL_law_X6_show : GoodIn wsL_law wsX6_show := goodIn_r _ [471, 117, 64, 204, 119, 427, 294, 295, 296, 5, 297, 203, 121, 122, 123, 441, 442, 443, 444, 425, 124, 125, 126, 127, 337, 338, 339, 340, 341, 342, 343, 63, 344, 345, 346, 347, 348, 349, 350, 175, 351, 352, 178, 179, 353, 354, 355, 356, 357, 70, 71, 472, 473, 474, 475, 302, 72, 476, 477, 478, 479, 480, 206, 207, 208, 481, 482, 483, 484, 69, 485, 874, 875, 908, 909, 910, 911, 912, 913, 914, 915, 916, 917, 918, 919, 920, 921] (by decide +kernel) (by decide +kernel)
set_option maxRecDepth 20000 in
theorem gL_law_X6_show : GoodIn wsL_law (wsV RL 161 RX6 yX6_show wsX6_show) := goodIn_app (goodIn_of _ (by decide +kernel)) ggL_law_X6_show
set_option maxRecDepth 20000 in
theorem ggL_law_L_take : GoodIn wsL_law wsL_take := goodIn_ca (goodIn_ca (goodIn_r _ [488, 135, 83, 489, 490, 491, 2, 492, 16, 283, 284, 260, 261, 15, 262, 192, 27, 109, 110, 111, 112, 493, 196, 197, 29, 198, 53, 94, 95, 96, 97, 98, 872, 873, 895, 896, 897, 898, 899, 900, 901, 902, 903, 904, 905, 876, 877, 878, 879, 880, 881, 882, 883, 884, 885, 886] (by decide +kernel) (by decide +kernel)) (goodIn_sub (fun _ h => List.mem_append_right _ h) (by decide +kernel))) (goodIn_sub (fun _ h => List.mem_append_left _ (List.mem_append_right _ h)) (by decide +kernel))
set_option maxRecDepth 20000 in
theorem gL_law_L_take : GoodIn wsL_law (va_wsS RL 162 yL_take wsL_take) := goodIn_app (goodIn_of _ (by decide +kernel)) ggL_law_L_take
set_option maxRecDepth 20000 in
theorem ggL_law_X6_take : GoodIn wsL_law wsX6_take := goodIn_r _ [497, 117, 64, 204, 294, 295, 296, 5, 297, 203, 121, 122, 123, 124, 125, 126, 127, 874, 875, 908, 909, 910, 911, 912, 913, 914, 915, 916, 917, 918, 919, 920, 921] (by decide +kernel) (by decide +kernel)
set_option maxRecDepth 20000 in
theorem gL_law_X6_take : GoodIn wsL_law (wsV RL 164 RX6 yX6_take wsX6_take) := goodIn_app (goodIn_of _ (by decide +kernel)) ggL_law_X6_take
set_option maxRecDepth 20000 in
theorem ggL_law_L_clean : GoodIn wsL_law wsL_clean := goodIn_ca (goodIn_r _ [500, 135, 501, 502, 503, 2, 504, 16, 409, 240, 142, 109, 110, 111, 112, 505, 506, 507, 15, 508, 192, 27, 194, 509, 510, 178, 175, 179, 872, 873, 876, 877, 878, 879, 880, 881, 882, 883, 884, 885, 886, 895, 896, 897, 898, 899, 900, 901, 902, 903, 904, 905] (by decide +kernel) (by decide +kernel)) (goodIn_sub (fun _ h => List.mem_append_right _ h) (by decide +kernel))
set_option maxRecDepth 20000 in
theorem gL_law_L_clean : GoodIn wsL_law (va_wsS RL 165 yL_clean wsL_clean) := goodIn_app (goodIn_of _ (by decide +kernel)) ggL_law_L_clean
set_option maxRecDepth 20000 in
theorem ggL_law_X6_clean : GoodIn wsL_law wsX6_clean := goodIn_r _ [514, 117, 64, 245, 203, 204, 177, 178, 175, 179, 441, 442, 443, 5, 444, 425, 121, 122, 123, 124, 125, 126, 127, 874, 875, 908, 909, 910, 911, 912, 913, 914, 915, 916, 917, 918, 919, 920, 921] (by decide +kernel) (by decide +kernel)
set_option maxRecDepth 20000 in
theorem gL_law_X6_clean : GoodIn wsL_law (wsV RL 167 RX6 yX6_clean wsX6_clean) := goodIn_app (goodIn_of _ (by decide +kernel)) ggL_law_X6_clean
set_option maxRecDepth 20000 in
theorem ggL_law_L_price : GoodIn wsL_law wsL_price := goodIn_ca (goodIn_r _ [517, 82, 518, 519, 520, 2, 521, 16, 522, 89, 90, 91, 92, 93, 872, 873, 876, 877, 878, 879, 880, 881, 882, 883, 884, 885, 886] (by decide +kernel) (by decide +kernel)) (goodIn_sub (fun _ h => List.mem_append_left _ (List.mem_append_left _ (List.mem_append_right _ h))) (by decide +kernel))
set_option maxRecDepth 20000 in
theorem gL_law_L_price : GoodIn wsL_law (va_wsS RL 168 yL_price wsL_price) := goodIn_app (goodIn_of _ (by decide +kernel)) ggL_law_L_price
set_option maxRecDepth 20000 in
theorem ggL_law_X6_price : GoodIn wsL_law wsX6_price := goodIn_r _ [526, 117, 64, 527, 121, 122, 5, 123, 124, 125, 126, 127, 874, 875, 908, 909, 910, 911, 912, 913, 914, 915, 916, 917, 918, 919, 920, 921] (by decide +kernel) (by decide +kernel)
set_option maxRecDepth 20000 in
theorem gL_law_X6_price : GoodIn wsL_law (wsV RL 170 RX6 yX6_price wsX6_price) := goodIn_app (goodIn_of _ (by decide +kernel)) ggL_law_X6_price
