set_option maxRecDepth 20000 in
theorem ggL_law_L_pay : GoodIn wsL_law wsL_pay := goodIn_ca (goodIn_r _ [234, 135, 235, 236, 237, 2, 238, 16, 239, 240, 141, 106, 107, 15, 108, 103, 23, 109, 110, 111, 112, 872, 873, 887, 888, 889, 890, 891, 892, 893, 894, 876, 877, 878, 879, 880, 881, 882, 883, 884, 885, 886] (by decide +kernel) (by decide +kernel)) (goodIn_sub (fun _ h => List.mem_append_right _ h) (by decide +kernel))
set_option maxRecDepth 20000 in
theorem gL_law_L_pay : GoodIn wsL_law (va_wsS RL 131 yL_pay wsL_pay) := goodIn_app (goodIn_of _ (by decide +kernel)) ggL_law_L_pay
set_option maxRecDepth 20000 in
theorem ggL_law_X6_pay : GoodIn wsL_law wsX6_pay := goodIn_r _ [244, 117, 64, 119, 245, 147, 148, 149, 5, 150, 118, 121, 122, 123, 124, 125, 126, 127, 874, 875, 908, 909, 910, 911, 912, 913, 914, 915, 916, 917, 918, 919, 920, 921] (by decide +kernel) (by decide +kernel)
set_option maxRecDepth 20000 in
theorem gL_law_X6_pay : GoodIn wsL_law (wsV RL 134 RX6 yX6_pay wsX6_pay) := goodIn_app (goodIn_of _ (by decide +kernel)) ggL_law_X6_pay
set_option maxRecDepth 20000 in
theorem ggL_law_L_figure : GoodIn wsL_law wsL_figure := goodIn_ca (goodIn_ca (goodIn_r _ [248, 135, 83, 249, 250, 251, 2, 252, 16, 253, 141, 106, 107, 15, 108, 103, 23, 109, 110, 111, 112, 94, 95, 96, 97, 98, 254, 255, 256, 257, 192, 193, 258, 259, 260, 261, 262, 27, 872, 873, 876, 877, 878, 879, 880, 881, 882, 883, 884, 885, 886, 895, 896, 897, 898, 899, 900, 901, 902, 903, 904, 905] (by decide +kernel) (by decide +kernel)) (goodIn_sub (fun _ h => List.mem_append_right _ h) (by decide +kernel))) (goodIn_sub (fun _ h => List.mem_append_left _ (List.mem_append_right _ h)) (by decide +kernel))
set_option maxRecDepth 20000 in
theorem gL_law_L_figure : GoodIn wsL_law (va_wsS RL 135 yL_figure wsL_figure) := goodIn_app (goodIn_of _ (by decide +kernel)) ggL_law_L_figure
set_option maxRecDepth 20000 in
theorem ggL_law_X6_figure : GoodIn wsL_law wsX6_figure := goodIn_r _ [266, 117, 64, 203, 42, 204, 267, 268, 269, 270, 147, 148, 149, 5, 150, 118, 121, 122, 123, 124, 125, 126, 127, 271, 272, 273, 874, 875, 908, 909, 910, 911, 912, 913, 914, 915, 916, 917, 918, 919, 920, 921] (by decide +kernel) (by decide +kernel)
set_option maxRecDepth 20000 in
theorem gL_law_X6_figure : GoodIn wsL_law (wsV RL 137 RX6 yX6_figure wsX6_figure) := goodIn_app (goodIn_of _ (by decide +kernel)) ggL_law_X6_figure
set_option maxRecDepth 20000 in
theorem ggL_law_L_work : GoodIn wsL_law wsL_work := goodIn_ca (goodIn_ca (goodIn_ca (goodIn_r _ [276, 135, 82, 83, 277, 278, 279, 2, 280, 16, 281, 282, 283, 284, 260, 261, 15, 262, 192, 27, 109, 110, 111, 112, 89, 90, 91, 92, 93, 285, 286, 287, 288, 289, 94, 95, 96, 97, 98, 872, 873, 895, 896, 897, 898, 899, 900, 901, 902, 903, 904, 905, 876, 877, 878, 879, 880, 881, 882, 883, 884, 885, 886] (by decide +kernel) (by decide +kernel)) (goodIn_sub (fun _ h => List.mem_append_right _ h) (by decide +kernel))) (goodIn_sub (fun _ h => List.mem_append_left _ (List.mem_append_left _ (List.mem_append_right _ h))) (by decide +kernel))) (goodIn_sub (fun _ h => List.mem_append_left _ (List.mem_append_right _ h)) (by decide +kernel))
set_option maxRecDepth 20000 in
theorem gL_law_L_work : GoodIn wsL_law (va_wsS RL 138 yL_work wsL_work) := goodIn_app (goodIn_of _ (by decide +kernel)) ggL_law_L_work
set_option maxRecDepth 20000 in
theorem ggL_law_X6_work : GoodIn wsL_law wsX6_work := goodIn_r _ [293, 117, 64, 204, 294, 295, 296, 5, 297, 203, 121, 122, 123, 124, 125, 126, 127, 298, 299, 300, 63, 301, 302, 72, 874, 875, 908, 909, 910, 911, 912, 913, 914, 915, 916, 917, 918, 919, 920, 921] (by decide +kernel) (by decide +kernel)
set_option maxRecDepth 20000 in
theorem gL_law_X6_work : GoodIn wsL_law (wsV RL 140 RX6 yX6_work wsX6_work) := goodIn_app (goodIn_of _ (by decide +kernel)) ggL_law_X6_work
set_option maxRecDepth 20000 in
theorem ggL_law_L_swap : GoodIn wsL_law wsL_swap := goodIn_ca (goodIn_ca (goodIn_ca (goodIn_r _ [305, 135, 82, 83, 306, 307, 308, 2, 309, 92, 93, 16, 284, 260, 261, 15, 262, 192, 27, 109, 110, 111, 112, 310, 311, 312, 29, 313, 314, 53, 94, 95, 96, 97, 98, 315, 316, 317, 318, 51, 319, 320, 321, 322, 323, 324, 52, 325, 326, 327, 328, 329, 330, 331, 25, 332, 45, 46, 872, 873, 876, 877, 878, 879, 880, 881, 882, 883, 884, 885, 886, 895, 896, 897, 898, 899, 900, 901, 902, 903, 904, 905, 887, 888, 889, 890, 891, 892, 893, 894] (by decide +kernel) (by decide +kernel)) (goodIn_sub (fun _ h => List.mem_append_left _ (List.mem_append_left _ (List.mem_append_right _ h))) (by decide +kernel))) (goodIn_sub (fun _ h => List.mem_append_right _ h) (by decide +kernel))) (goodIn_sub (fun _ h => List.mem_append_left _ (List.mem_append_right _ h)) (by decide +kernel))
set_option maxRecDepth 20000 in
theorem gL_law_L_swap : GoodIn wsL_law (va_wsS RL 141 yL_swap wsL_swap) := goodIn_app (goodIn_of _ (by decide +kernel)) ggL_law_L_swap
set_option maxRecDepth 20000 in
theorem ggL_law_X6_swap : GoodIn wsL_law wsX6_swap := goodIn_r _ [336, 117, 64, 204, 294, 295, 296, 5, 297, 203, 121, 122, 123, 124, 125, 126, 127, 337, 338, 339, 340, 341, 342, 343, 63, 344, 345, 346, 347, 348, 349, 350, 175, 351, 352, 178, 179, 353, 354, 355, 356, 357, 70, 71, 874, 875, 908, 909, 910, 911, 912, 913, 914, 915, 916, 917, 918, 919, 920, 921] (by decide +kernel) (by decide +kernel)
set_option maxRecDepth 20000 in
theorem gL_law_X6_swap : GoodIn wsL_law (wsV RL 143 RX6 yX6_swap wsX6_swap) := goodIn_app (goodIn_of _ (by decide +kernel)) ggL_law_X6_swap
set_option maxRecDepth 20000 in
theorem ggL_law_L_mend : GoodIn wsL_law wsL_mend := goodIn_ca (goodIn_ca (goodIn_r _ [360, 135, 83, 361, 362, 363, 2, 364, 16, 365, 366, 217, 174, 175, 176, 284, 260, 261, 15, 262, 192, 27, 109, 110, 111, 112, 310, 311, 312, 29, 313, 314, 53, 94, 95, 96, 97, 98, 872, 873, 895, 896, 897, 898, 899, 900, 901, 902, 903, 904, 905, 876, 877, 878, 879, 880, 881, 882, 883, 884, 885, 886] (by decide +kernel) (by decide +kernel)) (goodIn_sub (fun _ h => List.mem_append_right _ h) (by decide +kernel))) (goodIn_sub (fun _ h => List.mem_append_left _ (List.mem_append_right _ h)) (by decide +kernel))
set_option maxRecDepth 20000 in
theorem gL_law_L_mend : GoodIn wsL_law (va_wsS RL 144 yL_mend wsL_mend) := goodIn_app (goodIn_of _ (by decide +kernel)) ggL_law_L_mend
set_option maxRecDepth 20000 in
theorem ggL_law_X6_mend : GoodIn wsL_law wsX6_mend := goodIn_r _ [370, 117, 64, 204, 371, 173, 174, 175, 176, 294, 295, 296, 5, 297, 203, 121, 122, 123, 124, 125, 126, 127, 337, 338, 339, 340, 341, 342, 343, 63, 344, 874, 875, 908, 909, 910, 911, 912, 913, 914, 915, 916, 917, 918, 919, 920, 921] (by decide +kernel) (by decide +kernel)
set_option maxRecDepth 20000 in
theorem gL_law_X6_mend : GoodIn wsL_law (wsV RL 146 RX6 yX6_mend wsX6_mend) := goodIn_app (goodIn_of _ (by decide +kernel)) ggL_law_X6_mend
set_option maxRecDepth 20000 in
theorem ggL_law_L_melt : GoodIn wsL_law wsL_melt := goodIn_ca (goodIn_ca (goodIn_r _ [374, 135, 83, 375, 376, 377, 2, 378, 16, 283, 282, 366, 284, 260, 261, 15, 262, 192, 27, 109, 110, 111, 112, 94, 95, 96, 97, 98, 379, 380, 381, 29, 382, 53, 383, 872, 873, 895, 896, 897, 898, 899, 900, 901, 902, 903, 904, 905, 876, 877, 878, 879, 880, 881, 882, 883, 884, 885, 886] (by decide +kernel) (by decide +kernel)) (goodIn_sub (fun _ h => List.mem_append_right _ h) (by decide +kernel))) (goodIn_sub (fun _ h => List.mem_append_left _ (List.mem_append_right _ h)) (by decide +kernel))
set_option maxRecDepth 20000 in
theorem gL_law_L_melt : GoodIn wsL_law (va_wsS RL 147 yL_melt wsL_melt) := goodIn_app (goodIn_of _ (by decide +kernel)) ggL_law_L_melt
set_option maxRecDepth 20000 in
theorem ggL_law_X6_melt : GoodIn wsL_law wsX6_melt := goodIn_r _ [387, 117, 64, 204, 371, 294, 295, 296, 5, 297, 203, 121, 122, 123, 124, 125, 126, 127, 874, 875, 908, 909, 910, 911, 912, 913, 914, 915, 916, 917, 918, 919, 920, 921] (by decide +kernel) (by decide +kernel)
set_option maxRecDepth 20000 in
theorem gL_law_X6_melt : GoodIn wsL_law (wsV RL 149 RX6 yX6_melt wsX6_melt) := goodIn_app (goodIn_of _ (by decide +kernel)) ggL_law_X6_melt
set_option maxRecDepth 20000 in
theorem ggL_law_L_tour : GoodIn wsL_law wsL_tour := goodIn_ca (goodIn_ca (goodIn_ca (goodIn_r _ [390, 135, 82, 83, 391, 392, 393, 2, 394, 16, 395, 187, 283, 396, 397, 284, 260, 261, 15, 262, 192, 27, 109, 110, 111, 112, 89, 90, 91, 92, 93, 310, 311, 312, 29, 313, 314, 53, 94, 95, 96, 97, 98, 320, 321, 322, 323, 319, 324, 51, 52, 325, 326, 327, 328, 329, 330, 331, 25, 332, 45, 46, 872, 873, 895, 896, 897, 898, 899, 900, 901, 902, 903, 904, 905, 887, 888, 889, 890, 891, 892, 893, 894, 876, 877, 878, 879, 880, 881, 882, 883, 884, 885, 886] (by decide +kernel) (by decide +kernel)) (goodIn_sub (fun _ h => List.mem_append_right _ h) (by decide +kernel))) (goodIn_sub (fun _ h => List.mem_append_left _ (List.mem_append_left _ (List.mem_append_right _ h))) (by decide +kernel))) (goodIn_sub (fun _ h => List.mem_append_left _ (List.mem_append_right _ h)) (by decide +kernel))
set_option maxRecDepth 20000 in
theorem gL_law_L_tour : GoodIn wsL_law (va_wsS RL 150 yL_tour wsL_tour) := goodIn_app (goodIn_of _ (by decide +kernel)) ggL_law_L_tour
