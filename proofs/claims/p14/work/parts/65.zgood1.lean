set_option maxRecDepth 20000 in
theorem ggL_law_X6_pay : GoodIn wsL_law wsX6_pay := goodIn_r _ [240, 117, 64, 119, 241, 143, 144, 145, 5, 146, 118, 121, 122, 123, 124, 125, 126, 127, 874, 875, 908, 909, 910, 911, 912, 913, 914, 915, 916, 917, 918, 919, 920, 921] (by decide +kernel) (by decide +kernel)
set_option maxRecDepth 20000 in
theorem gL_law_X6_pay : GoodIn wsL_law (wsV RL 130 RX6 yX6_pay wsX6_pay) := goodIn_app (goodIn_of _ (by decide +kernel)) ggL_law_X6_pay
set_option maxRecDepth 20000 in
theorem ggL_law_L_figure : GoodIn wsL_law wsL_figure := goodIn_ca (goodIn_ca (goodIn_r _ [244, 131, 83, 245, 246, 247, 2, 248, 16, 249, 137, 106, 107, 15, 108, 103, 23, 109, 110, 111, 112, 94, 95, 96, 97, 98, 250, 251, 252, 253, 188, 189, 254, 255, 256, 257, 258, 27, 872, 873, 876, 877, 878, 879, 880, 881, 882, 883, 884, 885, 886, 895, 896, 897, 898, 899, 900, 901, 902, 903, 904, 905] (by decide +kernel) (by decide +kernel)) (goodIn_sub (fun _ h => List.mem_append_right _ h) (by decide +kernel))) (goodIn_sub (fun _ h => List.mem_append_left _ (List.mem_append_right _ h)) (by decide +kernel))
set_option maxRecDepth 20000 in
theorem gL_law_L_figure : GoodIn wsL_law (va_wsS RL 131 yL_figure wsL_figure) := goodIn_app (goodIn_of _ (by decide +kernel)) ggL_law_L_figure
set_option maxRecDepth 20000 in
theorem ggL_law_X6_figure : GoodIn wsL_law wsX6_figure := goodIn_r _ [262, 117, 64, 199, 42, 200, 263, 264, 265, 266, 143, 144, 145, 5, 146, 118, 121, 122, 123, 124, 125, 126, 127, 267, 268, 269, 874, 875, 908, 909, 910, 911, 912, 913, 914, 915, 916, 917, 918, 919, 920, 921] (by decide +kernel) (by decide +kernel)
set_option maxRecDepth 20000 in
theorem gL_law_X6_figure : GoodIn wsL_law (wsV RL 133 RX6 yX6_figure wsX6_figure) := goodIn_app (goodIn_of _ (by decide +kernel)) ggL_law_X6_figure
set_option maxRecDepth 20000 in
theorem ggL_law_L_work : GoodIn wsL_law wsL_work := goodIn_ca (goodIn_ca (goodIn_ca (goodIn_r _ [272, 131, 82, 83, 273, 274, 275, 2, 276, 16, 277, 278, 279, 280, 256, 257, 15, 258, 188, 27, 109, 110, 111, 112, 89, 90, 91, 92, 93, 281, 282, 283, 284, 285, 94, 95, 96, 97, 98, 872, 873, 895, 896, 897, 898, 899, 900, 901, 902, 903, 904, 905, 876, 877, 878, 879, 880, 881, 882, 883, 884, 885, 886] (by decide +kernel) (by decide +kernel)) (goodIn_sub (fun _ h => List.mem_append_right _ h) (by decide +kernel))) (goodIn_sub (fun _ h => List.mem_append_left _ (List.mem_append_left _ (List.mem_append_right _ h))) (by decide +kernel))) (goodIn_sub (fun _ h => List.mem_append_left _ (List.mem_append_right _ h)) (by decide +kernel))
set_option maxRecDepth 20000 in
theorem gL_law_L_work : GoodIn wsL_law (va_wsS RL 134 yL_work wsL_work) := goodIn_app (goodIn_of _ (by decide +kernel)) ggL_law_L_work
set_option maxRecDepth 20000 in
theorem ggL_law_X6_work : GoodIn wsL_law wsX6_work := goodIn_r _ [289, 117, 64, 200, 290, 291, 292, 5, 293, 199, 121, 122, 123, 124, 125, 126, 127, 294, 295, 296, 63, 297, 298, 72, 874, 875, 908, 909, 910, 911, 912, 913, 914, 915, 916, 917, 918, 919, 920, 921] (by decide +kernel) (by decide +kernel)
set_option maxRecDepth 20000 in
theorem gL_law_X6_work : GoodIn wsL_law (wsV RL 136 RX6 yX6_work wsX6_work) := goodIn_app (goodIn_of _ (by decide +kernel)) ggL_law_X6_work
set_option maxRecDepth 20000 in
theorem ggL_law_L_swap : GoodIn wsL_law wsL_swap := goodIn_ca (goodIn_ca (goodIn_ca (goodIn_r _ [301, 131, 82, 83, 302, 303, 304, 2, 305, 92, 93, 16, 280, 256, 257, 15, 258, 188, 27, 109, 110, 111, 112, 306, 307, 308, 29, 309, 310, 53, 94, 95, 96, 97, 98, 311, 312, 313, 314, 51, 315, 316, 317, 318, 319, 320, 52, 321, 322, 323, 324, 325, 326, 327, 25, 328, 45, 46, 872, 873, 876, 877, 878, 879, 880, 881, 882, 883, 884, 885, 886, 895, 896, 897, 898, 899, 900, 901, 902, 903, 904, 905, 887, 888, 889, 890, 891, 892, 893, 894] (by decide +kernel) (by decide +kernel)) (goodIn_sub (fun _ h => List.mem_append_left _ (List.mem_append_left _ (List.mem_append_right _ h))) (by decide +kernel))) (goodIn_sub (fun _ h => List.mem_append_right _ h) (by decide +kernel))) (goodIn_sub (fun _ h => List.mem_append_left _ (List.mem_append_right _ h)) (by decide +kernel))
set_option maxRecDepth 20000 in
theorem gL_law_L_swap : GoodIn wsL_law (va_wsS RL 137 yL_swap wsL_swap) := goodIn_app (goodIn_of _ (by decide +kernel)) ggL_law_L_swap
set_option maxRecDepth 20000 in
theorem ggL_law_X6_swap : GoodIn wsL_law wsX6_swap := goodIn_r _ [332, 117, 64, 200, 290, 291, 292, 5, 293, 199, 121, 122, 123, 124, 125, 126, 127, 333, 334, 335, 336, 337, 338, 339, 63, 340, 341, 342, 343, 344, 345, 346, 171, 347, 348, 174, 175, 349, 350, 351, 352, 353, 70, 71, 874, 875, 908, 909, 910, 911, 912, 913, 914, 915, 916, 917, 918, 919, 920, 921] (by decide +kernel) (by decide +kernel)
set_option maxRecDepth 20000 in
theorem gL_law_X6_swap : GoodIn wsL_law (wsV RL 139 RX6 yX6_swap wsX6_swap) := goodIn_app (goodIn_of _ (by decide +kernel)) ggL_law_X6_swap
set_option maxRecDepth 20000 in
theorem ggL_law_L_mend : GoodIn wsL_law wsL_mend := goodIn_ca (goodIn_ca (goodIn_r _ [356, 131, 83, 357, 358, 359, 2, 360, 16, 361, 362, 213, 170, 171, 172, 280, 256, 257, 15, 258, 188, 27, 109, 110, 111, 112, 306, 307, 308, 29, 309, 310, 53, 94, 95, 96, 97, 98, 872, 873, 895, 896, 897, 898, 899, 900, 901, 902, 903, 904, 905, 876, 877, 878, 879, 880, 881, 882, 883, 884, 885, 886] (by decide +kernel) (by decide +kernel)) (goodIn_sub (fun _ h => List.mem_append_right _ h) (by decide +kernel))) (goodIn_sub (fun _ h => List.mem_append_left _ (List.mem_append_right _ h)) (by decide +kernel))
set_option maxRecDepth 20000 in
theorem gL_law_L_mend : GoodIn wsL_law (va_wsS RL 140 yL_mend wsL_mend) := goodIn_app (goodIn_of _ (by decide +kernel)) ggL_law_L_mend
set_option maxRecDepth 20000 in
theorem ggL_law_X6_mend : GoodIn wsL_law wsX6_mend := goodIn_r _ [366, 117, 64, 200, 367, 169, 170, 171, 172, 290, 291, 292, 5, 293, 199, 121, 122, 123, 124, 125, 126, 127, 333, 334, 335, 336, 337, 338, 339, 63, 340, 874, 875, 908, 909, 910, 911, 912, 913, 914, 915, 916, 917, 918, 919, 920, 921] (by decide +kernel) (by decide +kernel)
set_option maxRecDepth 20000 in
theorem gL_law_X6_mend : GoodIn wsL_law (wsV RL 142 RX6 yX6_mend wsX6_mend) := goodIn_app (goodIn_of _ (by decide +kernel)) ggL_law_X6_mend
set_option maxRecDepth 20000 in
theorem ggL_law_L_melt : GoodIn wsL_law wsL_melt := goodIn_ca (goodIn_ca (goodIn_r _ [370, 131, 83, 371, 372, 373, 2, 374, 16, 279, 278, 362, 280, 256, 257, 15, 258, 188, 27, 109, 110, 111, 112, 94, 95, 96, 97, 98, 375, 376, 377, 29, 378, 53, 379, 872, 873, 895, 896, 897, 898, 899, 900, 901, 902, 903, 904, 905, 876, 877, 878, 879, 880, 881, 882, 883, 884, 885, 886] (by decide +kernel) (by decide +kernel)) (goodIn_sub (fun _ h => List.mem_append_right _ h) (by decide +kernel))) (goodIn_sub (fun _ h => List.mem_append_left _ (List.mem_append_right _ h)) (by decide +kernel))
set_option maxRecDepth 20000 in
theorem gL_law_L_melt : GoodIn wsL_law (va_wsS RL 143 yL_melt wsL_melt) := goodIn_app (goodIn_of _ (by decide +kernel)) ggL_law_L_melt
set_option maxRecDepth 20000 in
theorem ggL_law_X6_melt : GoodIn wsL_law wsX6_melt := goodIn_r _ [383, 117, 64, 200, 367, 290, 291, 292, 5, 293, 199, 121, 122, 123, 124, 125, 126, 127, 874, 875, 908, 909, 910, 911, 912, 913, 914, 915, 916, 917, 918, 919, 920, 921] (by decide +kernel) (by decide +kernel)
set_option maxRecDepth 20000 in
theorem gL_law_X6_melt : GoodIn wsL_law (wsV RL 145 RX6 yX6_melt wsX6_melt) := goodIn_app (goodIn_of _ (by decide +kernel)) ggL_law_X6_melt
set_option maxRecDepth 20000 in
theorem ggL_law_L_tour : GoodIn wsL_law wsL_tour := goodIn_ca (goodIn_ca (goodIn_ca (goodIn_r _ [386, 131, 82, 83, 387, 388, 389, 2, 390, 16, 391, 183, 279, 392, 393, 280, 256, 257, 15, 258, 188, 27, 109, 110, 111, 112, 89, 90, 91, 92, 93, 306, 307, 308, 29, 309, 310, 53, 94, 95, 96, 97, 98, 316, 317, 318, 319, 315, 320, 51, 52, 321, 322, 323, 324, 325, 326, 327, 25, 328, 45, 46, 872, 873, 895, 896, 897, 898, 899, 900, 901, 902, 903, 904, 905, 887, 888, 889, 890, 891, 892, 893, 894, 876, 877, 878, 879, 880, 881, 882, 883, 884, 885, 886] (by decide +kernel) (by decide +kernel)) (goodIn_sub (fun _ h => List.mem_append_right _ h) (by decide +kernel))) (goodIn_sub (fun _ h => List.mem_append_left _ (List.mem_append_left _ (List.mem_append_right _ h))) (by decide +kernel))) (goodIn_sub (fun _ h => List.mem_append_left _ (List.mem_append_right _ h)) (by decide +kernel))
set_option maxRecDepth 20000 in
theorem gL_law_L_tour : GoodIn wsL_law (va_wsS RL 146 yL_tour wsL_tour) := goodIn_app (goodIn_of _ (by decide +kernel)) ggL_law_L_tour
set_option maxRecDepth 20000 in
theorem ggL_law_X6_tour : GoodIn wsL_law wsX6_tour := goodIn_r _ [397, 117, 64, 200, 119, 290, 291, 292, 5, 293, 199, 121, 122, 123, 124, 125, 126, 127, 333, 334, 335, 336, 337, 338, 339, 63, 340, 341, 342, 343, 344, 345, 346, 171, 347, 348, 174, 175, 349, 350, 351, 352, 353, 70, 71, 874, 875, 908, 909, 910, 911, 912, 913, 914, 915, 916, 917, 918, 919, 920, 921] (by decide +kernel) (by decide +kernel)
set_option maxRecDepth 20000 in
theorem gL_law_X6_tour : GoodIn wsL_law (wsV RL 148 RX6 yX6_tour wsX6_tour) := goodIn_app (goodIn_of _ (by decide +kernel)) ggL_law_X6_tour
