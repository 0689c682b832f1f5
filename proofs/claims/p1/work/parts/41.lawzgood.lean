set_option maxRecDepth 20000 in
theorem ggL_law_X4_init : GoodIn wsL_law wsX4_init := goodIn_r _ [9, 10, 11, 12, 13, 14, 15, 16, 17, 18, 19, 20, 21, 22, 23, 24, 25, 26, 27, 28, 29, 30, 31, 32, 33, 34, 35, 36, 37, 38, 39, 40, 41, 42, 43, 44, 45, 46, 47, 48, 49, 50, 51, 52, 53, 54, 55, 56, 876, 877, 878, 879, 880, 881, 882, 883, 884, 885, 886, 872, 873, 887, 888, 889, 890, 891, 892, 893, 894, 895, 896, 897, 898, 899, 900, 901, 902, 903, 904, 905, 906, 907] (by decide +kernel) (by decide +kernel)
set_option maxRecDepth 20000 in
theorem gL_law_X4_init : GoodIn wsL_law (wsX4_init) := ggL_law_X4_init
set_option maxRecDepth 20000 in
theorem ggL_law_X6_init : GoodIn wsL_law wsX6_init := goodIn_r _ [59, 60, 11, 12, 61, 62, 63, 64, 65, 66, 67, 68, 42, 69, 70, 71, 72, 73, 74, 75, 76, 77, 908, 909, 910, 911, 912, 913, 914, 915, 916, 917, 918, 919, 920, 921, 874, 875] (by decide +kernel) (by decide +kernel)
set_option maxRecDepth 20000 in
theorem gL_law_X6_init : GoodIn wsL_law (wsX6_init) := ggL_law_X6_init
set_option maxRecDepth 20000 in
theorem ggL_law_L_person : GoodIn wsL_law wsL_person := goodIn_ca (goodIn_ca (goodIn_ca (goodIn_r _ [81, 82, 83, 84, 85, 86, 2, 87, 16, 88, 89, 90, 91, 92, 93, 94, 95, 96, 97, 98, 99, 100, 101, 15, 102, 103, 104, 105, 106, 107, 108, 23, 109, 110, 111, 112, 872, 873, 876, 877, 878, 879, 880, 881, 882, 883, 884, 885, 886, 887, 888, 889, 890, 891, 892, 893, 894] (by decide +kernel) (by decide +kernel)) (goodIn_sub (fun _ h => List.mem_append_left _ (List.mem_append_left _ (List.mem_append_right _ h))) (by decide +kernel))) (goodIn_sub (fun _ h => List.mem_append_left _ (List.mem_append_right _ h)) (by decide +kernel))) (goodIn_sub (fun _ h => List.mem_append_right _ h) (by decide +kernel))
set_option maxRecDepth 20000 in
theorem gL_law_L_person : GoodIn wsL_law (va_wsS RL 106 yL_person wsL_person) := goodIn_app (goodIn_of _ (by decide +kernel)) ggL_law_L_person
set_option maxRecDepth 20000 in
theorem ggL_law_X6_person : GoodIn wsL_law wsX6_person := goodIn_r _ [116, 117, 64, 118, 119, 120, 121, 122, 5, 123, 124, 125, 126, 127, 874, 875, 908, 909, 910, 911, 912, 913, 914, 915, 916, 917, 918, 919, 920, 921] (by decide +kernel) (by decide +kernel)
set_option maxRecDepth 20000 in
theorem gL_law_X6_person : GoodIn wsL_law (wsV RL 111 RX6 yX6_person wsX6_person) := goodIn_app (goodIn_of _ (by decide +kernel)) ggL_law_X6_person
set_option maxRecDepth 20000 in
theorem ggL_law_X6_thrown : GoodIn wsL_law wsX6_thrown := goodIn_r _ [131, 117, 874, 875] (by decide +kernel) (by decide +kernel)
set_option maxRecDepth 20000 in
theorem gL_law_X6_thrown : GoodIn wsL_law (wsV RL 112 RX6 yX6_thrown wsX6_thrown) := goodIn_app (goodIn_of _ (by decide +kernel)) ggL_law_X6_thrown
set_option maxRecDepth 20000 in
theorem ggL_law_L_trend : GoodIn wsL_law wsL_trend := goodIn_ca (goodIn_ca (goodIn_r _ [134, 135, 82, 136, 137, 138, 2, 139, 16, 140, 141, 106, 107, 15, 108, 103, 23, 109, 110, 111, 112, 142, 89, 90, 91, 92, 93, 872, 873, 887, 888, 889, 890, 891, 892, 893, 894, 876, 877, 878, 879, 880, 881, 882, 883, 884, 885, 886] (by decide +kernel) (by decide +kernel)) (goodIn_sub (fun _ h => List.mem_append_right _ h) (by decide +kernel))) (goodIn_sub (fun _ h => List.mem_append_left _ (List.mem_append_left _ (List.mem_append_right _ h))) (by decide +kernel))
set_option maxRecDepth 20000 in
theorem gL_law_L_trend : GoodIn wsL_law (va_wsS RL 116 yL_trend wsL_trend) := goodIn_app (goodIn_of _ (by decide +kernel)) ggL_law_L_trend
set_option maxRecDepth 20000 in
theorem ggL_law_X6_trend : GoodIn wsL_law wsX6_trend := goodIn_r _ [146, 117, 64, 119, 147, 148, 149, 5, 150, 118, 121, 122, 123, 124, 125, 126, 127, 874, 875, 908, 909, 910, 911, 912, 913, 914, 915, 916, 917, 918, 919, 920, 921] (by decide +kernel) (by decide +kernel)
set_option maxRecDepth 20000 in
theorem gL_law_X6_trend : GoodIn wsL_law (wsV RL 118 RX6 yX6_trend wsX6_trend) := goodIn_app (goodIn_of _ (by decide +kernel)) ggL_law_X6_trend
set_option maxRecDepth 20000 in
theorem ggL_law_L_news : GoodIn wsL_law wsL_news := goodIn_ca (goodIn_ca (goodIn_r _ [153, 135, 82, 154, 155, 156, 2, 157, 16, 158, 141, 106, 107, 15, 108, 103, 23, 109, 110, 111, 112, 89, 90, 91, 92, 93, 159, 160, 161, 25, 162, 43, 163, 164, 165, 872, 873, 887, 888, 889, 890, 891, 892, 893, 894, 876, 877, 878, 879, 880, 881, 882, 883, 884, 885, 886] (by decide +kernel) (by decide +kernel)) (goodIn_sub (fun _ h => List.mem_append_right _ h) (by decide +kernel))) (goodIn_sub (fun _ h => List.mem_append_left _ (List.mem_append_left _ (List.mem_append_right _ h))) (by decide +kernel))
set_option maxRecDepth 20000 in
theorem gL_law_L_news : GoodIn wsL_law (va_wsS RL 119 yL_news wsL_news) := goodIn_app (goodIn_of _ (by decide +kernel)) ggL_law_L_news
set_option maxRecDepth 20000 in
theorem ggL_law_X6_news : GoodIn wsL_law wsX6_news := goodIn_r _ [169, 117, 64, 119, 147, 148, 149, 5, 150, 118, 121, 122, 123, 124, 125, 126, 127, 170, 171, 172, 173, 174, 175, 176, 177, 178, 179, 874, 875, 908, 909, 910, 911, 912, 913, 914, 915, 916, 917, 918, 919, 920, 921] (by decide +kernel) (by decide +kernel)
set_option maxRecDepth 20000 in
theorem gL_law_X6_news : GoodIn wsL_law (wsV RL 122 RX6 yX6_news wsX6_news) := goodIn_app (goodIn_of _ (by decide +kernel)) ggL_law_X6_news
set_option maxRecDepth 20000 in
theorem ggL_law_L_consent : GoodIn wsL_law wsL_consent := goodIn_ca (goodIn_r _ [182, 135, 183, 184, 185, 2, 186, 16, 187, 141, 106, 107, 15, 108, 103, 23, 109, 110, 111, 112, 188, 189, 190, 191, 192, 27, 193, 194, 195, 196, 197, 29, 198, 53, 872, 873, 887, 888, 889, 890, 891, 892, 893, 894, 876, 877, 878, 879, 880, 881, 882, 883, 884, 885, 886, 895, 896, 897, 898, 899, 900, 901, 902, 903, 904, 905] (by decide +kernel) (by decide +kernel)) (goodIn_sub (fun _ h => List.mem_append_right _ h) (by decide +kernel))
set_option maxRecDepth 20000 in
theorem gL_law_L_consent : GoodIn wsL_law (va_wsS RL 123 yL_consent wsL_consent) := goodIn_app (goodIn_of _ (by decide +kernel)) ggL_law_L_consent
set_option maxRecDepth 20000 in
theorem ggL_law_X6_consent : GoodIn wsL_law wsX6_consent := goodIn_r _ [202, 117, 64, 119, 203, 204, 147, 148, 149, 5, 150, 118, 121, 122, 123, 124, 125, 126, 127, 205, 206, 207, 63, 208, 874, 875, 908, 909, 910, 911, 912, 913, 914, 915, 916, 917, 918, 919, 920, 921] (by decide +kernel) (by decide +kernel)
set_option maxRecDepth 20000 in
theorem gL_law_X6_consent : GoodIn wsL_law (wsV RL 126 RX6 yX6_consent wsX6_consent) := goodIn_app (goodIn_of _ (by decide +kernel)) ggL_law_X6_consent
set_option maxRecDepth 20000 in
theorem ggL_law_L_measure : GoodIn wsL_law wsL_measure := goodIn_ca (goodIn_ca (goodIn_r _ [211, 135, 82, 212, 213, 214, 2, 215, 16, 216, 178, 175, 179, 217, 174, 176, 218, 219, 141, 106, 107, 15, 108, 103, 23, 109, 110, 111, 112, 142, 89, 90, 91, 92, 93, 220, 221, 222, 25, 223, 45, 224, 46, 225, 226, 872, 873, 887, 888, 889, 890, 891, 892, 893, 894, 876, 877, 878, 879, 880, 881, 882, 883, 884, 885, 886] (by decide +kernel) (by decide +kernel)) (goodIn_sub (fun _ h => List.mem_append_right _ h) (by decide +kernel))) (goodIn_sub (fun _ h => List.mem_append_left _ (List.mem_append_left _ (List.mem_append_right _ h))) (by decide +kernel))
set_option maxRecDepth 20000 in
theorem gL_law_L_measure : GoodIn wsL_law (va_wsS RL 127 yL_measure wsL_measure) := goodIn_app (goodIn_of _ (by decide +kernel)) ggL_law_L_measure
set_option maxRecDepth 20000 in
theorem ggL_law_X6_measure : GoodIn wsL_law wsX6_measure := goodIn_r _ [230, 117, 64, 231, 177, 178, 175, 179, 120, 173, 174, 176, 119, 147, 148, 149, 5, 150, 118, 121, 122, 123, 124, 125, 126, 127, 170, 171, 172, 874, 875, 908, 909, 910, 911, 912, 913, 914, 915, 916, 917, 918, 919, 920, 921] (by decide +kernel) (by decide +kernel)
set_option maxRecDepth 20000 in
theorem gL_law_X6_measure : GoodIn wsL_law (wsV RL 130 RX6 yX6_measure wsX6_measure) := goodIn_app (goodIn_of _ (by decide +kernel)) ggL_law_X6_measure
set_option maxRecDepth 20000 in
theorem ggL_law_L_pay : GoodIn wsL_law wsL_pay := goodIn_ca (goodIn_r _ [234, 135, 235, 236, 237, 2, 238, 16, 239, 240, 141, 106, 107, 15, 108, 103, 23, 109, 110, 111, 112, 872, 873, 887, 888, 889, 890, 891, 892, 893, 894, 876, 877, 878, 879, 880, 881, 882, 883, 884, 885, 886] (by decide +kernel) (by decide +kernel)) (goodIn_sub (fun _ h => List.mem_append_right _ h) (by decide +kernel))
set_option maxRecDepth 20000 in
theorem gL_law_L_pay : GoodIn wsL_law (va_wsS RL 131 yL_pay wsL_pay) := goodIn_app (goodIn_of _ (by decide +kernel)) ggL_law_L_pay
set_option maxRecDepth 20000 in
theorem ggL_law_X6_pay : GoodIn wsL_law wsX6_pay := goodIn_r _ [244, 117, 64, 119, 245, 147, 148, 149, 5, 150, 118, 121, 122, 123, 124, 125, 126, 127, 874, 875, 908, 909, 910, 911, 912, 913, 914, 915, 916, 917, 918, 919, 920, 921] (by decide +kernel) (by decide +kernel)
set_option maxRecDepth 20000 in
theorem gL_law_X6_pay : GoodIn wsL_law (wsV RL 134 RX6 yX6_pay wsX6_pay) := goodIn_app (goodIn_of _ (by decide +kernel)) ggL_law_X6_pay
set_option maxRecDepth 20000 in
theorem ggL_law_L_figure : GoodIn wsL_law wsL_figure := goodIn_ca (goodIn_ca (goodIn_r _ [248, 135, 83, 249, 250, 251, 2, 252, 16, 253, 141, 106, 107, 15, 108, 103, 23, 109, 110, 111, 112, 94, 95, 96, 97, 98, 254, 255, 256, 257, 192, 193, 258, 259, 260, 261, 262, 27, 872, 873, 876, 877, 878, 879, 880, 881, 882, 883, 884, 885, 886, 895, 896, 897, 898, 899, 900, 901, 902, 903, 904, 905] (by decide +kernel) (by decide +kernel)) (goodIn_sub (fun _ h => List.mem_append_right _ h) (by decide +kernel))) (goodIn_sub (fun _ h => List.mem_append_left _ (List.mem_append_right _ h)) (by decide +kernel))
set_option maxRecDepth 20000 in
theorem gL_law_L_figure : GoodIn wsL_law (va_wsS RL 135 yL_figure wsL_figure) := goodIn_app (goodIn_of _ (by decide +kernel)) ggL_law_L_figure
set_option maxRecDepth 20000 in
theorem ggL_law_X6_figure : GoodIn wsL_law wsX6_figure := goodIn_r _ [266, 117, 64, 203, 42, 204, 267, 268, 269, 270, 147, 148, 149, 5, 150, 118, 121, 122, 123, 124, 125, 126, 127, 271, 272, 273, 874, 875, 908, 909, 910, 911, 912, 913, 914, 915, 916, 917, 918, 919, 920, 921] (by decide +kernel) (by decide +kernel)
set_option maxRecDepth 20000 in
theorem gL_law_X6_figure : GoodIn wsL_law (wsV RL 137 RX6 yX6_figure wsX6_figure) := goodIn_app (goodIn_of _ (by decide +kernel)) ggL_law_X6_figure
set_option maxRecDepth 20000 in
theorem ggL_law_L_work : GoodIn wsL_law wsL_work := goodIn_ca (goodIn_ca (goodIn_ca (goodIn_r _ [276, 135, 82, 83, 277, 278, 279, 2, 280, 16, 281, 282, 283, 284, 260, 261, 15, 262, 192, 27, 109, 110, 111, 112, 89, 90, 91, 92, 93, 285, 286, 287, 288, 289, 94, 95, 96, 97, 98, 872, 873, 895, 896, 897, 898, 899, 900, 901, 902, 903, 904, 905, 876, 877, 878, 879, 880, 881, 882, 883, 884, 885, 886] (by decide +kernel) (by decide +kernel)) (goodIn_sub (fun _ h => List.mem_append_right _ h) (by decide +kernel))) (goodIn_sub (fun _ h => List.mem_append_left _ (List.mem_append_left _ (List.mem_append_right _ h))) (by decide +kernel))) (goodIn_sub (fun _ h => List.mem_append_left _ (List.mem_append_right _ h)) (by decide +kernel))
set_option maxRecDepth 20000 in
theorem gL_law_L_work : GoodIn wsL_law (va_wsS RL 138 yL_work wsL_work) := goodIn_app (goodIn_of _ (by decide +kernel)) ggL_law_L_work
set_option maxRecDepth 20000 in
theorem ggL_law_X6_work : GoodIn wsL_law wsX6_work := goodIn_r _ [293, 117, 64, 204, 294, 295, 296, 5, 297, 203, 121, 122, 123, 124, 125, 126, 127, 298, 299, 300, 63, 301, 302, 72, 874, 875, 908, 909, 910, 911, 912, 913, 914, 915, 916, 917, 918, 919, 920, 921] (by decide +kernel) (by decide +kernel)
set_option maxRecDepth 20000 in
theorem gL_law_X6_work : GoodIn wsL_law (wsV RL 140 RX6 yX6_work wsX6_work) := goodIn_app (goodIn_of _ (by decide +kernel)) ggL_law_X6_work
set_option maxRecDepth 20000 in
theorem ggL_law_L_swap : GoodIn wsL_law wsL_swap := goodIn_ca (goodIn_ca (goodIn_ca (goodIn_r _ [305, 135, 82, 83, 306, 307, 308, 2, 309, 92, 93, 16, 284, 260, 261, 15, 262, 192, 27, 109, 110, 111, 112, 310, 311, 312, 29, 313, 314, 53, 94, 95, 96, 97, 98, 315, 316, 317, 318, 51, 319, 320, 321, 322, 323, 324, 52, 325, 326, 327, 328, 329, 330, 331, 25, 332, 45, 46, 872, 873, 876, 877, 878, 879, 880, 881, 882, 883, 884, 885, 886, 895, 896, 897, 898, 899, 900, 901, 902, 903, 904, 905, 887, 888, 889, 890, 891, 892, 893, 894] (by decide +kernel) (by decide +kernel)) (goodIn_sub (fun _ h => List.mem_append_left _ (List.mem_append_left _ (List.mem_append_right _ h))) (by decide +kernel))) (goodIn_sub (fun _ h => List.mem_append_right _ h) (by decide +kernel))) (goodIn_sub (fun _ h => List.mem_append_left _ (List.mem_append_right _ h)) (by decide +kernel))
set_option maxRecDepth 20000 in
theorem gL_law_L_swap : GoodIn wsL_law (va_wsS RL 141 yL_swap wsL_swap) := goodIn_app (goodIn_of _ (by decide +kernel)) ggL_law_L_swap
set_option maxRecDepth 20000 in
theorem ggL_law_X6_swap : GoodIn wsL_law wsX6_swap := goodIn_r _ [336, 117, 64, 204, 294, 295, 296, 5, 297, 203, 121, 122, 123, 124, 125, 126, 127, 337, 338, 339, 340, 341, 342, 343, 63, 344, 345, 346, 347, 348, 349, 350, 175, 351, 352, 178, 179, 353, 354, 355, 356, 357, 70, 71, 874, 875, 908, 909, 910, 911, 912, 913, 914, 915, 916, 917, 918, 919, 920, 921] (by decide +kernel) (by decide +kernel)
set_option maxRecDepth 20000 in
theorem gL_law_X6_swap : GoodIn wsL_law (wsV RL 143 RX6 yX6_swap wsX6_swap) := goodIn_app (goodIn_of _ (by decide +kernel)) ggL_law_X6_swap
set_option maxRecDepth 20000 in
theorem ggL_law_L_mend : GoodIn wsL_law wsL_mend := goodIn_ca (goodIn_ca (goodIn_r _ [360, 135, 83, 361, 362, 363, 2, 364, 16, 365, 366, 217, 174, 175, 176, 284, 260, 261, 15, 262, 192, 27, 109, 110, 111, 112, 310, 311, 312, 29, 313, 314, 53, 94, 95, 96, 97, 98, 872, 873, 895, 896, 897, 898, 899, 900, 901, 902, 903, 904, 905, 876, 877, 878, 879, 880, 881, 882, 883, 884, 885, 886] (by decide +kernel) (by decide +kernel)) (goodIn_sub (fun _ h => List.mem_append_right _ h) (by decide +kernel))) (goodIn_sub (fun _ h => List.mem_append_left _ (List.mem_append_right _ h)) (by decide +kernel))
set_option maxRecDepth 20000 in
theorem gL_law_L_mend : GoodIn wsL_law (va_wsS RL 144 yL_mend wsL_mend) := goodIn_app (goodIn_of _ (by decide +kernel)) ggL_law_L_mend
set_option maxRecDepth 20000 in
theorem ggL_law_X6_mend : GoodIn wsL_law wsX6_mend := goodIn_r _ [370, 117, 64, 204, 371, 173, 174, 175, 176, 294, 295, 296, 5, 297, 203, 121, 122, 123, 124, 125, 126, 127, 337, 338, 339, 340, 341, 342, 343, 63, 344, 874, 875, 908, 909, 910, 911, 912, 913, 914, 915, 916, 917, 918, 919, 920, 921] (by decide +kernel) (by decide +kernel)
set_option maxRecDepth 20000 in
theorem gL_law_X6_mend : GoodIn wsL_law (wsV RL 146 RX6 yX6_mend wsX6_mend) := goodIn_app (goodIn_of _ (by decide +kernel)) ggL_law_X6_mend
set_option maxRecDepth 20000 in
theorem ggL_law_L_melt : GoodIn wsL_law wsL_melt := goodIn_ca (goodIn_ca (goodIn_r _ [374, 135, 83, 375, 376, 377, 2, 378, 16, 283, 282, 366, 284, 260, 261, 15, 262, 192, 27, 109, 110, 111, 112, 94, 95, 96, 97, 98, 379, 380, 381, 29, 382, 53, 383, 872, 873, 895, 896, 897, 898, 899, 900, 901, 902, 903, 904, 905, 876, 877, 878, 879, 880, 881, 882, 883, 884, 885, 886] (by decide +kernel) (by decide +kernel)) (goodIn_sub (fun _ h => List.mem_append_right _ h) (by decide +kernel))) (goodIn_sub (fun _ h => List.mem_append_left _ (List.mem_append_right _ h)) (by decide +kernel))
set_option maxRecDepth 20000 in
theorem gL_law_L_melt : GoodIn wsL_law (va_wsS RL 147 yL_melt wsL_melt) := goodIn_app (goodIn_of _ (by decide +kernel)) ggL_law_L_melt
set_option maxRecDepth 20000 in
theorem ggL_law_X6_melt : GoodIn wsL_law wsX6_melt := goodIn_r _ [387, 117, 64, 204, 371, 294, 295, 296, 5, 297, 203, 121, 122, 123, 124, 125, 126, 127, 874, 875, 908, 909, 910, 911, 912, 913, 914, 915, 916, 917, 918, 919, 920, 921] (by decide +kernel) (by decide +kernel)
set_option maxRecDepth 20000 in
theorem gL_law_X6_melt : GoodIn wsL_law (wsV RL 149 RX6 yX6_melt wsX6_melt) := goodIn_app (goodIn_of _ (by decide +kernel)) ggL_law_X6_melt
set_option maxRecDepth 20000 in
theorem ggL_law_L_tour : GoodIn wsL_law wsL_tour := goodIn_ca (goodIn_ca (goodIn_ca (goodIn_r _ [390, 135, 82, 83, 391, 392, 393, 2, 394, 16, 395, 187, 283, 396, 397, 284, 260, 261, 15, 262, 192, 27, 109, 110, 111, 112, 89, 90, 91, 92, 93, 310, 311, 312, 29, 313, 314, 53, 94, 95, 96, 97, 98, 320, 321, 322, 323, 319, 324, 51, 52, 325, 326, 327, 328, 329, 330, 331, 25, 332, 45, 46, 872, 873, 895, 896, 897, 898, 899, 900, 901, 902, 903, 904, 905, 887, 888, 889, 890, 891, 892, 893, 894, 876, 877, 878, 879, 880, 881, 882, 883, 884, 885, 886] (by decide +kernel) (by decide +kernel)) (goodIn_sub (fun _ h => List.mem_append_right _ h) (by decide +kernel))) (goodIn_sub (fun _ h => List.mem_append_left _ (List.mem_append_left _ (List.mem_append_right _ h))) (by decide +kernel))) (goodIn_sub (fun _ h => List.mem_append_left _ (List.mem_append_right _ h)) (by decide +kernel))
set_option maxRecDepth 20000 in
theorem gL_law_L_tour : GoodIn wsL_law (va_wsS RL 150 yL_tour wsL_tour) := goodIn_app (goodIn_of _ (by decide +kernel)) ggL_law_L_tour
set_option maxRecDepth 20000 in
theorem ggL_law_X6_tour : GoodIn wsL_law wsX6_tour := goodIn_r _ [401, 117, 64, 204, 119, 294, 295, 296, 5, 297, 203, 121, 122, 123, 124, 125, 126, 127, 337, 338, 339, 340, 341, 342, 343, 63, 344, 345, 346, 347, 348, 349, 350, 175, 351, 352, 178, 179, 353, 354, 355, 356, 357, 70, 71, 874, 875, 908, 909, 910, 911, 912, 913, 914, 915, 916, 917, 918, 919, 920, 921] (by decide +kernel) (by decide +kernel)
set_option maxRecDepth 20000 in
theorem gL_law_X6_tour : GoodIn wsL_law (wsV RL 152 RX6 yX6_tour wsX6_tour) := goodIn_app (goodIn_of _ (by decide +kernel)) ggL_law_X6_tour
set_option maxRecDepth 20000 in
theorem ggL_law_L_room : GoodIn wsL_law wsL_room := goodIn_ca (goodIn_ca (goodIn_ca (goodIn_r _ [404, 82, 83, 405, 406, 407, 2, 408, 16, 409, 89, 90, 91, 92, 93, 94, 95, 96, 97, 98, 410, 411, 412, 15, 413, 414, 415, 416, 417, 418, 419, 420, 31, 109, 110, 111, 112, 872, 873, 876, 877, 878, 879, 880, 881, 882, 883, 884, 885, 886, 906, 907] (by decide +kernel) (by decide +kernel)) (goodIn_sub (fun _ h => List.mem_append_left _ (List.mem_append_left _ (List.mem_append_right _ h))) (by decide +kernel))) (goodIn_sub (fun _ h => List.mem_append_left _ (List.mem_append_right _ h)) (by decide +kernel))) (goodIn_sub (fun _ h => List.mem_append_right _ h) (by decide +kernel))
set_option maxRecDepth 20000 in
theorem gL_law_L_room : GoodIn wsL_law (va_wsS RL 153 yL_room wsL_room) := goodIn_app (goodIn_of _ (by decide +kernel)) ggL_law_L_room
set_option maxRecDepth 20000 in
theorem ggL_law_X6_room : GoodIn wsL_law wsX6_room := goodIn_r _ [424, 117, 64, 425, 426, 427, 121, 122, 5, 123, 124, 125, 126, 127, 874, 875, 908, 909, 910, 911, 912, 913, 914, 915, 916, 917, 918, 919, 920, 921] (by decide +kernel) (by decide +kernel)
set_option maxRecDepth 20000 in
theorem gL_law_X6_room : GoodIn wsL_law (wsV RL 155 RX6 yX6_room wsX6_room) := goodIn_app (goodIn_of _ (by decide +kernel)) ggL_law_X6_room
set_option maxRecDepth 20000 in
theorem ggL_law_L_lamps : GoodIn wsL_law wsL_lamps := goodIn_ca (goodIn_ca (goodIn_r _ [430, 135, 82, 431, 432, 433, 2, 434, 16, 435, 436, 418, 419, 15, 420, 414, 31, 109, 110, 111, 112, 89, 90, 91, 92, 93, 872, 873, 906, 907, 876, 877, 878, 879, 880, 881, 882, 883, 884, 885, 886] (by decide +kernel) (by decide +kernel)) (goodIn_sub (fun _ h => List.mem_append_right _ h) (by decide +kernel))) (goodIn_sub (fun _ h => List.mem_append_left _ (List.mem_append_left _ (List.mem_append_right _ h))) (by decide +kernel))
set_option maxRecDepth 20000 in
theorem gL_law_L_lamps : GoodIn wsL_law (va_wsS RL 156 yL_lamps wsL_lamps) := goodIn_app (goodIn_of _ (by decide +kernel)) ggL_law_L_lamps
set_option maxRecDepth 20000 in
theorem ggL_law_X6_lamps : GoodIn wsL_law wsX6_lamps := goodIn_r _ [440, 117, 64, 426, 441, 442, 443, 5, 444, 425, 121, 122, 123, 124, 125, 126, 127, 874, 875, 908, 909, 910, 911, 912, 913, 914, 915, 916, 917, 918, 919, 920, 921] (by decide +kernel) (by decide +kernel)
set_option maxRecDepth 20000 in
theorem gL_law_X6_lamps : GoodIn wsL_law (wsV RL 158 RX6 yX6_lamps wsX6_lamps) := goodIn_app (goodIn_of _ (by decide +kernel)) ggL_law_X6_lamps
set_option maxRecDepth 20000 in
theorem ggL_law_L_show : GoodIn wsL_law wsL_show := goodIn_ca (goodIn_ca (goodIn_r _ [447, 135, 83, 448, 449, 450, 2, 451, 16, 395, 187, 452, 283, 284, 260, 261, 15, 262, 192, 27, 109, 110, 111, 112, 436, 418, 419, 420, 414, 31, 310, 311, 312, 29, 313, 314, 53, 94, 95, 96, 97, 98, 320, 321, 322, 323, 319, 324, 51, 52, 325, 326, 327, 328, 329, 330, 331, 25, 332, 45, 46, 453, 454, 455, 456, 194, 457, 458, 459, 460, 193, 195, 196, 197, 198, 461, 462, 463, 464, 465, 466, 467, 872, 873, 895, 896, 897, 898, 899, 900, 901, 902, 903, 904, 905, 887, 888, 889, 890, 891, 892, 893, 894, 906, 907, 876, 877, 878, 879, 880, 881, 882, 883, 884, 885, 886] (by decide +kernel) (by decide +kernel)) (goodIn_sub (fun _ h => List.mem_append_right _ h) (by decide +kernel))) (goodIn_sub (fun _ h => List.mem_append_left _ (List.mem_append_right _ h)) (by decide +kernel))
set_option maxRecDepth 20000 in
theorem gL_law_L_show : GoodIn wsL_law (va_wsS RL 159 yL_show wsL_show) := goodIn_app (goodIn_of _ (by decide +kernel)) ggL_law_L_show
set_option maxRecDepth 20000 in
theorem ggL_law_X6_show : GoodIn wsL_law wsX6_show := goodIn_r _ [471, 117, 64, 204, 119, 427, 294, 295, 296, 5, 297, 203, 121, 122, 123, 441, 442, 443, 444, 425, 124, 125, 126, 127, 337, 338, 339, 340, 341, 342, 343, 63, 344, 345, 346, 347, 348, 349, 350, 175, 351, 352, 178, 179, 353, 354, 355, 356, 357, 70, 71, 472, 473, 474, 475, 302, 72, 476, 477, 478, 479, 480, 206, 207, 208, 481, 482, 483, 484, 69, 485, 874, 875, 908, 909, 910, 911, 912, 913, 914, 915, 916, 917, 918, 919, 920, 921] (by decide +kernel) (by decide +kernel)
set_option maxRecDepth 20000 in
theorem gL_law_X6_show : GoodIn wsL_law (wsV RL 161 RX6 yX6_show wsX6_show) := goodIn_app (goodIn_of _ (by decide +kernel)) ggL_law_X6_show
set_option maxRecDepth 20000 in
theorem ggL_law_L_take : GoodIn wsL_law wsL_take := goodIn_ca (goodIn_ca (goodIn_r _ [488, 135, 83, 489, 490, 491, 2, 492, 16, 283, 284, 260, 261, 15, 262, 192, 27, 109, 110, 111, 112, 493, 196, 197, 29, 198, 53, 94, 95, 96, 97, 98, 872, 873, 895, 896, 897, 898, 899, 900, 901, 902, 903, 904, 905, 876, 877, 878, 879, 880, 881, 882, 883, 884, 885, 886] (by decide +kernel) (by decide +kernel)) (goodIn_sub (fun _ h => List.mem_append_right _ h) (by decide +kernel))) (goodIn_sub (fun _ h => List.mem_append_left _ (List.mem_append_right _ h)) (by decide +kernel))
set_option maxRecDepth 20000 in
theorem gL_law_L_take : GoodIn wsL_law (va_wsS RL 162 yL_take wsL_take) := goodIn_app (goodIn_of _ (by decide +kernel)) ggL_law_L_take
set_option maxRecDepth 20000 in
theorem ggL_law_X6_take : GoodIn wsL_law wsX6_take := goodIn_r _ [497, 117, 64, 204, 294, 295, 296, 5, 297, 203, 121, 122, 123, 124, 125, 126, 127, 874, 875, 908, 909, 910, 911, 912, 913, 914, 915, 916, 917, 918, 919, 920, 921] (by decide +kernel) (by decide +kernel)
set_option maxRecDepth 20000 in
theorem gL_law_X6_take : GoodIn wsL_law (wsV RL 164 RX6 yX6_take wsX6_take) := goodIn_app (goodIn_of _ (by decide +kernel)) ggL_law_X6_take
set_option maxRecDepth 20000 in
theorem ggL_law_L_clean : GoodIn wsL_law wsL_clean := goodIn_ca (goodIn_r _ [500, 135, 501, 502, 503, 2, 504, 16, 409, 240, 142, 109, 110, 111, 112, 505, 506, 507, 15, 508, 192, 27, 194, 509, 510, 178, 175, 179, 872, 873, 876, 877, 878, 879, 880, 881, 882, 883, 884, 885, 886, 895, 896, 897, 898, 899, 900, 901, 902, 903, 904, 905] (by decide +kernel) (by decide +kernel)) (goodIn_sub (fun _ h => List.mem_append_right _ h) (by decide +kernel))
set_option maxRecDepth 20000 in
theorem gL_law_L_clean : GoodIn wsL_law (va_wsS RL 165 yL_clean wsL_clean) := goodIn_app (goodIn_of _ (by decide +kernel)) ggL_law_L_clean
set_option maxRecDepth 20000 in
theorem ggL_law_X6_clean : GoodIn wsL_law wsX6_clean := goodIn_r _ [514, 117, 64, 245, 203, 204, 177, 178, 175, 179, 441, 442, 443, 5, 444, 425, 121, 122, 123, 124, 125, 126, 127, 874, 875, 908, 909, 910, 911, 912, 913, 914, 915, 916, 917, 918, 919, 920, 921] (by decide +kernel) (by decide +kernel)
set_option maxRecDepth 20000 in
theorem gL_law_X6_clean : GoodIn wsL_law (wsV RL 167 RX6 yX6_clean wsX6_clean) := goodIn_app (goodIn_of _ (by decide +kernel)) ggL_law_X6_clean
set_option maxRecDepth 20000 in
theorem ggL_law_L_price : GoodIn wsL_law wsL_price := goodIn_ca (goodIn_r _ [517, 82, 518, 519, 520, 2, 521, 16, 522, 89, 90, 91, 92, 93, 872, 873, 876, 877, 878, 879, 880, 881, 882, 883, 884, 885, 886] (by decide +kernel) (by decide +kernel)) (goodIn_sub (fun _ h => List.mem_append_left _ (List.mem_append_left _ (List.mem_append_right _ h))) (by decide +kernel))
set_option maxRecDepth 20000 in
theorem gL_law_L_price : GoodIn wsL_law (va_wsS RL 168 yL_price wsL_price) := goodIn_app (goodIn_of _ (by decide +kernel)) ggL_law_L_price
set_option maxRecDepth 20000 in
theorem ggL_law_X6_price : GoodIn wsL_law wsX6_price := goodIn_r _ [526, 117, 64, 527, 121, 122, 5, 123, 124, 125, 126, 127, 874, 875, 908, 909, 910, 911, 912, 913, 914, 915, 916, 917, 918, 919, 920, 921] (by decide +kernel) (by decide +kernel)
set_option maxRecDepth 20000 in
theorem gL_law_X6_price : GoodIn wsL_law (wsV RL 170 RX6 yX6_price wsX6_price) := goodIn_app (goodIn_of _ (by decide +kernel)) ggL_law_X6_price
set_option maxRecDepth 20000 in
theorem ggL_law_L_pass : GoodIn wsL_law wsL_pass := goodIn_ca (goodIn_ca (goodIn_r _ [530, 82, 531, 532, 533, 2, 534, 16, 89, 90, 91, 92, 93, 535, 536, 537, 15, 538, 539, 36, 540, 34, 541, 542, 543, 544, 103, 23, 545, 546, 547, 25, 548, 43, 44, 163, 164, 165, 549, 550, 551, 552, 553, 554, 555, 192, 27, 556, 557, 558, 29, 559, 314, 53, 560, 383, 51, 319, 561, 562, 563, 564, 46, 45, 565, 566, 567, 568, 194, 569, 462, 463, 464, 465, 466, 196, 197, 198, 467, 321, 322, 323, 324, 52, 325, 326, 327, 328, 329, 330, 331, 332, 570, 571, 572, 573, 415, 195, 417, 418, 419, 420, 414, 31, 109, 110, 111, 112, 574, 575, 576, 577, 578, 579, 580, 174, 175, 176, 581, 380, 381, 382, 582, 583, 584, 585, 586, 587, 588, 589, 590, 591, 872, 873, 876, 877, 878, 879, 880, 881, 882, 883, 884, 885, 886, 887, 888, 889, 890, 891, 892, 893, 894, 895, 896, 897, 898, 899, 900, 901, 902, 903, 904, 905, 906, 907] (by decide +kernel) (by decide +kernel)) (goodIn_sub (fun _ h => List.mem_append_left _ (List.mem_append_left _ (List.mem_append_right _ h))) (by decide +kernel))) (goodIn_sub (fun _ h => List.mem_append_right _ h) (by decide +kernel))
set_option maxRecDepth 20000 in
theorem gL_law_L_pass : GoodIn wsL_law (va_wsS RL 171 yL_pass wsL_pass) := goodIn_app (goodIn_of _ (by decide +kernel)) ggL_law_L_pass
set_option maxRecDepth 20000 in
theorem ggL_law_X6_pass : GoodIn wsL_law wsX6_pass := goodIn_r _ [595, 117, 64, 121, 122, 5, 123, 124, 125, 126, 127, 596, 597, 598, 63, 599, 600, 601, 69, 302, 72, 75, 602, 76, 42, 603, 604, 605, 171, 172, 173, 174, 175, 176, 177, 178, 179, 606, 607, 608, 609, 610, 611, 612, 613, 272, 273, 614, 615, 616, 617, 71, 70, 618, 619, 620, 621, 622, 482, 483, 484, 480, 206, 207, 208, 485, 346, 347, 348, 349, 350, 351, 352, 353, 342, 343, 344, 354, 355, 356, 357, 623, 624, 625, 626, 73, 627, 628, 629, 630, 631, 874, 875, 908, 909, 910, 911, 912, 913, 914, 915, 916, 917, 918, 919, 920, 921] (by decide +kernel) (by decide +kernel)
set_option maxRecDepth 20000 in
theorem gL_law_X6_pass : GoodIn wsL_law (wsV RL 173 RX6 yX6_pass wsX6_pass) := goodIn_app (goodIn_of _ (by decide +kernel)) ggL_law_X6_pass
set_option maxRecDepth 20000 in
theorem ggL_law_L_ofPerson : GoodIn wsL_law wsL_ofPerson := goodIn_ca (goodIn_ca (goodIn_r _ [634, 135, 82, 635, 636, 637, 2, 638, 16, 158, 140, 187, 239, 639, 141, 106, 107, 15, 108, 103, 23, 109, 110, 111, 112, 89, 90, 91, 92, 93, 640, 562, 563, 25, 564, 46, 45, 457, 458, 459, 460, 192, 27, 193, 195, 196, 197, 29, 198, 53, 872, 873, 887, 888, 889, 890, 891, 892, 893, 894, 876, 877, 878, 879, 880, 881, 882, 883, 884, 885, 886, 895, 896, 897, 898, 899, 900, 901, 902, 903, 904, 905] (by decide +kernel) (by decide +kernel)) (goodIn_sub (fun _ h => List.mem_append_right _ h) (by decide +kernel))) (goodIn_sub (fun _ h => List.mem_append_left _ (List.mem_append_left _ (List.mem_append_right _ h))) (by decide +kernel))
set_option maxRecDepth 20000 in
theorem gL_law_L_ofPerson : GoodIn wsL_law (va_wsS RL 174 yL_ofPerson wsL_ofPerson) := goodIn_app (goodIn_of _ (by decide +kernel)) ggL_law_L_ofPerson
set_option maxRecDepth 20000 in
theorem ggL_law_X6_ofPerson : GoodIn wsL_law wsX6_ofPerson := goodIn_r _ [644, 117, 147, 148, 149, 5, 150, 64, 118, 121, 122, 123, 124, 125, 126, 127, 645, 646, 647, 648, 119, 649, 615, 616, 63, 617, 71, 70, 476, 477, 478, 479, 302, 72, 480, 206, 207, 208, 874, 875, 908, 909, 910, 911, 912, 913, 914, 915, 916, 917, 918, 919, 920, 921] (by decide +kernel) (by decide +kernel)
set_option maxRecDepth 20000 in
theorem gL_law_X6_ofPerson : GoodIn wsL_law (wsV RL 176 RX6 yX6_ofPerson wsX6_ofPerson) := goodIn_app (goodIn_of _ (by decide +kernel)) ggL_law_X6_ofPerson
set_option maxRecDepth 20000 in
theorem ggL_law_L_known : GoodIn wsL_law wsL_known := goodIn_ca (goodIn_r _ [652, 135, 653, 654, 655, 2, 656, 16, 218, 219, 141, 106, 107, 15, 108, 103, 23, 109, 110, 111, 112, 142, 872, 873, 887, 888, 889, 890, 891, 892, 893, 894, 876, 877, 878, 879, 880, 881, 882, 883, 884, 885, 886] (by decide +kernel) (by decide +kernel)) (goodIn_sub (fun _ h => List.mem_append_right _ h) (by decide +kernel))
set_option maxRecDepth 20000 in
theorem gL_law_L_known : GoodIn wsL_law (va_wsS RL 177 yL_known wsL_known) := goodIn_app (goodIn_of _ (by decide +kernel)) ggL_law_L_known
set_option maxRecDepth 20000 in
theorem ggL_law_X6_known : GoodIn wsL_law wsX6_known := goodIn_r _ [660, 117, 64, 120, 231, 147, 148, 149, 5, 150, 118, 121, 122, 123, 124, 125, 126, 127, 874, 875, 908, 909, 910, 911, 912, 913, 914, 915, 916, 917, 918, 919, 920, 921] (by decide +kernel) (by decide +kernel)
set_option maxRecDepth 20000 in
theorem gL_law_X6_known : GoodIn wsL_law (wsV RL 180 RX6 yX6_known wsX6_known) := goodIn_app (goodIn_of _ (by decide +kernel)) ggL_law_X6_known
set_option maxRecDepth 20000 in
theorem ggL_law_L_ofFigure : GoodIn wsL_law wsL_ofFigure := goodIn_ca (goodIn_ca (goodIn_r _ [663, 135, 82, 664, 665, 666, 2, 667, 16, 395, 668, 669, 282, 281, 670, 365, 283, 397, 671, 284, 260, 261, 15, 262, 192, 27, 109, 110, 111, 112, 89, 90, 91, 92, 93, 672, 673, 674, 29, 675, 314, 560, 320, 321, 322, 323, 319, 324, 51, 52, 325, 326, 327, 328, 53, 329, 330, 331, 25, 332, 45, 46, 461, 462, 463, 464, 465, 466, 196, 197, 198, 467, 872, 873, 895, 896, 897, 898, 899, 900, 901, 902, 903, 904, 905, 887, 888, 889, 890, 891, 892, 893, 894, 876, 877, 878, 879, 880, 881, 882, 883, 884, 885, 886] (by decide +kernel) (by decide +kernel)) (goodIn_sub (fun _ h => List.mem_append_right _ h) (by decide +kernel))) (goodIn_sub (fun _ h => List.mem_append_left _ (List.mem_append_left _ (List.mem_append_right _ h))) (by decide +kernel))
set_option maxRecDepth 20000 in
theorem gL_law_L_ofFigure : GoodIn wsL_law (va_wsS RL 181 yL_ofFigure wsL_ofFigure) := goodIn_app (goodIn_of _ (by decide +kernel)) ggL_law_L_ofFigure
set_option maxRecDepth 20000 in
theorem ggL_law_X6_ofFigure : GoodIn wsL_law wsX6_ofFigure := goodIn_r _ [679, 117, 64, 204, 294, 295, 296, 5, 297, 203, 121, 122, 123, 124, 125, 126, 127, 680, 681, 682, 683, 42, 345, 346, 347, 63, 348, 349, 350, 175, 351, 352, 178, 179, 353, 342, 343, 344, 354, 355, 356, 357, 70, 71, 481, 482, 483, 484, 69, 480, 206, 207, 208, 485, 874, 875, 908, 909, 910, 911, 912, 913, 914, 915, 916, 917, 918, 919, 920, 921] (by decide +kernel) (by decide +kernel)
set_option maxRecDepth 20000 in
theorem gL_law_X6_ofFigure : GoodIn wsL_law (wsV RL 183 RX6 yX6_ofFigure wsX6_ofFigure) := goodIn_app (goodIn_of _ (by decide +kernel)) ggL_law_X6_ofFigure
set_option maxRecDepth 20000 in
theorem ggL_law_L_ofRoom : GoodIn wsL_law wsL_ofRoom := goodIn_ca (goodIn_ca (goodIn_r _ [686, 135, 82, 687, 688, 689, 2, 690, 16, 435, 452, 436, 418, 419, 15, 420, 414, 31, 109, 110, 111, 112, 89, 90, 91, 92, 93, 453, 454, 455, 456, 192, 27, 194, 691, 566, 567, 568, 569, 462, 463, 29, 464, 51, 465, 466, 196, 197, 198, 53, 467, 321, 322, 323, 319, 324, 52, 325, 326, 327, 328, 314, 329, 330, 331, 25, 332, 45, 46, 872, 873, 906, 907, 876, 877, 878, 879, 880, 881, 882, 883, 884, 885, 886, 895, 896, 897, 898, 899, 900, 901, 902, 903, 904, 905, 887, 888, 889, 890, 891, 892, 893, 894] (by decide +kernel) (by decide +kernel)) (goodIn_sub (fun _ h => List.mem_append_right _ h) (by decide +kernel))) (goodIn_sub (fun _ h => List.mem_append_left _ (List.mem_append_left _ (List.mem_append_right _ h))) (by decide +kernel))
set_option maxRecDepth 20000 in
theorem gL_law_L_ofRoom : GoodIn wsL_law (va_wsS RL 184 yL_ofRoom wsL_ofRoom) := goodIn_app (goodIn_of _ (by decide +kernel)) ggL_law_L_ofRoom
set_option maxRecDepth 20000 in
theorem ggL_law_X6_ofRoom : GoodIn wsL_law wsX6_ofRoom := goodIn_r _ [695, 117, 441, 442, 443, 5, 444, 64, 425, 121, 122, 123, 124, 125, 126, 127, 696, 697, 698, 699, 42, 426, 427, 472, 473, 474, 63, 475, 302, 72, 700, 619, 620, 621, 622, 482, 483, 484, 69, 480, 206, 207, 208, 485, 346, 347, 348, 349, 350, 175, 351, 352, 178, 179, 353, 342, 343, 344, 354, 355, 356, 357, 70, 71, 874, 875, 908, 909, 910, 911, 912, 913, 914, 915, 916, 917, 918, 919, 920, 921] (by decide +kernel) (by decide +kernel)
set_option maxRecDepth 20000 in
theorem gL_law_X6_ofRoom : GoodIn wsL_law (wsV RL 186 RX6 yX6_ofRoom wsX6_ofRoom) := goodIn_app (goodIn_of _ (by decide +kernel)) ggL_law_X6_ofRoom
set_option maxRecDepth 20000 in
theorem ggL_law_L_many : GoodIn wsL_law wsL_many := goodIn_ca (goodIn_r _ [703, 82, 704, 705, 706, 2, 707, 16, 708, 88, 253, 409, 240, 366, 709, 522, 89, 90, 91, 92, 93, 710, 711, 712, 15, 713, 192, 27, 714, 326, 327, 29, 328, 314, 53, 453, 454, 455, 456, 194, 715, 716, 717, 718, 103, 23, 719, 285, 286, 287, 288, 289, 691, 566, 567, 568, 569, 462, 463, 464, 51, 465, 466, 196, 197, 198, 467, 321, 322, 323, 319, 324, 52, 325, 329, 330, 331, 25, 332, 45, 46, 872, 873, 876, 877, 878, 879, 880, 881, 882, 883, 884, 885, 886, 895, 896, 897, 898, 899, 900, 901, 902, 903, 904, 905, 887, 888, 889, 890, 891, 892, 893, 894] (by decide +kernel) (by decide +kernel)) (goodIn_sub (fun _ h => List.mem_append_left _ (List.mem_append_left _ (List.mem_append_right _ h))) (by decide +kernel))
set_option maxRecDepth 20000 in
theorem gL_law_L_many : GoodIn wsL_law (va_wsS RL 187 yL_many wsL_many) := goodIn_app (goodIn_of _ (by decide +kernel)) ggL_law_L_many
set_option maxRecDepth 20000 in
theorem ggL_law_X6_many : GoodIn wsL_law wsX6_many := goodIn_r _ [723, 117, 121, 122, 5, 123, 124, 125, 126, 127, 724, 725, 726, 727, 64, 203, 204, 118, 119, 42, 728, 425, 245, 371, 729, 527, 341, 342, 343, 63, 344, 730, 731, 732, 733, 298, 299, 300, 301, 302, 72, 700, 619, 620, 621, 622, 482, 483, 484, 69, 480, 206, 207, 208, 485, 346, 347, 348, 349, 350, 175, 351, 352, 178, 179, 353, 354, 355, 356, 357, 70, 71, 874, 875, 908, 909, 910, 911, 912, 913, 914, 915, 916, 917, 918, 919, 920, 921] (by decide +kernel) (by decide +kernel)
set_option maxRecDepth 20000 in
theorem gL_law_X6_many : GoodIn wsL_law (wsV RL 189 RX6 yX6_many wsX6_many) := goodIn_app (goodIn_of _ (by decide +kernel)) ggL_law_X6_many
set_option maxRecDepth 20000 in
theorem ggL_law_X4_meanLikeness : GoodIn wsL_law wsX4_meanLikeness := goodIn_r _ [737, 16, 453, 454, 455, 15, 456, 192, 27, 194, 738, 739, 740, 741, 195, 196, 197, 29, 198, 53, 742, 321, 322, 323, 319, 324, 51, 52, 325, 326, 327, 328, 314, 329, 330, 331, 25, 332, 45, 46, 872, 873, 876, 877, 878, 879, 880, 881, 882, 883, 884, 885, 886, 895, 896, 897, 898, 899, 900, 901, 902, 903, 904, 905, 887, 888, 889, 890, 891, 892, 893, 894] (by decide +kernel) (by decide +kernel)
set_option maxRecDepth 20000 in
theorem gL_law_X4_meanLikeness : GoodIn wsL_law (wsV RL 190 RX4 yX4_meanLikeness wsX4_meanLikeness) := goodIn_app (goodIn_of _ (by decide +kernel)) ggL_law_X4_meanLikeness
set_option maxRecDepth 20000 in
theorem ggL_law_X6_meanLikeness : GoodIn wsL_law wsX6_meanLikeness := goodIn_r _ [746, 117, 64, 203, 204, 205, 206, 207, 63, 208, 345, 346, 347, 348, 349, 350, 175, 351, 352, 178, 179, 353, 342, 343, 344, 354, 355, 356, 357, 70, 71, 730, 731, 732, 5, 733, 121, 122, 123, 874, 875, 908, 909, 910, 911, 912, 913, 914, 915, 916, 917, 918, 919, 920, 921] (by decide +kernel) (by decide +kernel)
set_option maxRecDepth 20000 in
theorem gL_law_X6_meanLikeness : GoodIn wsL_law (wsV RL 194 RX6 yX6_meanLikeness wsX6_meanLikeness) := goodIn_app (goodIn_of _ (by decide +kernel)) ggL_law_X6_meanLikeness
set_option maxRecDepth 20000 in
theorem ggL_law_L_wouldFame : GoodIn wsL_law wsL_wouldFame := goodIn_ca (goodIn_ca (goodIn_r _ [749, 135, 82, 750, 751, 752, 2, 753, 16, 141, 106, 107, 15, 108, 103, 23, 109, 110, 111, 112, 142, 89, 90, 91, 92, 93, 754, 755, 756, 25, 757, 43, 44, 163, 164, 165, 549, 550, 551, 872, 873, 876, 877, 878, 879, 880, 881, 882, 883, 884, 885, 886, 887, 888, 889, 890, 891, 892, 893, 894] (by decide +kernel) (by decide +kernel)) (goodIn_sub (fun _ h => List.mem_append_right _ h) (by decide +kernel))) (goodIn_sub (fun _ h => List.mem_append_left _ (List.mem_append_left _ (List.mem_append_right _ h))) (by decide +kernel))
set_option maxRecDepth 20000 in
theorem gL_law_L_wouldFame : GoodIn wsL_law (va_wsS RL 195 yL_wouldFame wsL_wouldFame) := goodIn_app (goodIn_of _ (by decide +kernel)) ggL_law_L_wouldFame
set_option maxRecDepth 20000 in
theorem ggL_law_X6_wouldFame : GoodIn wsL_law wsX6_wouldFame := goodIn_r _ [761, 117, 147, 148, 149, 5, 150, 64, 118, 121, 122, 123, 124, 125, 126, 127, 762, 763, 764, 765, 42, 119, 267, 268, 269, 270, 766, 604, 63, 605, 171, 172, 173, 174, 175, 176, 177, 178, 179, 606, 607, 608, 609, 874, 875, 908, 909, 910, 911, 912, 913, 914, 915, 916, 917, 918, 919, 920, 921] (by decide +kernel) (by decide +kernel)
set_option maxRecDepth 20000 in
theorem gL_law_X6_wouldFame : GoodIn wsL_law (wsV RL 197 RX6 yX6_wouldFame wsX6_wouldFame) := goodIn_app (goodIn_of _ (by decide +kernel)) ggL_law_X6_wouldFame
set_option maxRecDepth 20000 in
theorem ggL_law_L_readyIn : GoodIn wsL_law wsL_readyIn := goodIn_ca (goodIn_r _ [769, 135, 770, 771, 772, 2, 773, 16, 284, 260, 261, 15, 262, 192, 27, 109, 110, 111, 112, 774, 775, 776, 29, 777, 53, 383, 560, 314, 325, 326, 327, 328, 872, 873, 876, 877, 878, 879, 880, 881, 882, 883, 884, 885, 886, 895, 896, 897, 898, 899, 900, 901, 902, 903, 904, 905] (by decide +kernel) (by decide +kernel)) (goodIn_sub (fun _ h => List.mem_append_right _ h) (by decide +kernel))
set_option maxRecDepth 20000 in
theorem gL_law_L_readyIn : GoodIn wsL_law (va_wsS RL 198 yL_readyIn wsL_readyIn) := goodIn_app (goodIn_of _ (by decide +kernel)) ggL_law_L_readyIn
set_option maxRecDepth 20000 in
theorem ggL_law_X6_readyIn : GoodIn wsL_law wsX6_readyIn := goodIn_r _ [781, 117, 64, 204, 294, 295, 296, 5, 297, 203, 121, 122, 123, 124, 125, 126, 127, 782, 783, 784, 785, 341, 342, 343, 63, 344, 271, 272, 273, 42, 874, 875, 908, 909, 910, 911, 912, 913, 914, 915, 916, 917, 918, 919, 920, 921] (by decide +kernel) (by decide +kernel)
set_option maxRecDepth 20000 in
theorem gL_law_X6_readyIn : GoodIn wsL_law (wsV RL 200 RX6 yX6_readyIn wsX6_readyIn) := goodIn_app (goodIn_of _ (by decide +kernel)) ggL_law_X6_readyIn
set_option maxRecDepth 20000 in
theorem ggL_law_L_meltsIn : GoodIn wsL_law wsL_meltsIn := goodIn_ca (goodIn_ca (goodIn_r _ [788, 135, 82, 789, 790, 791, 2, 792, 16, 17, 283, 284, 260, 261, 15, 262, 192, 27, 109, 110, 111, 112, 89, 90, 91, 92, 93, 493, 196, 197, 29, 198, 53, 793, 794, 795, 796, 103, 414, 539, 34, 35, 36, 540, 23, 193, 797, 258, 31, 415, 416, 798, 799, 800, 25, 801, 43, 44, 45, 46, 802, 803, 226, 105, 106, 107, 108, 804, 805, 806, 807, 51, 52, 314, 560, 383, 319, 324, 590, 591, 578, 535, 536, 537, 538, 541, 542, 543, 544, 545, 546, 547, 548, 163, 164, 165, 549, 550, 551, 552, 553, 554, 555, 556, 557, 558, 559, 561, 562, 563, 564, 565, 566, 567, 568, 194, 569, 462, 463, 464, 465, 466, 467, 321, 322, 323, 325, 326, 327, 328, 329, 330, 331, 332, 570, 571, 572, 573, 195, 417, 418, 419, 420, 574, 575, 576, 577, 579, 580, 174, 175, 176, 581, 380, 381, 382, 582, 583, 584, 585, 586, 587, 588, 589, 872, 873, 895, 896, 897, 898, 899, 900, 901, 902, 903, 904, 905, 876, 877, 878, 879, 880, 881, 882, 883, 884, 885, 886, 887, 888, 889, 890, 891, 892, 893, 894, 906, 907] (by decide +kernel) (by decide +kernel)) (goodIn_sub (fun _ h => List.mem_append_right _ h) (by decide +kernel))) (goodIn_sub (fun _ h => List.mem_append_left _ (List.mem_append_left _ (List.mem_append_right _ h))) (by decide +kernel))
set_option maxRecDepth 20000 in
theorem gL_law_L_meltsIn : GoodIn wsL_law (va_wsS RL 201 yL_meltsIn wsL_meltsIn) := goodIn_app (goodIn_of _ (by decide +kernel)) ggL_law_L_meltsIn
set_option maxRecDepth 20000 in
theorem ggL_law_X6_meltsIn : GoodIn wsL_law wsX6_meltsIn := goodIn_r _ [811, 117, 294, 295, 296, 5, 297, 64, 203, 121, 122, 123, 124, 125, 126, 127, 812, 813, 814, 815, 204, 816, 817, 818, 63, 819, 820, 62, 69, 70, 71, 72, 73, 821, 268, 269, 270, 74, 601, 302, 822, 600, 602, 75, 76, 77, 823, 65, 66, 67, 11, 12, 68, 42, 824, 825, 826, 596, 597, 598, 599, 603, 604, 605, 171, 172, 173, 174, 175, 176, 177, 178, 179, 606, 607, 608, 609, 610, 611, 612, 613, 272, 273, 614, 615, 616, 617, 618, 619, 620, 621, 622, 482, 483, 484, 480, 206, 207, 208, 485, 346, 347, 348, 349, 350, 351, 352, 353, 342, 343, 344, 354, 355, 356, 357, 623, 624, 625, 626, 627, 628, 629, 630, 631, 874, 875, 908, 909, 910, 911, 912, 913, 914, 915, 916, 917, 918, 919, 920, 921] (by decide +kernel) (by decide +kernel)
set_option maxRecDepth 20000 in
theorem gL_law_X6_meltsIn : GoodIn wsL_law (wsV RL 203 RX6 yX6_meltsIn wsX6_meltsIn) := goodIn_app (goodIn_of _ (by decide +kernel)) ggL_law_X6_meltsIn
set_option maxRecDepth 20000 in
theorem ggL_law_X4_bestNext : GoodIn wsL_law wsX4_bestNext := goodIn_ca (goodIn_r _ [830, 16, 88, 187, 141, 106, 107, 15, 108, 103, 23, 109, 2, 110, 111, 112, 831, 832, 833, 834, 192, 27, 193, 194, 754, 755, 756, 25, 757, 43, 44, 163, 164, 165, 549, 550, 551, 640, 562, 563, 564, 46, 45, 872, 873, 876, 877, 878, 879, 880, 881, 882, 883, 884, 885, 886, 887, 888, 889, 890, 891, 892, 893, 894, 895, 896, 897, 898, 899, 900, 901, 902, 903, 904, 905] (by decide +kernel) (by decide +kernel)) (goodIn_sub (fun _ h => List.mem_append_right _ h) (by decide +kernel))
set_option maxRecDepth 20000 in
theorem gL_law_X4_bestNext : GoodIn wsL_law (wsV RL 204 RX4 yX4_bestNext wsX4_bestNext) := goodIn_app (goodIn_of _ (by decide +kernel)) ggL_law_X4_bestNext
set_option maxRecDepth 20000 in
theorem ggL_law_X6_bestNext : GoodIn wsL_law wsX6_bestNext := goodIn_r _ [838, 117, 839, 840, 841, 5, 842, 64, 118, 119, 843, 844, 845, 846, 203, 204, 762, 763, 764, 765, 42, 267, 268, 269, 270, 766, 604, 63, 605, 171, 172, 173, 174, 175, 176, 177, 178, 179, 606, 607, 608, 609, 649, 615, 616, 617, 71, 70, 874, 875, 908, 909, 910, 911, 912, 913, 914, 915, 916, 917, 918, 919, 920, 921] (by decide +kernel) (by decide +kernel)
set_option maxRecDepth 20000 in
theorem gL_law_X6_bestNext : GoodIn wsL_law (wsV RL 207 RX6 yX6_bestNext wsX6_bestNext) := goodIn_app (goodIn_of _ (by decide +kernel)) ggL_law_X6_bestNext
set_option maxRecDepth 20000 in
theorem ggL_law_X4_digest : GoodIn wsL_law wsX4_digest := goodIn_ca (goodIn_ca (goodIn_r _ [850, 851, 852, 16, 88, 253, 409, 853, 705, 706, 2, 707, 708, 240, 366, 709, 522, 89, 90, 91, 92, 93, 710, 711, 712, 15, 713, 192, 27, 714, 326, 327, 29, 328, 314, 53, 453, 454, 455, 456, 194, 715, 716, 717, 718, 103, 23, 719, 285, 286, 287, 288, 289, 691, 566, 567, 568, 569, 462, 463, 464, 51, 465, 466, 196, 197, 198, 467, 321, 322, 323, 319, 324, 52, 325, 329, 330, 331, 25, 332, 45, 46, 854, 855, 856, 857, 858, 636, 637, 638, 158, 140, 187, 239, 639, 141, 106, 107, 108, 109, 110, 111, 112, 640, 562, 563, 564, 457, 458, 459, 460, 193, 195, 859, 654, 655, 656, 218, 219, 142, 860, 751, 752, 753, 754, 755, 756, 757, 43, 44, 163, 164, 165, 549, 550, 551, 861, 665, 666, 667, 395, 668, 669, 282, 281, 670, 365, 283, 397, 671, 284, 260, 261, 262, 672, 673, 674, 675, 560, 320, 461, 862, 771, 772, 773, 774, 775, 776, 777, 383, 863, 790, 791, 792, 17, 493, 793, 794, 795, 796, 414, 539, 34, 35, 36, 540, 797, 258, 31, 415, 416, 798, 799, 800, 801, 802, 803, 226, 105, 804, 805, 806, 807, 590, 591, 578, 535, 536, 537, 538, 541, 542, 543, 544, 545, 546, 547, 548, 552, 553, 554, 555, 556, 557, 558, 559, 561, 565, 570, 571, 572, 573, 417, 418, 419, 420, 574, 575, 576, 577, 579, 580, 174, 175, 176, 581, 380, 381, 382, 582, 583, 584, 585, 586, 587, 588, 589, 864, 688, 689, 690, 435, 452, 436, 865, 828, 829, 830, 831, 832, 833, 834, 872, 873, 876, 877, 878, 879, 880, 881, 882, 883, 884, 885, 886, 895, 896, 897, 898, 899, 900, 901, 902, 903, 904, 905, 887, 888, 889, 890, 891, 892, 893, 894, 906, 907] (by decide +kernel) (by decide +kernel)) (goodIn_sub (fun _ h => List.mem_append_left _ (List.mem_append_left _ (List.mem_append_right _ h))) (by decide +kernel))) (goodIn_sub (fun _ h => List.mem_append_right _ h) (by decide +kernel))
set_option maxRecDepth 20000 in
theorem gL_law_X4_digest : GoodIn wsL_law (wsV RL 208 RX4 yX4_digest wsX4_digest) := goodIn_app (goodIn_of _ (by decide +kernel)) ggL_law_X4_digest
set_option maxRecDepth 20000 in
theorem ggL_law_X6_digest : GoodIn wsL_law wsX6_digest := goodIn_r _ [869, 117, 870, 871, 64, 118, 231, 120, 203, 204, 425, 724, 725, 726, 5, 727, 119, 42, 728, 245, 371, 729, 527, 341, 342, 343, 63, 344, 730, 731, 732, 733, 121, 122, 123, 298, 299, 300, 301, 302, 72, 700, 619, 620, 621, 622, 482, 483, 484, 69, 480, 206, 207, 208, 485, 346, 347, 348, 349, 350, 175, 351, 352, 178, 179, 353, 354, 355, 356, 357, 70, 71, 645, 646, 647, 648, 649, 615, 616, 617, 476, 477, 478, 479, 762, 763, 764, 765, 267, 268, 269, 270, 766, 604, 605, 171, 172, 173, 174, 176, 177, 606, 607, 608, 609, 680, 681, 682, 683, 345, 481, 782, 783, 784, 785, 271, 272, 273, 812, 813, 814, 815, 816, 817, 818, 819, 820, 62, 73, 821, 74, 601, 822, 600, 602, 75, 76, 77, 823, 65, 66, 67, 11, 12, 68, 824, 825, 826, 596, 597, 598, 599, 603, 610, 611, 612, 613, 614, 618, 623, 624, 625, 626, 627, 628, 629, 630, 631, 696, 697, 698, 699, 426, 427, 472, 473, 474, 475, 839, 840, 841, 842, 843, 844, 845, 846, 874, 875, 908, 909, 910, 911, 912, 913, 914, 915, 916, 917, 918, 919, 920, 921] (by decide +kernel) (by decide +kernel)
set_option maxRecDepth 20000 in
theorem gL_law_X6_digest : GoodIn wsL_law (wsV RL 212 RX6 yX6_digest wsX6_digest) := goodIn_app (goodIn_of _ (by decide +kernel)) ggL_law_X6_digest
