set_option maxRecDepth 20000 in
theorem ggL_law_X4_init : GoodIn wsL_law wsX4_init := goodIn_r _ [9, 10, 11, 12, 13, 14, 15, 16, 17, 18, 19, 20, 21, 22, 23, 24, 25, 26, 27, 28, 29, 30, 31, 32, 33, 34, 35, 36, 37, 38, 39, 40, 41, 42, 43, 44, 45, 46, 47, 48, 49, 50, 51, 52, 53, 54, 55, 56, 876, 877, 878, 879, 880, 881, 882, 883, 884, 885, 886, 872, 873, 887, 888, 889, 890, 891, 892, 893, 894, 895, 896, 897, 898, 899, 900, 901, 902, 903, 904, 905, 906, 907] (by decide +kernel) (by decide +kernel)
set_option maxRecDepth 20000 in
theorem gL_law_X4_init : GoodIn wsL_law (wsX4_init) := ggL_law_X4_init
set_option maxRecDepth 20000 in
theorem ggL_law_X6_init : GoodIn wsL_law wsX6_init := goodIn_r _ [59, 60, 11, 12, 61, 62, 63, 64, 65, 66, 67, 68, 42, 69, 70, 71, 72, 73, 74, 75, 76, 77, 908, 909, 910, 911, 912, 913, 914, 915, 916, 917, 918, 919, 920, 921, 874, 875] (by decide +kernel) (by decide +kernel)
set_option maxRecDepth 20000 in
theorem gL_law_X6_init : GoodIn wsL_law (wsX6_init) := ggL_law_X6_init
set_option maxRecDepth 20000 in
theorem ggL_law_L_person : GoodIn wsL_law wsL_person := goodIn_ca (goodIn_ca (goodIn_ca (goodIn_r _ [81, 82, 83, 84, 85, 86, 2, 87, 16, 88, 89, 90, 91, 92, 93, 94, 95, 96, 97, 98, 99, 100, 101, 15, 102, 103, 104, 105, 106, 107, 108, 23, 109, 110, 111, 112, 872, 873, 876, 877, 878, 879, 880, 881, 882, 883, 884, 885, 886, 887, 888, 889, 890, 891, 892, 893, 894] (by decide +kernel) (by decide +kernel)) (goodIn_sub (fun _ h => List.mem_append_left _ (List.mem_append_left _ (List.mem_append_right _ h))) (by decide +kernel))) (goodIn_sub (fun _ h => List.mem_append_left _ (List.mem_append_right _ h)) (by decide +kernel))) (goodIn_sub (fun _ h => List.mem_append_right _ h) (by decide +kernel))
set_option maxRecDepth 20000 in
theorem gL_law_L_person : GoodIn wsL_law (va_wsS RL 106 yL_person wsL_person) := goodIn_app (goodIn_of _ (by decide +kernel)) ggL_law_L_person
set_option maxRecDepth 20000 in
theorem ggL_law_X6_person : GoodIn wsL_law wsX6_person := goodIn_r _ [116, 117, 64, 118, 119, 120, 121, 122, 5, 123, 124, 125, 126, 127, 874, 875, 908, 909, 910, 911, 912, 913, 914, 915, 916, 917, 918, 919, 920, 921] (by decide +kernel) (by decide +kernel)
set_option maxRecDepth 20000 in
theorem gL_law_X6_person : GoodIn wsL_law (wsV RL 111 RX6 yX6_person wsX6_person) := goodIn_app (goodIn_of _ (by decide +kernel)) ggL_law_X6_person
set_option maxRecDepth 20000 in
theorem ggL_law_X6_thrown : GoodIn wsL_law wsX6_thrown := goodIn_r _ [131, 117, 874, 875] (by decide +kernel) (by decide +kernel)
set_option maxRecDepth 20000 in
theorem gL_law_X6_thrown : GoodIn wsL_law (wsV RL 112 RX6 yX6_thrown wsX6_thrown) := goodIn_app (goodIn_of _ (by decide +kernel)) ggL_law_X6_thrown
set_option maxRecDepth 20000 in
theorem ggL_law_L_trend : GoodIn wsL_law wsL_trend := goodIn_ca (goodIn_ca (goodIn_r _ [134, 135, 82, 136, 137, 138, 2, 139, 16, 140, 141, 106, 107, 15, 108, 103, 23, 109, 110, 111, 112, 142, 89, 90, 91, 92, 93, 872, 873, 887, 888, 889, 890, 891, 892, 893, 894, 876, 877, 878, 879, 880, 881, 882, 883, 884, 885, 886] (by decide +kernel) (by decide +kernel)) (goodIn_sub (fun _ h => List.mem_append_right _ h) (by decide +kernel))) (goodIn_sub (fun _ h => List.mem_append_left _ (List.mem_append_left _ (List.mem_append_right _ h))) (by decide +kernel))
set_option maxRecDepth 20000 in
theorem gL_law_L_trend : GoodIn wsL_law (va_wsS RL 116 yL_trend wsL_trend) := goodIn_app (goodIn_of _ (by decide +kernel)) ggL_law_L_trend
set_option maxRecDepth 20000 in
theorem ggL_law_X6_trend : GoodIn wsL_law wsX6_trend := goodIn_r _ [146, 117, 64, 119, 147, 148, 149, 5, 150, 118, 121, 122, 123, 124, 125, 126, 127, 874, 875, 908, 909, 910, 911, 912, 913, 914, 915, 916, 917, 918, 919, 920, 921] (by decide +kernel) (by decide +kernel)
set_option maxRecDepth 20000 in
theorem gL_law_X6_trend : GoodIn wsL_law (wsV RL 118 RX6 yX6_trend wsX6_trend) := goodIn_app (goodIn_of _ (by decide +kernel)) ggL_law_X6_trend
set_option maxRecDepth 20000 in
theorem ggL_law_L_news : GoodIn wsL_law wsL_news := goodIn_ca (goodIn_ca (goodIn_r _ [153, 135, 82, 154, 155, 156, 2, 157, 16, 158, 141, 106, 107, 15, 108, 103, 23, 109, 110, 111, 112, 89, 90, 91, 92, 93, 159, 160, 161, 25, 162, 43, 163, 164, 165, 872, 873, 887, 888, 889, 890, 891, 892, 893, 894, 876, 877, 878, 879, 880, 881, 882, 883, 884, 885, 886] (by decide +kernel) (by decide +kernel)) (goodIn_sub (fun _ h => List.mem_append_right _ h) (by decide +kernel))) (goodIn_sub (fun _ h => List.mem_append_left _ (List.mem_append_left _ (List.mem_append_right _ h))) (by decide +kernel))
set_option maxRecDepth 20000 in
theorem gL_law_L_news : GoodIn wsL_law (va_wsS RL 119 yL_news wsL_news) := goodIn_app (goodIn_of _ (by decide +kernel)) ggL_law_L_news
set_option maxRecDepth 20000 in
theorem ggL_law_X6_news : GoodIn wsL_law wsX6_news := goodIn_r _ [169, 117, 64, 119, 147, 148, 149, 5, 150, 118, 121, 122, 123, 124, 125, 126, 127, 170, 171, 172, 173, 174, 175, 176, 177, 178, 179, 874, 875, 908, 909, 910, 911, 912, 913, 914, 915, 916, 917, 918, 919, 920, 921] (by decide +kernel) (by decide +kernel)
set_option maxRecDepth 20000 in
theorem gL_law_X6_news : GoodIn wsL_law (wsV RL 122 RX6 yX6_news wsX6_news) := goodIn_app (goodIn_of _ (by decide +kernel)) ggL_law_X6_news
set_option maxRecDepth 20000 in
theorem ggL_law_L_consent : GoodIn wsL_law wsL_consent := goodIn_ca (goodIn_r _ [182, 135, 183, 184, 185, 2, 186, 16, 187, 141, 106, 107, 15, 108, 103, 23, 109, 110, 111, 112, 188, 189, 190, 191, 192, 27, 193, 194, 195, 196, 197, 29, 198, 53, 872, 873, 887, 888, 889, 890, 891, 892, 893, 894, 876, 877, 878, 879, 880, 881, 882, 883, 884, 885, 886, 895, 896, 897, 898, 899, 900, 901, 902, 903, 904, 905] (by decide +kernel) (by decide +kernel)) (goodIn_sub (fun _ h => List.mem_append_right _ h) (by decide +kernel))
set_option maxRecDepth 20000 in
theorem gL_law_L_consent : GoodIn wsL_law (va_wsS RL 123 yL_consent wsL_consent) := goodIn_app (goodIn_of _ (by decide +kernel)) ggL_law_L_consent
set_option maxRecDepth 20000 in
theorem ggL_law_X6_consent : GoodIn wsL_law wsX6_consent := goodIn_r _ [202, 117, 64, 119, 203, 204, 147, 148, 149, 5, 150, 118, 121, 122, 123, 124, 125, 126, 127, 205, 206, 207, 63, 208, 874, 875, 908, 909, 910, 911, 912, 913, 914, 915, 916, 917, 918, 919, 920, 921] (by decide +kernel) (by decide +kernel)
set_option maxRecDepth 20000 in
theorem gL_law_X6_consent : GoodIn wsL_law (wsV RL 126 RX6 yX6_consent wsX6_consent) := goodIn_app (goodIn_of _ (by decide +kernel)) ggL_law_X6_consent
set_option maxRecDepth 20000 in
theorem ggL_law_L_measure : GoodIn wsL_law wsL_measure := goodIn_ca (goodIn_ca (goodIn_r _ [211, 135, 82, 212, 213, 214, 2, 215, 16, 216, 178, 175, 179, 217, 174, 176, 218, 219, 141, 106, 107, 15, 108, 103, 23, 109, 110, 111, 112, 142, 89, 90, 91, 92, 93, 220, 221, 222, 25, 223, 45, 224, 46, 225, 226, 872, 873, 887, 888, 889, 890, 891, 892, 893, 894, 876, 877, 878, 879, 880, 881, 882, 883, 884, 885, 886] (by decide +kernel) (by decide +kernel)) (goodIn_sub (fun _ h => List.mem_append_right _ h) (by decide +kernel))) (goodIn_sub (fun _ h => List.mem_append_left _ (List.mem_append_left _ (List.mem_append_right _ h))) (by decide +kernel))
set_option maxRecDepth 20000 in
theorem gL_law_L_measure : GoodIn wsL_law (va_wsS RL 127 yL_measure wsL_measure) := goodIn_app (goodIn_of _ (by decide +kernel)) ggL_law_L_measure
set_option maxRecDepth 20000 in
theorem ggL_law_X6_measure : GoodIn wsL_law wsX6_measure := goodIn_r _ [230, 117, 64, 231, 177, 178, 175, 179, 120, 173, 174, 176, 119, 147, 148, 149, 5, 150, 118, 121, 122, 123, 124, 125, 126, 127, 170, 171, 172, 874, 875, 908, 909, 910, 911, 912, 913, 914, 915, 916, 917, 918, 919, 920, 921] (by decide +kernel) (by decide +kernel)
set_option maxRecDepth 20000 in
theorem gL_law_X6_measure : GoodIn wsL_law (wsV RL 130 RX6 yX6_measure wsX6_measure) := goodIn_app (goodIn_of _ (by decide +kernel)) ggL_law_X6_measure
