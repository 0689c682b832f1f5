set_option maxRecDepth 20000 in
theorem ggL_law_X4_init : GoodIn wsL_law wsX4_init := goodIn_r _ [9, 10, 11, 12, 13, 14, 15, 16, 17, 18, 19, 20, 21, 22, 23, 24, 25, 26, 27, 28, 29, 30, 31, 32, 33, 34, 35, 36, 37, 38, 39, 40, 41, 42, 43, 44, 45, 46, 47, 48, 49, 50, 51, 52, 53, 54, 55, 56, 876, 877, 878, 879, 880, 881, 882, 883, 884, 885, 886, 872, 873, 887, 888, 889, 890, 891, 892, 893, 894, 895, 896, 897, 898, 899, 900, 901, 902, 903, 904, 905, 906, 907] (by decide +kernel) (by decide +kernel)
set_option maxRecDepth 20000 in
theorem gL_law_X4_init : GoodIn wsL_law (wsX4_init) := ggL_law_X4_init
set_option maxRecDepth 20000 in
theorem ggL_law_X6_init : GoodIn wsL_law wsX6_init := goodIn_r _ [59, 60, 11, 12, 61, 62, 63, 64, 65, 66, 67, 68, 42, 69, 70, 71, 72, 73, 74, 75, 76, 77, 908, 909, 910, 911, 912, 913, 914, 915, 916, 917, 918, 919, 920, 921, 874, 875] (by decide +kernel) (by decide +kernel)
set_option maxRecDepth 20000 in
theorem gL_law_X6_init : GoodIn wsL_law (wsX6_init) := ggL_law_X6_init
set_option maxRecDepth 20000 in
theorem ggL_law_L_person : GoodIn wsL_law wsL_person := goodIn_ca (goodIn_ca (goodIn_ca (goodIn_r _ [81, 82, 83, 84, 85, 86, 2, 87, 16, 88, 89, 90, 91, 92, 93, 94, 95, 96, 97, 98, 99, 100, 101, 15, 102, 103, 104, 105, 106, 107, 108, 23, 109, 110, 111, 112, 872, 873, 876, 877, 878, 879, 880, 881, 882, 883, 884, 885, 886, 887, 888, 889, 890, 891, 892, 893, 894] (by decide +kernel) (by decide +kernel)) (goodIn_sub (fun _ h => List.mem_append_left _ (List.mem_append_left _ (List.mem_append_right _ h))) (by decide +kernel))) (goodIn_sub (fun _ h => List.mem_append_left _ (List.mem_append_right _ h)) (by decide +kernel))) (goodIn_sub (fun _ h => List.mem_append_right _ h) (by decide +kernel))
set_option maxRecDepth 20000 in
theorem gL_law_L_person : GoodIn wsL_law (va_wsS RL 106 yL_person wsL_person) := goodIn_app (goodIn_of _ (by decide +kernel)) ggL_law_L_person
set_option maxRecDepth 20000 in
theorem ggL_law_X6_person : GoodIn wsL_law wsX6_person := goodIn_r _ [116, 117, 64, 118, 119, 120, 121, 122, 5, 123, 124, 125, 126, 127, 874, 875, 908, 909, 910, 911, 912, 913, 914, 915, 916, 917, 918, 919, 920, 921] (by decide +kernel) (by decide +kernel)
set_option maxRecDepth 20000 in
theorem gL_law_X6_person : GoodIn wsL_law (wsV RL 111 RX6 yX6_person wsX6_person) := goodIn_app (goodIn_of _ (by decide +kernel)) ggL_law_X6_person
set_option maxRecDepth 20000 in
theorem ggL_law_L_trend : GoodIn wsL_law wsL_trend := goodIn_ca (goodIn_ca (goodIn_r _ [130, 131, 82, 132, 133, 134, 2, 135, 16, 136, 137, 106, 107, 15, 108, 103, 23, 109, 110, 111, 112, 138, 89, 90, 91, 92, 93, 872, 873, 887, 888, 889, 890, 891, 892, 893, 894, 876, 877, 878, 879, 880, 881, 882, 883, 884, 885, 886] (by decide +kernel) (by decide +kernel)) (goodIn_sub (fun _ h => List.mem_append_right _ h) (by decide +kernel))) (goodIn_sub (fun _ h => List.mem_append_left _ (List.mem_append_left _ (List.mem_append_right _ h))) (by decide +kernel))
set_option maxRecDepth 20000 in
theorem gL_law_L_trend : GoodIn wsL_law (va_wsS RL 112 yL_trend wsL_trend) := goodIn_app (goodIn_of _ (by decide +kernel)) ggL_law_L_trend
set_option maxRecDepth 20000 in
theorem ggL_law_X6_trend : GoodIn wsL_law wsX6_trend := goodIn_r _ [142, 117, 64, 119, 143, 144, 145, 5, 146, 118, 121, 122, 123, 124, 125, 126, 127, 874, 875, 908, 909, 910, 911, 912, 913, 914, 915, 916, 917, 918, 919, 920, 921] (by decide +kernel) (by decide +kernel)
set_option maxRecDepth 20000 in
theorem gL_law_X6_trend : GoodIn wsL_law (wsV RL 114 RX6 yX6_trend wsX6_trend) := goodIn_app (goodIn_of _ (by decide +kernel)) ggL_law_X6_trend
set_option maxRecDepth 20000 in
theorem ggL_law_L_news : GoodIn wsL_law wsL_news := goodIn_ca (goodIn_ca (goodIn_r _ [149, 131, 82, 150, 151, 152, 2, 153, 16, 154, 137, 106, 107, 15, 108, 103, 23, 109, 110, 111, 112, 89, 90, 91, 92, 93, 155, 156, 157, 25, 158, 43, 159, 160, 161, 872, 873, 887, 888, 889, 890, 891, 892, 893, 894, 876, 877, 878, 879, 880, 881, 882, 883, 884, 885, 886] (by decide +kernel) (by decide +kernel)) (goodIn_sub (fun _ h => List.mem_append_right _ h) (by decide +kernel))) (goodIn_sub (fun _ h => List.mem_append_left _ (List.mem_append_left _ (List.mem_append_right _ h))) (by decide +kernel))
set_option maxRecDepth 20000 in
theorem gL_law_L_news : GoodIn wsL_law (va_wsS RL 115 yL_news wsL_news) := goodIn_app (goodIn_of _ (by decide +kernel)) ggL_law_L_news
set_option maxRecDepth 20000 in
theorem ggL_law_X6_news : GoodIn wsL_law wsX6_news := goodIn_r _ [165, 117, 64, 119, 143, 144, 145, 5, 146, 118, 121, 122, 123, 124, 125, 126, 127, 166, 167, 168, 169, 170, 171, 172, 173, 174, 175, 874, 875, 908, 909, 910, 911, 912, 913, 914, 915, 916, 917, 918, 919, 920, 921] (by decide +kernel) (by decide +kernel)
set_option maxRecDepth 20000 in
theorem gL_law_X6_news : GoodIn wsL_law (wsV RL 118 RX6 yX6_news wsX6_news) := goodIn_app (goodIn_of _ (by decide +kernel)) ggL_law_X6_news
set_option maxRecDepth 20000 in
theorem ggL_law_L_consent : GoodIn wsL_law wsL_consent := goodIn_ca (goodIn_r _ [178, 131, 179, 180, 181, 2, 182, 16, 183, 137, 106, 107, 15, 108, 103, 23, 109, 110, 111, 112, 184, 185, 186, 187, 188, 27, 189, 190, 191, 192, 193, 29, 194, 53, 872, 873, 887, 888, 889, 890, 891, 892, 893, 894, 876, 877, 878, 879, 880, 881, 882, 883, 884, 885, 886, 895, 896, 897, 898, 899, 900, 901, 902, 903, 904, 905] (by decide +kernel) (by decide +kernel)) (goodIn_sub (fun _ h => List.mem_append_right _ h) (by decide +kernel))
set_option maxRecDepth 20000 in
theorem gL_law_L_consent : GoodIn wsL_law (va_wsS RL 119 yL_consent wsL_consent) := goodIn_app (goodIn_of _ (by decide +kernel)) ggL_law_L_consent
set_option maxRecDepth 20000 in
theorem ggL_law_X6_consent : GoodIn wsL_law wsX6_consent := goodIn_r _ [198, 117, 64, 119, 199, 200, 143, 144, 145, 5, 146, 118, 121, 122, 123, 124, 125, 126, 127, 201, 202, 203, 63, 204, 874, 875, 908, 909, 910, 911, 912, 913, 914, 915, 916, 917, 918, 919, 920, 921] (by decide +kernel) (by decide +kernel)
set_option maxRecDepth 20000 in
theorem gL_law_X6_consent : GoodIn wsL_law (wsV RL 122 RX6 yX6_consent wsX6_consent) := goodIn_app (goodIn_of _ (by decide +kernel)) ggL_law_X6_consent
set_option maxRecDepth 20000 in
theorem ggL_law_L_measure : GoodIn wsL_law wsL_measure := goodIn_ca (goodIn_ca (goodIn_r _ [207, 131, 82, 208, 209, 210, 2, 211, 16, 212, 174, 171, 175, 213, 170, 172, 214, 215, 137, 106, 107, 15, 108, 103, 23, 109, 110, 111, 112, 138, 89, 90, 91, 92, 93, 216, 217, 218, 25, 219, 45, 220, 46, 221, 222, 872, 873, 887, 888, 889, 890, 891, 892, 893, 894, 876, 877, 878, 879, 880, 881, 882, 883, 884, 885, 886] (by decide +kernel) (by decide +kernel)) (goodIn_sub (fun _ h => List.mem_append_right _ h) (by decide +kernel))) (goodIn_sub (fun _ h => List.mem_append_left _ (List.mem_append_left _ (List.mem_append_right _ h))) (by decide +kernel))
set_option maxRecDepth 20000 in
theorem gL_law_L_measure : GoodIn wsL_law (va_wsS RL 123 yL_measure wsL_measure) := goodIn_app (goodIn_of _ (by decide +kernel)) ggL_law_L_measure
set_option maxRecDepth 20000 in
theorem ggL_law_X6_measure : GoodIn wsL_law wsX6_measure := goodIn_r _ [226, 117, 64, 227, 173, 174, 171, 175, 120, 169, 170, 172, 119, 143, 144, 145, 5, 146, 118, 121, 122, 123, 124, 125, 126, 127, 166, 167, 168, 874, 875, 908, 909, 910, 911, 912, 913, 914, 915, 916, 917, 918, 919, 920, 921] (by decide +kernel) (by decide +kernel)
set_option maxRecDepth 20000 in
theorem gL_law_X6_measure : GoodIn wsL_law (wsV RL 126 RX6 yX6_measure wsX6_measure) := goodIn_app (goodIn_of _ (by decide +kernel)) ggL_law_X6_measure
set_option maxRecDepth 20000 in
theorem ggL_law_L_pay : GoodIn wsL_law wsL_pay := goodIn_ca (goodIn_r _ [230, 131, 231, 232, 233, 2, 234, 16, 235, 236, 137, 106, 107, 15, 108, 103, 23, 109, 110, 111, 112, 872, 873, 887, 888, 889, 890, 891, 892, 893, 894, 876, 877, 878, 879, 880, 881, 882, 883, 884, 885, 886] (by decide +kernel) (by decide +kernel)) (goodIn_sub (fun _ h => List.mem_append_right _ h) (by decide +kernel))
set_option maxRecDepth 20000 in
theorem gL_law_L_pay : GoodIn wsL_law (va_wsS RL 127 yL_pay wsL_pay) := goodIn_app (goodIn_of _ (by decide +kernel)) ggL_law_L_pay
