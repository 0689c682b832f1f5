theorem goodIn_cons {big l : List Cond} {c : Cond} (h : GoodIn big [c]) (hl : GoodIn big l) : GoodIn big (c :: l) := fun w hw => (List.mem_cons.mp hw).elim (fun e => by rw [e]; exact h c List.mem_cons_self) (hl w)
theorem gqX4_digest_0 : GoodIn wsL_law [Cond.code yX4_digest cX4_digest 5 (some .long)] := goodIn_r _ [850] (by decide +kernel) (by decide +kernel)
set_option maxRecDepth 20000 in
theorem gqwsX4_digest_r1 : GoodIn wsL_law wsX4_digest_r1 := goodIn_r _ [851, 852, 16, 88, 249, 405, 853, 705, 706, 2, 707, 708, 236, 362, 709, 522, 89, 90, 91, 92, 93, 710, 711, 712] (by decide +kernel) (by decide +kernel)
set_option maxRecDepth 20000 in
theorem gqwsX4_digest_r2 : GoodIn wsL_law wsX4_digest_r2 := goodIn_r _ [15, 713, 188, 27, 714, 322, 323, 29, 324, 310, 53, 453, 454, 455, 456, 190, 715, 716, 717, 718, 103, 23, 719, 281] (by decide +kernel) (by decide +kernel)
set_option maxRecDepth 20000 in
theorem gqwsX4_digest_r3 : GoodIn wsL_law wsX4_digest_r3 := goodIn_r _ [282, 283, 284, 285, 691, 566, 567, 568, 569, 462, 463, 464, 51, 465, 466, 192, 193, 194, 467, 317, 318, 319, 315, 320] (by decide +kernel) (by decide +kernel)
set_option maxRecDepth 20000 in
theorem gqwsX4_digest_r4 : GoodIn wsL_law wsX4_digest_r4 := goodIn_r _ [52, 321, 325, 326, 327, 25, 328, 45, 46, 854, 855, 856, 857, 858, 636, 637, 638, 154, 136, 183, 235, 639, 137, 106] (by decide +kernel) (by decide +kernel)
set_option maxRecDepth 20000 in
theorem gqwsX4_digest_r5 : GoodIn wsL_law wsX4_digest_r5 := goodIn_r _ [107, 108, 109, 110, 111, 112, 640, 562, 563, 564, 457, 458, 459, 460, 189, 191, 859, 654, 655, 656, 214, 215, 138, 860] (by decide +kernel) (by decide +kernel)
set_option maxRecDepth 20000 in
theorem gqwsX4_digest_r6 : GoodIn wsL_law wsX4_digest_r6 := goodIn_r _ [751, 752, 753, 754, 755, 756, 757, 43, 44, 159, 160, 161, 549, 550, 551, 861, 665, 666, 667, 391, 668, 669, 278, 277] (by decide +kernel) (by decide +kernel)
set_option maxRecDepth 20000 in
theorem gqwsX4_digest_r7 : GoodIn wsL_law wsX4_digest_r7 := goodIn_r _ [670, 361, 279, 393, 671, 280, 256, 257, 258, 672, 673, 674, 675, 560, 316, 461, 862, 771, 772, 773, 774, 775, 776, 777] (by decide +kernel) (by decide +kernel)
set_option maxRecDepth 20000 in
theorem gqwsX4_digest_r8 : GoodIn wsL_law wsX4_digest_r8 := goodIn_r _ [379, 863, 790, 791, 792, 17, 493, 793, 794, 795, 796, 410, 539, 34, 35, 36, 540, 797, 254, 31, 411, 412, 798, 799] (by decide +kernel) (by decide +kernel)
set_option maxRecDepth 20000 in
theorem gqwsX4_digest_r9 : GoodIn wsL_law wsX4_digest_r9 := goodIn_r _ [800, 801, 802, 803, 222, 105, 804, 805, 806, 807, 590, 591, 578, 535, 536, 537, 538, 541, 542, 543, 544, 545, 546, 547] (by decide +kernel) (by decide +kernel)
set_option maxRecDepth 20000 in
theorem gqwsX4_digest_r10 : GoodIn wsL_law wsX4_digest_r10 := goodIn_r _ [548, 552, 553, 554, 555, 556, 557, 558, 559, 561, 565, 570, 571, 572, 573, 413, 414, 415, 416, 574, 575, 576, 577, 579] (by decide +kernel) (by decide +kernel)
set_option maxRecDepth 20000 in
theorem gqwsX4_digest_r11 : GoodIn wsL_law wsX4_digest_r11 := goodIn_r _ [580, 170, 171, 172, 581, 376, 377, 378, 582, 583, 584, 585, 586, 587, 588, 589, 864, 688, 689, 690, 435, 452, 436, 865] (by decide +kernel) (by decide +kernel)
set_option maxRecDepth 20000 in
theorem gqwsX4_digest_r12 : GoodIn wsL_law wsX4_digest_r12 := goodIn_r _ [828, 829, 830, 831, 832, 833, 834] (by decide +kernel) (by decide +kernel)
set_option maxRecDepth 20000 in
theorem ggL_law_X4_digest : GoodIn wsL_law wsX4_digest := goodIn_ca (goodIn_ca (goodIn_cons gqX4_digest_0 (goodIn_app (goodIn_app (goodIn_app (goodIn_app (goodIn_app (goodIn_app gqwsX4_digest_r1 (goodIn_app gqwsX4_digest_r2 (goodIn_app gqwsX4_digest_r3 (goodIn_app gqwsX4_digest_r4 (goodIn_app gqwsX4_digest_r5 (goodIn_app gqwsX4_digest_r6 (goodIn_app gqwsX4_digest_r7 (goodIn_app gqwsX4_digest_r8 (goodIn_app gqwsX4_digest_r9 (goodIn_app gqwsX4_digest_r10 (goodIn_app gqwsX4_digest_r11 gqwsX4_digest_r12))))))))))) (goodIn_sub inlX4 (by decide +kernel))) (goodIn_sub inlX1 (by decide +kernel))) (goodIn_sub inlX0 (by decide +kernel))) (goodIn_sub inlX2 (by decide +kernel))) (goodIn_sub inlX3 (by decide +kernel)))) (goodIn_sub (fun _ h => List.mem_append_left _ (List.mem_append_left _ (List.mem_append_right _ h))) (by decide +kernel))) (goodIn_sub (fun _ h => List.mem_append_right _ h) (by decide +kernel))
theorem gqX6_digest_0 : GoodIn wsL_law [Cond.code yX6_digest cX6_digest 5 (some .long)] := goodIn_r _ [869] (by decide +kernel) (by decide +kernel)
set_option maxRecDepth 20000 in
theorem gqwsX6_digest_r1 : GoodIn wsL_law wsX6_digest_r1 := goodIn_r _ [117, 870, 871, 64, 118, 227, 120, 199, 200, 421, 724, 725, 726, 5, 727, 119, 42, 728, 241, 367, 729, 527, 337, 338] (by decide +kernel) (by decide +kernel)
set_option maxRecDepth 20000 in
theorem gqwsX6_digest_r2 : GoodIn wsL_law wsX6_digest_r2 := goodIn_r _ [339, 63, 340, 730, 731, 732, 733, 121, 122, 123, 294, 295, 296, 297, 298, 72, 700, 619, 620, 621, 622, 482, 483, 484] (by decide +kernel) (by decide +kernel)
set_option maxRecDepth 20000 in
theorem gqwsX6_digest_r3 : GoodIn wsL_law wsX6_digest_r3 := goodIn_r _ [69, 480, 202, 203, 204, 485, 342, 343, 344, 345, 346, 171, 347, 348, 174, 175, 349, 350, 351, 352, 353, 70, 71, 645] (by decide +kernel) (by decide +kernel)
set_option maxRecDepth 20000 in
theorem gqwsX6_digest_r4 : GoodIn wsL_law wsX6_digest_r4 := goodIn_r _ [646, 647, 648, 649, 615, 616, 617, 476, 477, 478, 479, 762, 763, 764, 765, 263, 264, 265, 266, 766, 604, 605, 167, 168] (by decide +kernel) (by decide +kernel)
set_option maxRecDepth 20000 in
theorem gqwsX6_digest_r5 : GoodIn wsL_law wsX6_digest_r5 := goodIn_r _ [169, 170, 172, 173, 606, 607, 608, 609, 680, 681, 682, 683, 341, 481, 782, 783, 784, 785, 267, 268, 269, 812, 813, 814] (by decide +kernel) (by decide +kernel)
set_option maxRecDepth 20000 in
theorem gqwsX6_digest_r6 : GoodIn wsL_law wsX6_digest_r6 := goodIn_r _ [815, 816, 817, 818, 819, 820, 62, 73, 821, 74, 601, 822, 600, 602, 75, 76, 77, 823, 65, 66, 67, 11, 12, 68] (by decide +kernel) (by decide +kernel)
set_option maxRecDepth 20000 in
theorem gqwsX6_digest_r7 : GoodIn wsL_law wsX6_digest_r7 := goodIn_r _ [824, 825, 826, 596, 597, 598, 599, 603, 610, 611, 612, 613, 614, 618, 623, 624, 625, 626, 627, 628, 629, 630, 631, 696] (by decide +kernel) (by decide +kernel)
set_option maxRecDepth 20000 in
theorem gqwsX6_digest_r8 : GoodIn wsL_law wsX6_digest_r8 := goodIn_r _ [697, 698, 699, 422, 423, 472, 473, 474, 475, 839, 840, 841, 842, 843, 844, 845, 846] (by decide +kernel) (by decide +kernel)
set_option maxRecDepth 20000 in
theorem ggL_law_X6_digest : GoodIn wsL_law wsX6_digest := (goodIn_cons gqX6_digest_0 (goodIn_app (goodIn_app (goodIn_app gqwsX6_digest_r1 (goodIn_app gqwsX6_digest_r2 (goodIn_app gqwsX6_digest_r3 (goodIn_app gqwsX6_digest_r4 (goodIn_app gqwsX6_digest_r5 (goodIn_app gqwsX6_digest_r6 (goodIn_app gqwsX6_digest_r7 gqwsX6_digest_r8))))))) (goodIn_sub inlX6 (by decide +kernel))) (goodIn_sub inlX5 (by decide +kernel))))
set_option maxRecDepth 20000 in
theorem gL_law_X4_digest : GoodIn wsL_law (wsV RL 208 RX4 yX4_digest wsX4_digest) := goodIn_app (goodIn_of _ (by decide +kernel)) ggL_law_X4_digest
set_option maxRecDepth 20000 in
theorem gL_law_X6_digest : GoodIn wsL_law (wsV RL 212 RX6 yX6_digest wsX6_digest) := goodIn_app (goodIn_of _ (by decide +kernel)) ggL_law_X6_digest
