theorem lw_mem {big ws : List Cond} (ps : List Nat) (hp : ws = ps.filterMap (fun i => big[i]?)) : ∀ w ∈ ws, w ∈ big := by
  intro w hw
  rw [hp] at hw
  obtain ⟨i, -, hi⟩ := List.mem_filterMap.mp hw
  first | exact List.mem_of_getElem? hi | exact List.getElem?_mem hi
set_option maxRecDepth 100000 in
theorem wsL_law0_r1_in : ∀ w ∈ wsL_law0_r1, w ∈ lw_tbl := fun w h => List.mem_append_right _ (lw_mem (big := tables_1) [346, 347, 1, 531, 534, 739, 348, 349, 350, 351, 52, 53, 352, 333, 2, 530, 528, 535, 536, 537, 538, 539, 540, 541] (by decide +kernel) w h)
set_option maxRecDepth 100000 in
theorem wsL_law0_r2_in : ∀ w ∈ wsL_law0_r2, w ∈ lw_tbl := fun w h => List.mem_append_right _ (lw_mem (big := tables_1) [543, 544, 545, 532, 533, 353, 354, 355, 356, 357, 358, 3, 521, 522, 359, 360, 361, 362, 363, 479, 365, 4, 409, 480] (by decide +kernel) w h)
set_option maxRecDepth 100000 in
theorem wsL_law0_r3_in : ∀ w ∈ wsL_law0_r3, w ∈ lw_tbl := fun w h => List.mem_append_right _ (lw_mem (big := tables_1) [411, 5, 463, 481, 465, 6, 490, 492, 494, 366, 367, 368, 369, 370, 408, 373, 377, 379, 381, 412, 413, 414, 415, 416] (by decide +kernel) w h)
set_option maxRecDepth 100000 in
theorem wsL_law0_r4_in : ∀ w ∈ wsL_law0_r4, w ∈ lw_tbl := fun w h => List.mem_append_right _ (lw_mem (big := tables_1) [419, 432, 467, 468, 469, 590, 591, 0, 592, 593, 594, 595, 596, 597, 579, 580, 581, 583, 584, 585, 587, 588, 589, 598] (by decide +kernel) w h)
set_option maxRecDepth 100000 in
theorem wsL_law0_r5_in : ∀ w ∈ wsL_law0_r5, w ∈ lw_tbl := fun w h => List.mem_append_right _ (lw_mem (big := tables_1) [599, 600, 601, 602, 603, 604, 605, 607, 606, 7, 608, 609, 610, 611, 483, 96, 97, 98, 99, 11, 119, 120, 121, 122] (by decide +kernel) w h)
set_option maxRecDepth 100000 in
theorem wsL_law0_r6_in : ∀ w ∈ wsL_law0_r6, w ∈ lw_tbl := fun w h => List.mem_append_right _ (lw_mem (big := tables_1) [12, 612, 613, 614, 615, 482, 374, 310, 250, 251, 252, 24, 25, 26, 13, 616, 617, 618, 619, 620, 621, 622, 623, 384] (by decide +kernel) w h)
set_option maxRecDepth 100000 in
theorem wsL_law0_r7_in : ∀ w ∈ wsL_law0_r7, w ∈ lw_tbl := fun w h => List.mem_append_right _ (lw_mem (big := tables_1) [249, 624, 625, 626, 627, 484, 417, 433, 170, 171, 172, 173, 628, 629, 630, 631, 632, 633, 14, 634, 635, 231, 232, 636] (by decide +kernel) w h)
set_option maxRecDepth 100000 in
theorem wsL_law0_r8_in : ∀ w ∈ wsL_law0_r8, w ∈ lw_tbl := fun w h => List.mem_append_right _ (lw_mem (big := tables_1) [637, 638, 639, 640, 641, 642, 643, 644, 382, 380, 284, 645, 646, 647, 648, 649, 650, 389, 651, 652, 653, 654, 655, 656] (by decide +kernel) w h)
set_option maxRecDepth 100000 in
theorem wsL_law0_r9_in : ∀ w ∈ wsL_law0_r9, w ∈ lw_tbl := fun w h => List.mem_append_right _ (lw_mem (big := tables_1) [657, 658, 487, 659, 660, 661, 662, 486, 470, 472, 225, 143, 144, 145, 663, 664, 665, 666, 667, 668, 669, 670, 378, 671] (by decide +kernel) w h)
set_option maxRecDepth 100000 in
theorem wsL_law0_r10_in : ∀ w ∈ wsL_law0_r10, w ∈ lw_tbl := fun w h => List.mem_append_right _ (lw_mem (big := tables_1) [672, 673, 674, 675, 676, 677, 678, 679, 680, 681, 682, 485, 683, 684, 685, 686, 420, 687, 20, 21, 22, 688, 689, 690] (by decide +kernel) w h)
set_option maxRecDepth 100000 in
theorem wsL_law0_r11_in : ∀ w ∈ wsL_law0_r11, w ∈ lw_tbl := fun w h => List.mem_append_right _ (lw_mem (big := tables_1) [691, 692, 16, 17, 18, 426, 423, 434, 19, 115, 116, 117, 118, 427, 693, 694, 695, 696, 697, 698, 699, 700, 701, 702] (by decide +kernel) w h)
set_option maxRecDepth 100000 in
theorem wsL_law0_r12_in : ∀ w ∈ wsL_law0_r12, w ∈ lw_tbl := fun w h => List.mem_append_right _ (lw_mem (big := tables_1) [703, 704, 542, 546, 705, 706, 707, 708, 709, 710, 711, 712, 713, 714, 715, 716, 717, 718, 719, 720, 721, 722, 723, 724] (by decide +kernel) w h)
set_option maxRecDepth 100000 in
theorem wsL_law0_r13_in : ∀ w ∈ wsL_law0_r13, w ∈ lw_tbl := fun w h => List.mem_append_right _ (lw_mem (big := tables_1) [725, 726, 731, 732, 733, 727, 728, 729, 730, 734, 181, 182, 183, 184, 185, 186, 187, 488, 496, 188, 189, 190, 191, 192] (by decide +kernel) w h)
set_option maxRecDepth 100000 in
theorem wsL_law0_r14_in : ∀ w ∈ wsL_law0_r14, w ∈ lw_tbl := fun w h => List.mem_append_right _ (lw_mem (big := tables_1) [193, 194, 195, 196, 197, 198, 199, 200, 201, 202, 203, 204, 205, 206, 207, 208, 209, 422, 424, 425, 428, 212, 213, 214] (by decide +kernel) w h)
set_option maxRecDepth 100000 in
theorem wsL_law0_r15_in : ∀ w ∈ wsL_law0_r15, w ∈ lw_tbl := fun w h => List.mem_append_right _ (lw_mem (big := tables_1) [215, 216, 217, 218, 219, 220, 175, 176, 177, 375, 178, 179, 151, 152, 153, 430, 154, 155, 156, 157, 158, 159, 160, 161] (by decide +kernel) w h)
set_option maxRecDepth 100000 in
theorem wsL_law0_r16_in : ∀ w ∈ wsL_law0_r16, w ∈ lw_tbl := fun w h => List.mem_append_right _ (lw_mem (big := tables_1) [221, 222, 223, 224, 226, 227, 228, 229, 438, 386, 230, 233, 234, 235, 236, 237, 238, 239, 240, 241, 242, 243, 244, 435] (by decide +kernel) w h)
set_option maxRecDepth 100000 in
theorem wsL_law0_r17_in : ∀ w ∈ wsL_law0_r17, w ∈ lw_tbl := fun w h => List.mem_append_right _ (lw_mem (big := tables_1) [436, 578, 735, 323, 324, 325, 326, 327, 328, 329, 268, 269, 270, 489, 491, 493, 497, 495, 271, 272, 273, 274, 275, 162] (by decide +kernel) w h)
set_option maxRecDepth 100000 in
theorem wsL_law0_r18_in : ∀ w ∈ wsL_law0_r18, w ∈ lw_tbl := lw_mem [165, 166, 167, 278, 279, 280, 281, 389, 268, 332, 334, 1, 336, 337, 248, 249, 250, 378, 390, 392, 255, 168, 169, 170] (by decide +kernel)
set_option maxRecDepth 100000 in
theorem wsL_law0_r19_in : ∀ w ∈ wsL_law0_r19, w ∈ lw_tbl := fun w h => List.mem_append_right _ (lw_mem (big := tables_1) [169, 336, 337, 338, 339, 340, 281, 282, 283, 285, 286, 287, 288, 341, 255, 256, 257, 418, 372, 421, 429, 431, 437, 439] (by decide +kernel) w h)
set_option maxRecDepth 100000 in
theorem wsL_law0_r20_in : ∀ w ∈ wsL_law0_r20, w ∈ lw_tbl := fun w h => List.mem_append_right _ (lw_mem (big := tables_1) [258, 259, 260, 261, 150, 174, 342, 290, 291, 292, 293, 294, 295, 296, 343, 298, 299, 300, 301, 302, 303, 304, 305, 371] (by decide +kernel) w h)
set_option maxRecDepth 100000 in
theorem wsL_law0_r21_in : ∀ w ∈ wsL_law0_r21, w ∈ lw_tbl := fun w h => List.mem_append_right _ (lw_mem (big := tables_1) [306, 307, 308, 309, 383, 385, 311, 312, 313, 314, 344, 263, 264, 265, 471, 473, 142, 345, 316, 317, 318, 319, 320, 321] (by decide +kernel) w h)
set_option maxRecDepth 100000 in
theorem wsL_law0_r22_in : ∀ w ∈ wsL_law0_r22, w ∈ lw_tbl := fun w h => List.mem_append_right _ (lw_mem (big := tables_1) [322, 254, 245, 262, 138, 139, 140, 141, 146, 147, 148, 149, 15, 297, 289, 315, 267, 280, 736, 737, 738, 180] (by decide +kernel) w h)
