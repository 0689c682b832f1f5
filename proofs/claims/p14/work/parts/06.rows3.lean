theorem dX6_tour_99 : decode cX6_tour 99 = .ok (.iload_n 2, 1) := by decide +kernel
theorem dX6_tour_100 : decode cX6_tour 100 = .ok (.iastore, 1) := by decide +kernel
theorem dX6_tour_101 : decode cX6_tour 101 = .ok (.aload 4, 2) := by decide +kernel
theorem dX6_tour_103 : decode cX6_tour 103 = .ok (.bipush 8, 2) := by decide +kernel
theorem dX6_tour_105 : decode cX6_tour 105 = .ok (.iload_n 3, 1) := by decide +kernel
theorem dX6_tour_106 : decode cX6_tour 106 = .ok (.iastore, 1) := by decide +kernel
theorem dX6_tour_107 : decode cX6_tour 107 = .ok (.aload_n 0, 1) := by decide +kernel
theorem dX6_tour_108 : decode cX6_tour 108 = .ok (.getfield 10, 3) := by decide +kernel
theorem dX6_tour_111 : decode cX6_tour 111 = .ok (.aload 4, 2) := by decide +kernel
theorem dX6_tour_113 : decode cX6_tour 113 = .ok (.invokevirtual 95, 3) := by decide +kernel
theorem dX6_tour_116 : decode cX6_tour 116 = .ok (.ireturn, 1) := by decide +kernel
set_option maxRecDepth 20000 in
theorem ggX6_room_X6_in : GoodIn wsX6_room wsX6_in := goodIn_r _ [9] (by decide +kernel) (by decide +kernel)
set_option maxRecDepth 20000 in
theorem gX6_room_X6_in : GoodIn wsX6_room (va_wsS RX6 32 yX6_in wsX6_in) := goodIn_app (goodIn_of _ (by decide +kernel)) ggX6_room_X6_in
set_option maxRecDepth 20000 in
theorem ggX6_room_X6_no : GoodIn wsX6_room wsX6_no := goodIn_r _ [13, 1, 14, 15] (by decide +kernel) (by decide +kernel)
set_option maxRecDepth 20000 in
theorem gX6_room_X6_no : GoodIn wsX6_room (wsV RX6 42 RX6 yX6_no wsX6_no) := goodIn_app (goodIn_of _ (by decide +kernel)) ggX6_room_X6_no
theorem dX6_room_0 : decode cX6_room 0 = .ok (.aload_n 0, 1) := by decide +kernel
theorem dX6_room_1 : decode cX6_room 1 = .ok (.iconst 0, 1) := by decide +kernel
theorem dX6_room_2 : decode cX6_room 2 = .ok (.putfield 16, 3) := by decide +kernel
theorem dX6_room_5 : decode cX6_room 5 = .ok (.iload_n 1, 1) := by decide +kernel
theorem dX6_room_6 : decode cX6_room 6 = .ok (.iconst 0, 1) := by decide +kernel
theorem dX6_room_7 : decode cX6_room 7 = .ok (.bipush 9, 2) := by decide +kernel
theorem dX6_room_9 : decode cX6_room 9 = .ok (.invokestatic 32, 3) := by decide +kernel
theorem dX6_room_12 : decode cX6_room 12 = .ok (.ifCond .eq 12, 3) := by decide +kernel
theorem dX6_room_15 : decode cX6_room 15 = .ok (.iload_n 2, 1) := by decide +kernel
theorem dX6_room_16 : decode cX6_room 16 = .ok (.iconst 1, 1) := by decide +kernel
theorem dX6_room_17 : decode cX6_room 17 = .ok (.iconst 4, 1) := by decide +kernel
theorem dX6_room_18 : decode cX6_room 18 = .ok (.invokestatic 32, 3) := by decide +kernel
theorem dX6_room_21 : decode cX6_room 21 = .ok (.ifCond .ne 9, 3) := by decide +kernel
theorem dX6_room_24 : decode cX6_room 24 = .ok (.aload_n 0, 1) := by decide +kernel
theorem dX6_room_25 : decode cX6_room 25 = .ok (.iconst 1, 1) := by decide +kernel
theorem dX6_room_26 : decode cX6_room 26 = .ok (.invokevirtual 42, 3) := by decide +kernel
theorem dX6_room_29 : decode cX6_room 29 = .ok (.ireturn, 1) := by decide +kernel
theorem dX6_room_30 : decode cX6_room 30 = .ok (.aload_n 0, 1) := by decide +kernel
theorem dX6_room_31 : decode cX6_room 31 = .ok (.getfield 10, 3) := by decide +kernel
theorem dX6_room_34 : decode cX6_room 34 = .ok (.getfield 39, 3) := by decide +kernel
theorem dX6_room_37 : decode cX6_room 37 = .ok (.iconst 5, 1) := by decide +kernel
theorem dX6_room_38 : decode cX6_room 38 = .ok (.if_icmp .ne 9, 3) := by decide +kernel
theorem dX6_room_41 : decode cX6_room 41 = .ok (.aload_n 0, 1) := by decide +kernel
theorem dX6_room_42 : decode cX6_room 42 = .ok (.iconst 2, 1) := by decide +kernel
theorem dX6_room_43 : decode cX6_room 43 = .ok (.invokevirtual 42, 3) := by decide +kernel
theorem dX6_room_46 : decode cX6_room 46 = .ok (.ireturn, 1) := by decide +kernel
theorem dX6_room_47 : decode cX6_room 47 = .ok (.aload_n 0, 1) := by decide +kernel
theorem dX6_room_48 : decode cX6_room 48 = .ok (.getfield 10, 3) := by decide +kernel
theorem dX6_room_51 : decode cX6_room 51 = .ok (.getfield 102, 3) := by decide +kernel
theorem dX6_room_54 : decode cX6_room 54 = .ok (.aload_n 0, 1) := by decide +kernel
theorem dX6_room_55 : decode cX6_room 55 = .ok (.getfield 10, 3) := by decide +kernel
theorem dX6_room_58 : decode cX6_room 58 = .ok (.getfield 39, 3) := by decide +kernel
theorem dX6_room_61 : decode cX6_room 61 = .ok (.iload_n 1, 1) := by decide +kernel
theorem dX6_room_62 : decode cX6_room 62 = .ok (.iastore, 1) := by decide +kernel
theorem dX6_room_63 : decode cX6_room 63 = .ok (.aload_n 0, 1) := by decide +kernel
theorem dX6_room_64 : decode cX6_room 64 = .ok (.getfield 10, 3) := by decide +kernel
theorem dX6_room_67 : decode cX6_room 67 = .ok (.getfield 106, 3) := by decide +kernel
theorem dX6_room_70 : decode cX6_room 70 = .ok (.aload_n 0, 1) := by decide +kernel
theorem dX6_room_71 : decode cX6_room 71 = .ok (.getfield 10, 3) := by decide +kernel
theorem dX6_room_74 : decode cX6_room 74 = .ok (.getfield 39, 3) := by decide +kernel
theorem dX6_room_77 : decode cX6_room 77 = .ok (.iload_n 2, 1) := by decide +kernel
theorem dX6_room_78 : decode cX6_room 78 = .ok (.iastore, 1) := by decide +kernel
theorem dX6_room_79 : decode cX6_room 79 = .ok (.aload_n 0, 1) := by decide +kernel
theorem dX6_room_80 : decode cX6_room 80 = .ok (.getfield 10, 3) := by decide +kernel
theorem dX6_room_83 : decode cX6_room 83 = .ok (.dup, 1) := by decide +kernel
theorem dX6_room_84 : decode cX6_room 84 = .ok (.getfield 39, 3) := by decide +kernel
theorem dX6_room_87 : decode cX6_room 87 = .ok (.dup_x1, 1) := by decide +kernel
theorem dX6_room_88 : decode cX6_room 88 = .ok (.iconst 1, 1) := by decide +kernel
theorem dX6_room_89 : decode cX6_room 89 = .ok (.iadd, 1) := by decide +kernel
theorem dX6_room_90 : decode cX6_room 90 = .ok (.putfield 39, 3) := by decide +kernel
theorem dX6_room_93 : decode cX6_room 93 = .ok (.ireturn, 1) := by decide +kernel
set_option maxRecDepth 20000 in
theorem ggX6_lamps_X6_isRoom : GoodIn wsX6_lamps wsX6_isRoom := goodIn_r _ [8, 2, 9, 10, 11, 7, 12, 17, 18, 19, 20, 21, 22, 23, 24, 25, 26, 27, 28, 29, 30, 31, 32] (by decide +kernel) (by decide +kernel)
set_option maxRecDepth 20000 in
theorem gX6_lamps_X6_isRoom : GoodIn wsX6_lamps (wsV RX6 109 RX6 yX6_isRoom wsX6_isRoom) := goodIn_app (goodIn_of _ (by decide +kernel)) ggX6_lamps_X6_isRoom
set_option maxRecDepth 20000 in
theorem ggX6_lamps_X6_no : GoodIn wsX6_lamps wsX6_no := goodIn_r _ [16, 1, 17, 18] (by decide +kernel) (by decide +kernel)
set_option maxRecDepth 20000 in
theorem gX6_lamps_X6_no : GoodIn wsX6_lamps (wsV RX6 42 RX6 yX6_no wsX6_no) := goodIn_app (goodIn_of _ (by decide +kernel)) ggX6_lamps_X6_no
set_option maxRecDepth 20000 in
theorem ggX6_lamps_X6_in : GoodIn wsX6_lamps wsX6_in := goodIn_r _ [12] (by decide +kernel) (by decide +kernel)
set_option maxRecDepth 20000 in
theorem gX6_lamps_X6_in : GoodIn wsX6_lamps (va_wsS RX6 32 yX6_in wsX6_in) := goodIn_app (goodIn_of _ (by decide +kernel)) ggX6_lamps_X6_in
theorem dX6_lamps_0 : decode cX6_lamps 0 = .ok (.aload_n 0, 1) := by decide +kernel
theorem dX6_lamps_1 : decode cX6_lamps 1 = .ok (.iconst 0, 1) := by decide +kernel
theorem dX6_lamps_2 : decode cX6_lamps 2 = .ok (.putfield 16, 3) := by decide +kernel
theorem dX6_lamps_5 : decode cX6_lamps 5 = .ok (.aload_n 0, 1) := by decide +kernel
theorem dX6_lamps_6 : decode cX6_lamps 6 = .ok (.iload_n 1, 1) := by decide +kernel
theorem dX6_lamps_7 : decode cX6_lamps 7 = .ok (.invokevirtual 109, 3) := by decide +kernel
theorem dX6_lamps_10 : decode cX6_lamps 10 = .ok (.ifCond .ne 9, 3) := by decide +kernel
theorem dX6_lamps_13 : decode cX6_lamps 13 = .ok (.aload_n 0, 1) := by decide +kernel
theorem dX6_lamps_14 : decode cX6_lamps 14 = .ok (.iconst 1, 1) := by decide +kernel
theorem dX6_lamps_15 : decode cX6_lamps 15 = .ok (.invokevirtual 42, 3) := by decide +kernel
theorem dX6_lamps_18 : decode cX6_lamps 18 = .ok (.ireturn, 1) := by decide +kernel
theorem dX6_lamps_19 : decode cX6_lamps 19 = .ok (.iload_n 2, 1) := by decide +kernel
theorem dX6_lamps_20 : decode cX6_lamps 20 = .ok (.iconst 0, 1) := by decide +kernel
theorem dX6_lamps_21 : decode cX6_lamps 21 = .ok (.bipush 9, 2) := by decide +kernel
theorem dX6_lamps_23 : decode cX6_lamps 23 = .ok (.invokestatic 32, 3) := by decide +kernel
theorem dX6_lamps_26 : decode cX6_lamps 26 = .ok (.ifCond .ne 9, 3) := by decide +kernel
theorem dX6_lamps_29 : decode cX6_lamps 29 = .ok (.aload_n 0, 1) := by decide +kernel
theorem dX6_lamps_30 : decode cX6_lamps 30 = .ok (.iconst 2, 1) := by decide +kernel
theorem dX6_lamps_31 : decode cX6_lamps 31 = .ok (.invokevirtual 42, 3) := by decide +kernel
theorem dX6_lamps_34 : decode cX6_lamps 34 = .ok (.ireturn, 1) := by decide +kernel
theorem dX6_lamps_35 : decode cX6_lamps 35 = .ok (.aload_n 0, 1) := by decide +kernel
theorem dX6_lamps_36 : decode cX6_lamps 36 = .ok (.getfield 10, 3) := by decide +kernel
theorem dX6_lamps_39 : decode cX6_lamps 39 = .ok (.getfield 102, 3) := by decide +kernel
theorem dX6_lamps_42 : decode cX6_lamps 42 = .ok (.iload_n 1, 1) := by decide +kernel
theorem dX6_lamps_43 : decode cX6_lamps 43 = .ok (.iaload, 1) := by decide +kernel
theorem dX6_lamps_44 : decode cX6_lamps 44 = .ok (.istore_n 3, 1) := by decide +kernel
theorem dX6_lamps_45 : decode cX6_lamps 45 = .ok (.aload_n 0, 1) := by decide +kernel
theorem dX6_lamps_46 : decode cX6_lamps 46 = .ok (.getfield 10, 3) := by decide +kernel
theorem dX6_lamps_49 : decode cX6_lamps 49 = .ok (.getfield 102, 3) := by decide +kernel
theorem dX6_lamps_52 : decode cX6_lamps 52 = .ok (.iload_n 1, 1) := by decide +kernel
theorem dX6_lamps_53 : decode cX6_lamps 53 = .ok (.iload_n 2, 1) := by decide +kernel
theorem dX6_lamps_54 : decode cX6_lamps 54 = .ok (.iastore, 1) := by decide +kernel
theorem dX6_lamps_55 : decode cX6_lamps 55 = .ok (.iload_n 3, 1) := by decide +kernel
theorem dX6_lamps_56 : decode cX6_lamps 56 = .ok (.ireturn, 1) := by decide +kernel
set_option maxRecDepth 20000 in
theorem ggX6_show_X6_isFigure : GoodIn wsX6_show wsX6_isFigure := goodIn_r _ [10, 2, 11, 12, 13, 9, 14, 71, 72, 73, 74, 75, 76, 77, 78, 79, 80, 81, 82, 83, 84, 85, 86] (by decide +kernel) (by decide +kernel)
set_option maxRecDepth 20000 in
theorem gX6_show_X6_isFigure : GoodIn wsX6_show (wsV RX6 82 RX6 yX6_isFigure wsX6_isFigure) := goodIn_app (goodIn_of _ (by decide +kernel)) ggX6_show_X6_isFigure
set_option maxRecDepth 20000 in
theorem ggX6_show_X6_isRoom : GoodIn wsX6_show wsX6_isRoom := goodIn_r _ [18, 2, 19, 12, 13, 9, 14, 71, 72, 73, 74, 75, 76, 77, 78, 79, 80, 81, 82, 83, 84, 85, 86] (by decide +kernel) (by decide +kernel)
set_option maxRecDepth 20000 in
theorem gX6_show_X6_isRoom : GoodIn wsX6_show (wsV RX6 109 RX6 yX6_isRoom wsX6_isRoom) := goodIn_app (goodIn_of _ (by decide +kernel)) ggX6_show_X6_isRoom
set_option maxRecDepth 20000 in
theorem ggX6_show_X6_no : GoodIn wsX6_show wsX6_no := goodIn_r _ [23, 1, 71, 72] (by decide +kernel) (by decide +kernel)
set_option maxRecDepth 20000 in
theorem gX6_show_X6_no : GoodIn wsX6_show (wsV RX6 42 RX6 yX6_no wsX6_no) := goodIn_app (goodIn_of _ (by decide +kernel)) ggX6_show_X6_no
set_option maxRecDepth 20000 in
theorem ggX6_show_X6_isAtHand : GoodIn wsX6_show wsX6_isAtHand := goodIn_r _ [27, 2, 28, 29, 30, 31, 32, 71, 72] (by decide +kernel) (by decide +kernel)
set_option maxRecDepth 20000 in
theorem gX6_show_X6_isAtHand : GoodIn wsX6_show (wsV RX6 92 RX6 yX6_isAtHand wsX6_isAtHand) := goodIn_app (goodIn_of _ (by decide +kernel)) ggX6_show_X6_isAtHand
set_option maxRecDepth 20000 in
theorem ggX6_show_X5_likeness : GoodIn wsX6_show wsX5_likeness := goodIn_r _ [36, 37, 38, 39, 40, 41, 42, 43, 44, 29, 30, 31, 32, 45, 46, 47, 48, 49, 50, 73, 74, 75, 76, 77, 78, 79, 80, 81, 82, 83, 84, 85, 86] (by decide +kernel) (by decide +kernel)
set_option maxRecDepth 20000 in
theorem gX6_show_X5_likeness : GoodIn wsX6_show (wsV RX6 95 RX5 yX5_likeness wsX5_likeness) := goodIn_app (goodIn_of _ (by decide +kernel)) ggX6_show_X5_likeness
set_option maxRecDepth 20000 in
theorem ggX6_show_X5_shownIn : GoodIn wsX6_show wsX5_shownIn := goodIn_r _ [54, 55, 56, 73, 74, 75, 76, 77, 78, 79, 80, 81, 82, 83, 84, 85, 86] (by decide +kernel) (by decide +kernel)
set_option maxRecDepth 20000 in
theorem gX6_show_X5_shownIn : GoodIn wsX6_show (wsV RX6 112 RX5 yX5_shownIn wsX5_shownIn) := goodIn_app (goodIn_of _ (by decide +kernel)) ggX6_show_X5_shownIn
set_option maxRecDepth 20000 in
theorem ggX6_show_X5_shownOf : GoodIn wsX6_show wsX5_shownOf := goodIn_r _ [60, 55, 56, 61, 62, 63, 31, 64, 73, 74, 75, 76, 77, 78, 79, 80, 81, 82, 83, 84, 85, 86] (by decide +kernel) (by decide +kernel)
set_option maxRecDepth 20000 in
theorem gX6_show_X5_shownOf : GoodIn wsX6_show (wsV RX6 115 RX5 yX5_shownOf wsX5_shownOf) := goodIn_app (goodIn_of _ (by decide +kernel)) ggX6_show_X5_shownOf
set_option maxRecDepth 20000 in
theorem ggX6_show_X5_draw : GoodIn wsX6_show wsX5_draw := goodIn_r _ [68, 69, 61, 62, 63, 31, 64, 70, 34, 35, 36, 37, 38, 39, 40, 41, 42, 43, 44, 29, 30, 32, 45, 46, 47, 48, 49, 50, 73, 74, 75, 76, 77, 78, 79, 80, 81, 82, 83, 84, 85, 86] (by decide +kernel) (by decide +kernel)
set_option maxRecDepth 20000 in
theorem gX6_show_X5_draw : GoodIn wsX6_show (wsV RX6 118 RX5 yX5_draw wsX5_draw) := goodIn_app (goodIn_of _ (by decide +kernel)) ggX6_show_X5_draw
theorem dX6_show_0 : decode cX6_show 0 = .ok (.aload_n 0, 1) := by decide +kernel
theorem dX6_show_1 : decode cX6_show 1 = .ok (.iconst 0, 1) := by decide +kernel
theorem dX6_show_2 : decode cX6_show 2 = .ok (.putfield 16, 3) := by decide +kernel
theorem dX6_show_5 : decode cX6_show 5 = .ok (.aload_n 0, 1) := by decide +kernel
theorem dX6_show_6 : decode cX6_show 6 = .ok (.iload_n 1, 1) := by decide +kernel
theorem dX6_show_7 : decode cX6_show 7 = .ok (.invokevirtual 82, 3) := by decide +kernel
theorem dX6_show_10 : decode cX6_show 10 = .ok (.ifCond .eq 11, 3) := by decide +kernel
theorem dX6_show_13 : decode cX6_show 13 = .ok (.aload_n 0, 1) := by decide +kernel
theorem dX6_show_14 : decode cX6_show 14 = .ok (.iload_n 2, 1) := by decide +kernel
theorem dX6_show_15 : decode cX6_show 15 = .ok (.invokevirtual 109, 3) := by decide +kernel
theorem dX6_show_18 : decode cX6_show 18 = .ok (.ifCond .ne 9, 3) := by decide +kernel
theorem dX6_show_21 : decode cX6_show 21 = .ok (.aload_n 0, 1) := by decide +kernel
theorem dX6_show_22 : decode cX6_show 22 = .ok (.iconst 1, 1) := by decide +kernel
theorem dX6_show_23 : decode cX6_show 23 = .ok (.invokevirtual 42, 3) := by decide +kernel
theorem dX6_show_26 : decode cX6_show 26 = .ok (.ireturn, 1) := by decide +kernel
theorem dX6_show_27 : decode cX6_show 27 = .ok (.aload_n 0, 1) := by decide +kernel
theorem dX6_show_28 : decode cX6_show 28 = .ok (.getfield 10, 3) := by decide +kernel
theorem dX6_show_31 : decode cX6_show 31 = .ok (.getfield 60, 3) := by decide +kernel
theorem dX6_show_34 : decode cX6_show 34 = .ok (.iload_n 1, 1) := by decide +kernel
theorem dX6_show_35 : decode cX6_show 35 = .ok (.aaload, 1) := by decide +kernel
theorem dX6_show_36 : decode cX6_show 36 = .ok (.astore_n 3, 1) := by decide +kernel
theorem dX6_show_37 : decode cX6_show 37 = .ok (.aload_n 0, 1) := by decide +kernel
theorem dX6_show_38 : decode cX6_show 38 = .ok (.aload_n 3, 1) := by decide +kernel
theorem dX6_show_39 : decode cX6_show 39 = .ok (.invokevirtual 92, 3) := by decide +kernel
theorem dX6_show_42 : decode cX6_show 42 = .ok (.ifCond .eq 38, 3) := by decide +kernel
theorem dX6_show_45 : decode cX6_show 45 = .ok (.aload_n 0, 1) := by decide +kernel
theorem dX6_show_46 : decode cX6_show 46 = .ok (.getfield 10, 3) := by decide +kernel
theorem dX6_show_49 : decode cX6_show 49 = .ok (.getfield 46, 3) := by decide +kernel
theorem dX6_show_52 : decode cX6_show 52 = .ok (.aload_n 3, 1) := by decide +kernel
theorem dX6_show_53 : decode cX6_show 53 = .ok (.iconst 0, 1) := by decide +kernel
theorem dX6_show_54 : decode cX6_show 54 = .ok (.iaload, 1) := by decide +kernel
theorem dX6_show_55 : decode cX6_show 55 = .ok (.aaload, 1) := by decide +kernel
theorem dX6_show_56 : decode cX6_show 56 = .ok (.bipush 6, 2) := by decide +kernel
theorem dX6_show_58 : decode cX6_show 58 = .ok (.iaload, 1) := by decide +kernel
theorem dX6_show_59 : decode cX6_show 59 = .ok (.iconst 1, 1) := by decide +kernel
theorem dX6_show_60 : decode cX6_show 60 = .ok (.if_icmp .ne 20, 3) := by decide +kernel
theorem dX6_show_63 : decode cX6_show 63 = .ok (.aload_n 0, 1) := by decide +kernel
theorem dX6_show_64 : decode cX6_show 64 = .ok (.getfield 10, 3) := by decide +kernel
theorem dX6_show_67 : decode cX6_show 67 = .ok (.aload_n 3, 1) := by decide +kernel
theorem dX6_show_68 : decode cX6_show 68 = .ok (.invokevirtual 95, 3) := by decide +kernel
theorem dX6_show_71 : decode cX6_show 71 = .ok (.bipush 30, 2) := by decide +kernel
theorem dX6_show_73 : decode cX6_show 73 = .ok (.if_icmp .lt 7, 3) := by decide +kernel
theorem dX6_show_76 : decode cX6_show 76 = .ok (.iconst 1, 1) := by decide +kernel
theorem dX6_show_77 : decode cX6_show 77 = .ok (.goto 4, 3) := by decide +kernel
theorem dX6_show_80 : decode cX6_show 80 = .ok (.iconst 0, 1) := by decide +kernel
theorem dX6_show_81 : decode cX6_show 81 = .ok (.istore 4, 2) := by decide +kernel
theorem dX6_show_83 : decode cX6_show 83 = .ok (.iload 4, 2) := by decide +kernel
theorem dX6_show_85 : decode cX6_show 85 = .ok (.ifCond .eq 37, 3) := by decide +kernel
theorem dX6_show_88 : decode cX6_show 88 = .ok (.aload_n 0, 1) := by decide +kernel
theorem dX6_show_89 : decode cX6_show 89 = .ok (.getfield 10, 3) := by decide +kernel
theorem dX6_show_92 : decode cX6_show 92 = .ok (.iload_n 2, 1) := by decide +kernel
theorem dX6_show_93 : decode cX6_show 93 = .ok (.invokevirtual 112, 3) := by decide +kernel
theorem dX6_show_96 : decode cX6_show 96 = .ok (.aload_n 0, 1) := by decide +kernel
theorem dX6_show_97 : decode cX6_show 97 = .ok (.getfield 10, 3) := by decide +kernel
theorem dX6_show_100 : decode cX6_show 100 = .ok (.getfield 106, 3) := by decide +kernel
theorem dX6_show_103 : decode cX6_show 103 = .ok (.iload_n 2, 1) := by decide +kernel
theorem dX6_show_104 : decode cX6_show 104 = .ok (.iaload, 1) := by decide +kernel
theorem dX6_show_105 : decode cX6_show 105 = .ok (.if_icmp .ge 17, 3) := by decide +kernel
theorem dX6_show_108 : decode cX6_show 108 = .ok (.aload_n 0, 1) := by decide +kernel
theorem dX6_show_109 : decode cX6_show 109 = .ok (.getfield 10, 3) := by decide +kernel
theorem dX6_show_112 : decode cX6_show 112 = .ok (.aload_n 3, 1) := by decide +kernel
theorem dX6_show_113 : decode cX6_show 113 = .ok (.iconst 0, 1) := by decide +kernel
theorem dX6_show_114 : decode cX6_show 114 = .ok (.iaload, 1) := by decide +kernel
theorem dX6_show_115 : decode cX6_show 115 = .ok (.invokevirtual 115, 3) := by decide +kernel
theorem dX6_show_118 : decode cX6_show 118 = .ok (.iconst (-1), 1) := by decide +kernel
theorem dX6_show_119 : decode cX6_show 119 = .ok (.if_icmp .eq 9, 3) := by decide +kernel
theorem dX6_show_122 : decode cX6_show 122 = .ok (.aload_n 0, 1) := by decide +kernel
theorem dX6_show_123 : decode cX6_show 123 = .ok (.iconst 2, 1) := by decide +kernel
theorem dX6_show_124 : decode cX6_show 124 = .ok (.invokevirtual 42, 3) := by decide +kernel
theorem dX6_show_127 : decode cX6_show 127 = .ok (.ireturn, 1) := by decide +kernel
theorem dX6_show_128 : decode cX6_show 128 = .ok (.aload_n 3, 1) := by decide +kernel
theorem dX6_show_129 : decode cX6_show 129 = .ok (.bipush 7, 2) := by decide +kernel
theorem dX6_show_131 : decode cX6_show 131 = .ok (.iload_n 2, 1) := by decide +kernel
theorem dX6_show_132 : decode cX6_show 132 = .ok (.iastore, 1) := by decide +kernel
theorem dX6_show_133 : decode cX6_show 133 = .ok (.aload_n 0, 1) := by decide +kernel
theorem dX6_show_134 : decode cX6_show 134 = .ok (.getfield 10, 3) := by decide +kernel
theorem dX6_show_137 : decode cX6_show 137 = .ok (.aload_n 3, 1) := by decide +kernel
theorem dX6_show_138 : decode cX6_show 138 = .ok (.invokevirtual 118, 3) := by decide +kernel
theorem dX6_show_141 : decode cX6_show 141 = .ok (.ireturn, 1) := by decide +kernel
set_option maxRecDepth 20000 in
theorem ggX6_take_X6_isFigure : GoodIn wsX6_take wsX6_isFigure := goodIn_r _ [8, 2, 9, 10, 11, 7, 12, 17, 18, 19, 20, 21, 22, 23, 24, 25, 26, 27, 28, 29, 30, 31, 32] (by decide +kernel) (by decide +kernel)
set_option maxRecDepth 20000 in
theorem gX6_take_X6_isFigure : GoodIn wsX6_take (wsV RX6 82 RX6 yX6_isFigure wsX6_isFigure) := goodIn_app (goodIn_of _ (by decide +kernel)) ggX6_take_X6_isFigure
set_option maxRecDepth 20000 in
theorem ggX6_take_X6_no : GoodIn wsX6_take wsX6_no := goodIn_r _ [16, 1, 17, 18] (by decide +kernel) (by decide +kernel)
set_option maxRecDepth 20000 in
theorem gX6_take_X6_no : GoodIn wsX6_take (wsV RX6 42 RX6 yX6_no wsX6_no) := goodIn_app (goodIn_of _ (by decide +kernel)) ggX6_take_X6_no
theorem dX6_take_0 : decode cX6_take 0 = .ok (.aload_n 0, 1) := by decide +kernel
theorem dX6_take_1 : decode cX6_take 1 = .ok (.iconst 0, 1) := by decide +kernel
theorem dX6_take_2 : decode cX6_take 2 = .ok (.putfield 16, 3) := by decide +kernel
theorem dX6_take_5 : decode cX6_take 5 = .ok (.aload_n 0, 1) := by decide +kernel
theorem dX6_take_6 : decode cX6_take 6 = .ok (.iload_n 1, 1) := by decide +kernel
theorem dX6_take_7 : decode cX6_take 7 = .ok (.invokevirtual 82, 3) := by decide +kernel
theorem dX6_take_10 : decode cX6_take 10 = .ok (.ifCond .ne 9, 3) := by decide +kernel
theorem dX6_take_13 : decode cX6_take 13 = .ok (.aload_n 0, 1) := by decide +kernel
theorem dX6_take_14 : decode cX6_take 14 = .ok (.iconst 1, 1) := by decide +kernel
theorem dX6_take_15 : decode cX6_take 15 = .ok (.invokevirtual 42, 3) := by decide +kernel
theorem dX6_take_18 : decode cX6_take 18 = .ok (.ireturn, 1) := by decide +kernel
theorem dX6_take_19 : decode cX6_take 19 = .ok (.aload_n 0, 1) := by decide +kernel
theorem dX6_take_20 : decode cX6_take 20 = .ok (.getfield 10, 3) := by decide +kernel
theorem dX6_take_23 : decode cX6_take 23 = .ok (.getfield 60, 3) := by decide +kernel
theorem dX6_take_26 : decode cX6_take 26 = .ok (.iload_n 1, 1) := by decide +kernel
theorem dX6_take_27 : decode cX6_take 27 = .ok (.aaload, 1) := by decide +kernel
theorem dX6_take_28 : decode cX6_take 28 = .ok (.bipush 7, 2) := by decide +kernel
theorem dX6_take_30 : decode cX6_take 30 = .ok (.iaload, 1) := by decide +kernel
theorem dX6_take_31 : decode cX6_take 31 = .ok (.istore_n 2, 1) := by decide +kernel
theorem dX6_take_32 : decode cX6_take 32 = .ok (.iload_n 2, 1) := by decide +kernel
theorem dX6_take_33 : decode cX6_take 33 = .ok (.iconst 5, 1) := by decide +kernel
theorem dX6_take_34 : decode cX6_take 34 = .ok (.if_icmp .lt 9, 3) := by decide +kernel
theorem dX6_take_37 : decode cX6_take 37 = .ok (.aload_n 0, 1) := by decide +kernel
theorem dX6_take_38 : decode cX6_take 38 = .ok (.iconst 2, 1) := by decide +kernel
theorem dX6_take_39 : decode cX6_take 39 = .ok (.invokevirtual 42, 3) := by decide +kernel
theorem dX6_take_42 : decode cX6_take 42 = .ok (.ireturn, 1) := by decide +kernel
theorem dX6_take_43 : decode cX6_take 43 = .ok (.aload_n 0, 1) := by decide +kernel
theorem dX6_take_44 : decode cX6_take 44 = .ok (.getfield 10, 3) := by decide +kernel
theorem dX6_take_47 : decode cX6_take 47 = .ok (.getfield 60, 3) := by decide +kernel
theorem dX6_take_50 : decode cX6_take 50 = .ok (.iload_n 1, 1) := by decide +kernel
theorem dX6_take_51 : decode cX6_take 51 = .ok (.aaload, 1) := by decide +kernel
theorem dX6_take_52 : decode cX6_take 52 = .ok (.bipush 7, 2) := by decide +kernel
theorem dX6_take_54 : decode cX6_take 54 = .ok (.iconst 5, 1) := by decide +kernel
theorem dX6_take_55 : decode cX6_take 55 = .ok (.iastore, 1) := by decide +kernel
theorem dX6_take_56 : decode cX6_take 56 = .ok (.iload_n 2, 1) := by decide +kernel
theorem dX6_take_57 : decode cX6_take 57 = .ok (.ireturn, 1) := by decide +kernel
set_option maxRecDepth 20000 in
theorem ggX6_clean_X6_isRoom : GoodIn wsX6_clean wsX6_isRoom := goodIn_r _ [14, 2, 15, 16, 17, 13, 18, 23, 24, 25, 26, 27, 28, 29, 30, 31, 32, 33, 34, 35, 36, 37, 38] (by decide +kernel) (by decide +kernel)
set_option maxRecDepth 20000 in
theorem gX6_clean_X6_isRoom : GoodIn wsX6_clean (wsV RX6 109 RX6 yX6_isRoom wsX6_isRoom) := goodIn_app (goodIn_of _ (by decide +kernel)) ggX6_clean_X6_isRoom
set_option maxRecDepth 20000 in
theorem ggX6_clean_X6_no : GoodIn wsX6_clean wsX6_no := goodIn_r _ [22, 1, 23, 24] (by decide +kernel) (by decide +kernel)
set_option maxRecDepth 20000 in
theorem gX6_clean_X6_no : GoodIn wsX6_clean (wsV RX6 42 RX6 yX6_no wsX6_no) := goodIn_app (goodIn_of _ (by decide +kernel)) ggX6_clean_X6_no
theorem dX6_clean_0 : decode cX6_clean 0 = .ok (.aload_n 0, 1) := by decide +kernel
theorem dX6_clean_1 : decode cX6_clean 1 = .ok (.iconst 0, 1) := by decide +kernel
theorem dX6_clean_2 : decode cX6_clean 2 = .ok (.putfield 16, 3) := by decide +kernel
theorem dX6_clean_5 : decode cX6_clean 5 = .ok (.aload_n 0, 1) := by decide +kernel
theorem dX6_clean_6 : decode cX6_clean 6 = .ok (.iload_n 1, 1) := by decide +kernel
theorem dX6_clean_7 : decode cX6_clean 7 = .ok (.invokevirtual 109, 3) := by decide +kernel
theorem dX6_clean_10 : decode cX6_clean 10 = .ok (.ifCond .ne 9, 3) := by decide +kernel
theorem dX6_clean_13 : decode cX6_clean 13 = .ok (.aload_n 0, 1) := by decide +kernel
theorem dX6_clean_14 : decode cX6_clean 14 = .ok (.iconst 1, 1) := by decide +kernel
theorem dX6_clean_15 : decode cX6_clean 15 = .ok (.invokevirtual 42, 3) := by decide +kernel
theorem dX6_clean_18 : decode cX6_clean 18 = .ok (.ireturn, 1) := by decide +kernel
theorem dX6_clean_19 : decode cX6_clean 19 = .ok (.aload_n 0, 1) := by decide +kernel
theorem dX6_clean_20 : decode cX6_clean 20 = .ok (.getfield 10, 3) := by decide +kernel
theorem dX6_clean_23 : decode cX6_clean 23 = .ok (.dup, 1) := by decide +kernel
theorem dX6_clean_24 : decode cX6_clean 24 = .ok (.getfield 70, 3) := by decide +kernel
theorem dX6_clean_27 : decode cX6_clean 27 = .ok (.iconst 5, 1) := by decide +kernel
theorem dX6_clean_28 : decode cX6_clean 28 = .ok (.isub, 1) := by decide +kernel
theorem dX6_clean_29 : decode cX6_clean 29 = .ok (.putfield 70, 3) := by decide +kernel
theorem dX6_clean_32 : decode cX6_clean 32 = .ok (.iconst 0, 1) := by decide +kernel
theorem dX6_clean_33 : decode cX6_clean 33 = .ok (.istore_n 2, 1) := by decide +kernel
theorem dX6_clean_34 : decode cX6_clean 34 = .ok (.iload_n 2, 1) := by decide +kernel
theorem dX6_clean_35 : decode cX6_clean 35 = .ok (.aload_n 0, 1) := by decide +kernel
theorem dX6_clean_36 : decode cX6_clean 36 = .ok (.getfield 10, 3) := by decide +kernel
theorem dX6_clean_39 : decode cX6_clean 39 = .ok (.getfield 36, 3) := by decide +kernel
theorem dX6_clean_42 : decode cX6_clean 42 = .ok (.if_icmp .ge 56, 3) := by decide +kernel
theorem dX6_clean_45 : decode cX6_clean 45 = .ok (.aload_n 0, 1) := by decide +kernel
theorem dX6_clean_46 : decode cX6_clean 46 = .ok (.getfield 10, 3) := by decide +kernel
theorem dX6_clean_49 : decode cX6_clean 49 = .ok (.getfield 60, 3) := by decide +kernel
theorem dX6_clean_52 : decode cX6_clean 52 = .ok (.iload_n 2, 1) := by decide +kernel
theorem dX6_clean_53 : decode cX6_clean 53 = .ok (.aaload, 1) := by decide +kernel
theorem dX6_clean_54 : decode cX6_clean 54 = .ok (.bipush 7, 2) := by decide +kernel
theorem dX6_clean_56 : decode cX6_clean 56 = .ok (.iaload, 1) := by decide +kernel
theorem dX6_clean_57 : decode cX6_clean 57 = .ok (.iload_n 1, 1) := by decide +kernel
theorem dX6_clean_58 : decode cX6_clean 58 = .ok (.if_icmp .ne 34, 3) := by decide +kernel
theorem dX6_clean_61 : decode cX6_clean 61 = .ok (.aload_n 0, 1) := by decide +kernel
theorem dX6_clean_62 : decode cX6_clean 62 = .ok (.getfield 10, 3) := by decide +kernel
theorem dX6_clean_65 : decode cX6_clean 65 = .ok (.getfield 60, 3) := by decide +kernel
theorem dX6_clean_68 : decode cX6_clean 68 = .ok (.iload_n 2, 1) := by decide +kernel
theorem dX6_clean_69 : decode cX6_clean 69 = .ok (.aaload, 1) := by decide +kernel
theorem dX6_clean_70 : decode cX6_clean 70 = .ok (.bipush 6, 2) := by decide +kernel
theorem dX6_clean_72 : decode cX6_clean 72 = .ok (.iconst 0, 1) := by decide +kernel
theorem dX6_clean_73 : decode cX6_clean 73 = .ok (.aload_n 0, 1) := by decide +kernel
theorem dX6_clean_74 : decode cX6_clean 74 = .ok (.getfield 10, 3) := by decide +kernel
theorem dX6_clean_77 : decode cX6_clean 77 = .ok (.getfield 60, 3) := by decide +kernel
theorem dX6_clean_80 : decode cX6_clean 80 = .ok (.iload_n 2, 1) := by decide +kernel
theorem dX6_clean_81 : decode cX6_clean 81 = .ok (.aaload, 1) := by decide +kernel
theorem dX6_clean_82 : decode cX6_clean 82 = .ok (.bipush 6, 2) := by decide +kernel
theorem dX6_clean_84 : decode cX6_clean 84 = .ok (.iaload, 1) := by decide +kernel
theorem dX6_clean_85 : decode cX6_clean 85 = .ok (.bipush 6, 2) := by decide +kernel
theorem dX6_clean_87 : decode cX6_clean 87 = .ok (.isub, 1) := by decide +kernel
theorem dX6_clean_88 : decode cX6_clean 88 = .ok (.invokestatic 26, 3) := by decide +kernel
theorem dX6_clean_91 : decode cX6_clean 91 = .ok (.iastore, 1) := by decide +kernel
theorem dX6_clean_92 : decode cX6_clean 92 = .ok (.iinc 2 1, 3) := by decide +kernel
theorem dX6_clean_95 : decode cX6_clean 95 = .ok (.goto (-61), 3) := by decide +kernel
theorem dX6_clean_98 : decode cX6_clean 98 = .ok (.aload_n 0, 1) := by decide +kernel
theorem dX6_clean_99 : decode cX6_clean 99 = .ok (.getfield 10, 3) := by decide +kernel
theorem dX6_clean_102 : decode cX6_clean 102 = .ok (.getfield 70, 3) := by decide +kernel
theorem dX6_clean_105 : decode cX6_clean 105 = .ok (.ireturn, 1) := by decide +kernel
set_option maxRecDepth 20000 in
theorem ggX6_price_X6_in : GoodIn wsX6_price wsX6_in := goodIn_r _ [7] (by decide +kernel) (by decide +kernel)
set_option maxRecDepth 20000 in
theorem gX6_price_X6_in : GoodIn wsX6_price (va_wsS RX6 32 yX6_in wsX6_in) := goodIn_app (goodIn_of _ (by decide +kernel)) ggX6_price_X6_in
set_option maxRecDepth 20000 in
theorem ggX6_price_X6_no : GoodIn wsX6_price wsX6_no := goodIn_r _ [11, 1, 12, 13] (by decide +kernel) (by decide +kernel)
set_option maxRecDepth 20000 in
theorem gX6_price_X6_no : GoodIn wsX6_price (wsV RX6 42 RX6 yX6_no wsX6_no) := goodIn_app (goodIn_of _ (by decide +kernel)) ggX6_price_X6_no
theorem dX6_price_0 : decode cX6_price 0 = .ok (.aload_n 0, 1) := by decide +kernel
theorem dX6_price_1 : decode cX6_price 1 = .ok (.iconst 0, 1) := by decide +kernel
theorem dX6_price_2 : decode cX6_price 2 = .ok (.putfield 16, 3) := by decide +kernel
theorem dX6_price_5 : decode cX6_price 5 = .ok (.iload_n 1, 1) := by decide +kernel
theorem dX6_price_6 : decode cX6_price 6 = .ok (.iconst 0, 1) := by decide +kernel
theorem dX6_price_7 : decode cX6_price 7 = .ok (.bipush 20, 2) := by decide +kernel
theorem dX6_price_9 : decode cX6_price 9 = .ok (.invokestatic 32, 3) := by decide +kernel
theorem dX6_price_12 : decode cX6_price 12 = .ok (.ifCond .ne 9, 3) := by decide +kernel
theorem dX6_price_15 : decode cX6_price 15 = .ok (.aload_n 0, 1) := by decide +kernel
theorem dX6_price_16 : decode cX6_price 16 = .ok (.iconst 1, 1) := by decide +kernel
theorem dX6_price_17 : decode cX6_price 17 = .ok (.invokevirtual 42, 3) := by decide +kernel
theorem dX6_price_20 : decode cX6_price 20 = .ok (.ireturn, 1) := by decide +kernel
theorem dX6_price_21 : decode cX6_price 21 = .ok (.aload_n 0, 1) := by decide +kernel
theorem dX6_price_22 : decode cX6_price 22 = .ok (.getfield 10, 3) := by decide +kernel
theorem dX6_price_25 : decode cX6_price 25 = .ok (.getfield 121, 3) := by decide +kernel
theorem dX6_price_28 : decode cX6_price 28 = .ok (.istore_n 2, 1) := by decide +kernel
theorem dX6_price_29 : decode cX6_price 29 = .ok (.aload_n 0, 1) := by decide +kernel
theorem dX6_price_30 : decode cX6_price 30 = .ok (.getfield 10, 3) := by decide +kernel
theorem dX6_price_33 : decode cX6_price 33 = .ok (.iload_n 1, 1) := by decide +kernel
theorem dX6_price_34 : decode cX6_price 34 = .ok (.putfield 121, 3) := by decide +kernel
theorem dX6_price_37 : decode cX6_price 37 = .ok (.iload_n 2, 1) := by decide +kernel
theorem dX6_price_38 : decode cX6_price 38 = .ok (.ireturn, 1) := by decide +kernel
set_option maxRecDepth 20000 in
theorem ggX6_pass_X6_in : GoodIn wsX6_pass wsX6_in := goodIn_r _ [6] (by decide +kernel) (by decide +kernel)
set_option maxRecDepth 20000 in
theorem gX6_pass_X6_in : GoodIn wsX6_pass (va_wsS RX6 32 yX6_in wsX6_in) := goodIn_app (goodIn_of _ (by decide +kernel)) ggX6_pass_X6_in
set_option maxRecDepth 20000 in
theorem ggX6_pass_X6_no : GoodIn wsX6_pass wsX6_no := goodIn_r _ [10, 1, 91, 92] (by decide +kernel) (by decide +kernel)
set_option maxRecDepth 20000 in
theorem gX6_pass_X6_no : GoodIn wsX6_pass (wsV RX6 42 RX6 yX6_no wsX6_no) := goodIn_app (goodIn_of _ (by decide +kernel)) ggX6_pass_X6_no
set_option maxRecDepth 20000 in
theorem ggX6_pass_X5_go : GoodIn wsX6_pass wsX5_go := goodIn_r _ [15, 16, 17, 18, 19, 20, 21, 22, 23, 24, 25, 26, 14, 27, 28, 5, 29, 30, 31, 32, 33, 34, 35, 36, 37, 38, 39, 40, 41, 42, 43, 44, 45, 46, 47, 48, 49, 50, 51, 52, 53, 54, 55, 56, 4, 6, 57, 58, 59, 60, 61, 62, 63, 64, 65, 66, 67, 68, 69, 70, 71, 72, 73, 74, 75, 76, 77, 78, 79, 80, 81, 82, 83, 84, 85, 86, 87, 88, 89, 90, 93, 94, 95, 96, 97, 98, 99, 100, 101, 102, 103, 104, 105, 106] (by decide +kernel) (by decide +kernel)
set_option maxRecDepth 20000 in
theorem gX6_pass_X5_go : GoodIn wsX6_pass (wsV RX6 124 RX5 yX5_go wsX5_go) := goodIn_app (goodIn_of _ (by decide +kernel)) ggX6_pass_X5_go
theorem dX6_pass_0 : decode cX6_pass 0 = .ok (.aload_n 0, 1) := by decide +kernel
theorem dX6_pass_1 : decode cX6_pass 1 = .ok (.iconst 0, 1) := by decide +kernel
theorem dX6_pass_2 : decode cX6_pass 2 = .ok (.putfield 16, 3) := by decide +kernel
theorem dX6_pass_5 : decode cX6_pass 5 = .ok (.iload_n 1, 1) := by decide +kernel
theorem dX6_pass_6 : decode cX6_pass 6 = .ok (.iconst 1, 1) := by decide +kernel
theorem dX6_pass_7 : decode cX6_pass 7 = .ok (.bipush 40, 2) := by decide +kernel
theorem dX6_pass_9 : decode cX6_pass 9 = .ok (.invokestatic 32, 3) := by decide +kernel
theorem dX6_pass_12 : decode cX6_pass 12 = .ok (.ifCond .eq 24, 3) := by decide +kernel
theorem dX6_pass_15 : decode cX6_pass 15 = .ok (.iload_n 2, 1) := by decide +kernel
theorem dX6_pass_16 : decode cX6_pass 16 = .ok (.iconst 0, 1) := by decide +kernel
theorem dX6_pass_17 : decode cX6_pass 17 = .ok (.sipush 2000, 3) := by decide +kernel
theorem dX6_pass_20 : decode cX6_pass 20 = .ok (.invokestatic 32, 3) := by decide +kernel
theorem dX6_pass_23 : decode cX6_pass 23 = .ok (.ifCond .eq 13, 3) := by decide +kernel
theorem dX6_pass_26 : decode cX6_pass 26 = .ok (.iload_n 3, 1) := by decide +kernel
theorem dX6_pass_27 : decode cX6_pass 27 = .ok (.iconst 0, 1) := by decide +kernel
theorem dX6_pass_28 : decode cX6_pass 28 = .ok (.bipush 40, 2) := by decide +kernel
theorem dX6_pass_30 : decode cX6_pass 30 = .ok (.invokestatic 32, 3) := by decide +kernel
theorem dX6_pass_33 : decode cX6_pass 33 = .ok (.ifCond .ne 9, 3) := by decide +kernel
theorem dX6_pass_36 : decode cX6_pass 36 = .ok (.aload_n 0, 1) := by decide +kernel
theorem dX6_pass_37 : decode cX6_pass 37 = .ok (.iconst 1, 1) := by decide +kernel
theorem dX6_pass_38 : decode cX6_pass 38 = .ok (.invokevirtual 42, 3) := by decide +kernel
theorem dX6_pass_41 : decode cX6_pass 41 = .ok (.ireturn, 1) := by decide +kernel
theorem dX6_pass_42 : decode cX6_pass 42 = .ok (.iconst 0, 1) := by decide +kernel
theorem dX6_pass_43 : decode cX6_pass 43 = .ok (.istore 4, 2) := by decide +kernel
theorem dX6_pass_45 : decode cX6_pass 45 = .ok (.iconst 0, 1) := by decide +kernel
theorem dX6_pass_46 : decode cX6_pass 46 = .ok (.istore 5, 2) := by decide +kernel
theorem dX6_pass_48 : decode cX6_pass 48 = .ok (.iload 5, 2) := by decide +kernel
theorem dX6_pass_50 : decode cX6_pass 50 = .ok (.iload_n 1, 1) := by decide +kernel
theorem dX6_pass_51 : decode cX6_pass 51 = .ok (.if_icmp .ge 23, 3) := by decide +kernel
theorem dX6_pass_54 : decode cX6_pass 54 = .ok (.iload 4, 2) := by decide +kernel
theorem dX6_pass_56 : decode cX6_pass 56 = .ok (.aload_n 0, 1) := by decide +kernel
theorem dX6_pass_57 : decode cX6_pass 57 = .ok (.getfield 10, 3) := by decide +kernel
theorem dX6_pass_60 : decode cX6_pass 60 = .ok (.iload_n 2, 1) := by decide +kernel
theorem dX6_pass_61 : decode cX6_pass 61 = .ok (.iload_n 3, 1) := by decide +kernel
theorem dX6_pass_62 : decode cX6_pass 62 = .ok (.invokevirtual 124, 3) := by decide +kernel
theorem dX6_pass_65 : decode cX6_pass 65 = .ok (.iadd, 1) := by decide +kernel
theorem dX6_pass_66 : decode cX6_pass 66 = .ok (.istore 4, 2) := by decide +kernel
theorem dX6_pass_68 : decode cX6_pass 68 = .ok (.iinc 5 1, 3) := by decide +kernel
theorem dX6_pass_71 : decode cX6_pass 71 = .ok (.goto (-23), 3) := by decide +kernel
theorem dX6_pass_74 : decode cX6_pass 74 = .ok (.iload 4, 2) := by decide +kernel
theorem dX6_pass_76 : decode cX6_pass 76 = .ok (.ireturn, 1) := by decide +kernel
set_option maxRecDepth 20000 in
theorem ggX6_personNow_X5_doubt : GoodIn wsX6_personNow wsX5_doubt := goodIn_r _ [7, 8, 9, 22, 23, 24, 25, 26, 27, 28, 29, 30, 31, 32, 33, 34, 35] (by decide +kernel) (by decide +kernel)
set_option maxRecDepth 20000 in
theorem gX6_personNow_X5_doubt : GoodIn wsX6_personNow (wsV RX6 127 RX5 yX5_doubt wsX5_doubt) := goodIn_app (goodIn_of _ (by decide +kernel)) ggX6_personNow_X5_doubt
set_option maxRecDepth 20000 in
theorem ggX6_personNow_X5_shownOf : GoodIn wsX6_personNow wsX5_shownOf := goodIn_r _ [13, 14, 15, 16, 17, 18, 6, 19, 22, 23, 24, 25, 26, 27, 28, 29, 30, 31, 32, 33, 34, 35] (by decide +kernel) (by decide +kernel)
set_option maxRecDepth 20000 in
theorem gX6_personNow_X5_shownOf : GoodIn wsX6_personNow (wsV RX6 115 RX5 yX5_shownOf wsX5_shownOf) := goodIn_app (goodIn_of _ (by decide +kernel)) ggX6_personNow_X5_shownOf
theorem dX6_personNow_0 : decode cX6_personNow 0 = .ok (.aload_n 0, 1) := by decide +kernel
theorem dX6_personNow_1 : decode cX6_personNow 1 = .ok (.getfield 10, 3) := by decide +kernel
theorem dX6_personNow_4 : decode cX6_personNow 4 = .ok (.getfield 46, 3) := by decide +kernel
theorem dX6_personNow_7 : decode cX6_personNow 7 = .ok (.iload_n 1, 1) := by decide +kernel
theorem dX6_personNow_8 : decode cX6_personNow 8 = .ok (.aaload, 1) := by decide +kernel
theorem dX6_personNow_9 : decode cX6_personNow 9 = .ok (.astore_n 3, 1) := by decide +kernel
theorem dX6_personNow_10 : decode cX6_personNow 10 = .ok (.iload_n 2, 1) := by decide +kernel
theorem dX6_personNow_11 : decode cX6_personNow 11 = .ok (.bipush 8, 2) := by decide +kernel
theorem dX6_personNow_13 : decode cX6_personNow 13 = .ok (.if_icmp .ge 9, 3) := by decide +kernel
theorem dX6_personNow_16 : decode cX6_personNow 16 = .ok (.aload_n 3, 1) := by decide +kernel
theorem dX6_personNow_17 : decode cX6_personNow 17 = .ok (.iload_n 2, 1) := by decide +kernel
theorem dX6_personNow_18 : decode cX6_personNow 18 = .ok (.iaload, 1) := by decide +kernel
theorem dX6_personNow_19 : decode cX6_personNow 19 = .ok (.goto 41, 3) := by decide +kernel
theorem dX6_personNow_22 : decode cX6_personNow 22 = .ok (.iload_n 2, 1) := by decide +kernel
theorem dX6_personNow_23 : decode cX6_personNow 23 = .ok (.bipush 8, 2) := by decide +kernel
theorem dX6_personNow_25 : decode cX6_personNow 25 = .ok (.if_icmp .ne 14, 3) := by decide +kernel
theorem dX6_personNow_28 : decode cX6_personNow 28 = .ok (.aload_n 0, 1) := by decide +kernel
theorem dX6_personNow_29 : decode cX6_personNow 29 = .ok (.getfield 10, 3) := by decide +kernel
theorem dX6_personNow_32 : decode cX6_personNow 32 = .ok (.iload_n 1, 1) := by decide +kernel
theorem dX6_personNow_33 : decode cX6_personNow 33 = .ok (.invokevirtual 127, 3) := by decide +kernel
theorem dX6_personNow_36 : decode cX6_personNow 36 = .ok (.goto 24, 3) := by decide +kernel
theorem dX6_personNow_39 : decode cX6_personNow 39 = .ok (.iload_n 2, 1) := by decide +kernel
theorem dX6_personNow_40 : decode cX6_personNow 40 = .ok (.bipush 9, 2) := by decide +kernel
theorem dX6_personNow_42 : decode cX6_personNow 42 = .ok (.if_icmp .ne 10, 3) := by decide +kernel
theorem dX6_personNow_45 : decode cX6_personNow 45 = .ok (.aload_n 3, 1) := by decide +kernel
theorem dX6_personNow_46 : decode cX6_personNow 46 = .ok (.bipush 8, 2) := by decide +kernel
theorem dX6_personNow_48 : decode cX6_personNow 48 = .ok (.iaload, 1) := by decide +kernel
theorem dX6_personNow_49 : decode cX6_personNow 49 = .ok (.goto 11, 3) := by decide +kernel
theorem dX6_personNow_52 : decode cX6_personNow 52 = .ok (.aload_n 0, 1) := by decide +kernel
theorem dX6_personNow_53 : decode cX6_personNow 53 = .ok (.getfield 10, 3) := by decide +kernel
theorem dX6_personNow_56 : decode cX6_personNow 56 = .ok (.iload_n 1, 1) := by decide +kernel
theorem dX6_personNow_57 : decode cX6_personNow 57 = .ok (.invokevirtual 115, 3) := by decide +kernel
theorem dX6_personNow_60 : decode cX6_personNow 60 = .ok (.ireturn, 1) := by decide +kernel
set_option maxRecDepth 20000 in
theorem ggX6_ofPerson_X6_isPerson : GoodIn wsX6_ofPerson wsX6_isPerson := goodIn_r _ [6, 7, 8, 9, 10, 5, 11, 38, 39, 40, 41, 42, 43, 44, 45, 46, 47, 48, 49, 50, 51, 52, 53] (by decide +kernel) (by decide +kernel)
set_option maxRecDepth 20000 in
theorem gX6_ofPerson_X6_isPerson : GoodIn wsX6_ofPerson (wsV RX6 53 RX6 yX6_isPerson wsX6_isPerson) := goodIn_app (goodIn_of _ (by decide +kernel)) ggX6_ofPerson_X6_isPerson
set_option maxRecDepth 20000 in
theorem ggX6_ofPerson_X6_no : GoodIn wsX6_ofPerson wsX6_no := goodIn_r _ [15, 1, 38, 39] (by decide +kernel) (by decide +kernel)
set_option maxRecDepth 20000 in
theorem gX6_ofPerson_X6_no : GoodIn wsX6_ofPerson (wsV RX6 42 RX6 yX6_no wsX6_no) := goodIn_app (goodIn_of _ (by decide +kernel)) ggX6_ofPerson_X6_no
set_option maxRecDepth 20000 in
theorem ggX6_ofPerson_X6_in : GoodIn wsX6_ofPerson wsX6_in := goodIn_r _ [11] (by decide +kernel) (by decide +kernel)
set_option maxRecDepth 20000 in
theorem gX6_ofPerson_X6_in : GoodIn wsX6_ofPerson (va_wsS RX6 32 yX6_in wsX6_in) := goodIn_app (goodIn_of _ (by decide +kernel)) ggX6_ofPerson_X6_in
set_option maxRecDepth 20000 in
theorem ggX6_ofPerson_X6_personNow : GoodIn wsX6_ofPerson wsX6_personNow := goodIn_r _ [19, 7, 20, 21, 22, 23, 24, 25, 26, 27, 28, 29, 30, 31, 32, 33, 34, 35, 36, 37, 38, 39, 40, 41, 42, 43, 44, 45, 46, 47, 48, 49, 50, 51, 52, 53] (by decide +kernel) (by decide +kernel)
set_option maxRecDepth 20000 in
theorem gX6_ofPerson_X6_personNow : GoodIn wsX6_ofPerson (wsV RX6 130 RX6 yX6_personNow wsX6_personNow) := goodIn_app (goodIn_of _ (by decide +kernel)) ggX6_ofPerson_X6_personNow
theorem dX6_ofPerson_0 : decode cX6_ofPerson 0 = .ok (.aload_n 0, 1) := by decide +kernel
theorem dX6_ofPerson_1 : decode cX6_ofPerson 1 = .ok (.iconst 0, 1) := by decide +kernel
theorem dX6_ofPerson_2 : decode cX6_ofPerson 2 = .ok (.putfield 16, 3) := by decide +kernel
theorem dX6_ofPerson_5 : decode cX6_ofPerson 5 = .ok (.aload_n 0, 1) := by decide +kernel
theorem dX6_ofPerson_6 : decode cX6_ofPerson 6 = .ok (.iload_n 1, 1) := by decide +kernel
theorem dX6_ofPerson_7 : decode cX6_ofPerson 7 = .ok (.invokevirtual 53, 3) := by decide +kernel
theorem dX6_ofPerson_10 : decode cX6_ofPerson 10 = .ok (.ifCond .ne 9, 3) := by decide +kernel
theorem dX6_ofPerson_13 : decode cX6_ofPerson 13 = .ok (.aload_n 0, 1) := by decide +kernel
theorem dX6_ofPerson_14 : decode cX6_ofPerson 14 = .ok (.iconst 1, 1) := by decide +kernel
theorem dX6_ofPerson_15 : decode cX6_ofPerson 15 = .ok (.invokevirtual 42, 3) := by decide +kernel
theorem dX6_ofPerson_18 : decode cX6_ofPerson 18 = .ok (.ireturn, 1) := by decide +kernel
theorem dX6_ofPerson_19 : decode cX6_ofPerson 19 = .ok (.iload_n 2, 1) := by decide +kernel
theorem dX6_ofPerson_20 : decode cX6_ofPerson 20 = .ok (.iconst 0, 1) := by decide +kernel
theorem dX6_ofPerson_21 : decode cX6_ofPerson 21 = .ok (.bipush 10, 2) := by decide +kernel
theorem dX6_ofPerson_23 : decode cX6_ofPerson 23 = .ok (.invokestatic 32, 3) := by decide +kernel
theorem dX6_ofPerson_26 : decode cX6_ofPerson 26 = .ok (.ifCond .ne 9, 3) := by decide +kernel
theorem dX6_ofPerson_29 : decode cX6_ofPerson 29 = .ok (.aload_n 0, 1) := by decide +kernel
theorem dX6_ofPerson_30 : decode cX6_ofPerson 30 = .ok (.iconst 2, 1) := by decide +kernel
theorem dX6_ofPerson_31 : decode cX6_ofPerson 31 = .ok (.invokevirtual 42, 3) := by decide +kernel
theorem dX6_ofPerson_34 : decode cX6_ofPerson 34 = .ok (.ireturn, 1) := by decide +kernel
theorem dX6_ofPerson_35 : decode cX6_ofPerson 35 = .ok (.aload_n 0, 1) := by decide +kernel
theorem dX6_ofPerson_36 : decode cX6_ofPerson 36 = .ok (.iload_n 1, 1) := by decide +kernel
theorem dX6_ofPerson_37 : decode cX6_ofPerson 37 = .ok (.iload_n 2, 1) := by decide +kernel
theorem dX6_ofPerson_38 : decode cX6_ofPerson 38 = .ok (.invokevirtual 130, 3) := by decide +kernel
theorem dX6_ofPerson_41 : decode cX6_ofPerson 41 = .ok (.ireturn, 1) := by decide +kernel
set_option maxRecDepth 20000 in
theorem ggX6_known_X6_isPerson : GoodIn wsX6_known wsX6_isPerson := goodIn_r _ [9, 2, 10, 11, 12, 8, 13, 18, 19, 20, 21, 22, 23, 24, 25, 26, 27, 28, 29, 30, 31, 32, 33] (by decide +kernel) (by decide +kernel)
set_option maxRecDepth 20000 in
theorem gX6_known_X6_isPerson : GoodIn wsX6_known (wsV RX6 53 RX6 yX6_isPerson wsX6_isPerson) := goodIn_app (goodIn_of _ (by decide +kernel)) ggX6_known_X6_isPerson
set_option maxRecDepth 20000 in
theorem ggX6_known_X6_in : GoodIn wsX6_known wsX6_in := goodIn_r _ [13] (by decide +kernel) (by decide +kernel)
set_option maxRecDepth 20000 in
theorem gX6_known_X6_in : GoodIn wsX6_known (va_wsS RX6 32 yX6_in wsX6_in) := goodIn_app (goodIn_of _ (by decide +kernel)) ggX6_known_X6_in
set_option maxRecDepth 20000 in
theorem ggX6_known_X6_no : GoodIn wsX6_known wsX6_no := goodIn_r _ [17, 1, 18, 19] (by decide +kernel) (by decide +kernel)
set_option maxRecDepth 20000 in
theorem gX6_known_X6_no : GoodIn wsX6_known (wsV RX6 42 RX6 yX6_no wsX6_no) := goodIn_app (goodIn_of _ (by decide +kernel)) ggX6_known_X6_no
theorem dX6_known_0 : decode cX6_known 0 = .ok (.aload_n 0, 1) := by decide +kernel
theorem dX6_known_1 : decode cX6_known 1 = .ok (.iconst 0, 1) := by decide +kernel
theorem dX6_known_2 : decode cX6_known 2 = .ok (.putfield 16, 3) := by decide +kernel
theorem dX6_known_5 : decode cX6_known 5 = .ok (.aload_n 0, 1) := by decide +kernel
theorem dX6_known_6 : decode cX6_known 6 = .ok (.iload_n 1, 1) := by decide +kernel
theorem dX6_known_7 : decode cX6_known 7 = .ok (.invokevirtual 53, 3) := by decide +kernel
theorem dX6_known_10 : decode cX6_known 10 = .ok (.ifCond .eq 12, 3) := by decide +kernel
theorem dX6_known_13 : decode cX6_known 13 = .ok (.iload_n 2, 1) := by decide +kernel
theorem dX6_known_14 : decode cX6_known 14 = .ok (.iconst 0, 1) := by decide +kernel
theorem dX6_known_15 : decode cX6_known 15 = .ok (.iconst 5, 1) := by decide +kernel
theorem dX6_known_16 : decode cX6_known 16 = .ok (.invokestatic 32, 3) := by decide +kernel
theorem dX6_known_19 : decode cX6_known 19 = .ok (.ifCond .ne 9, 3) := by decide +kernel
theorem dX6_known_22 : decode cX6_known 22 = .ok (.aload_n 0, 1) := by decide +kernel
theorem dX6_known_23 : decode cX6_known 23 = .ok (.iconst 1, 1) := by decide +kernel
theorem dX6_known_24 : decode cX6_known 24 = .ok (.invokevirtual 42, 3) := by decide +kernel
theorem dX6_known_27 : decode cX6_known 27 = .ok (.ireturn, 1) := by decide +kernel
theorem dX6_known_28 : decode cX6_known 28 = .ok (.iload_n 3, 1) := by decide +kernel
theorem dX6_known_29 : decode cX6_known 29 = .ok (.ifCond .eq 13, 3) := by decide +kernel
theorem dX6_known_32 : decode cX6_known 32 = .ok (.aload_n 0, 1) := by decide +kernel
theorem dX6_known_33 : decode cX6_known 33 = .ok (.getfield 10, 3) := by decide +kernel
theorem dX6_known_36 : decode cX6_known 36 = .ok (.getfield 50, 3) := by decide +kernel
theorem dX6_known_39 : decode cX6_known 39 = .ok (.goto 10, 3) := by decide +kernel
theorem dX6_known_42 : decode cX6_known 42 = .ok (.aload_n 0, 1) := by decide +kernel
theorem dX6_known_43 : decode cX6_known 43 = .ok (.getfield 10, 3) := by decide +kernel
theorem dX6_known_46 : decode cX6_known 46 = .ok (.getfield 67, 3) := by decide +kernel
theorem dX6_known_49 : decode cX6_known 49 = .ok (.iload_n 1, 1) := by decide +kernel
theorem dX6_known_50 : decode cX6_known 50 = .ok (.aaload, 1) := by decide +kernel
theorem dX6_known_51 : decode cX6_known 51 = .ok (.iload_n 2, 1) := by decide +kernel
theorem dX6_known_52 : decode cX6_known 52 = .ok (.iaload, 1) := by decide +kernel
theorem dX6_known_53 : decode cX6_known 53 = .ok (.ireturn, 1) := by decide +kernel
set_option maxRecDepth 20000 in
theorem ggX6_figureNow_X5_likeness : GoodIn wsX6_figureNow wsX5_likeness := goodIn_r _ [7, 8, 9, 10, 11, 12, 13, 14, 15, 16, 17, 6, 18, 19, 20, 21, 22, 23, 24, 37, 38, 39, 40, 41, 42, 43, 44, 45, 46, 47, 48, 49, 50] (by decide +kernel) (by decide +kernel)
set_option maxRecDepth 20000 in
theorem gX6_figureNow_X5_likeness : GoodIn wsX6_figureNow (wsV RX6 95 RX5 yX5_likeness wsX5_likeness) := goodIn_app (goodIn_of _ (by decide +kernel)) ggX6_figureNow_X5_likeness
set_option maxRecDepth 20000 in
theorem ggX6_figureNow_X5_draw : GoodIn wsX6_figureNow wsX5_draw := goodIn_r _ [28, 29, 30, 31, 32, 6, 33, 34, 4, 5, 7, 8, 9, 10, 11, 12, 13, 14, 15, 16, 17, 18, 19, 20, 21, 22, 23, 24, 37, 38, 39, 40, 41, 42, 43, 44, 45, 46, 47, 48, 49, 50] (by decide +kernel) (by decide +kernel)
set_option maxRecDepth 20000 in
theorem gX6_figureNow_X5_draw : GoodIn wsX6_figureNow (wsV RX6 118 RX5 yX5_draw wsX5_draw) := goodIn_app (goodIn_of _ (by decide +kernel)) ggX6_figureNow_X5_draw
theorem dX6_figureNow_0 : decode cX6_figureNow 0 = .ok (.bipush 12, 2) := by decide +kernel
theorem dX6_figureNow_2 : decode cX6_figureNow 2 = .ok (.newarray .int, 2) := by decide +kernel
theorem dX6_figureNow_4 : decode cX6_figureNow 4 = .ok (.dup, 1) := by decide +kernel
theorem dX6_figureNow_5 : decode cX6_figureNow 5 = .ok (.iconst 0, 1) := by decide +kernel
theorem dX6_figureNow_6 : decode cX6_figureNow 6 = .ok (.aload_n 1, 1) := by decide +kernel
theorem dX6_figureNow_7 : decode cX6_figureNow 7 = .ok (.iconst 0, 1) := by decide +kernel
theorem dX6_figureNow_8 : decode cX6_figureNow 8 = .ok (.iaload, 1) := by decide +kernel
theorem dX6_figureNow_9 : decode cX6_figureNow 9 = .ok (.iastore, 1) := by decide +kernel
theorem dX6_figureNow_10 : decode cX6_figureNow 10 = .ok (.dup, 1) := by decide +kernel
theorem dX6_figureNow_11 : decode cX6_figureNow 11 = .ok (.iconst 1, 1) := by decide +kernel
theorem dX6_figureNow_12 : decode cX6_figureNow 12 = .ok (.aload_n 1, 1) := by decide +kernel
theorem dX6_figureNow_13 : decode cX6_figureNow 13 = .ok (.iconst 1, 1) := by decide +kernel
theorem dX6_figureNow_14 : decode cX6_figureNow 14 = .ok (.iaload, 1) := by decide +kernel
theorem dX6_figureNow_15 : decode cX6_figureNow 15 = .ok (.iastore, 1) := by decide +kernel
theorem dX6_figureNow_16 : decode cX6_figureNow 16 = .ok (.dup, 1) := by decide +kernel
theorem dX6_figureNow_17 : decode cX6_figureNow 17 = .ok (.iconst 2, 1) := by decide +kernel
theorem dX6_figureNow_18 : decode cX6_figureNow 18 = .ok (.aload_n 1, 1) := by decide +kernel
theorem dX6_figureNow_19 : decode cX6_figureNow 19 = .ok (.iconst 2, 1) := by decide +kernel
theorem dX6_figureNow_20 : decode cX6_figureNow 20 = .ok (.iaload, 1) := by decide +kernel
theorem dX6_figureNow_21 : decode cX6_figureNow 21 = .ok (.iastore, 1) := by decide +kernel
theorem dX6_figureNow_22 : decode cX6_figureNow 22 = .ok (.dup, 1) := by decide +kernel
theorem dX6_figureNow_23 : decode cX6_figureNow 23 = .ok (.iconst 3, 1) := by decide +kernel
theorem dX6_figureNow_24 : decode cX6_figureNow 24 = .ok (.aload_n 1, 1) := by decide +kernel
theorem dX6_figureNow_25 : decode cX6_figureNow 25 = .ok (.iconst 3, 1) := by decide +kernel
theorem dX6_figureNow_26 : decode cX6_figureNow 26 = .ok (.iaload, 1) := by decide +kernel
theorem dX6_figureNow_27 : decode cX6_figureNow 27 = .ok (.iastore, 1) := by decide +kernel
theorem dX6_figureNow_28 : decode cX6_figureNow 28 = .ok (.dup, 1) := by decide +kernel
theorem dX6_figureNow_29 : decode cX6_figureNow 29 = .ok (.iconst 4, 1) := by decide +kernel
theorem dX6_figureNow_30 : decode cX6_figureNow 30 = .ok (.aload_n 1, 1) := by decide +kernel
theorem dX6_figureNow_31 : decode cX6_figureNow 31 = .ok (.iconst 4, 1) := by decide +kernel
theorem dX6_figureNow_32 : decode cX6_figureNow 32 = .ok (.iaload, 1) := by decide +kernel
theorem dX6_figureNow_33 : decode cX6_figureNow 33 = .ok (.iastore, 1) := by decide +kernel
theorem dX6_figureNow_34 : decode cX6_figureNow 34 = .ok (.dup, 1) := by decide +kernel
theorem dX6_figureNow_35 : decode cX6_figureNow 35 = .ok (.iconst 5, 1) := by decide +kernel
theorem dX6_figureNow_36 : decode cX6_figureNow 36 = .ok (.aload_n 1, 1) := by decide +kernel
theorem dX6_figureNow_37 : decode cX6_figureNow 37 = .ok (.iconst 5, 1) := by decide +kernel
theorem dX6_figureNow_38 : decode cX6_figureNow 38 = .ok (.iaload, 1) := by decide +kernel
theorem dX6_figureNow_39 : decode cX6_figureNow 39 = .ok (.iastore, 1) := by decide +kernel
theorem dX6_figureNow_40 : decode cX6_figureNow 40 = .ok (.dup, 1) := by decide +kernel
theorem dX6_figureNow_41 : decode cX6_figureNow 41 = .ok (.bipush 6, 2) := by decide +kernel
theorem dX6_figureNow_43 : decode cX6_figureNow 43 = .ok (.aload_n 1, 1) := by decide +kernel
theorem dX6_figureNow_44 : decode cX6_figureNow 44 = .ok (.bipush 6, 2) := by decide +kernel
theorem dX6_figureNow_46 : decode cX6_figureNow 46 = .ok (.iaload, 1) := by decide +kernel
theorem dX6_figureNow_47 : decode cX6_figureNow 47 = .ok (.iastore, 1) := by decide +kernel
theorem dX6_figureNow_48 : decode cX6_figureNow 48 = .ok (.dup, 1) := by decide +kernel
theorem dX6_figureNow_49 : decode cX6_figureNow 49 = .ok (.bipush 7, 2) := by decide +kernel
theorem dX6_figureNow_51 : decode cX6_figureNow 51 = .ok (.aload_n 0, 1) := by decide +kernel
theorem dX6_figureNow_52 : decode cX6_figureNow 52 = .ok (.getfield 10, 3) := by decide +kernel
theorem dX6_figureNow_55 : decode cX6_figureNow 55 = .ok (.aload_n 1, 1) := by decide +kernel
theorem dX6_figureNow_56 : decode cX6_figureNow 56 = .ok (.invokevirtual 95, 3) := by decide +kernel
theorem dX6_figureNow_59 : decode cX6_figureNow 59 = .ok (.iastore, 1) := by decide +kernel
theorem dX6_figureNow_60 : decode cX6_figureNow 60 = .ok (.dup, 1) := by decide +kernel
theorem dX6_figureNow_61 : decode cX6_figureNow 61 = .ok (.bipush 8, 2) := by decide +kernel
theorem dX6_figureNow_63 : decode cX6_figureNow 63 = .ok (.aload_n 1, 1) := by decide +kernel
theorem dX6_figureNow_64 : decode cX6_figureNow 64 = .ok (.bipush 7, 2) := by decide +kernel
theorem dX6_figureNow_66 : decode cX6_figureNow 66 = .ok (.iaload, 1) := by decide +kernel
theorem dX6_figureNow_67 : decode cX6_figureNow 67 = .ok (.iastore, 1) := by decide +kernel
theorem dX6_figureNow_68 : decode cX6_figureNow 68 = .ok (.dup, 1) := by decide +kernel
theorem dX6_figureNow_69 : decode cX6_figureNow 69 = .ok (.bipush 9, 2) := by decide +kernel
theorem dX6_figureNow_71 : decode cX6_figureNow 71 = .ok (.aload_n 1, 1) := by decide +kernel
theorem dX6_figureNow_72 : decode cX6_figureNow 72 = .ok (.bipush 8, 2) := by decide +kernel
theorem dX6_figureNow_74 : decode cX6_figureNow 74 = .ok (.iaload, 1) := by decide +kernel
theorem dX6_figureNow_75 : decode cX6_figureNow 75 = .ok (.iastore, 1) := by decide +kernel
theorem dX6_figureNow_76 : decode cX6_figureNow 76 = .ok (.dup, 1) := by decide +kernel
theorem dX6_figureNow_77 : decode cX6_figureNow 77 = .ok (.bipush 10, 2) := by decide +kernel
theorem dX6_figureNow_79 : decode cX6_figureNow 79 = .ok (.aload_n 0, 1) := by decide +kernel
theorem dX6_figureNow_80 : decode cX6_figureNow 80 = .ok (.getfield 10, 3) := by decide +kernel
theorem dX6_figureNow_83 : decode cX6_figureNow 83 = .ok (.aload_n 1, 1) := by decide +kernel
theorem dX6_figureNow_84 : decode cX6_figureNow 84 = .ok (.invokevirtual 118, 3) := by decide +kernel
theorem dX6_figureNow_87 : decode cX6_figureNow 87 = .ok (.iastore, 1) := by decide +kernel
theorem dX6_figureNow_88 : decode cX6_figureNow 88 = .ok (.dup, 1) := by decide +kernel
theorem dX6_figureNow_89 : decode cX6_figureNow 89 = .ok (.bipush 11, 2) := by decide +kernel
theorem dX6_figureNow_91 : decode cX6_figureNow 91 = .ok (.aload_n 1, 1) := by decide +kernel
theorem dX6_figureNow_92 : decode cX6_figureNow 92 = .ok (.bipush 10, 2) := by decide +kernel
theorem dX6_figureNow_94 : decode cX6_figureNow 94 = .ok (.iaload, 1) := by decide +kernel
theorem dX6_figureNow_95 : decode cX6_figureNow 95 = .ok (.iastore, 1) := by decide +kernel
theorem dX6_figureNow_96 : decode cX6_figureNow 96 = .ok (.astore_n 3, 1) := by decide +kernel
theorem dX6_figureNow_97 : decode cX6_figureNow 97 = .ok (.aload_n 3, 1) := by decide +kernel
theorem dX6_figureNow_98 : decode cX6_figureNow 98 = .ok (.iload_n 2, 1) := by decide +kernel
theorem dX6_figureNow_99 : decode cX6_figureNow 99 = .ok (.iaload, 1) := by decide +kernel
theorem dX6_figureNow_100 : decode cX6_figureNow 100 = .ok (.ireturn, 1) := by decide +kernel
set_option maxRecDepth 20000 in
theorem ggX6_ofFigure_X6_isFigure : GoodIn wsX6_ofFigure wsX6_isFigure := goodIn_r _ [8, 2, 9, 10, 11, 7, 12, 54, 55, 56, 57, 58, 59, 60, 61, 62, 63, 64, 65, 66, 67, 68, 69] (by decide +kernel) (by decide +kernel)
set_option maxRecDepth 20000 in
theorem gX6_ofFigure_X6_isFigure : GoodIn wsX6_ofFigure (wsV RX6 82 RX6 yX6_isFigure wsX6_isFigure) := goodIn_app (goodIn_of _ (by decide +kernel)) ggX6_ofFigure_X6_isFigure
set_option maxRecDepth 20000 in
theorem ggX6_ofFigure_X6_no : GoodIn wsX6_ofFigure wsX6_no := goodIn_r _ [16, 1, 54, 55] (by decide +kernel) (by decide +kernel)
set_option maxRecDepth 20000 in
theorem gX6_ofFigure_X6_no : GoodIn wsX6_ofFigure (wsV RX6 42 RX6 yX6_no wsX6_no) := goodIn_app (goodIn_of _ (by decide +kernel)) ggX6_ofFigure_X6_no
set_option maxRecDepth 20000 in
theorem ggX6_ofFigure_X6_in : GoodIn wsX6_ofFigure wsX6_in := goodIn_r _ [12] (by decide +kernel) (by decide +kernel)
set_option maxRecDepth 20000 in
theorem gX6_ofFigure_X6_in : GoodIn wsX6_ofFigure (va_wsS RX6 32 yX6_in wsX6_in) := goodIn_app (goodIn_of _ (by decide +kernel)) ggX6_ofFigure_X6_in
set_option maxRecDepth 20000 in
theorem ggX6_ofFigure_X6_figureNow : GoodIn wsX6_ofFigure wsX6_figureNow := goodIn_r _ [20, 21, 2, 22, 23, 24, 25, 26, 27, 28, 29, 30, 31, 32, 33, 34, 35, 36, 37, 38, 39, 40, 41, 42, 43, 44, 45, 46, 47, 48, 49, 50, 51, 52, 53, 54, 55, 56, 57, 58, 59, 60, 61, 62, 63, 64, 65, 66, 67, 68, 69] (by decide +kernel) (by decide +kernel)
set_option maxRecDepth 20000 in
theorem gX6_ofFigure_X6_figureNow : GoodIn wsX6_ofFigure (wsV RX6 133 RX6 yX6_figureNow wsX6_figureNow) := goodIn_app (goodIn_of _ (by decide +kernel)) ggX6_ofFigure_X6_figureNow
theorem dX6_ofFigure_0 : decode cX6_ofFigure 0 = .ok (.aload_n 0, 1) := by decide +kernel
theorem dX6_ofFigure_1 : decode cX6_ofFigure 1 = .ok (.iconst 0, 1) := by decide +kernel
theorem dX6_ofFigure_2 : decode cX6_ofFigure 2 = .ok (.putfield 16, 3) := by decide +kernel
theorem dX6_ofFigure_5 : decode cX6_ofFigure 5 = .ok (.aload_n 0, 1) := by decide +kernel
theorem dX6_ofFigure_6 : decode cX6_ofFigure 6 = .ok (.iload_n 1, 1) := by decide +kernel
theorem dX6_ofFigure_7 : decode cX6_ofFigure 7 = .ok (.invokevirtual 82, 3) := by decide +kernel
theorem dX6_ofFigure_10 : decode cX6_ofFigure 10 = .ok (.ifCond .ne 9, 3) := by decide +kernel
theorem dX6_ofFigure_13 : decode cX6_ofFigure 13 = .ok (.aload_n 0, 1) := by decide +kernel
theorem dX6_ofFigure_14 : decode cX6_ofFigure 14 = .ok (.iconst 1, 1) := by decide +kernel
theorem dX6_ofFigure_15 : decode cX6_ofFigure 15 = .ok (.invokevirtual 42, 3) := by decide +kernel
theorem dX6_ofFigure_18 : decode cX6_ofFigure 18 = .ok (.ireturn, 1) := by decide +kernel
theorem dX6_ofFigure_19 : decode cX6_ofFigure 19 = .ok (.iload_n 2, 1) := by decide +kernel
theorem dX6_ofFigure_20 : decode cX6_ofFigure 20 = .ok (.iconst 0, 1) := by decide +kernel
theorem dX6_ofFigure_21 : decode cX6_ofFigure 21 = .ok (.bipush 11, 2) := by decide +kernel
theorem dX6_ofFigure_23 : decode cX6_ofFigure 23 = .ok (.invokestatic 32, 3) := by decide +kernel
theorem dX6_ofFigure_26 : decode cX6_ofFigure 26 = .ok (.ifCond .ne 9, 3) := by decide +kernel
theorem dX6_ofFigure_29 : decode cX6_ofFigure 29 = .ok (.aload_n 0, 1) := by decide +kernel
theorem dX6_ofFigure_30 : decode cX6_ofFigure 30 = .ok (.iconst 2, 1) := by decide +kernel
theorem dX6_ofFigure_31 : decode cX6_ofFigure 31 = .ok (.invokevirtual 42, 3) := by decide +kernel
theorem dX6_ofFigure_34 : decode cX6_ofFigure 34 = .ok (.ireturn, 1) := by decide +kernel
theorem dX6_ofFigure_35 : decode cX6_ofFigure 35 = .ok (.aload_n 0, 1) := by decide +kernel
theorem dX6_ofFigure_36 : decode cX6_ofFigure 36 = .ok (.aload_n 0, 1) := by decide +kernel
theorem dX6_ofFigure_37 : decode cX6_ofFigure 37 = .ok (.getfield 10, 3) := by decide +kernel
theorem dX6_ofFigure_40 : decode cX6_ofFigure 40 = .ok (.getfield 60, 3) := by decide +kernel
theorem dX6_ofFigure_43 : decode cX6_ofFigure 43 = .ok (.iload_n 1, 1) := by decide +kernel
theorem dX6_ofFigure_44 : decode cX6_ofFigure 44 = .ok (.aaload, 1) := by decide +kernel
theorem dX6_ofFigure_45 : decode cX6_ofFigure 45 = .ok (.iload_n 2, 1) := by decide +kernel
theorem dX6_ofFigure_46 : decode cX6_ofFigure 46 = .ok (.invokevirtual 133, 3) := by decide +kernel
theorem dX6_ofFigure_49 : decode cX6_ofFigure 49 = .ok (.ireturn, 1) := by decide +kernel
set_option maxRecDepth 20000 in
theorem ggX6_roomNow_X5_shownIn : GoodIn wsX6_roomNow wsX5_shownIn := goodIn_r _ [9, 10, 11, 51, 52, 53, 54, 55, 56, 57, 58, 59, 60, 61, 62, 63, 64] (by decide +kernel) (by decide +kernel)
set_option maxRecDepth 20000 in
theorem gX6_roomNow_X5_shownIn : GoodIn wsX6_roomNow (wsV RX6 112 RX5 yX5_shownIn wsX5_shownIn) := goodIn_app (goodIn_of _ (by decide +kernel)) ggX6_roomNow_X5_shownIn
set_option maxRecDepth 20000 in
theorem ggX6_roomNow_X5_drawsIn : GoodIn wsX6_roomNow wsX5_drawsIn := goodIn_r _ [15, 10, 11, 16, 17, 18, 19, 20, 21, 8, 22, 23, 24, 25, 26, 27, 28, 29, 30, 31, 32, 33, 34, 35, 36, 37, 38, 39, 40, 41, 42, 43, 44, 45, 46, 47, 48, 51, 52, 53, 54, 55, 56, 57, 58, 59, 60, 61, 62, 63, 64] (by decide +kernel) (by decide +kernel)
set_option maxRecDepth 20000 in
theorem gX6_roomNow_X5_drawsIn : GoodIn wsX6_roomNow (wsV RX6 137 RX5 yX5_drawsIn wsX5_drawsIn) := goodIn_app (goodIn_of _ (by decide +kernel)) ggX6_roomNow_X5_drawsIn
theorem dX6_roomNow_0 : decode cX6_roomNow 0 = .ok (.iconst 4, 1) := by decide +kernel
theorem dX6_roomNow_1 : decode cX6_roomNow 1 = .ok (.newarray .int, 2) := by decide +kernel
theorem dX6_roomNow_3 : decode cX6_roomNow 3 = .ok (.dup, 1) := by decide +kernel
theorem dX6_roomNow_4 : decode cX6_roomNow 4 = .ok (.iconst 0, 1) := by decide +kernel
theorem dX6_roomNow_5 : decode cX6_roomNow 5 = .ok (.aload_n 0, 1) := by decide +kernel
theorem dX6_roomNow_6 : decode cX6_roomNow 6 = .ok (.getfield 10, 3) := by decide +kernel
theorem dX6_roomNow_9 : decode cX6_roomNow 9 = .ok (.getfield 102, 3) := by decide +kernel
theorem dX6_roomNow_12 : decode cX6_roomNow 12 = .ok (.iload_n 1, 1) := by decide +kernel
theorem dX6_roomNow_13 : decode cX6_roomNow 13 = .ok (.iaload, 1) := by decide +kernel
theorem dX6_roomNow_14 : decode cX6_roomNow 14 = .ok (.iastore, 1) := by decide +kernel
theorem dX6_roomNow_15 : decode cX6_roomNow 15 = .ok (.dup, 1) := by decide +kernel
theorem dX6_roomNow_16 : decode cX6_roomNow 16 = .ok (.iconst 1, 1) := by decide +kernel
theorem dX6_roomNow_17 : decode cX6_roomNow 17 = .ok (.aload_n 0, 1) := by decide +kernel
theorem dX6_roomNow_18 : decode cX6_roomNow 18 = .ok (.getfield 10, 3) := by decide +kernel
theorem dX6_roomNow_21 : decode cX6_roomNow 21 = .ok (.getfield 106, 3) := by decide +kernel
theorem dX6_roomNow_24 : decode cX6_roomNow 24 = .ok (.iload_n 1, 1) := by decide +kernel
theorem dX6_roomNow_25 : decode cX6_roomNow 25 = .ok (.iaload, 1) := by decide +kernel
theorem dX6_roomNow_26 : decode cX6_roomNow 26 = .ok (.iastore, 1) := by decide +kernel
theorem dX6_roomNow_27 : decode cX6_roomNow 27 = .ok (.dup, 1) := by decide +kernel
theorem dX6_roomNow_28 : decode cX6_roomNow 28 = .ok (.iconst 2, 1) := by decide +kernel
theorem dX6_roomNow_29 : decode cX6_roomNow 29 = .ok (.aload_n 0, 1) := by decide +kernel
theorem dX6_roomNow_30 : decode cX6_roomNow 30 = .ok (.getfield 10, 3) := by decide +kernel
theorem dX6_roomNow_33 : decode cX6_roomNow 33 = .ok (.getfield 106, 3) := by decide +kernel
theorem dX6_roomNow_36 : decode cX6_roomNow 36 = .ok (.iload_n 1, 1) := by decide +kernel
theorem dX6_roomNow_37 : decode cX6_roomNow 37 = .ok (.iaload, 1) := by decide +kernel
theorem dX6_roomNow_38 : decode cX6_roomNow 38 = .ok (.aload_n 0, 1) := by decide +kernel
theorem dX6_roomNow_39 : decode cX6_roomNow 39 = .ok (.getfield 10, 3) := by decide +kernel
theorem dX6_roomNow_42 : decode cX6_roomNow 42 = .ok (.iload_n 1, 1) := by decide +kernel
theorem dX6_roomNow_43 : decode cX6_roomNow 43 = .ok (.invokevirtual 112, 3) := by decide +kernel
theorem dX6_roomNow_46 : decode cX6_roomNow 46 = .ok (.isub, 1) := by decide +kernel
theorem dX6_roomNow_47 : decode cX6_roomNow 47 = .ok (.iastore, 1) := by decide +kernel
theorem dX6_roomNow_48 : decode cX6_roomNow 48 = .ok (.dup, 1) := by decide +kernel
theorem dX6_roomNow_49 : decode cX6_roomNow 49 = .ok (.iconst 3, 1) := by decide +kernel
theorem dX6_roomNow_50 : decode cX6_roomNow 50 = .ok (.aload_n 0, 1) := by decide +kernel
theorem dX6_roomNow_51 : decode cX6_roomNow 51 = .ok (.getfield 10, 3) := by decide +kernel
theorem dX6_roomNow_54 : decode cX6_roomNow 54 = .ok (.iload_n 1, 1) := by decide +kernel
theorem dX6_roomNow_55 : decode cX6_roomNow 55 = .ok (.iload_n 1, 1) := by decide +kernel
theorem dX6_roomNow_56 : decode cX6_roomNow 56 = .ok (.invokevirtual 137, 3) := by decide +kernel
theorem dX6_roomNow_59 : decode cX6_roomNow 59 = .ok (.iastore, 1) := by decide +kernel
theorem dX6_roomNow_60 : decode cX6_roomNow 60 = .ok (.astore_n 3, 1) := by decide +kernel
theorem dX6_roomNow_61 : decode cX6_roomNow 61 = .ok (.aload_n 3, 1) := by decide +kernel
theorem dX6_roomNow_62 : decode cX6_roomNow 62 = .ok (.iload_n 2, 1) := by decide +kernel
theorem dX6_roomNow_63 : decode cX6_roomNow 63 = .ok (.iaload, 1) := by decide +kernel
theorem dX6_roomNow_64 : decode cX6_roomNow 64 = .ok (.ireturn, 1) := by decide +kernel
set_option maxRecDepth 20000 in
theorem ggX6_ofRoom_X6_isRoom : GoodIn wsX6_ofRoom wsX6_isRoom := goodIn_r _ [6, 7, 8, 9, 10, 5, 11, 64, 65, 66, 67, 68, 69, 70, 71, 72, 73, 74, 75, 76, 77, 78, 79] (by decide +kernel) (by decide +kernel)
set_option maxRecDepth 20000 in
theorem gX6_ofRoom_X6_isRoom : GoodIn wsX6_ofRoom (wsV RX6 109 RX6 yX6_isRoom wsX6_isRoom) := goodIn_app (goodIn_of _ (by decide +kernel)) ggX6_ofRoom_X6_isRoom
set_option maxRecDepth 20000 in
theorem ggX6_ofRoom_X6_no : GoodIn wsX6_ofRoom wsX6_no := goodIn_r _ [15, 1, 64, 65] (by decide +kernel) (by decide +kernel)
set_option maxRecDepth 20000 in
theorem gX6_ofRoom_X6_no : GoodIn wsX6_ofRoom (wsV RX6 42 RX6 yX6_no wsX6_no) := goodIn_app (goodIn_of _ (by decide +kernel)) ggX6_ofRoom_X6_no
set_option maxRecDepth 20000 in
theorem ggX6_ofRoom_X6_in : GoodIn wsX6_ofRoom wsX6_in := goodIn_r _ [11] (by decide +kernel) (by decide +kernel)
set_option maxRecDepth 20000 in
theorem gX6_ofRoom_X6_in : GoodIn wsX6_ofRoom (va_wsS RX6 32 yX6_in wsX6_in) := goodIn_app (goodIn_of _ (by decide +kernel)) ggX6_ofRoom_X6_in
set_option maxRecDepth 20000 in
theorem ggX6_ofRoom_X6_roomNow : GoodIn wsX6_ofRoom wsX6_roomNow := goodIn_r _ [19, 20, 7, 21, 22, 23, 24, 25, 26, 27, 28, 29, 30, 31, 32, 33, 10, 5, 11, 34, 35, 36, 37, 38, 39, 40, 41, 42, 43, 44, 45, 46, 47, 48, 49, 50, 51, 52, 53, 54, 55, 56, 57, 58, 59, 60, 61, 62, 63, 64, 65, 66, 67, 68, 69, 70, 71, 72, 73, 74, 75, 76, 77, 78, 79] (by decide +kernel) (by decide +kernel)
set_option maxRecDepth 20000 in
theorem gX6_ofRoom_X6_roomNow : GoodIn wsX6_ofRoom (wsV RX6 140 RX6 yX6_roomNow wsX6_roomNow) := goodIn_app (goodIn_of _ (by decide +kernel)) ggX6_ofRoom_X6_roomNow
theorem dX6_ofRoom_0 : decode cX6_ofRoom 0 = .ok (.aload_n 0, 1) := by decide +kernel
theorem dX6_ofRoom_1 : decode cX6_ofRoom 1 = .ok (.iconst 0, 1) := by decide +kernel
theorem dX6_ofRoom_2 : decode cX6_ofRoom 2 = .ok (.putfield 16, 3) := by decide +kernel
theorem dX6_ofRoom_5 : decode cX6_ofRoom 5 = .ok (.aload_n 0, 1) := by decide +kernel
theorem dX6_ofRoom_6 : decode cX6_ofRoom 6 = .ok (.iload_n 1, 1) := by decide +kernel
theorem dX6_ofRoom_7 : decode cX6_ofRoom 7 = .ok (.invokevirtual 109, 3) := by decide +kernel
theorem dX6_ofRoom_10 : decode cX6_ofRoom 10 = .ok (.ifCond .ne 9, 3) := by decide +kernel
theorem dX6_ofRoom_13 : decode cX6_ofRoom 13 = .ok (.aload_n 0, 1) := by decide +kernel
theorem dX6_ofRoom_14 : decode cX6_ofRoom 14 = .ok (.iconst 1, 1) := by decide +kernel
theorem dX6_ofRoom_15 : decode cX6_ofRoom 15 = .ok (.invokevirtual 42, 3) := by decide +kernel
theorem dX6_ofRoom_18 : decode cX6_ofRoom 18 = .ok (.ireturn, 1) := by decide +kernel
theorem dX6_ofRoom_19 : decode cX6_ofRoom 19 = .ok (.iload_n 2, 1) := by decide +kernel
theorem dX6_ofRoom_20 : decode cX6_ofRoom 20 = .ok (.iconst 0, 1) := by decide +kernel
theorem dX6_ofRoom_21 : decode cX6_ofRoom 21 = .ok (.iconst 3, 1) := by decide +kernel
theorem dX6_ofRoom_22 : decode cX6_ofRoom 22 = .ok (.invokestatic 32, 3) := by decide +kernel
theorem dX6_ofRoom_25 : decode cX6_ofRoom 25 = .ok (.ifCond .ne 9, 3) := by decide +kernel
theorem dX6_ofRoom_28 : decode cX6_ofRoom 28 = .ok (.aload_n 0, 1) := by decide +kernel
theorem dX6_ofRoom_29 : decode cX6_ofRoom 29 = .ok (.iconst 2, 1) := by decide +kernel
theorem dX6_ofRoom_30 : decode cX6_ofRoom 30 = .ok (.invokevirtual 42, 3) := by decide +kernel
theorem dX6_ofRoom_33 : decode cX6_ofRoom 33 = .ok (.ireturn, 1) := by decide +kernel
theorem dX6_ofRoom_34 : decode cX6_ofRoom 34 = .ok (.aload_n 0, 1) := by decide +kernel
theorem dX6_ofRoom_35 : decode cX6_ofRoom 35 = .ok (.iload_n 1, 1) := by decide +kernel
theorem dX6_ofRoom_36 : decode cX6_ofRoom 36 = .ok (.iload_n 2, 1) := by decide +kernel
theorem dX6_ofRoom_37 : decode cX6_ofRoom 37 = .ok (.invokevirtual 140, 3) := by decide +kernel
theorem dX6_ofRoom_40 : decode cX6_ofRoom 40 = .ok (.ireturn, 1) := by decide +kernel
set_option maxRecDepth 20000 in
theorem ggX6_countAt_X6_in : GoodIn wsX6_countAt wsX6_in := goodIn_r _ [7] (by decide +kernel) (by decide +kernel)
set_option maxRecDepth 20000 in
theorem gX6_countAt_X6_in : GoodIn wsX6_countAt (va_wsS RX6 32 yX6_in wsX6_in) := goodIn_app (goodIn_of _ (by decide +kernel)) ggX6_countAt_X6_in
theorem dX6_countAt_0 : decode cX6_countAt 0 = .ok (.iconst 0, 1) := by decide +kernel
theorem dX6_countAt_1 : decode cX6_countAt 1 = .ok (.istore_n 3, 1) := by decide +kernel
theorem dX6_countAt_2 : decode cX6_countAt 2 = .ok (.iconst 0, 1) := by decide +kernel
theorem dX6_countAt_3 : decode cX6_countAt 3 = .ok (.istore 4, 2) := by decide +kernel
theorem dX6_countAt_5 : decode cX6_countAt 5 = .ok (.iload 4, 2) := by decide +kernel
theorem dX6_countAt_7 : decode cX6_countAt 7 = .ok (.aload_n 0, 1) := by decide +kernel
theorem dX6_countAt_8 : decode cX6_countAt 8 = .ok (.getfield 10, 3) := by decide +kernel
theorem dX6_countAt_11 : decode cX6_countAt 11 = .ok (.getfield 36, 3) := by decide +kernel
theorem dX6_countAt_14 : decode cX6_countAt 14 = .ok (.if_icmp .ge 38, 3) := by decide +kernel
theorem dX6_countAt_17 : decode cX6_countAt 17 = .ok (.iload_n 3, 1) := by decide +kernel
theorem dX6_countAt_18 : decode cX6_countAt 18 = .ok (.aload_n 0, 1) := by decide +kernel
theorem dX6_countAt_19 : decode cX6_countAt 19 = .ok (.getfield 10, 3) := by decide +kernel
theorem dX6_countAt_22 : decode cX6_countAt 22 = .ok (.getfield 60, 3) := by decide +kernel
theorem dX6_countAt_25 : decode cX6_countAt 25 = .ok (.iload 4, 2) := by decide +kernel
theorem dX6_countAt_27 : decode cX6_countAt 27 = .ok (.aaload, 1) := by decide +kernel
theorem dX6_countAt_28 : decode cX6_countAt 28 = .ok (.bipush 7, 2) := by decide +kernel
theorem dX6_countAt_30 : decode cX6_countAt 30 = .ok (.iaload, 1) := by decide +kernel
theorem dX6_countAt_31 : decode cX6_countAt 31 = .ok (.iload_n 1, 1) := by decide +kernel
theorem dX6_countAt_32 : decode cX6_countAt 32 = .ok (.iload_n 2, 1) := by decide +kernel
theorem dX6_countAt_33 : decode cX6_countAt 33 = .ok (.invokestatic 32, 3) := by decide +kernel
theorem dX6_countAt_36 : decode cX6_countAt 36 = .ok (.ifCond .eq 7, 3) := by decide +kernel
theorem dX6_countAt_39 : decode cX6_countAt 39 = .ok (.iconst 1, 1) := by decide +kernel
theorem dX6_countAt_40 : decode cX6_countAt 40 = .ok (.goto 4, 3) := by decide +kernel
theorem dX6_countAt_43 : decode cX6_countAt 43 = .ok (.iconst 0, 1) := by decide +kernel
theorem dX6_countAt_44 : decode cX6_countAt 44 = .ok (.iadd, 1) := by decide +kernel
theorem dX6_countAt_45 : decode cX6_countAt 45 = .ok (.istore_n 3, 1) := by decide +kernel
theorem dX6_countAt_46 : decode cX6_countAt 46 = .ok (.iinc 4 1, 3) := by decide +kernel
theorem dX6_countAt_49 : decode cX6_countAt 49 = .ok (.goto (-44), 3) := by decide +kernel
theorem dX6_countAt_52 : decode cX6_countAt 52 = .ok (.iload_n 3, 1) := by decide +kernel
theorem dX6_countAt_53 : decode cX6_countAt 53 = .ok (.ireturn, 1) := by decide +kernel
set_option maxRecDepth 20000 in
theorem ggX6_manyNow_X5_isDone : GoodIn wsX6_manyNow wsX5_isDone := goodIn_r _ [17] (by decide +kernel) (by decide +kernel)
set_option maxRecDepth 20000 in
theorem gX6_manyNow_X5_isDone : GoodIn wsX6_manyNow (wsV RX6 89 RX5 yX5_isDone wsX5_isDone) := goodIn_app (goodIn_of _ (by decide +kernel)) ggX6_manyNow_X5_isDone
set_option maxRecDepth 20000 in
theorem ggX6_manyNow_X6_countAt : GoodIn wsX6_manyNow wsX6_countAt := goodIn_r _ [22, 1, 2, 3, 23, 24, 21, 25, 63, 64, 65, 66, 67, 68, 69, 70, 71, 72, 73, 74, 75, 76, 77, 78] (by decide +kernel) (by decide +kernel)
set_option maxRecDepth 20000 in
theorem gX6_manyNow_X6_countAt : GoodIn wsX6_manyNow (wsV RX6 146 RX6 yX6_countAt wsX6_countAt) := goodIn_app (goodIn_of _ (by decide +kernel)) ggX6_manyNow_X6_countAt
set_option maxRecDepth 20000 in
theorem ggX6_manyNow_X5_hands : GoodIn wsX6_manyNow wsX5_hands := goodIn_r _ [29, 30, 31, 65, 66, 67, 68, 69, 70, 71, 72, 73, 74, 75, 76, 77, 78] (by decide +kernel) (by decide +kernel)
set_option maxRecDepth 20000 in
theorem gX6_manyNow_X5_hands : GoodIn wsX6_manyNow (wsV RX6 85 RX5 yX5_hands wsX5_hands) := goodIn_app (goodIn_of _ (by decide +kernel)) ggX6_manyNow_X5_hands
set_option maxRecDepth 20000 in
theorem ggX6_manyNow_X5_drawsIn : GoodIn wsX6_manyNow wsX5_drawsIn := goodIn_r _ [35, 30, 31, 24, 21, 25, 36, 37, 38, 16, 39, 40, 41, 42, 43, 44, 45, 46, 47, 48, 49, 50, 51, 52, 53, 54, 55, 56, 14, 15, 17, 57, 58, 59, 60, 61, 62, 65, 66, 67, 68, 69, 70, 71, 72, 73, 74, 75, 76, 77, 78] (by decide +kernel) (by decide +kernel)
set_option maxRecDepth 20000 in
theorem gX6_manyNow_X5_drawsIn : GoodIn wsX6_manyNow (wsV RX6 137 RX5 yX5_drawsIn wsX5_drawsIn) := goodIn_app (goodIn_of _ (by decide +kernel)) ggX6_manyNow_X5_drawsIn
theorem dX6_manyNow_0 : decode cX6_manyNow 0 = .ok (.iconst 0, 1) := by decide +kernel
theorem dX6_manyNow_1 : decode cX6_manyNow 1 = .ok (.istore_n 2, 1) := by decide +kernel
theorem dX6_manyNow_2 : decode cX6_manyNow 2 = .ok (.iconst 0, 1) := by decide +kernel
theorem dX6_manyNow_3 : decode cX6_manyNow 3 = .ok (.istore_n 3, 1) := by decide +kernel
theorem dX6_manyNow_4 : decode cX6_manyNow 4 = .ok (.iload_n 3, 1) := by decide +kernel
theorem dX6_manyNow_5 : decode cX6_manyNow 5 = .ok (.aload_n 0, 1) := by decide +kernel
theorem dX6_manyNow_6 : decode cX6_manyNow 6 = .ok (.getfield 10, 3) := by decide +kernel
theorem dX6_manyNow_9 : decode cX6_manyNow 9 = .ok (.getfield 36, 3) := by decide +kernel
theorem dX6_manyNow_12 : decode cX6_manyNow 12 = .ok (.if_icmp .ge 36, 3) := by decide +kernel
theorem dX6_manyNow_15 : decode cX6_manyNow 15 = .ok (.iload_n 2, 1) := by decide +kernel
theorem dX6_manyNow_16 : decode cX6_manyNow 16 = .ok (.aload_n 0, 1) := by decide +kernel
theorem dX6_manyNow_17 : decode cX6_manyNow 17 = .ok (.getfield 10, 3) := by decide +kernel
theorem dX6_manyNow_20 : decode cX6_manyNow 20 = .ok (.aload_n 0, 1) := by decide +kernel
theorem dX6_manyNow_21 : decode cX6_manyNow 21 = .ok (.getfield 10, 3) := by decide +kernel
theorem dX6_manyNow_24 : decode cX6_manyNow 24 = .ok (.getfield 60, 3) := by decide +kernel
theorem dX6_manyNow_27 : decode cX6_manyNow 27 = .ok (.iload_n 3, 1) := by decide +kernel
theorem dX6_manyNow_28 : decode cX6_manyNow 28 = .ok (.aaload, 1) := by decide +kernel
theorem dX6_manyNow_29 : decode cX6_manyNow 29 = .ok (.invokevirtual 89, 3) := by decide +kernel
theorem dX6_manyNow_32 : decode cX6_manyNow 32 = .ok (.ifCond .eq 7, 3) := by decide +kernel
theorem dX6_manyNow_35 : decode cX6_manyNow 35 = .ok (.iconst 1, 1) := by decide +kernel
theorem dX6_manyNow_36 : decode cX6_manyNow 36 = .ok (.goto 4, 3) := by decide +kernel
theorem dX6_manyNow_39 : decode cX6_manyNow 39 = .ok (.iconst 0, 1) := by decide +kernel
theorem dX6_manyNow_40 : decode cX6_manyNow 40 = .ok (.iadd, 1) := by decide +kernel
theorem dX6_manyNow_41 : decode cX6_manyNow 41 = .ok (.istore_n 2, 1) := by decide +kernel
theorem dX6_manyNow_42 : decode cX6_manyNow 42 = .ok (.iinc 3 1, 3) := by decide +kernel
theorem dX6_manyNow_45 : decode cX6_manyNow 45 = .ok (.goto (-41), 3) := by decide +kernel
theorem dX6_manyNow_48 : decode cX6_manyNow 48 = .ok (.iconst 0, 1) := by decide +kernel
theorem dX6_manyNow_49 : decode cX6_manyNow 49 = .ok (.istore_n 3, 1) := by decide +kernel
theorem dX6_manyNow_50 : decode cX6_manyNow 50 = .ok (.iconst 0, 1) := by decide +kernel
theorem dX6_manyNow_51 : decode cX6_manyNow 51 = .ok (.istore 4, 2) := by decide +kernel
theorem dX6_manyNow_53 : decode cX6_manyNow 53 = .ok (.iload 4, 2) := by decide +kernel
theorem dX6_manyNow_55 : decode cX6_manyNow 55 = .ok (.aload_n 0, 1) := by decide +kernel
theorem dX6_manyNow_56 : decode cX6_manyNow 56 = .ok (.getfield 10, 3) := by decide +kernel
theorem dX6_manyNow_59 : decode cX6_manyNow 59 = .ok (.getfield 29, 3) := by decide +kernel
theorem dX6_manyNow_62 : decode cX6_manyNow 62 = .ok (.if_icmp .ge 25, 3) := by decide +kernel
theorem dX6_manyNow_65 : decode cX6_manyNow 65 = .ok (.iload_n 3, 1) := by decide +kernel
theorem dX6_manyNow_66 : decode cX6_manyNow 66 = .ok (.aload_n 0, 1) := by decide +kernel
theorem dX6_manyNow_67 : decode cX6_manyNow 67 = .ok (.getfield 10, 3) := by decide +kernel
theorem dX6_manyNow_70 : decode cX6_manyNow 70 = .ok (.getfield 46, 3) := by decide +kernel
theorem dX6_manyNow_73 : decode cX6_manyNow 73 = .ok (.iload 4, 2) := by decide +kernel
theorem dX6_manyNow_75 : decode cX6_manyNow 75 = .ok (.aaload, 1) := by decide +kernel
theorem dX6_manyNow_76 : decode cX6_manyNow 76 = .ok (.bipush 7, 2) := by decide +kernel
theorem dX6_manyNow_78 : decode cX6_manyNow 78 = .ok (.iaload, 1) := by decide +kernel
theorem dX6_manyNow_79 : decode cX6_manyNow 79 = .ok (.iadd, 1) := by decide +kernel
theorem dX6_manyNow_80 : decode cX6_manyNow 80 = .ok (.istore_n 3, 1) := by decide +kernel
theorem dX6_manyNow_81 : decode cX6_manyNow 81 = .ok (.iinc 4 1, 3) := by decide +kernel
theorem dX6_manyNow_84 : decode cX6_manyNow 84 = .ok (.goto (-31), 3) := by decide +kernel
theorem dX6_manyNow_87 : decode cX6_manyNow 87 = .ok (.bipush 15, 2) := by decide +kernel
theorem dX6_manyNow_89 : decode cX6_manyNow 89 = .ok (.newarray .int, 2) := by decide +kernel
theorem dX6_manyNow_91 : decode cX6_manyNow 91 = .ok (.dup, 1) := by decide +kernel
theorem dX6_manyNow_92 : decode cX6_manyNow 92 = .ok (.iconst 0, 1) := by decide +kernel
theorem dX6_manyNow_93 : decode cX6_manyNow 93 = .ok (.aload_n 0, 1) := by decide +kernel
theorem dX6_manyNow_94 : decode cX6_manyNow 94 = .ok (.getfield 10, 3) := by decide +kernel
theorem dX6_manyNow_97 : decode cX6_manyNow 97 = .ok (.getfield 143, 3) := by decide +kernel
theorem dX6_manyNow_100 : decode cX6_manyNow 100 = .ok (.iastore, 1) := by decide +kernel
theorem dX6_manyNow_101 : decode cX6_manyNow 101 = .ok (.dup, 1) := by decide +kernel
theorem dX6_manyNow_102 : decode cX6_manyNow 102 = .ok (.iconst 1, 1) := by decide +kernel
theorem dX6_manyNow_103 : decode cX6_manyNow 103 = .ok (.aload_n 0, 1) := by decide +kernel
theorem dX6_manyNow_104 : decode cX6_manyNow 104 = .ok (.getfield 10, 3) := by decide +kernel
theorem dX6_manyNow_107 : decode cX6_manyNow 107 = .ok (.getfield 29, 3) := by decide +kernel
theorem dX6_manyNow_110 : decode cX6_manyNow 110 = .ok (.iastore, 1) := by decide +kernel
theorem dX6_manyNow_111 : decode cX6_manyNow 111 = .ok (.dup, 1) := by decide +kernel
theorem dX6_manyNow_112 : decode cX6_manyNow 112 = .ok (.iconst 2, 1) := by decide +kernel
theorem dX6_manyNow_113 : decode cX6_manyNow 113 = .ok (.aload_n 0, 1) := by decide +kernel
theorem dX6_manyNow_114 : decode cX6_manyNow 114 = .ok (.getfield 10, 3) := by decide +kernel
theorem dX6_manyNow_117 : decode cX6_manyNow 117 = .ok (.getfield 36, 3) := by decide +kernel
theorem dX6_manyNow_120 : decode cX6_manyNow 120 = .ok (.iastore, 1) := by decide +kernel
theorem dX6_manyNow_121 : decode cX6_manyNow 121 = .ok (.dup, 1) := by decide +kernel
theorem dX6_manyNow_122 : decode cX6_manyNow 122 = .ok (.iconst 3, 1) := by decide +kernel
theorem dX6_manyNow_123 : decode cX6_manyNow 123 = .ok (.iload_n 2, 1) := by decide +kernel
theorem dX6_manyNow_124 : decode cX6_manyNow 124 = .ok (.iastore, 1) := by decide +kernel
theorem dX6_manyNow_125 : decode cX6_manyNow 125 = .ok (.dup, 1) := by decide +kernel
theorem dX6_manyNow_126 : decode cX6_manyNow 126 = .ok (.iconst 4, 1) := by decide +kernel
theorem dX6_manyNow_127 : decode cX6_manyNow 127 = .ok (.aload_n 0, 1) := by decide +kernel
theorem dX6_manyNow_128 : decode cX6_manyNow 128 = .ok (.iconst 0, 1) := by decide +kernel
theorem dX6_manyNow_129 : decode cX6_manyNow 129 = .ok (.iconst 4, 1) := by decide +kernel
theorem dX6_manyNow_130 : decode cX6_manyNow 130 = .ok (.invokevirtual 146, 3) := by decide +kernel
theorem dX6_manyNow_133 : decode cX6_manyNow 133 = .ok (.iastore, 1) := by decide +kernel
theorem dX6_manyNow_134 : decode cX6_manyNow 134 = .ok (.dup, 1) := by decide +kernel
theorem dX6_manyNow_135 : decode cX6_manyNow 135 = .ok (.iconst 5, 1) := by decide +kernel
theorem dX6_manyNow_136 : decode cX6_manyNow 136 = .ok (.aload_n 0, 1) := by decide +kernel
theorem dX6_manyNow_137 : decode cX6_manyNow 137 = .ok (.bipush 6, 2) := by decide +kernel
theorem dX6_manyNow_139 : decode cX6_manyNow 139 = .ok (.bipush 6, 2) := by decide +kernel
theorem dX6_manyNow_141 : decode cX6_manyNow 141 = .ok (.invokevirtual 146, 3) := by decide +kernel
theorem dX6_manyNow_144 : decode cX6_manyNow 144 = .ok (.iastore, 1) := by decide +kernel
theorem dX6_manyNow_145 : decode cX6_manyNow 145 = .ok (.dup, 1) := by decide +kernel
theorem dX6_manyNow_146 : decode cX6_manyNow 146 = .ok (.bipush 6, 2) := by decide +kernel
theorem dX6_manyNow_148 : decode cX6_manyNow 148 = .ok (.aload_n 0, 1) := by decide +kernel
theorem dX6_manyNow_149 : decode cX6_manyNow 149 = .ok (.bipush 7, 2) := by decide +kernel
theorem dX6_manyNow_151 : decode cX6_manyNow 151 = .ok (.bipush 7, 2) := by decide +kernel
theorem dX6_manyNow_153 : decode cX6_manyNow 153 = .ok (.invokevirtual 146, 3) := by decide +kernel
theorem dX6_manyNow_156 : decode cX6_manyNow 156 = .ok (.iastore, 1) := by decide +kernel
theorem dX6_manyNow_157 : decode cX6_manyNow 157 = .ok (.dup, 1) := by decide +kernel
theorem dX6_manyNow_158 : decode cX6_manyNow 158 = .ok (.bipush 7, 2) := by decide +kernel
theorem dX6_manyNow_160 : decode cX6_manyNow 160 = .ok (.aload_n 0, 1) := by decide +kernel
theorem dX6_manyNow_161 : decode cX6_manyNow 161 = .ok (.getfield 10, 3) := by decide +kernel
theorem dX6_manyNow_164 : decode cX6_manyNow 164 = .ok (.getfield 39, 3) := by decide +kernel
theorem dX6_manyNow_167 : decode cX6_manyNow 167 = .ok (.iastore, 1) := by decide +kernel
theorem dX6_manyNow_168 : decode cX6_manyNow 168 = .ok (.dup, 1) := by decide +kernel
theorem dX6_manyNow_169 : decode cX6_manyNow 169 = .ok (.bipush 8, 2) := by decide +kernel
theorem dX6_manyNow_171 : decode cX6_manyNow 171 = .ok (.aload_n 0, 1) := by decide +kernel
theorem dX6_manyNow_172 : decode cX6_manyNow 172 = .ok (.getfield 10, 3) := by decide +kernel
theorem dX6_manyNow_175 : decode cX6_manyNow 175 = .ok (.getfield 70, 3) := by decide +kernel
theorem dX6_manyNow_178 : decode cX6_manyNow 178 = .ok (.iastore, 1) := by decide +kernel
theorem dX6_manyNow_179 : decode cX6_manyNow 179 = .ok (.dup, 1) := by decide +kernel
theorem dX6_manyNow_180 : decode cX6_manyNow 180 = .ok (.bipush 9, 2) := by decide +kernel
theorem dX6_manyNow_182 : decode cX6_manyNow 182 = .ok (.aload_n 0, 1) := by decide +kernel
theorem dX6_manyNow_183 : decode cX6_manyNow 183 = .ok (.getfield 10, 3) := by decide +kernel
theorem dX6_manyNow_186 : decode cX6_manyNow 186 = .ok (.getfield 99, 3) := by decide +kernel
theorem dX6_manyNow_189 : decode cX6_manyNow 189 = .ok (.iastore, 1) := by decide +kernel
theorem dX6_manyNow_190 : decode cX6_manyNow 190 = .ok (.dup, 1) := by decide +kernel
theorem dX6_manyNow_191 : decode cX6_manyNow 191 = .ok (.bipush 10, 2) := by decide +kernel
theorem dX6_manyNow_193 : decode cX6_manyNow 193 = .ok (.iload_n 3, 1) := by decide +kernel
theorem dX6_manyNow_194 : decode cX6_manyNow 194 = .ok (.iastore, 1) := by decide +kernel
theorem dX6_manyNow_195 : decode cX6_manyNow 195 = .ok (.dup, 1) := by decide +kernel
theorem dX6_manyNow_196 : decode cX6_manyNow 196 = .ok (.bipush 11, 2) := by decide +kernel
theorem dX6_manyNow_198 : decode cX6_manyNow 198 = .ok (.aload_n 0, 1) := by decide +kernel
theorem dX6_manyNow_199 : decode cX6_manyNow 199 = .ok (.getfield 10, 3) := by decide +kernel
theorem dX6_manyNow_202 : decode cX6_manyNow 202 = .ok (.getfield 149, 3) := by decide +kernel
theorem dX6_manyNow_205 : decode cX6_manyNow 205 = .ok (.iastore, 1) := by decide +kernel
theorem dX6_manyNow_206 : decode cX6_manyNow 206 = .ok (.dup, 1) := by decide +kernel
theorem dX6_manyNow_207 : decode cX6_manyNow 207 = .ok (.bipush 12, 2) := by decide +kernel
theorem dX6_manyNow_209 : decode cX6_manyNow 209 = .ok (.aload_n 0, 1) := by decide +kernel
theorem dX6_manyNow_210 : decode cX6_manyNow 210 = .ok (.getfield 10, 3) := by decide +kernel
theorem dX6_manyNow_213 : decode cX6_manyNow 213 = .ok (.invokevirtual 85, 3) := by decide +kernel
theorem dX6_manyNow_216 : decode cX6_manyNow 216 = .ok (.iastore, 1) := by decide +kernel
theorem dX6_manyNow_217 : decode cX6_manyNow 217 = .ok (.dup, 1) := by decide +kernel
theorem dX6_manyNow_218 : decode cX6_manyNow 218 = .ok (.bipush 13, 2) := by decide +kernel
theorem dX6_manyNow_220 : decode cX6_manyNow 220 = .ok (.aload_n 0, 1) := by decide +kernel
theorem dX6_manyNow_221 : decode cX6_manyNow 221 = .ok (.getfield 10, 3) := by decide +kernel
theorem dX6_manyNow_224 : decode cX6_manyNow 224 = .ok (.getfield 121, 3) := by decide +kernel
theorem dX6_manyNow_227 : decode cX6_manyNow 227 = .ok (.iastore, 1) := by decide +kernel
theorem dX6_manyNow_228 : decode cX6_manyNow 228 = .ok (.dup, 1) := by decide +kernel
theorem dX6_manyNow_229 : decode cX6_manyNow 229 = .ok (.bipush 14, 2) := by decide +kernel
theorem dX6_manyNow_231 : decode cX6_manyNow 231 = .ok (.aload_n 0, 1) := by decide +kernel
theorem dX6_manyNow_232 : decode cX6_manyNow 232 = .ok (.getfield 10, 3) := by decide +kernel
theorem dX6_manyNow_235 : decode cX6_manyNow 235 = .ok (.iconst 0, 1) := by decide +kernel
theorem dX6_manyNow_236 : decode cX6_manyNow 236 = .ok (.iconst 4, 1) := by decide +kernel
theorem dX6_manyNow_237 : decode cX6_manyNow 237 = .ok (.invokevirtual 137, 3) := by decide +kernel
theorem dX6_manyNow_240 : decode cX6_manyNow 240 = .ok (.iastore, 1) := by decide +kernel
theorem dX6_manyNow_241 : decode cX6_manyNow 241 = .ok (.astore 4, 2) := by decide +kernel
theorem dX6_manyNow_243 : decode cX6_manyNow 243 = .ok (.aload 4, 2) := by decide +kernel
theorem dX6_manyNow_245 : decode cX6_manyNow 245 = .ok (.iload_n 1, 1) := by decide +kernel
theorem dX6_manyNow_246 : decode cX6_manyNow 246 = .ok (.iaload, 1) := by decide +kernel
theorem dX6_manyNow_247 : decode cX6_manyNow 247 = .ok (.ireturn, 1) := by decide +kernel
set_option maxRecDepth 20000 in
theorem ggX6_many_X6_in : GoodIn wsX6_many wsX6_in := goodIn_r _ [5] (by decide +kernel) (by decide +kernel)
set_option maxRecDepth 20000 in
theorem gX6_many_X6_in : GoodIn wsX6_many (va_wsS RX6 32 yX6_in wsX6_in) := goodIn_app (goodIn_of _ (by decide +kernel)) ggX6_many_X6_in
set_option maxRecDepth 20000 in
theorem ggX6_many_X6_no : GoodIn wsX6_many wsX6_no := goodIn_r _ [9, 1, 72, 73] (by decide +kernel) (by decide +kernel)
set_option maxRecDepth 20000 in
theorem gX6_many_X6_no : GoodIn wsX6_many (wsV RX6 42 RX6 yX6_no wsX6_no) := goodIn_app (goodIn_of _ (by decide +kernel)) ggX6_many_X6_no
set_option maxRecDepth 20000 in
theorem ggX6_many_X6_manyNow : GoodIn wsX6_many wsX6_manyNow := goodIn_r _ [13, 14, 15, 16, 17, 18, 19, 20, 21, 22, 23, 24, 25, 26, 27, 28, 29, 30, 31, 32, 33, 4, 34, 2, 3, 5, 35, 36, 37, 38, 39, 40, 41, 42, 43, 44, 45, 46, 47, 48, 49, 50, 51, 52, 53, 54, 55, 56, 57, 58, 59, 60, 61, 62, 63, 64, 65, 66, 67, 68, 69, 70, 71, 72, 73, 74, 75, 76, 77, 78, 79, 80, 81, 82, 83, 84, 85, 86, 87] (by decide +kernel) (by decide +kernel)
set_option maxRecDepth 20000 in
theorem gX6_many_X6_manyNow : GoodIn wsX6_many (wsV RX6 152 RX6 yX6_manyNow wsX6_manyNow) := goodIn_app (goodIn_of _ (by decide +kernel)) ggX6_many_X6_manyNow
theorem dX6_many_0 : decode cX6_many 0 = .ok (.aload_n 0, 1) := by decide +kernel
theorem dX6_many_1 : decode cX6_many 1 = .ok (.iconst 0, 1) := by decide +kernel
theorem dX6_many_2 : decode cX6_many 2 = .ok (.putfield 16, 3) := by decide +kernel
theorem dX6_many_5 : decode cX6_many 5 = .ok (.iload_n 1, 1) := by decide +kernel
theorem dX6_many_6 : decode cX6_many 6 = .ok (.iconst 0, 1) := by decide +kernel
theorem dX6_many_7 : decode cX6_many 7 = .ok (.bipush 14, 2) := by decide +kernel
theorem dX6_many_9 : decode cX6_many 9 = .ok (.invokestatic 32, 3) := by decide +kernel
theorem dX6_many_12 : decode cX6_many 12 = .ok (.ifCond .ne 9, 3) := by decide +kernel
theorem dX6_many_15 : decode cX6_many 15 = .ok (.aload_n 0, 1) := by decide +kernel
theorem dX6_many_16 : decode cX6_many 16 = .ok (.iconst 1, 1) := by decide +kernel
theorem dX6_many_17 : decode cX6_many 17 = .ok (.invokevirtual 42, 3) := by decide +kernel
theorem dX6_many_20 : decode cX6_many 20 = .ok (.ireturn, 1) := by decide +kernel
theorem dX6_many_21 : decode cX6_many 21 = .ok (.aload_n 0, 1) := by decide +kernel
theorem dX6_many_22 : decode cX6_many 22 = .ok (.iload_n 1, 1) := by decide +kernel
theorem dX6_many_23 : decode cX6_many 23 = .ok (.invokevirtual 152, 3) := by decide +kernel
theorem dX6_many_26 : decode cX6_many 26 = .ok (.ireturn, 1) := by decide +kernel
set_option maxRecDepth 20000 in
theorem ggX6_meanLikeness_X5_isShown : GoodIn wsX6_meanLikeness wsX5_isShown := goodIn_r _ [9] (by decide +kernel) (by decide +kernel)
set_option maxRecDepth 20000 in
theorem gX6_meanLikeness_X5_isShown : GoodIn wsX6_meanLikeness (wsV RX6 63 RX5 yX5_isShown wsX5_isShown) := goodIn_app (goodIn_of _ (by decide +kernel)) ggX6_meanLikeness_X5_isShown
set_option maxRecDepth 20000 in
theorem ggX6_meanLikeness_X5_likeness : GoodIn wsX6_meanLikeness wsX5_likeness := goodIn_r _ [13, 14, 15, 16, 17, 18, 19, 20, 21, 22, 23, 8, 24, 25, 26, 27, 28, 29, 30, 41, 42, 43, 44, 45, 46, 47, 48, 49, 50, 51, 52, 53, 54] (by decide +kernel) (by decide +kernel)
set_option maxRecDepth 20000 in
theorem gX6_meanLikeness_X5_likeness : GoodIn wsX6_meanLikeness (wsV RX6 95 RX5 yX5_likeness wsX5_likeness) := goodIn_app (goodIn_of _ (by decide +kernel)) ggX6_meanLikeness_X5_likeness
set_option maxRecDepth 20000 in
theorem ggX6_meanLikeness_X6_countAt : GoodIn wsX6_meanLikeness wsX6_countAt := goodIn_r _ [35, 2, 3, 4, 36, 37, 34, 38, 39, 40, 41, 42, 43, 44, 45, 46, 47, 48, 49, 50, 51, 52, 53, 54] (by decide +kernel) (by decide +kernel)
set_option maxRecDepth 20000 in
theorem gX6_meanLikeness_X6_countAt : GoodIn wsX6_meanLikeness (wsV RX6 146 RX6 yX6_countAt wsX6_countAt) := goodIn_app (goodIn_of _ (by decide +kernel)) ggX6_meanLikeness_X6_countAt
theorem dX6_meanLikeness_0 : decode cX6_meanLikeness 0 = .ok (.aload_n 0, 1) := by decide +kernel
theorem dX6_meanLikeness_1 : decode cX6_meanLikeness 1 = .ok (.iconst 0, 1) := by decide +kernel
theorem dX6_meanLikeness_2 : decode cX6_meanLikeness 2 = .ok (.putfield 16, 3) := by decide +kernel
theorem dX6_meanLikeness_5 : decode cX6_meanLikeness 5 = .ok (.iconst 0, 1) := by decide +kernel
theorem dX6_meanLikeness_6 : decode cX6_meanLikeness 6 = .ok (.istore_n 1, 1) := by decide +kernel
theorem dX6_meanLikeness_7 : decode cX6_meanLikeness 7 = .ok (.iconst 0, 1) := by decide +kernel
theorem dX6_meanLikeness_8 : decode cX6_meanLikeness 8 = .ok (.istore_n 2, 1) := by decide +kernel
theorem dX6_meanLikeness_9 : decode cX6_meanLikeness 9 = .ok (.iload_n 2, 1) := by decide +kernel
theorem dX6_meanLikeness_10 : decode cX6_meanLikeness 10 = .ok (.aload_n 0, 1) := by decide +kernel
theorem dX6_meanLikeness_11 : decode cX6_meanLikeness 11 = .ok (.getfield 10, 3) := by decide +kernel
theorem dX6_meanLikeness_14 : decode cX6_meanLikeness 14 = .ok (.getfield 36, 3) := by decide +kernel
theorem dX6_meanLikeness_17 : decode cX6_meanLikeness 17 = .ok (.if_icmp .ge 51, 3) := by decide +kernel
theorem dX6_meanLikeness_20 : decode cX6_meanLikeness 20 = .ok (.iload_n 1, 1) := by decide +kernel
theorem dX6_meanLikeness_21 : decode cX6_meanLikeness 21 = .ok (.aload_n 0, 1) := by decide +kernel
theorem dX6_meanLikeness_22 : decode cX6_meanLikeness 22 = .ok (.getfield 10, 3) := by decide +kernel
theorem dX6_meanLikeness_25 : decode cX6_meanLikeness 25 = .ok (.aload_n 0, 1) := by decide +kernel
theorem dX6_meanLikeness_26 : decode cX6_meanLikeness 26 = .ok (.getfield 10, 3) := by decide +kernel
theorem dX6_meanLikeness_29 : decode cX6_meanLikeness 29 = .ok (.getfield 60, 3) := by decide +kernel
theorem dX6_meanLikeness_32 : decode cX6_meanLikeness 32 = .ok (.iload_n 2, 1) := by decide +kernel
theorem dX6_meanLikeness_33 : decode cX6_meanLikeness 33 = .ok (.aaload, 1) := by decide +kernel
theorem dX6_meanLikeness_34 : decode cX6_meanLikeness 34 = .ok (.invokevirtual 63, 3) := by decide +kernel
theorem dX6_meanLikeness_37 : decode cX6_meanLikeness 37 = .ok (.ifCond .eq 22, 3) := by decide +kernel
theorem dX6_meanLikeness_40 : decode cX6_meanLikeness 40 = .ok (.aload_n 0, 1) := by decide +kernel
theorem dX6_meanLikeness_41 : decode cX6_meanLikeness 41 = .ok (.getfield 10, 3) := by decide +kernel
theorem dX6_meanLikeness_44 : decode cX6_meanLikeness 44 = .ok (.aload_n 0, 1) := by decide +kernel
theorem dX6_meanLikeness_45 : decode cX6_meanLikeness 45 = .ok (.getfield 10, 3) := by decide +kernel
theorem dX6_meanLikeness_48 : decode cX6_meanLikeness 48 = .ok (.getfield 60, 3) := by decide +kernel
theorem dX6_meanLikeness_51 : decode cX6_meanLikeness 51 = .ok (.iload_n 2, 1) := by decide +kernel
theorem dX6_meanLikeness_52 : decode cX6_meanLikeness 52 = .ok (.aaload, 1) := by decide +kernel
theorem dX6_meanLikeness_53 : decode cX6_meanLikeness 53 = .ok (.invokevirtual 95, 3) := by decide +kernel
theorem dX6_meanLikeness_56 : decode cX6_meanLikeness 56 = .ok (.goto 4, 3) := by decide +kernel
theorem dX6_meanLikeness_59 : decode cX6_meanLikeness 59 = .ok (.iconst 0, 1) := by decide +kernel
theorem dX6_meanLikeness_60 : decode cX6_meanLikeness 60 = .ok (.iadd, 1) := by decide +kernel
theorem dX6_meanLikeness_61 : decode cX6_meanLikeness 61 = .ok (.istore_n 1, 1) := by decide +kernel
theorem dX6_meanLikeness_62 : decode cX6_meanLikeness 62 = .ok (.iinc 2 1, 3) := by decide +kernel
theorem dX6_meanLikeness_65 : decode cX6_meanLikeness 65 = .ok (.goto (-56), 3) := by decide +kernel
theorem dX6_meanLikeness_68 : decode cX6_meanLikeness 68 = .ok (.aload_n 0, 1) := by decide +kernel
theorem dX6_meanLikeness_69 : decode cX6_meanLikeness 69 = .ok (.iconst 0, 1) := by decide +kernel
theorem dX6_meanLikeness_70 : decode cX6_meanLikeness 70 = .ok (.iconst 4, 1) := by decide +kernel
theorem dX6_meanLikeness_71 : decode cX6_meanLikeness 71 = .ok (.invokevirtual 146, 3) := by decide +kernel
theorem dX6_meanLikeness_74 : decode cX6_meanLikeness 74 = .ok (.istore_n 2, 1) := by decide +kernel
theorem dX6_meanLikeness_75 : decode cX6_meanLikeness 75 = .ok (.iload_n 2, 1) := by decide +kernel
theorem dX6_meanLikeness_76 : decode cX6_meanLikeness 76 = .ok (.ifCond .ne 7, 3) := by decide +kernel
theorem dX6_meanLikeness_79 : decode cX6_meanLikeness 79 = .ok (.dconst 0, 1) := by decide +kernel
theorem dX6_meanLikeness_80 : decode cX6_meanLikeness 80 = .ok (.goto 8, 3) := by decide +kernel
theorem dX6_meanLikeness_83 : decode cX6_meanLikeness 83 = .ok (.iload_n 1, 1) := by decide +kernel
theorem dX6_meanLikeness_84 : decode cX6_meanLikeness 84 = .ok (.i2d, 1) := by decide +kernel
theorem dX6_meanLikeness_85 : decode cX6_meanLikeness 85 = .ok (.iload_n 2, 1) := by decide +kernel
theorem dX6_meanLikeness_86 : decode cX6_meanLikeness 86 = .ok (.i2d, 1) := by decide +kernel
theorem dX6_meanLikeness_87 : decode cX6_meanLikeness 87 = .ok (.ddiv, 1) := by decide +kernel
theorem dX6_meanLikeness_88 : decode cX6_meanLikeness 88 = .ok (.dreturn, 1) := by decide +kernel
set_option maxRecDepth 20000 in
theorem ggX6_fameNow_X5_month : GoodIn wsX6_fameNow wsX5_month := goodIn_r _ [11, 12, 13, 14, 15, 16, 17, 18, 19, 20, 21, 22, 23, 24, 25] (by decide +kernel) (by decide +kernel)
set_option maxRecDepth 20000 in
theorem gX6_fameNow_X5_month : GoodIn wsX6_fameNow (va_wsS RX6 155 yX5_month wsX5_month) := goodIn_app (goodIn_of _ (by decide +kernel)) ggX6_fameNow_X5_month
theorem dX6_fameNow_0 : decode cX6_fameNow 0 = .ok (.bipush 9, 2) := by decide +kernel
theorem dX6_fameNow_2 : decode cX6_fameNow 2 = .ok (.newarray .int, 2) := by decide +kernel
theorem dX6_fameNow_4 : decode cX6_fameNow 4 = .ok (.astore 4, 2) := by decide +kernel
theorem dX6_fameNow_6 : decode cX6_fameNow 6 = .ok (.aload_n 0, 1) := by decide +kernel
theorem dX6_fameNow_7 : decode cX6_fameNow 7 = .ok (.getfield 10, 3) := by decide +kernel
theorem dX6_fameNow_10 : decode cX6_fameNow 10 = .ok (.getfield 46, 3) := by decide +kernel
theorem dX6_fameNow_13 : decode cX6_fameNow 13 = .ok (.iload_n 1, 1) := by decide +kernel
theorem dX6_fameNow_14 : decode cX6_fameNow 14 = .ok (.aaload, 1) := by decide +kernel
theorem dX6_fameNow_15 : decode cX6_fameNow 15 = .ok (.iconst 0, 1) := by decide +kernel
theorem dX6_fameNow_16 : decode cX6_fameNow 16 = .ok (.aload 4, 2) := by decide +kernel
theorem dX6_fameNow_18 : decode cX6_fameNow 18 = .ok (.iconst 0, 1) := by decide +kernel
theorem dX6_fameNow_19 : decode cX6_fameNow 19 = .ok (.bipush 9, 2) := by decide +kernel
theorem dX6_fameNow_21 : decode cX6_fameNow 21 = .ok (.invokestatic 76, 3) := by decide +kernel
theorem dX6_fameNow_24 : decode cX6_fameNow 24 = .ok (.iconst 0, 1) := by decide +kernel
theorem dX6_fameNow_25 : decode cX6_fameNow 25 = .ok (.istore 5, 2) := by decide +kernel
theorem dX6_fameNow_27 : decode cX6_fameNow 27 = .ok (.iload 5, 2) := by decide +kernel
theorem dX6_fameNow_29 : decode cX6_fameNow 29 = .ok (.iload_n 3, 1) := by decide +kernel
theorem dX6_fameNow_30 : decode cX6_fameNow 30 = .ok (.if_icmp .ge 15, 3) := by decide +kernel
theorem dX6_fameNow_33 : decode cX6_fameNow 33 = .ok (.aload 4, 2) := by decide +kernel
theorem dX6_fameNow_35 : decode cX6_fameNow 35 = .ok (.iload_n 2, 1) := by decide +kernel
theorem dX6_fameNow_36 : decode cX6_fameNow 36 = .ok (.invokestatic 155, 3) := by decide +kernel
theorem dX6_fameNow_39 : decode cX6_fameNow 39 = .ok (.iinc 5 1, 3) := by decide +kernel
theorem dX6_fameNow_42 : decode cX6_fameNow 42 = .ok (.goto (-15), 3) := by decide +kernel
theorem dX6_fameNow_45 : decode cX6_fameNow 45 = .ok (.aload 4, 2) := by decide +kernel
theorem dX6_fameNow_47 : decode cX6_fameNow 47 = .ok (.iload_n 2, 1) := by decide +kernel
theorem dX6_fameNow_48 : decode cX6_fameNow 48 = .ok (.iaload, 1) := by decide +kernel
theorem dX6_fameNow_49 : decode cX6_fameNow 49 = .ok (.ireturn, 1) := by decide +kernel
set_option maxRecDepth 20000 in
theorem ggX6_wouldFame_X6_isPerson : GoodIn wsX6_wouldFame wsX6_isPerson := goodIn_r _ [6, 7, 8, 9, 10, 5, 11, 43, 44, 45, 46, 47, 48, 49, 50, 51, 52, 53, 54, 55, 56, 57, 58] (by decide +kernel) (by decide +kernel)
set_option maxRecDepth 20000 in
theorem gX6_wouldFame_X6_isPerson : GoodIn wsX6_wouldFame (wsV RX6 53 RX6 yX6_isPerson wsX6_isPerson) := goodIn_app (goodIn_of _ (by decide +kernel)) ggX6_wouldFame_X6_isPerson
set_option maxRecDepth 20000 in
theorem ggX6_wouldFame_X6_in : GoodIn wsX6_wouldFame wsX6_in := goodIn_r _ [11] (by decide +kernel) (by decide +kernel)
set_option maxRecDepth 20000 in
theorem gX6_wouldFame_X6_in : GoodIn wsX6_wouldFame (va_wsS RX6 32 yX6_in wsX6_in) := goodIn_app (goodIn_of _ (by decide +kernel)) ggX6_wouldFame_X6_in
set_option maxRecDepth 20000 in
theorem ggX6_wouldFame_X6_no : GoodIn wsX6_wouldFame wsX6_no := goodIn_r _ [15, 1, 43, 44] (by decide +kernel) (by decide +kernel)
set_option maxRecDepth 20000 in
theorem gX6_wouldFame_X6_no : GoodIn wsX6_wouldFame (wsV RX6 42 RX6 yX6_no wsX6_no) := goodIn_app (goodIn_of _ (by decide +kernel)) ggX6_wouldFame_X6_no
set_option maxRecDepth 20000 in
theorem ggX6_wouldFame_X6_fameNow : GoodIn wsX6_wouldFame wsX6_fameNow := goodIn_r _ [19, 20, 7, 21, 22, 23, 24, 25, 26, 27, 28, 29, 30, 5, 31, 32, 33, 34, 35, 36, 37, 38, 39, 40, 41, 42, 43, 44, 45, 46, 47, 48, 49, 50, 51, 52, 53, 54, 55, 56, 57, 58] (by decide +kernel) (by decide +kernel)
set_option maxRecDepth 20000 in
theorem gX6_wouldFame_X6_fameNow : GoodIn wsX6_wouldFame (wsV RX6 159 RX6 yX6_fameNow wsX6_fameNow) := goodIn_app (goodIn_of _ (by decide +kernel)) ggX6_wouldFame_X6_fameNow
theorem dX6_wouldFame_0 : decode cX6_wouldFame 0 = .ok (.aload_n 0, 1) := by decide +kernel
theorem dX6_wouldFame_1 : decode cX6_wouldFame 1 = .ok (.iconst 0, 1) := by decide +kernel
theorem dX6_wouldFame_2 : decode cX6_wouldFame 2 = .ok (.putfield 16, 3) := by decide +kernel
theorem dX6_wouldFame_5 : decode cX6_wouldFame 5 = .ok (.aload_n 0, 1) := by decide +kernel
theorem dX6_wouldFame_6 : decode cX6_wouldFame 6 = .ok (.iload_n 1, 1) := by decide +kernel
theorem dX6_wouldFame_7 : decode cX6_wouldFame 7 = .ok (.invokevirtual 53, 3) := by decide +kernel
theorem dX6_wouldFame_10 : decode cX6_wouldFame 10 = .ok (.ifCond .eq 12, 3) := by decide +kernel
theorem dX6_wouldFame_13 : decode cX6_wouldFame 13 = .ok (.iload_n 2, 1) := by decide +kernel
theorem dX6_wouldFame_14 : decode cX6_wouldFame 14 = .ok (.iconst 0, 1) := by decide +kernel
theorem dX6_wouldFame_15 : decode cX6_wouldFame 15 = .ok (.iconst 2, 1) := by decide +kernel
theorem dX6_wouldFame_16 : decode cX6_wouldFame 16 = .ok (.invokestatic 32, 3) := by decide +kernel
theorem dX6_wouldFame_19 : decode cX6_wouldFame 19 = .ok (.ifCond .ne 9, 3) := by decide +kernel
theorem dX6_wouldFame_22 : decode cX6_wouldFame 22 = .ok (.aload_n 0, 1) := by decide +kernel
theorem dX6_wouldFame_23 : decode cX6_wouldFame 23 = .ok (.iconst 1, 1) := by decide +kernel
theorem dX6_wouldFame_24 : decode cX6_wouldFame 24 = .ok (.invokevirtual 42, 3) := by decide +kernel
theorem dX6_wouldFame_27 : decode cX6_wouldFame 27 = .ok (.ireturn, 1) := by decide +kernel
theorem dX6_wouldFame_28 : decode cX6_wouldFame 28 = .ok (.iload_n 3, 1) := by decide +kernel
theorem dX6_wouldFame_29 : decode cX6_wouldFame 29 = .ok (.iconst 0, 1) := by decide +kernel
theorem dX6_wouldFame_30 : decode cX6_wouldFame 30 = .ok (.bipush 60, 2) := by decide +kernel
theorem dX6_wouldFame_32 : decode cX6_wouldFame 32 = .ok (.invokestatic 32, 3) := by decide +kernel
theorem dX6_wouldFame_35 : decode cX6_wouldFame 35 = .ok (.ifCond .ne 9, 3) := by decide +kernel
theorem dX6_wouldFame_38 : decode cX6_wouldFame 38 = .ok (.aload_n 0, 1) := by decide +kernel
theorem dX6_wouldFame_39 : decode cX6_wouldFame 39 = .ok (.iconst 2, 1) := by decide +kernel
theorem dX6_wouldFame_40 : decode cX6_wouldFame 40 = .ok (.invokevirtual 42, 3) := by decide +kernel
theorem dX6_wouldFame_43 : decode cX6_wouldFame 43 = .ok (.ireturn, 1) := by decide +kernel
theorem dX6_wouldFame_44 : decode cX6_wouldFame 44 = .ok (.aload_n 0, 1) := by decide +kernel
theorem dX6_wouldFame_45 : decode cX6_wouldFame 45 = .ok (.iload_n 1, 1) := by decide +kernel
theorem dX6_wouldFame_46 : decode cX6_wouldFame 46 = .ok (.iload_n 2, 1) := by decide +kernel
theorem dX6_wouldFame_47 : decode cX6_wouldFame 47 = .ok (.iload_n 3, 1) := by decide +kernel
theorem dX6_wouldFame_48 : decode cX6_wouldFame 48 = .ok (.invokevirtual 159, 3) := by decide +kernel
theorem dX6_wouldFame_51 : decode cX6_wouldFame 51 = .ok (.ireturn, 1) := by decide +kernel
set_option maxRecDepth 20000 in
theorem ggX6_readyNow_X5_isDone : GoodIn wsX6_readyNow wsX5_isDone := goodIn_r _ [6] (by decide +kernel) (by decide +kernel)
set_option maxRecDepth 20000 in
theorem gX6_readyNow_X5_isDone : GoodIn wsX6_readyNow (wsV RX6 89 RX5 yX5_isDone wsX5_isDone) := goodIn_app (goodIn_of _ (by decide +kernel)) ggX6_readyNow_X5_isDone
set_option maxRecDepth 20000 in
theorem ggX6_readyNow_X6_needs : GoodIn wsX6_readyNow wsX6_needs := goodIn_r _ [10, 11] (by decide +kernel) (by decide +kernel)
set_option maxRecDepth 20000 in
theorem gX6_readyNow_X6_needs : GoodIn wsX6_readyNow (va_wsS RX6 73 yX6_needs wsX6_needs) := goodIn_app (goodIn_of _ (by decide +kernel)) ggX6_readyNow_X6_needs
theorem dX6_readyNow_0 : decode cX6_readyNow 0 = .ok (.aload_n 0, 1) := by decide +kernel
theorem dX6_readyNow_1 : decode cX6_readyNow 1 = .ok (.getfield 10, 3) := by decide +kernel
theorem dX6_readyNow_4 : decode cX6_readyNow 4 = .ok (.aload_n 1, 1) := by decide +kernel
theorem dX6_readyNow_5 : decode cX6_readyNow 5 = .ok (.invokevirtual 89, 3) := by decide +kernel
theorem dX6_readyNow_8 : decode cX6_readyNow 8 = .ok (.ifCond .eq 5, 3) := by decide +kernel
theorem dX6_readyNow_11 : decode cX6_readyNow 11 = .ok (.iconst 0, 1) := by decide +kernel
theorem dX6_readyNow_12 : decode cX6_readyNow 12 = .ok (.ireturn, 1) := by decide +kernel
theorem dX6_readyNow_13 : decode cX6_readyNow 13 = .ok (.aload_n 1, 1) := by decide +kernel
theorem dX6_readyNow_14 : decode cX6_readyNow 14 = .ok (.iconst 4, 1) := by decide +kernel
theorem dX6_readyNow_15 : decode cX6_readyNow 15 = .ok (.iaload, 1) := by decide +kernel
theorem dX6_readyNow_16 : decode cX6_readyNow 16 = .ok (.ifCond .ne 5, 3) := by decide +kernel
theorem dX6_readyNow_19 : decode cX6_readyNow 19 = .ok (.iconst (-1), 1) := by decide +kernel
theorem dX6_readyNow_20 : decode cX6_readyNow 20 = .ok (.ireturn, 1) := by decide +kernel
theorem dX6_readyNow_21 : decode cX6_readyNow 21 = .ok (.aload_n 1, 1) := by decide +kernel
theorem dX6_readyNow_22 : decode cX6_readyNow 22 = .ok (.iconst 3, 1) := by decide +kernel
theorem dX6_readyNow_23 : decode cX6_readyNow 23 = .ok (.iaload, 1) := by decide +kernel
theorem dX6_readyNow_24 : decode cX6_readyNow 24 = .ok (.istore_n 2, 1) := by decide +kernel
theorem dX6_readyNow_25 : decode cX6_readyNow 25 = .ok (.aload_n 1, 1) := by decide +kernel
theorem dX6_readyNow_26 : decode cX6_readyNow 26 = .ok (.iconst 2, 1) := by decide +kernel
theorem dX6_readyNow_27 : decode cX6_readyNow 27 = .ok (.iaload, 1) := by decide +kernel
theorem dX6_readyNow_28 : decode cX6_readyNow 28 = .ok (.iconst 1, 1) := by decide +kernel
theorem dX6_readyNow_29 : decode cX6_readyNow 29 = .ok (.iadd, 1) := by decide +kernel
theorem dX6_readyNow_30 : decode cX6_readyNow 30 = .ok (.istore_n 3, 1) := by decide +kernel
theorem dX6_readyNow_31 : decode cX6_readyNow 31 = .ok (.iload_n 3, 1) := by decide +kernel
theorem dX6_readyNow_32 : decode cX6_readyNow 32 = .ok (.bipush 6, 2) := by decide +kernel
theorem dX6_readyNow_34 : decode cX6_readyNow 34 = .ok (.if_icmp .ge 16, 3) := by decide +kernel
theorem dX6_readyNow_37 : decode cX6_readyNow 37 = .ok (.iload_n 2, 1) := by decide +kernel
theorem dX6_readyNow_38 : decode cX6_readyNow 38 = .ok (.iload_n 3, 1) := by decide +kernel
theorem dX6_readyNow_39 : decode cX6_readyNow 39 = .ok (.invokestatic 73, 3) := by decide +kernel
theorem dX6_readyNow_42 : decode cX6_readyNow 42 = .ok (.iadd, 1) := by decide +kernel
theorem dX6_readyNow_43 : decode cX6_readyNow 43 = .ok (.istore_n 2, 1) := by decide +kernel
theorem dX6_readyNow_44 : decode cX6_readyNow 44 = .ok (.iinc 3 1, 3) := by decide +kernel
theorem dX6_readyNow_47 : decode cX6_readyNow 47 = .ok (.goto (-16), 3) := by decide +kernel
theorem dX6_readyNow_50 : decode cX6_readyNow 50 = .ok (.iload_n 2, 1) := by decide +kernel
theorem dX6_readyNow_51 : decode cX6_readyNow 51 = .ok (.aload_n 1, 1) := by decide +kernel
theorem dX6_readyNow_52 : decode cX6_readyNow 52 = .ok (.iconst 4, 1) := by decide +kernel
theorem dX6_readyNow_53 : decode cX6_readyNow 53 = .ok (.iaload, 1) := by decide +kernel
theorem dX6_readyNow_54 : decode cX6_readyNow 54 = .ok (.iadd, 1) := by decide +kernel
theorem dX6_readyNow_55 : decode cX6_readyNow 55 = .ok (.iconst 1, 1) := by decide +kernel
theorem dX6_readyNow_56 : decode cX6_readyNow 56 = .ok (.isub, 1) := by decide +kernel
theorem dX6_readyNow_57 : decode cX6_readyNow 57 = .ok (.aload_n 1, 1) := by decide +kernel
theorem dX6_readyNow_58 : decode cX6_readyNow 58 = .ok (.iconst 4, 1) := by decide +kernel
theorem dX6_readyNow_59 : decode cX6_readyNow 59 = .ok (.iaload, 1) := by decide +kernel
theorem dX6_readyNow_60 : decode cX6_readyNow 60 = .ok (.idiv, 1) := by decide +kernel
theorem dX6_readyNow_61 : decode cX6_readyNow 61 = .ok (.ireturn, 1) := by decide +kernel
set_option maxRecDepth 20000 in
theorem ggX6_readyIn_X6_isFigure : GoodIn wsX6_readyIn wsX6_isFigure := goodIn_r _ [8, 2, 9, 10, 11, 7, 12, 30, 31, 32, 33, 34, 35, 36, 37, 38, 39, 40, 41, 42, 43, 44, 45] (by decide +kernel) (by decide +kernel)
set_option maxRecDepth 20000 in
theorem gX6_readyIn_X6_isFigure : GoodIn wsX6_readyIn (wsV RX6 82 RX6 yX6_isFigure wsX6_isFigure) := goodIn_app (goodIn_of _ (by decide +kernel)) ggX6_readyIn_X6_isFigure
set_option maxRecDepth 20000 in
theorem ggX6_readyIn_X6_no : GoodIn wsX6_readyIn wsX6_no := goodIn_r _ [16, 1, 30, 31] (by decide +kernel) (by decide +kernel)
set_option maxRecDepth 20000 in
theorem gX6_readyIn_X6_no : GoodIn wsX6_readyIn (wsV RX6 42 RX6 yX6_no wsX6_no) := goodIn_app (goodIn_of _ (by decide +kernel)) ggX6_readyIn_X6_no
set_option maxRecDepth 20000 in
theorem ggX6_readyIn_X6_readyNow : GoodIn wsX6_readyIn wsX6_readyNow := goodIn_r _ [20, 2, 21, 22, 23, 24, 25, 26, 27, 7, 28, 29, 30, 31] (by decide +kernel) (by decide +kernel)
set_option maxRecDepth 20000 in
theorem gX6_readyIn_X6_readyNow : GoodIn wsX6_readyIn (wsV RX6 163 RX6 yX6_readyNow wsX6_readyNow) := goodIn_app (goodIn_of _ (by decide +kernel)) ggX6_readyIn_X6_readyNow
theorem dX6_readyIn_0 : decode cX6_readyIn 0 = .ok (.aload_n 0, 1) := by decide +kernel
theorem dX6_readyIn_1 : decode cX6_readyIn 1 = .ok (.iconst 0, 1) := by decide +kernel
theorem dX6_readyIn_2 : decode cX6_readyIn 2 = .ok (.putfield 16, 3) := by decide +kernel
theorem dX6_readyIn_5 : decode cX6_readyIn 5 = .ok (.aload_n 0, 1) := by decide +kernel
theorem dX6_readyIn_6 : decode cX6_readyIn 6 = .ok (.iload_n 1, 1) := by decide +kernel
theorem dX6_readyIn_7 : decode cX6_readyIn 7 = .ok (.invokevirtual 82, 3) := by decide +kernel
theorem dX6_readyIn_10 : decode cX6_readyIn 10 = .ok (.ifCond .ne 9, 3) := by decide +kernel
theorem dX6_readyIn_13 : decode cX6_readyIn 13 = .ok (.aload_n 0, 1) := by decide +kernel
theorem dX6_readyIn_14 : decode cX6_readyIn 14 = .ok (.iconst 1, 1) := by decide +kernel
theorem dX6_readyIn_15 : decode cX6_readyIn 15 = .ok (.invokevirtual 42, 3) := by decide +kernel
theorem dX6_readyIn_18 : decode cX6_readyIn 18 = .ok (.ireturn, 1) := by decide +kernel
theorem dX6_readyIn_19 : decode cX6_readyIn 19 = .ok (.aload_n 0, 1) := by decide +kernel
theorem dX6_readyIn_20 : decode cX6_readyIn 20 = .ok (.aload_n 0, 1) := by decide +kernel
theorem dX6_readyIn_21 : decode cX6_readyIn 21 = .ok (.getfield 10, 3) := by decide +kernel
theorem dX6_readyIn_24 : decode cX6_readyIn 24 = .ok (.getfield 60, 3) := by decide +kernel
theorem dX6_readyIn_27 : decode cX6_readyIn 27 = .ok (.iload_n 1, 1) := by decide +kernel
theorem dX6_readyIn_28 : decode cX6_readyIn 28 = .ok (.aaload, 1) := by decide +kernel
theorem dX6_readyIn_29 : decode cX6_readyIn 29 = .ok (.invokevirtual 163, 3) := by decide +kernel
theorem dX6_readyIn_32 : decode cX6_readyIn 32 = .ok (.ireturn, 1) := by decide +kernel
set_option maxRecDepth 20000 in
theorem ggX6_meltsNow_X5_copy : GoodIn wsX6_meltsNow wsX5_copy := goodIn_r _ [7, 8, 9, 6, 10, 11, 12, 13, 14, 15, 16, 17, 18, 19, 20, 21, 22, 23, 24, 25, 26, 27, 28, 29, 30, 31, 32, 33, 34, 35, 36, 37, 38, 111, 112, 113, 114, 115, 116, 117, 118, 119, 120, 121, 122, 123, 124] (by decide +kernel) (by decide +kernel)
set_option maxRecDepth 20000 in
theorem gX6_meltsNow_X5_copy : GoodIn wsX6_meltsNow (wsV RX6 166 RX5 yX5_copy wsX5_copy) := goodIn_app (goodIn_of _ (by decide +kernel)) ggX6_meltsNow_X5_copy
set_option maxRecDepth 20000 in
theorem ggX6_meltsNow_X5_go : GoodIn wsX6_meltsNow wsX5_go := goodIn_r _ [42, 23, 20, 10, 21, 13, 25, 24, 26, 35, 43, 44, 6, 45, 46, 47, 48, 49, 50, 51, 52, 53, 54, 55, 56, 57, 58, 59, 60, 61, 62, 63, 64, 65, 66, 67, 68, 69, 12, 11, 70, 71, 72, 73, 74, 75, 76, 77, 78, 79, 80, 81, 82, 83, 84, 85, 86, 87, 88, 89, 90, 91, 92, 93, 94, 95, 96, 97, 98, 99, 100, 101, 102, 103, 14, 104, 105, 106, 107, 108, 111, 112, 113, 114, 115, 116, 117, 118, 119, 120, 121, 122, 123, 124] (by decide +kernel) (by decide +kernel)
set_option maxRecDepth 20000 in
theorem gX6_meltsNow_X5_go : GoodIn wsX6_meltsNow (wsV RX6 124 RX5 yX5_go wsX5_go) := goodIn_app (goodIn_of _ (by decide +kernel)) ggX6_meltsNow_X5_go
theorem dX6_meltsNow_0 : decode cX6_meltsNow 0 = .ok (.aload_n 0, 1) := by decide +kernel
theorem dX6_meltsNow_1 : decode cX6_meltsNow 1 = .ok (.getfield 10, 3) := by decide +kernel
theorem dX6_meltsNow_4 : decode cX6_meltsNow 4 = .ok (.getfield 60, 3) := by decide +kernel
theorem dX6_meltsNow_7 : decode cX6_meltsNow 7 = .ok (.iload_n 1, 1) := by decide +kernel
theorem dX6_meltsNow_8 : decode cX6_meltsNow 8 = .ok (.aaload, 1) := by decide +kernel
theorem dX6_meltsNow_9 : decode cX6_meltsNow 9 = .ok (.bipush 7, 2) := by decide +kernel
theorem dX6_meltsNow_11 : decode cX6_meltsNow 11 = .ok (.iaload, 1) := by decide +kernel
theorem dX6_meltsNow_12 : decode cX6_meltsNow 12 = .ok (.bipush 7, 2) := by decide +kernel
theorem dX6_meltsNow_14 : decode cX6_meltsNow 14 = .ok (.if_icmp .ne 5, 3) := by decide +kernel
theorem dX6_meltsNow_17 : decode cX6_meltsNow 17 = .ok (.iconst (-1), 1) := by decide +kernel
theorem dX6_meltsNow_18 : decode cX6_meltsNow 18 = .ok (.ireturn, 1) := by decide +kernel
theorem dX6_meltsNow_19 : decode cX6_meltsNow 19 = .ok (.aload_n 0, 1) := by decide +kernel
theorem dX6_meltsNow_20 : decode cX6_meltsNow 20 = .ok (.getfield 10, 3) := by decide +kernel
theorem dX6_meltsNow_23 : decode cX6_meltsNow 23 = .ok (.invokevirtual 166, 3) := by decide +kernel
theorem dX6_meltsNow_26 : decode cX6_meltsNow 26 = .ok (.astore 4, 2) := by decide +kernel
theorem dX6_meltsNow_28 : decode cX6_meltsNow 28 = .ok (.iconst 1, 1) := by decide +kernel
theorem dX6_meltsNow_29 : decode cX6_meltsNow 29 = .ok (.istore 5, 2) := by decide +kernel
theorem dX6_meltsNow_31 : decode cX6_meltsNow 31 = .ok (.iload 5, 2) := by decide +kernel
theorem dX6_meltsNow_33 : decode cX6_meltsNow 33 = .ok (.bipush 60, 2) := by decide +kernel
theorem dX6_meltsNow_35 : decode cX6_meltsNow 35 = .ok (.if_icmp .gt 35, 3) := by decide +kernel
theorem dX6_meltsNow_38 : decode cX6_meltsNow 38 = .ok (.aload 4, 2) := by decide +kernel
theorem dX6_meltsNow_40 : decode cX6_meltsNow 40 = .ok (.iload_n 2, 1) := by decide +kernel
theorem dX6_meltsNow_41 : decode cX6_meltsNow 41 = .ok (.iload_n 3, 1) := by decide +kernel
theorem dX6_meltsNow_42 : decode cX6_meltsNow 42 = .ok (.invokevirtual 124, 3) := by decide +kernel
theorem dX6_meltsNow_45 : decode cX6_meltsNow 45 = .ok (.pop, 1) := by decide +kernel
theorem dX6_meltsNow_46 : decode cX6_meltsNow 46 = .ok (.aload 4, 2) := by decide +kernel
theorem dX6_meltsNow_48 : decode cX6_meltsNow 48 = .ok (.getfield 60, 3) := by decide +kernel
theorem dX6_meltsNow_51 : decode cX6_meltsNow 51 = .ok (.iload_n 1, 1) := by decide +kernel
theorem dX6_meltsNow_52 : decode cX6_meltsNow 52 = .ok (.aaload, 1) := by decide +kernel
theorem dX6_meltsNow_53 : decode cX6_meltsNow 53 = .ok (.bipush 7, 2) := by decide +kernel
theorem dX6_meltsNow_55 : decode cX6_meltsNow 55 = .ok (.iaload, 1) := by decide +kernel
theorem dX6_meltsNow_56 : decode cX6_meltsNow 56 = .ok (.bipush 7, 2) := by decide +kernel
theorem dX6_meltsNow_58 : decode cX6_meltsNow 58 = .ok (.if_icmp .ne 6, 3) := by decide +kernel
theorem dX6_meltsNow_61 : decode cX6_meltsNow 61 = .ok (.iload 5, 2) := by decide +kernel
theorem dX6_meltsNow_63 : decode cX6_meltsNow 63 = .ok (.ireturn, 1) := by decide +kernel
theorem dX6_meltsNow_64 : decode cX6_meltsNow 64 = .ok (.iinc 5 1, 3) := by decide +kernel
theorem dX6_meltsNow_67 : decode cX6_meltsNow 67 = .ok (.goto (-36), 3) := by decide +kernel
theorem dX6_meltsNow_70 : decode cX6_meltsNow 70 = .ok (.iconst (-1), 1) := by decide +kernel
theorem dX6_meltsNow_71 : decode cX6_meltsNow 71 = .ok (.ireturn, 1) := by decide +kernel
set_option maxRecDepth 20000 in
theorem ggX6_meltsIn_X6_isFigure : GoodIn wsX6_meltsIn wsX6_isFigure := goodIn_r _ [6, 7, 8, 9, 10, 5, 11, 124, 125, 126, 127, 128, 129, 130, 131, 132, 133, 134, 135, 136, 137, 138, 139] (by decide +kernel) (by decide +kernel)
set_option maxRecDepth 20000 in
theorem gX6_meltsIn_X6_isFigure : GoodIn wsX6_meltsIn (wsV RX6 82 RX6 yX6_isFigure wsX6_isFigure) := goodIn_app (goodIn_of _ (by decide +kernel)) ggX6_meltsIn_X6_isFigure
set_option maxRecDepth 20000 in
theorem ggX6_meltsIn_X6_no : GoodIn wsX6_meltsIn wsX6_no := goodIn_r _ [15, 1, 124, 125] (by decide +kernel) (by decide +kernel)
set_option maxRecDepth 20000 in
theorem gX6_meltsIn_X6_no : GoodIn wsX6_meltsIn (wsV RX6 42 RX6 yX6_no wsX6_no) := goodIn_app (goodIn_of _ (by decide +kernel)) ggX6_meltsIn_X6_no
set_option maxRecDepth 20000 in
theorem ggX6_meltsIn_X6_in : GoodIn wsX6_meltsIn wsX6_in := goodIn_r _ [11] (by decide +kernel) (by decide +kernel)
set_option maxRecDepth 20000 in
theorem gX6_meltsIn_X6_in : GoodIn wsX6_meltsIn (va_wsS RX6 32 yX6_in wsX6_in) := goodIn_app (goodIn_of _ (by decide +kernel)) ggX6_meltsIn_X6_in
set_option maxRecDepth 20000 in
theorem ggX6_meltsIn_X6_meltsNow : GoodIn wsX6_meltsIn wsX6_meltsNow := goodIn_r _ [19, 7, 20, 21, 22, 23, 24, 25, 26, 27, 28, 29, 30, 31, 32, 33, 34, 35, 36, 37, 38, 39, 40, 41, 42, 43, 44, 45, 46, 47, 48, 49, 50, 51, 52, 53, 54, 55, 56, 57, 58, 59, 60, 61, 62, 63, 64, 5, 65, 66, 67, 68, 69, 70, 71, 72, 73, 74, 75, 76, 77, 78, 79, 80, 81, 82, 83, 84, 85, 86, 87, 88, 89, 90, 10, 11, 91, 92, 93, 94, 95, 96, 97, 98, 99, 100, 101, 102, 103, 104, 105, 106, 107, 108, 109, 110, 111, 112, 113, 114, 115, 116, 117, 118, 119, 120, 121, 122, 123, 124, 125, 126, 127, 128, 129, 130, 131, 132, 133, 134, 135, 136, 137, 138, 139] (by decide +kernel) (by decide +kernel)
set_option maxRecDepth 20000 in
theorem gX6_meltsIn_X6_meltsNow : GoodIn wsX6_meltsIn (wsV RX6 170 RX6 yX6_meltsNow wsX6_meltsNow) := goodIn_app (goodIn_of _ (by decide +kernel)) ggX6_meltsIn_X6_meltsNow
theorem dX6_meltsIn_0 : decode cX6_meltsIn 0 = .ok (.aload_n 0, 1) := by decide +kernel
theorem dX6_meltsIn_1 : decode cX6_meltsIn 1 = .ok (.iconst 0, 1) := by decide +kernel
theorem dX6_meltsIn_2 : decode cX6_meltsIn 2 = .ok (.putfield 16, 3) := by decide +kernel
theorem dX6_meltsIn_5 : decode cX6_meltsIn 5 = .ok (.aload_n 0, 1) := by decide +kernel
theorem dX6_meltsIn_6 : decode cX6_meltsIn 6 = .ok (.iload_n 1, 1) := by decide +kernel
theorem dX6_meltsIn_7 : decode cX6_meltsIn 7 = .ok (.invokevirtual 82, 3) := by decide +kernel
theorem dX6_meltsIn_10 : decode cX6_meltsIn 10 = .ok (.ifCond .ne 9, 3) := by decide +kernel
theorem dX6_meltsIn_13 : decode cX6_meltsIn 13 = .ok (.aload_n 0, 1) := by decide +kernel
theorem dX6_meltsIn_14 : decode cX6_meltsIn 14 = .ok (.iconst 1, 1) := by decide +kernel
theorem dX6_meltsIn_15 : decode cX6_meltsIn 15 = .ok (.invokevirtual 42, 3) := by decide +kernel
theorem dX6_meltsIn_18 : decode cX6_meltsIn 18 = .ok (.ireturn, 1) := by decide +kernel
theorem dX6_meltsIn_19 : decode cX6_meltsIn 19 = .ok (.iload_n 2, 1) := by decide +kernel
theorem dX6_meltsIn_20 : decode cX6_meltsIn 20 = .ok (.iconst 0, 1) := by decide +kernel
theorem dX6_meltsIn_21 : decode cX6_meltsIn 21 = .ok (.sipush 2000, 3) := by decide +kernel
theorem dX6_meltsIn_24 : decode cX6_meltsIn 24 = .ok (.invokestatic 32, 3) := by decide +kernel
theorem dX6_meltsIn_27 : decode cX6_meltsIn 27 = .ok (.ifCond .eq 13, 3) := by decide +kernel
theorem dX6_meltsIn_30 : decode cX6_meltsIn 30 = .ok (.iload_n 3, 1) := by decide +kernel
theorem dX6_meltsIn_31 : decode cX6_meltsIn 31 = .ok (.iconst 0, 1) := by decide +kernel
theorem dX6_meltsIn_32 : decode cX6_meltsIn 32 = .ok (.bipush 40, 2) := by decide +kernel
theorem dX6_meltsIn_34 : decode cX6_meltsIn 34 = .ok (.invokestatic 32, 3) := by decide +kernel
theorem dX6_meltsIn_37 : decode cX6_meltsIn 37 = .ok (.ifCond .ne 9, 3) := by decide +kernel
theorem dX6_meltsIn_40 : decode cX6_meltsIn 40 = .ok (.aload_n 0, 1) := by decide +kernel
theorem dX6_meltsIn_41 : decode cX6_meltsIn 41 = .ok (.iconst 2, 1) := by decide +kernel
theorem dX6_meltsIn_42 : decode cX6_meltsIn 42 = .ok (.invokevirtual 42, 3) := by decide +kernel
theorem dX6_meltsIn_45 : decode cX6_meltsIn 45 = .ok (.ireturn, 1) := by decide +kernel
theorem dX6_meltsIn_46 : decode cX6_meltsIn 46 = .ok (.aload_n 0, 1) := by decide +kernel
theorem dX6_meltsIn_47 : decode cX6_meltsIn 47 = .ok (.iload_n 1, 1) := by decide +kernel
theorem dX6_meltsIn_48 : decode cX6_meltsIn 48 = .ok (.iload_n 2, 1) := by decide +kernel
theorem dX6_meltsIn_49 : decode cX6_meltsIn 49 = .ok (.iload_n 3, 1) := by decide +kernel
theorem dX6_meltsIn_50 : decode cX6_meltsIn 50 = .ok (.invokevirtual 170, 3) := by decide +kernel
theorem dX6_meltsIn_53 : decode cX6_meltsIn 53 = .ok (.ireturn, 1) := by decide +kernel
theorem dX6_hasFigure_0 : decode cX6_hasFigure 0 = .ok (.iconst 0, 1) := by decide +kernel
theorem dX6_hasFigure_1 : decode cX6_hasFigure 1 = .ok (.istore_n 2, 1) := by decide +kernel
theorem dX6_hasFigure_2 : decode cX6_hasFigure 2 = .ok (.iload_n 2, 1) := by decide +kernel
theorem dX6_hasFigure_3 : decode cX6_hasFigure 3 = .ok (.aload_n 0, 1) := by decide +kernel
theorem dX6_hasFigure_4 : decode cX6_hasFigure 4 = .ok (.getfield 10, 3) := by decide +kernel
theorem dX6_hasFigure_7 : decode cX6_hasFigure 7 = .ok (.getfield 36, 3) := by decide +kernel
theorem dX6_hasFigure_10 : decode cX6_hasFigure 10 = .ok (.if_icmp .ge 43, 3) := by decide +kernel
theorem dX6_hasFigure_13 : decode cX6_hasFigure 13 = .ok (.aload_n 0, 1) := by decide +kernel
theorem dX6_hasFigure_14 : decode cX6_hasFigure 14 = .ok (.getfield 10, 3) := by decide +kernel
theorem dX6_hasFigure_17 : decode cX6_hasFigure 17 = .ok (.getfield 60, 3) := by decide +kernel
theorem dX6_hasFigure_20 : decode cX6_hasFigure 20 = .ok (.iload_n 2, 1) := by decide +kernel
theorem dX6_hasFigure_21 : decode cX6_hasFigure 21 = .ok (.aaload, 1) := by decide +kernel
theorem dX6_hasFigure_22 : decode cX6_hasFigure 22 = .ok (.bipush 7, 2) := by decide +kernel
theorem dX6_hasFigure_24 : decode cX6_hasFigure 24 = .ok (.iaload, 1) := by decide +kernel
theorem dX6_hasFigure_25 : decode cX6_hasFigure 25 = .ok (.bipush 7, 2) := by decide +kernel
theorem dX6_hasFigure_27 : decode cX6_hasFigure 27 = .ok (.if_icmp .eq 20, 3) := by decide +kernel
theorem dX6_hasFigure_30 : decode cX6_hasFigure 30 = .ok (.aload_n 0, 1) := by decide +kernel
theorem dX6_hasFigure_31 : decode cX6_hasFigure 31 = .ok (.getfield 10, 3) := by decide +kernel
theorem dX6_hasFigure_34 : decode cX6_hasFigure 34 = .ok (.getfield 60, 3) := by decide +kernel
theorem dX6_hasFigure_37 : decode cX6_hasFigure 37 = .ok (.iload_n 2, 1) := by decide +kernel
theorem dX6_hasFigure_38 : decode cX6_hasFigure 38 = .ok (.aaload, 1) := by decide +kernel
theorem dX6_hasFigure_39 : decode cX6_hasFigure 39 = .ok (.iconst 0, 1) := by decide +kernel
theorem dX6_hasFigure_40 : decode cX6_hasFigure 40 = .ok (.iaload, 1) := by decide +kernel
theorem dX6_hasFigure_41 : decode cX6_hasFigure 41 = .ok (.iload_n 1, 1) := by decide +kernel
theorem dX6_hasFigure_42 : decode cX6_hasFigure 42 = .ok (.if_icmp .ne 5, 3) := by decide +kernel
theorem dX6_hasFigure_45 : decode cX6_hasFigure 45 = .ok (.iconst 1, 1) := by decide +kernel
theorem dX6_hasFigure_46 : decode cX6_hasFigure 46 = .ok (.ireturn, 1) := by decide +kernel
theorem dX6_hasFigure_47 : decode cX6_hasFigure 47 = .ok (.iinc 2 1, 3) := by decide +kernel
theorem dX6_hasFigure_50 : decode cX6_hasFigure 50 = .ok (.goto (-48), 3) := by decide +kernel
theorem dX6_hasFigure_53 : decode cX6_hasFigure 53 = .ok (.iconst 0, 1) := by decide +kernel
theorem dX6_hasFigure_54 : decode cX6_hasFigure 54 = .ok (.ireturn, 1) := by decide +kernel
set_option maxRecDepth 20000 in
theorem ggX6_nextNow_X6_hasFigure : GoodIn wsX6_nextNow wsX6_hasFigure := goodIn_r _ [8, 1, 9, 10, 43, 44, 45, 46, 47, 48, 49, 50, 51, 52, 53, 54, 55, 56, 57, 58] (by decide +kernel) (by decide +kernel)
set_option maxRecDepth 20000 in
theorem gX6_nextNow_X6_hasFigure : GoodIn wsX6_nextNow (wsV RX6 173 RX6 yX6_hasFigure wsX6_hasFigure) := goodIn_app (goodIn_of _ (by decide +kernel)) ggX6_nextNow_X6_hasFigure
set_option maxRecDepth 20000 in
theorem ggX6_nextNow_X6_fameNow : GoodIn wsX6_nextNow wsX6_fameNow := goodIn_r _ [14, 15, 1, 3, 16, 17, 18, 19, 20, 21, 22, 23, 24, 7, 25, 26, 27, 28, 29, 30, 31, 32, 33, 34, 35, 36, 43, 44, 45, 46, 47, 48, 49, 50, 51, 52, 53, 54, 55, 56, 57, 58] (by decide +kernel) (by decide +kernel)
set_option maxRecDepth 20000 in
theorem gX6_nextNow_X6_fameNow : GoodIn wsX6_nextNow (wsV RX6 159 RX6 yX6_fameNow wsX6_fameNow) := goodIn_app (goodIn_of _ (by decide +kernel)) ggX6_nextNow_X6_fameNow
set_option maxRecDepth 20000 in
theorem ggX6_nextNow_X5_doubt : GoodIn wsX6_nextNow wsX5_doubt := goodIn_r _ [40, 41, 42, 45, 46, 47, 48, 49, 50, 51, 52, 53, 54, 55, 56, 57, 58] (by decide +kernel) (by decide +kernel)
set_option maxRecDepth 20000 in
theorem gX6_nextNow_X5_doubt : GoodIn wsX6_nextNow (wsV RX6 127 RX5 yX5_doubt wsX5_doubt) := goodIn_app (goodIn_of _ (by decide +kernel)) ggX6_nextNow_X5_doubt
theorem dX6_nextNow_0 : decode cX6_nextNow 0 = .ok (.iconst (-1), 1) := by decide +kernel
theorem dX6_nextNow_1 : decode cX6_nextNow 1 = .ok (.istore_n 1, 1) := by decide +kernel
theorem dX6_nextNow_2 : decode cX6_nextNow 2 = .ok (.iconst 0, 1) := by decide +kernel
theorem dX6_nextNow_3 : decode cX6_nextNow 3 = .ok (.istore_n 2, 1) := by decide +kernel
theorem dX6_nextNow_4 : decode cX6_nextNow 4 = .ok (.iload_n 2, 1) := by decide +kernel
theorem dX6_nextNow_5 : decode cX6_nextNow 5 = .ok (.aload_n 0, 1) := by decide +kernel
theorem dX6_nextNow_6 : decode cX6_nextNow 6 = .ok (.getfield 10, 3) := by decide +kernel
theorem dX6_nextNow_9 : decode cX6_nextNow 9 = .ok (.getfield 29, 3) := by decide +kernel
theorem dX6_nextNow_12 : decode cX6_nextNow 12 = .ok (.if_icmp .ge 91, 3) := by decide +kernel
theorem dX6_nextNow_15 : decode cX6_nextNow 15 = .ok (.aload_n 0, 1) := by decide +kernel
theorem dX6_nextNow_16 : decode cX6_nextNow 16 = .ok (.getfield 10, 3) := by decide +kernel
theorem dX6_nextNow_19 : decode cX6_nextNow 19 = .ok (.getfield 46, 3) := by decide +kernel
theorem dX6_nextNow_22 : decode cX6_nextNow 22 = .ok (.iload_n 2, 1) := by decide +kernel
theorem dX6_nextNow_23 : decode cX6_nextNow 23 = .ok (.aaload, 1) := by decide +kernel
theorem dX6_nextNow_24 : decode cX6_nextNow 24 = .ok (.bipush 6, 2) := by decide +kernel
theorem dX6_nextNow_26 : decode cX6_nextNow 26 = .ok (.iaload, 1) := by decide +kernel
theorem dX6_nextNow_27 : decode cX6_nextNow 27 = .ok (.ifCond .eq 70, 3) := by decide +kernel
theorem dX6_nextNow_30 : decode cX6_nextNow 30 = .ok (.aload_n 0, 1) := by decide +kernel
theorem dX6_nextNow_31 : decode cX6_nextNow 31 = .ok (.iload_n 2, 1) := by decide +kernel
theorem dX6_nextNow_32 : decode cX6_nextNow 32 = .ok (.invokevirtual 173, 3) := by decide +kernel
theorem dX6_nextNow_35 : decode cX6_nextNow 35 = .ok (.ifCond .eq 6, 3) := by decide +kernel
theorem dX6_nextNow_38 : decode cX6_nextNow 38 = .ok (.goto 59, 3) := by decide +kernel
theorem dX6_nextNow_41 : decode cX6_nextNow 41 = .ok (.iload_n 1, 1) := by decide +kernel
theorem dX6_nextNow_42 : decode cX6_nextNow 42 = .ok (.iconst (-1), 1) := by decide +kernel
theorem dX6_nextNow_43 : decode cX6_nextNow 43 = .ok (.if_icmp .ne 7, 3) := by decide +kernel
theorem dX6_nextNow_46 : decode cX6_nextNow 46 = .ok (.iconst 1, 1) := by decide +kernel
theorem dX6_nextNow_47 : decode cX6_nextNow 47 = .ok (.goto 20, 3) := by decide +kernel
theorem dX6_nextNow_50 : decode cX6_nextNow 50 = .ok (.aload_n 0, 1) := by decide +kernel
theorem dX6_nextNow_51 : decode cX6_nextNow 51 = .ok (.iload_n 2, 1) := by decide +kernel
theorem dX6_nextNow_52 : decode cX6_nextNow 52 = .ok (.iconst 0, 1) := by decide +kernel
theorem dX6_nextNow_53 : decode cX6_nextNow 53 = .ok (.bipush 6, 2) := by decide +kernel
theorem dX6_nextNow_55 : decode cX6_nextNow 55 = .ok (.invokevirtual 159, 3) := by decide +kernel
theorem dX6_nextNow_58 : decode cX6_nextNow 58 = .ok (.aload_n 0, 1) := by decide +kernel
theorem dX6_nextNow_59 : decode cX6_nextNow 59 = .ok (.iload_n 1, 1) := by decide +kernel
theorem dX6_nextNow_60 : decode cX6_nextNow 60 = .ok (.iconst 0, 1) := by decide +kernel
theorem dX6_nextNow_61 : decode cX6_nextNow 61 = .ok (.bipush 6, 2) := by decide +kernel
theorem dX6_nextNow_63 : decode cX6_nextNow 63 = .ok (.invokevirtual 159, 3) := by decide +kernel
theorem dX6_nextNow_66 : decode cX6_nextNow 66 = .ok (.isub, 1) := by decide +kernel
theorem dX6_nextNow_67 : decode cX6_nextNow 67 = .ok (.istore_n 3, 1) := by decide +kernel
theorem dX6_nextNow_68 : decode cX6_nextNow 68 = .ok (.iload_n 3, 1) := by decide +kernel
theorem dX6_nextNow_69 : decode cX6_nextNow 69 = .ok (.ifCond .gt 26, 3) := by decide +kernel
theorem dX6_nextNow_72 : decode cX6_nextNow 72 = .ok (.iload_n 3, 1) := by decide +kernel
theorem dX6_nextNow_73 : decode cX6_nextNow 73 = .ok (.ifCond .ne 24, 3) := by decide +kernel
theorem dX6_nextNow_76 : decode cX6_nextNow 76 = .ok (.aload_n 0, 1) := by decide +kernel
theorem dX6_nextNow_77 : decode cX6_nextNow 77 = .ok (.getfield 10, 3) := by decide +kernel
theorem dX6_nextNow_80 : decode cX6_nextNow 80 = .ok (.iload_n 2, 1) := by decide +kernel
theorem dX6_nextNow_81 : decode cX6_nextNow 81 = .ok (.invokevirtual 127, 3) := by decide +kernel
theorem dX6_nextNow_84 : decode cX6_nextNow 84 = .ok (.aload_n 0, 1) := by decide +kernel
theorem dX6_nextNow_85 : decode cX6_nextNow 85 = .ok (.getfield 10, 3) := by decide +kernel
theorem dX6_nextNow_88 : decode cX6_nextNow 88 = .ok (.iload_n 1, 1) := by decide +kernel
theorem dX6_nextNow_89 : decode cX6_nextNow 89 = .ok (.invokevirtual 127, 3) := by decide +kernel
theorem dX6_nextNow_92 : decode cX6_nextNow 92 = .ok (.if_icmp .ge 5, 3) := by decide +kernel
theorem dX6_nextNow_95 : decode cX6_nextNow 95 = .ok (.iload_n 2, 1) := by decide +kernel
theorem dX6_nextNow_96 : decode cX6_nextNow 96 = .ok (.istore_n 1, 1) := by decide +kernel
theorem dX6_nextNow_97 : decode cX6_nextNow 97 = .ok (.iinc 2 1, 3) := by decide +kernel
theorem dX6_nextNow_100 : decode cX6_nextNow 100 = .ok (.goto (-96), 3) := by decide +kernel
theorem dX6_nextNow_103 : decode cX6_nextNow 103 = .ok (.iload_n 1, 1) := by decide +kernel
theorem dX6_nextNow_104 : decode cX6_nextNow 104 = .ok (.ireturn, 1) := by decide +kernel
set_option maxRecDepth 20000 in
theorem ggX6_bestNext_X6_nextNow : GoodIn wsX6_bestNext wsX6_nextNow := goodIn_r _ [6, 7, 8, 9, 10, 11, 12, 5, 13, 14, 15, 16, 17, 18, 19, 20, 21, 22, 23, 24, 25, 26, 27, 28, 29, 30, 31, 32, 33, 34, 35, 36, 37, 38, 39, 40, 41, 42, 43, 44, 45, 46, 47, 48, 49, 50, 51, 52, 53, 54, 55, 56, 57, 58, 59, 60, 61, 62, 63] (by decide +kernel) (by decide +kernel)
set_option maxRecDepth 20000 in
theorem gX6_bestNext_X6_nextNow : GoodIn wsX6_bestNext (wsV RX6 176 RX6 yX6_nextNow wsX6_nextNow) := goodIn_app (goodIn_of _ (by decide +kernel)) ggX6_bestNext_X6_nextNow
theorem dX6_bestNext_0 : decode cX6_bestNext 0 = .ok (.aload_n 0, 1) := by decide +kernel
theorem dX6_bestNext_1 : decode cX6_bestNext 1 = .ok (.iconst 0, 1) := by decide +kernel
theorem dX6_bestNext_2 : decode cX6_bestNext 2 = .ok (.putfield 16, 3) := by decide +kernel
theorem dX6_bestNext_5 : decode cX6_bestNext 5 = .ok (.aload_n 0, 1) := by decide +kernel
theorem dX6_bestNext_6 : decode cX6_bestNext 6 = .ok (.invokevirtual 176, 3) := by decide +kernel
theorem dX6_bestNext_9 : decode cX6_bestNext 9 = .ok (.ireturn, 1) := by decide +kernel
set_option maxRecDepth 20000 in
theorem ggX6_digest_X6_manyNow : GoodIn wsX6_digest wsX6_manyNow := goodIn_r _ [15, 4, 8, 9, 5, 16, 17, 18, 10, 19, 20, 21, 22, 23, 24, 25, 26, 27, 28, 29, 30, 14, 31, 32, 33, 34, 35, 36, 37, 38, 39, 40, 41, 42, 43, 44, 45, 46, 47, 48, 49, 50, 51, 52, 53, 54, 55, 56, 57, 58, 59, 60, 61, 62, 63, 64, 65, 66, 67, 68, 69, 70, 71, 186, 187, 188, 189, 190, 191, 192, 193, 194, 195, 196, 197, 198, 199, 200, 201] (by decide +kernel) (by decide +kernel)
set_option maxRecDepth 20000 in
theorem gX6_digest_X6_manyNow : GoodIn wsX6_digest (wsV RX6 152 RX6 yX6_manyNow wsX6_manyNow) := goodIn_app (goodIn_of _ (by decide +kernel)) ggX6_digest_X6_manyNow
set_option maxRecDepth 20000 in
theorem ggX6_digest_X6_personNow : GoodIn wsX6_digest wsX6_personNow := goodIn_r _ [75, 4, 16, 76, 77, 78, 26, 79, 71, 70, 80, 81, 82, 83, 39, 40, 50, 51, 52, 53, 186, 187, 188, 189, 190, 191, 192, 193, 194, 195, 196, 197, 198, 199, 200, 201] (by decide +kernel) (by decide +kernel)
set_option maxRecDepth 20000 in
theorem gX6_digest_X6_personNow : GoodIn wsX6_digest (wsV RX6 130 RX6 yX6_personNow wsX6_personNow) := goodIn_app (goodIn_of _ (by decide +kernel)) ggX6_digest_X6_personNow
set_option maxRecDepth 20000 in
theorem ggX6_digest_X6_fameNow : GoodIn wsX6_digest wsX6_fameNow := goodIn_r _ [87, 17, 4, 16, 88, 89, 90, 91, 92, 93, 26, 94, 95, 14, 96, 97, 98, 60, 99, 100, 63, 64, 101, 102, 103, 104, 186, 187, 188, 189, 190, 191, 192, 193, 194, 195, 196, 197, 198, 199, 200, 201] (by decide +kernel) (by decide +kernel)
set_option maxRecDepth 20000 in
theorem gX6_digest_X6_fameNow : GoodIn wsX6_digest (wsV RX6 159 RX6 yX6_fameNow wsX6_fameNow) := goodIn_app (goodIn_of _ (by decide +kernel)) ggX6_digest_X6_fameNow
set_option maxRecDepth 20000 in
theorem ggX6_digest_X6_figureNow : GoodIn wsX6_digest wsX6_figureNow := goodIn_r _ [108, 17, 4, 109, 55, 56, 26, 57, 58, 59, 60, 61, 62, 63, 64, 65, 24, 25, 27, 66, 67, 68, 69, 70, 71, 110, 46, 47, 48, 49, 50, 51, 52, 53, 54, 186, 187, 188, 189, 190, 191, 192, 193, 194, 195, 196, 197, 198, 199, 200, 201] (by decide +kernel) (by decide +kernel)
set_option maxRecDepth 20000 in
theorem gX6_digest_X6_figureNow : GoodIn wsX6_digest (wsV RX6 133 RX6 yX6_figureNow wsX6_figureNow) := goodIn_app (goodIn_of _ (by decide +kernel)) ggX6_digest_X6_figureNow
set_option maxRecDepth 20000 in
theorem ggX6_digest_X6_readyNow : GoodIn wsX6_digest wsX6_readyNow := goodIn_r _ [114, 4, 23, 24, 25, 26, 27, 115, 116, 14, 117, 17, 186, 187] (by decide +kernel) (by decide +kernel)
set_option maxRecDepth 20000 in
theorem gX6_digest_X6_readyNow : GoodIn wsX6_digest (wsV RX6 163 RX6 yX6_readyNow wsX6_readyNow) := goodIn_app (goodIn_of _ (by decide +kernel)) ggX6_digest_X6_readyNow
set_option maxRecDepth 20000 in
theorem ggX6_digest_X6_meltsNow : GoodIn wsX6_digest wsX6_meltsNow := goodIn_r _ [121, 4, 9, 122, 123, 124, 26, 125, 126, 127, 49, 70, 71, 40, 128, 129, 89, 90, 91, 130, 131, 39, 132, 133, 134, 135, 136, 137, 138, 139, 140, 141, 142, 143, 144, 17, 145, 146, 147, 148, 149, 150, 151, 152, 93, 94, 95, 14, 96, 97, 98, 60, 99, 100, 63, 64, 101, 102, 103, 104, 153, 154, 155, 156, 116, 117, 157, 77, 78, 79, 158, 42, 43, 44, 33, 34, 45, 46, 47, 48, 50, 51, 52, 53, 54, 55, 56, 57, 58, 59, 61, 62, 65, 24, 25, 27, 66, 67, 68, 69, 159, 160, 161, 162, 163, 164, 165, 166, 167, 186, 187, 188, 189, 190, 191, 192, 193, 194, 195, 196, 197, 198, 199, 200, 201] (by decide +kernel) (by decide +kernel)
set_option maxRecDepth 20000 in
theorem gX6_digest_X6_meltsNow : GoodIn wsX6_digest (wsV RX6 170 RX6 yX6_meltsNow wsX6_meltsNow) := goodIn_app (goodIn_of _ (by decide +kernel)) ggX6_digest_X6_meltsNow
set_option maxRecDepth 20000 in
theorem ggX6_digest_X6_roomNow : GoodIn wsX6_digest wsX6_roomNow := goodIn_r _ [171, 17, 4, 172, 173, 174, 175, 176, 26, 177, 39, 40, 41, 42, 43, 44, 33, 14, 34, 45, 46, 47, 48, 49, 50, 51, 52, 53, 54, 55, 56, 57, 58, 59, 60, 61, 62, 63, 64, 65, 24, 25, 27, 66, 67, 68, 69, 70, 71, 186, 187, 188, 189, 190, 191, 192, 193, 194, 195, 196, 197, 198, 199, 200, 201] (by decide +kernel) (by decide +kernel)
set_option maxRecDepth 20000 in
theorem gX6_digest_X6_roomNow : GoodIn wsX6_digest (wsV RX6 140 RX6 yX6_roomNow wsX6_roomNow) := goodIn_app (goodIn_of _ (by decide +kernel)) ggX6_digest_X6_roomNow
set_option maxRecDepth 20000 in
theorem ggX6_digest_X6_nextNow : GoodIn wsX6_digest wsX6_nextNow := goodIn_r _ [181, 4, 5, 16, 182, 183, 184, 14, 185, 8, 9, 84, 85, 86, 87, 17, 88, 89, 90, 91, 92, 93, 26, 94, 95, 96, 97, 98, 60, 99, 100, 63, 64, 101, 102, 103, 104, 76, 77, 78, 79, 71, 70, 186, 187, 188, 189, 190, 191, 192, 193, 194, 195, 196, 197, 198, 199, 200, 201] (by decide +kernel) (by decide +kernel)
set_option maxRecDepth 20000 in
theorem gX6_digest_X6_nextNow : GoodIn wsX6_digest (wsV RX6 176 RX6 yX6_nextNow wsX6_nextNow) := goodIn_app (goodIn_of _ (by decide +kernel)) ggX6_digest_X6_nextNow
theorem dX6_digest_0 : decode cX6_digest 0 = .ok (.aload_n 0, 1) := by decide +kernel
theorem dX6_digest_1 : decode cX6_digest 1 = .ok (.iconst 0, 1) := by decide +kernel
theorem dX6_digest_2 : decode cX6_digest 2 = .ok (.putfield 16, 3) := by decide +kernel
theorem dX6_digest_5 : decode cX6_digest 5 = .ok (.ldc2_w 179, 3) := by decide +kernel
theorem dX6_digest_8 : decode cX6_digest 8 = .ok (.lstore_n 1, 1) := by decide +kernel
theorem dX6_digest_9 : decode cX6_digest 9 = .ok (.iconst 0, 1) := by decide +kernel
theorem dX6_digest_10 : decode cX6_digest 10 = .ok (.istore_n 3, 1) := by decide +kernel
theorem dX6_digest_11 : decode cX6_digest 11 = .ok (.iload_n 3, 1) := by decide +kernel
theorem dX6_digest_12 : decode cX6_digest 12 = .ok (.bipush 14, 2) := by decide +kernel
theorem dX6_digest_14 : decode cX6_digest 14 = .ok (.if_icmp .gt 22, 3) := by decide +kernel
theorem dX6_digest_17 : decode cX6_digest 17 = .ok (.lload_n 1, 1) := by decide +kernel
theorem dX6_digest_18 : decode cX6_digest 18 = .ok (.ldc2_w 181, 3) := by decide +kernel
theorem dX6_digest_21 : decode cX6_digest 21 = .ok (.lmul, 1) := by decide +kernel
theorem dX6_digest_22 : decode cX6_digest 22 = .ok (.aload_n 0, 1) := by decide +kernel
theorem dX6_digest_23 : decode cX6_digest 23 = .ok (.iload_n 3, 1) := by decide +kernel
theorem dX6_digest_24 : decode cX6_digest 24 = .ok (.invokevirtual 152, 3) := by decide +kernel
theorem dX6_digest_27 : decode cX6_digest 27 = .ok (.i2l, 1) := by decide +kernel
theorem dX6_digest_28 : decode cX6_digest 28 = .ok (.ladd, 1) := by decide +kernel
theorem dX6_digest_29 : decode cX6_digest 29 = .ok (.lstore_n 1, 1) := by decide +kernel
theorem dX6_digest_30 : decode cX6_digest 30 = .ok (.iinc 3 1, 3) := by decide +kernel
theorem dX6_digest_33 : decode cX6_digest 33 = .ok (.goto (-22), 3) := by decide +kernel
theorem dX6_digest_36 : decode cX6_digest 36 = .ok (.iconst 0, 1) := by decide +kernel
theorem dX6_digest_37 : decode cX6_digest 37 = .ok (.istore_n 3, 1) := by decide +kernel
theorem dX6_digest_38 : decode cX6_digest 38 = .ok (.iload_n 3, 1) := by decide +kernel
theorem dX6_digest_39 : decode cX6_digest 39 = .ok (.aload_n 0, 1) := by decide +kernel
theorem dX6_digest_40 : decode cX6_digest 40 = .ok (.getfield 10, 3) := by decide +kernel
theorem dX6_digest_43 : decode cX6_digest 43 = .ok (.getfield 29, 3) := by decide +kernel
theorem dX6_digest_46 : decode cX6_digest 46 = .ok (.if_icmp .ge 110, 3) := by decide +kernel
theorem dX6_digest_49 : decode cX6_digest 49 = .ok (.iconst 0, 1) := by decide +kernel
theorem dX6_digest_50 : decode cX6_digest 50 = .ok (.istore 4, 2) := by decide +kernel
theorem dX6_digest_52 : decode cX6_digest 52 = .ok (.iload 4, 2) := by decide +kernel
theorem dX6_digest_54 : decode cX6_digest 54 = .ok (.bipush 10, 2) := by decide +kernel
theorem dX6_digest_56 : decode cX6_digest 56 = .ok (.if_icmp .gt 24, 3) := by decide +kernel
theorem dX6_digest_59 : decode cX6_digest 59 = .ok (.lload_n 1, 1) := by decide +kernel
theorem dX6_digest_60 : decode cX6_digest 60 = .ok (.ldc2_w 181, 3) := by decide +kernel
theorem dX6_digest_63 : decode cX6_digest 63 = .ok (.lmul, 1) := by decide +kernel
theorem dX6_digest_64 : decode cX6_digest 64 = .ok (.aload_n 0, 1) := by decide +kernel
theorem dX6_digest_65 : decode cX6_digest 65 = .ok (.iload_n 3, 1) := by decide +kernel
theorem dX6_digest_66 : decode cX6_digest 66 = .ok (.iload 4, 2) := by decide +kernel
theorem dX6_digest_68 : decode cX6_digest 68 = .ok (.invokevirtual 130, 3) := by decide +kernel
theorem dX6_digest_71 : decode cX6_digest 71 = .ok (.i2l, 1) := by decide +kernel
theorem dX6_digest_72 : decode cX6_digest 72 = .ok (.ladd, 1) := by decide +kernel
theorem dX6_digest_73 : decode cX6_digest 73 = .ok (.lstore_n 1, 1) := by decide +kernel
theorem dX6_digest_74 : decode cX6_digest 74 = .ok (.iinc 4 1, 3) := by decide +kernel
theorem dX6_digest_77 : decode cX6_digest 77 = .ok (.goto (-25), 3) := by decide +kernel
theorem dX6_digest_80 : decode cX6_digest 80 = .ok (.iconst 0, 1) := by decide +kernel
theorem dX6_digest_81 : decode cX6_digest 81 = .ok (.istore 4, 2) := by decide +kernel
theorem dX6_digest_83 : decode cX6_digest 83 = .ok (.iload 4, 2) := by decide +kernel
theorem dX6_digest_85 : decode cX6_digest 85 = .ok (.bipush 6, 2) := by decide +kernel
theorem dX6_digest_87 : decode cX6_digest 87 = .ok (.if_icmp .ge 47, 3) := by decide +kernel
theorem dX6_digest_90 : decode cX6_digest 90 = .ok (.lload_n 1, 1) := by decide +kernel
theorem dX6_digest_91 : decode cX6_digest 91 = .ok (.ldc2_w 181, 3) := by decide +kernel
theorem dX6_digest_94 : decode cX6_digest 94 = .ok (.lmul, 1) := by decide +kernel
theorem dX6_digest_95 : decode cX6_digest 95 = .ok (.aload_n 0, 1) := by decide +kernel
theorem dX6_digest_96 : decode cX6_digest 96 = .ok (.getfield 10, 3) := by decide +kernel
theorem dX6_digest_99 : decode cX6_digest 99 = .ok (.getfield 67, 3) := by decide +kernel
theorem dX6_digest_102 : decode cX6_digest 102 = .ok (.iload_n 3, 1) := by decide +kernel
theorem dX6_digest_103 : decode cX6_digest 103 = .ok (.aaload, 1) := by decide +kernel
theorem dX6_digest_104 : decode cX6_digest 104 = .ok (.iload 4, 2) := by decide +kernel
theorem dX6_digest_106 : decode cX6_digest 106 = .ok (.iaload, 1) := by decide +kernel
theorem dX6_digest_107 : decode cX6_digest 107 = .ok (.i2l, 1) := by decide +kernel
theorem dX6_digest_108 : decode cX6_digest 108 = .ok (.ladd, 1) := by decide +kernel
theorem dX6_digest_109 : decode cX6_digest 109 = .ok (.ldc2_w 181, 3) := by decide +kernel
theorem dX6_digest_112 : decode cX6_digest 112 = .ok (.lmul, 1) := by decide +kernel
theorem dX6_digest_113 : decode cX6_digest 113 = .ok (.aload_n 0, 1) := by decide +kernel
theorem dX6_digest_114 : decode cX6_digest 114 = .ok (.getfield 10, 3) := by decide +kernel
theorem dX6_digest_117 : decode cX6_digest 117 = .ok (.getfield 50, 3) := by decide +kernel
theorem dX6_digest_120 : decode cX6_digest 120 = .ok (.iload_n 3, 1) := by decide +kernel
theorem dX6_digest_121 : decode cX6_digest 121 = .ok (.aaload, 1) := by decide +kernel
theorem dX6_digest_122 : decode cX6_digest 122 = .ok (.iload 4, 2) := by decide +kernel
theorem dX6_digest_124 : decode cX6_digest 124 = .ok (.iaload, 1) := by decide +kernel
theorem dX6_digest_125 : decode cX6_digest 125 = .ok (.i2l, 1) := by decide +kernel
theorem dX6_digest_126 : decode cX6_digest 126 = .ok (.ladd, 1) := by decide +kernel
theorem dX6_digest_127 : decode cX6_digest 127 = .ok (.lstore_n 1, 1) := by decide +kernel
theorem dX6_digest_128 : decode cX6_digest 128 = .ok (.iinc 4 1, 3) := by decide +kernel
theorem dX6_digest_131 : decode cX6_digest 131 = .ok (.goto (-48), 3) := by decide +kernel
theorem dX6_digest_134 : decode cX6_digest 134 = .ok (.lload_n 1, 1) := by decide +kernel
theorem dX6_digest_135 : decode cX6_digest 135 = .ok (.ldc2_w 181, 3) := by decide +kernel
theorem dX6_digest_138 : decode cX6_digest 138 = .ok (.lmul, 1) := by decide +kernel
theorem dX6_digest_139 : decode cX6_digest 139 = .ok (.aload_n 0, 1) := by decide +kernel
theorem dX6_digest_140 : decode cX6_digest 140 = .ok (.iload_n 3, 1) := by decide +kernel
theorem dX6_digest_141 : decode cX6_digest 141 = .ok (.iconst 0, 1) := by decide +kernel
theorem dX6_digest_142 : decode cX6_digest 142 = .ok (.bipush 9, 2) := by decide +kernel
theorem dX6_digest_144 : decode cX6_digest 144 = .ok (.invokevirtual 159, 3) := by decide +kernel
theorem dX6_digest_147 : decode cX6_digest 147 = .ok (.i2l, 1) := by decide +kernel
theorem dX6_digest_148 : decode cX6_digest 148 = .ok (.ladd, 1) := by decide +kernel
theorem dX6_digest_149 : decode cX6_digest 149 = .ok (.lstore_n 1, 1) := by decide +kernel
theorem dX6_digest_150 : decode cX6_digest 150 = .ok (.iinc 3 1, 3) := by decide +kernel
theorem dX6_digest_153 : decode cX6_digest 153 = .ok (.goto (-115), 3) := by decide +kernel
theorem dX6_digest_156 : decode cX6_digest 156 = .ok (.iconst 0, 1) := by decide +kernel
theorem dX6_digest_157 : decode cX6_digest 157 = .ok (.istore_n 3, 1) := by decide +kernel
theorem dX6_digest_158 : decode cX6_digest 158 = .ok (.iload_n 3, 1) := by decide +kernel
theorem dX6_digest_159 : decode cX6_digest 159 = .ok (.aload_n 0, 1) := by decide +kernel
theorem dX6_digest_160 : decode cX6_digest 160 = .ok (.getfield 10, 3) := by decide +kernel
theorem dX6_digest_163 : decode cX6_digest 163 = .ok (.getfield 36, 3) := by decide +kernel
theorem dX6_digest_166 : decode cX6_digest 166 = .ok (.if_icmp .ge 85, 3) := by decide +kernel
theorem dX6_digest_169 : decode cX6_digest 169 = .ok (.iconst 0, 1) := by decide +kernel
theorem dX6_digest_170 : decode cX6_digest 170 = .ok (.istore 4, 2) := by decide +kernel
theorem dX6_digest_172 : decode cX6_digest 172 = .ok (.iload 4, 2) := by decide +kernel
theorem dX6_digest_174 : decode cX6_digest 174 = .ok (.bipush 11, 2) := by decide +kernel
theorem dX6_digest_176 : decode cX6_digest 176 = .ok (.if_icmp .gt 32, 3) := by decide +kernel
theorem dX6_digest_179 : decode cX6_digest 179 = .ok (.lload_n 1, 1) := by decide +kernel
theorem dX6_digest_180 : decode cX6_digest 180 = .ok (.ldc2_w 181, 3) := by decide +kernel
theorem dX6_digest_183 : decode cX6_digest 183 = .ok (.lmul, 1) := by decide +kernel
theorem dX6_digest_184 : decode cX6_digest 184 = .ok (.aload_n 0, 1) := by decide +kernel
theorem dX6_digest_185 : decode cX6_digest 185 = .ok (.aload_n 0, 1) := by decide +kernel
theorem dX6_digest_186 : decode cX6_digest 186 = .ok (.getfield 10, 3) := by decide +kernel
theorem dX6_digest_189 : decode cX6_digest 189 = .ok (.getfield 60, 3) := by decide +kernel
theorem dX6_digest_192 : decode cX6_digest 192 = .ok (.iload_n 3, 1) := by decide +kernel
theorem dX6_digest_193 : decode cX6_digest 193 = .ok (.aaload, 1) := by decide +kernel
theorem dX6_digest_194 : decode cX6_digest 194 = .ok (.iload 4, 2) := by decide +kernel
theorem dX6_digest_196 : decode cX6_digest 196 = .ok (.invokevirtual 133, 3) := by decide +kernel
theorem dX6_digest_199 : decode cX6_digest 199 = .ok (.i2l, 1) := by decide +kernel
theorem dX6_digest_200 : decode cX6_digest 200 = .ok (.ladd, 1) := by decide +kernel
theorem dX6_digest_201 : decode cX6_digest 201 = .ok (.lstore_n 1, 1) := by decide +kernel
theorem dX6_digest_202 : decode cX6_digest 202 = .ok (.iinc 4 1, 3) := by decide +kernel
theorem dX6_digest_205 : decode cX6_digest 205 = .ok (.goto (-33), 3) := by decide +kernel
theorem dX6_digest_208 : decode cX6_digest 208 = .ok (.lload_n 1, 1) := by decide +kernel
theorem dX6_digest_209 : decode cX6_digest 209 = .ok (.ldc2_w 181, 3) := by decide +kernel
theorem dX6_digest_212 : decode cX6_digest 212 = .ok (.lmul, 1) := by decide +kernel
theorem dX6_digest_213 : decode cX6_digest 213 = .ok (.aload_n 0, 1) := by decide +kernel
theorem dX6_digest_214 : decode cX6_digest 214 = .ok (.aload_n 0, 1) := by decide +kernel
theorem dX6_digest_215 : decode cX6_digest 215 = .ok (.getfield 10, 3) := by decide +kernel
theorem dX6_digest_218 : decode cX6_digest 218 = .ok (.getfield 60, 3) := by decide +kernel
theorem dX6_digest_221 : decode cX6_digest 221 = .ok (.iload_n 3, 1) := by decide +kernel
theorem dX6_digest_222 : decode cX6_digest 222 = .ok (.aaload, 1) := by decide +kernel
theorem dX6_digest_223 : decode cX6_digest 223 = .ok (.invokevirtual 163, 3) := by decide +kernel
theorem dX6_digest_226 : decode cX6_digest 226 = .ok (.i2l, 1) := by decide +kernel
theorem dX6_digest_227 : decode cX6_digest 227 = .ok (.ladd, 1) := by decide +kernel
theorem dX6_digest_228 : decode cX6_digest 228 = .ok (.ldc2_w 181, 3) := by decide +kernel
theorem dX6_digest_231 : decode cX6_digest 231 = .ok (.lmul, 1) := by decide +kernel
theorem dX6_digest_232 : decode cX6_digest 232 = .ok (.aload_n 0, 1) := by decide +kernel
theorem dX6_digest_233 : decode cX6_digest 233 = .ok (.iload_n 3, 1) := by decide +kernel
theorem dX6_digest_234 : decode cX6_digest 234 = .ok (.sipush 900, 3) := by decide +kernel
theorem dX6_digest_237 : decode cX6_digest 237 = .ok (.bipush 30, 2) := by decide +kernel
theorem dX6_digest_239 : decode cX6_digest 239 = .ok (.invokevirtual 170, 3) := by decide +kernel
theorem dX6_digest_242 : decode cX6_digest 242 = .ok (.i2l, 1) := by decide +kernel
theorem dX6_digest_243 : decode cX6_digest 243 = .ok (.ladd, 1) := by decide +kernel
theorem dX6_digest_244 : decode cX6_digest 244 = .ok (.lstore_n 1, 1) := by decide +kernel
theorem dX6_digest_245 : decode cX6_digest 245 = .ok (.iinc 3 1, 3) := by decide +kernel
theorem dX6_digest_248 : decode cX6_digest 248 = .ok (.goto (-90), 3) := by decide +kernel
theorem dX6_digest_251 : decode cX6_digest 251 = .ok (.iconst 0, 1) := by decide +kernel
theorem dX6_digest_252 : decode cX6_digest 252 = .ok (.istore_n 3, 1) := by decide +kernel
theorem dX6_digest_253 : decode cX6_digest 253 = .ok (.iload_n 3, 1) := by decide +kernel
theorem dX6_digest_254 : decode cX6_digest 254 = .ok (.aload_n 0, 1) := by decide +kernel
theorem dX6_digest_255 : decode cX6_digest 255 = .ok (.getfield 10, 3) := by decide +kernel
theorem dX6_digest_258 : decode cX6_digest 258 = .ok (.getfield 39, 3) := by decide +kernel
theorem dX6_digest_261 : decode cX6_digest 261 = .ok (.if_icmp .ge 39, 3) := by decide +kernel
theorem dX6_digest_264 : decode cX6_digest 264 = .ok (.iconst 0, 1) := by decide +kernel
theorem dX6_digest_265 : decode cX6_digest 265 = .ok (.istore 4, 2) := by decide +kernel
theorem dX6_digest_267 : decode cX6_digest 267 = .ok (.iload 4, 2) := by decide +kernel
theorem dX6_digest_269 : decode cX6_digest 269 = .ok (.iconst 3, 1) := by decide +kernel
theorem dX6_digest_270 : decode cX6_digest 270 = .ok (.if_icmp .gt 24, 3) := by decide +kernel
theorem dX6_digest_273 : decode cX6_digest 273 = .ok (.lload_n 1, 1) := by decide +kernel
theorem dX6_digest_274 : decode cX6_digest 274 = .ok (.ldc2_w 181, 3) := by decide +kernel
theorem dX6_digest_277 : decode cX6_digest 277 = .ok (.lmul, 1) := by decide +kernel
theorem dX6_digest_278 : decode cX6_digest 278 = .ok (.aload_n 0, 1) := by decide +kernel
theorem dX6_digest_279 : decode cX6_digest 279 = .ok (.iload_n 3, 1) := by decide +kernel
theorem dX6_digest_280 : decode cX6_digest 280 = .ok (.iload 4, 2) := by decide +kernel
theorem dX6_digest_282 : decode cX6_digest 282 = .ok (.invokevirtual 140, 3) := by decide +kernel
theorem dX6_digest_285 : decode cX6_digest 285 = .ok (.i2l, 1) := by decide +kernel
theorem dX6_digest_286 : decode cX6_digest 286 = .ok (.ladd, 1) := by decide +kernel
theorem dX6_digest_287 : decode cX6_digest 287 = .ok (.lstore_n 1, 1) := by decide +kernel
theorem dX6_digest_288 : decode cX6_digest 288 = .ok (.iinc 4 1, 3) := by decide +kernel
theorem dX6_digest_291 : decode cX6_digest 291 = .ok (.goto (-24), 3) := by decide +kernel
theorem dX6_digest_294 : decode cX6_digest 294 = .ok (.iinc 3 1, 3) := by decide +kernel
theorem dX6_digest_297 : decode cX6_digest 297 = .ok (.goto (-44), 3) := by decide +kernel
theorem dX6_digest_300 : decode cX6_digest 300 = .ok (.lload_n 1, 1) := by decide +kernel
theorem dX6_digest_301 : decode cX6_digest 301 = .ok (.ldc2_w 181, 3) := by decide +kernel
theorem dX6_digest_304 : decode cX6_digest 304 = .ok (.lmul, 1) := by decide +kernel
theorem dX6_digest_305 : decode cX6_digest 305 = .ok (.aload_n 0, 1) := by decide +kernel
theorem dX6_digest_306 : decode cX6_digest 306 = .ok (.invokevirtual 176, 3) := by decide +kernel
theorem dX6_digest_309 : decode cX6_digest 309 = .ok (.i2l, 1) := by decide +kernel
theorem dX6_digest_310 : decode cX6_digest 310 = .ok (.ladd, 1) := by decide +kernel
theorem dX6_digest_311 : decode cX6_digest 311 = .ok (.lreturn, 1) := by decide +kernel
theorem dJ6_signum_0f7a4_0 : decode cJ6_signum_0f7a4 0 = .ok (.iload_n 0, 1) := by decide +kernel
theorem dJ6_signum_0f7a4_1 : decode cJ6_signum_0f7a4 1 = .ok (.bipush 31, 2) := by decide +kernel
theorem dJ6_signum_0f7a4_3 : decode cJ6_signum_0f7a4 3 = .ok (.ishr, 1) := by decide +kernel
theorem dJ6_signum_0f7a4_4 : decode cJ6_signum_0f7a4 4 = .ok (.iload_n 0, 1) := by decide +kernel
theorem dJ6_signum_0f7a4_5 : decode cJ6_signum_0f7a4 5 = .ok (.ineg, 1) := by decide +kernel
theorem dJ6_signum_0f7a4_6 : decode cJ6_signum_0f7a4 6 = .ok (.bipush 31, 2) := by decide +kernel
theorem dJ6_signum_0f7a4_8 : decode cJ6_signum_0f7a4 8 = .ok (.iushr, 1) := by decide +kernel
theorem dJ6_signum_0f7a4_9 : decode cJ6_signum_0f7a4 9 = .ok (.ior, 1) := by decide +kernel
theorem dJ6_signum_0f7a4_10 : decode cJ6_signum_0f7a4 10 = .ok (.ireturn, 1) := by decide +kernel
theorem dJ9_abs_0f7a4_0 : decode cJ9_abs_0f7a4 0 = .ok (.iload_n 0, 1) := by decide +kernel
theorem dJ9_abs_0f7a4_1 : decode cJ9_abs_0f7a4 1 = .ok (.ifCond .ge 8, 3) := by decide +kernel
theorem dJ9_abs_0f7a4_4 : decode cJ9_abs_0f7a4 4 = .ok (.iload_n 0, 1) := by decide +kernel
theorem dJ9_abs_0f7a4_5 : decode cJ9_abs_0f7a4 5 = .ok (.ineg, 1) := by decide +kernel
theorem dJ9_abs_0f7a4_6 : decode cJ9_abs_0f7a4 6 = .ok (.goto 4, 3) := by decide +kernel
theorem dJ9_abs_0f7a4_9 : decode cJ9_abs_0f7a4 9 = .ok (.iload_n 0, 1) := by decide +kernel
theorem dJ9_abs_0f7a4_10 : decode cJ9_abs_0f7a4 10 = .ok (.ireturn, 1) := by decide +kernel
theorem dJ9_max_7cf53_0 : decode cJ9_max_7cf53 0 = .ok (.iload_n 0, 1) := by decide +kernel
theorem dJ9_max_7cf53_1 : decode cJ9_max_7cf53 1 = .ok (.iload_n 1, 1) := by decide +kernel
theorem dJ9_max_7cf53_2 : decode cJ9_max_7cf53 2 = .ok (.if_icmp .lt 7, 3) := by decide +kernel
theorem dJ9_max_7cf53_5 : decode cJ9_max_7cf53 5 = .ok (.iload_n 0, 1) := by decide +kernel
theorem dJ9_max_7cf53_6 : decode cJ9_max_7cf53 6 = .ok (.goto 4, 3) := by decide +kernel
theorem dJ9_max_7cf53_9 : decode cJ9_max_7cf53 9 = .ok (.iload_n 1, 1) := by decide +kernel
theorem dJ9_max_7cf53_10 : decode cJ9_max_7cf53 10 = .ok (.ireturn, 1) := by decide +kernel
theorem dJ9_min_7cf53_0 : decode cJ9_min_7cf53 0 = .ok (.iload_n 0, 1) := by decide +kernel
theorem dJ9_min_7cf53_1 : decode cJ9_min_7cf53 1 = .ok (.iload_n 1, 1) := by decide +kernel
theorem dJ9_min_7cf53_2 : decode cJ9_min_7cf53 2 = .ok (.if_icmp .gt 7, 3) := by decide +kernel
theorem dJ9_min_7cf53_5 : decode cJ9_min_7cf53 5 = .ok (.iload_n 0, 1) := by decide +kernel
theorem dJ9_min_7cf53_6 : decode cJ9_min_7cf53 6 = .ok (.goto 4, 3) := by decide +kernel
theorem dJ9_min_7cf53_9 : decode cJ9_min_7cf53 9 = .ok (.iload_n 1, 1) := by decide +kernel
theorem dJ9_min_7cf53_10 : decode cJ9_min_7cf53 10 = .ok (.ireturn, 1) := by decide +kernel
set_option maxRecDepth 20000 in
theorem ggL_person_X4_person : GoodIn wsL_person wsX4_person := goodIn_ca (goodIn_ca (goodIn_ca (goodIn_r _ [7, 8, 9, 10, 11, 6, 12, 13, 14, 15, 16, 17, 18, 19, 20, 21, 22, 23, 24, 25, 26, 27, 28, 29, 30, 31, 32, 33, 34, 35, 36, 37, 38, 39, 40, 41, 42, 43, 44, 45, 46, 47, 48, 49, 50, 51, 52, 53, 54, 55, 56] (by decide +kernel) (by decide +kernel)) (goodIn_sub (fun _ h => List.mem_cons_of_mem _ (List.mem_append_left _ (List.mem_append_left _ (List.mem_append_right _ h)))) (by decide +kernel))) (goodIn_sub (fun _ h => List.mem_cons_of_mem _ (List.mem_append_left _ (List.mem_append_right _ h))) (by decide +kernel))) (goodIn_sub (fun _ h => List.mem_cons_of_mem _ (List.mem_append_right _ h)) (by decide +kernel))
set_option maxRecDepth 20000 in
theorem gL_person_X4_person : GoodIn wsL_person (wsV RL 7 RX4 yX4_person wsX4_person) := goodIn_app (goodIn_of _ (by decide +kernel)) ggL_person_X4_person
theorem dL_person_0 : decode cL_person 0 = .ok (.aload 4, 2) := by decide +kernel
theorem dL_person_2 : decode cL_person 2 = .ok (.iconst 0, 1) := by decide +kernel
theorem dL_person_3 : decode cL_person 3 = .ok (.aload_n 0, 1) := by decide +kernel
theorem dL_person_4 : decode cL_person 4 = .ok (.iload_n 1, 1) := by decide +kernel
theorem dL_person_5 : decode cL_person 5 = .ok (.iload_n 2, 1) := by decide +kernel
theorem dL_person_6 : decode cL_person 6 = .ok (.iload_n 3, 1) := by decide +kernel
theorem dL_person_7 : decode cL_person 7 = .ok (.invokevirtual 7, 3) := by decide +kernel
theorem dL_person_10 : decode cL_person 10 = .ok (.i2l, 1) := by decide +kernel
theorem dL_person_11 : decode cL_person 11 = .ok (.lastore, 1) := by decide +kernel
theorem dL_person_12 : decode cL_person 12 = .ok (.goto 11, 3) := by decide +kernel
theorem dL_person_15 : decode cL_person 15 = .ok (.astore 5, 2) := by decide +kernel
theorem dL_person_17 : decode cL_person 17 = .ok (.iconst 1, 1) := by decide +kernel
theorem dL_person_18 : decode cL_person 18 = .ok (.ireturn, 1) := by decide +kernel
theorem dL_person_19 : decode cL_person 19 = .ok (.astore 5, 2) := by decide +kernel
theorem dL_person_21 : decode cL_person 21 = .ok (.iconst 2, 1) := by decide +kernel
theorem dL_person_22 : decode cL_person 22 = .ok (.ireturn, 1) := by decide +kernel
theorem dL_person_23 : decode cL_person 23 = .ok (.iconst 0, 1) := by decide +kernel
theorem dL_person_24 : decode cL_person 24 = .ok (.ireturn, 1) := by decide +kernel
set_option maxRecDepth 20000 in
theorem ggL_trend_X4_trend : GoodIn wsL_trend wsX4_trend := goodIn_ca (goodIn_ca (goodIn_r _ [7, 8, 9, 10, 11, 12, 13, 14, 15, 16, 17, 6, 18, 19, 20, 21, 22, 23, 24, 25, 26, 27, 28, 29, 30, 31, 32, 33, 34, 35, 36, 37, 38, 39, 40, 41, 42, 43, 44, 45, 46, 47] (by decide +kernel) (by decide +kernel)) (goodIn_sub (fun _ h => List.mem_cons_of_mem _ (List.mem_append_left _ (List.mem_append_right _ h))) (by decide +kernel))) (goodIn_sub (fun _ h => List.mem_cons_of_mem _ (List.mem_append_right _ h)) (by decide +kernel))
set_option maxRecDepth 20000 in
theorem gL_trend_X4_trend : GoodIn wsL_trend (wsV RL 17 RX4 yX4_trend wsX4_trend) := goodIn_app (goodIn_of _ (by decide +kernel)) ggL_trend_X4_trend
theorem dL_trend_0 : decode cL_trend 0 = .ok (.aload 4, 2) := by decide +kernel
theorem dL_trend_2 : decode cL_trend 2 = .ok (.iconst 0, 1) := by decide +kernel
theorem dL_trend_3 : decode cL_trend 3 = .ok (.aload_n 0, 1) := by decide +kernel
theorem dL_trend_4 : decode cL_trend 4 = .ok (.iload_n 1, 1) := by decide +kernel
theorem dL_trend_5 : decode cL_trend 5 = .ok (.iload_n 2, 1) := by decide +kernel
theorem dL_trend_6 : decode cL_trend 6 = .ok (.iload_n 3, 1) := by decide +kernel
theorem dL_trend_7 : decode cL_trend 7 = .ok (.invokevirtual 17, 3) := by decide +kernel
theorem dL_trend_10 : decode cL_trend 10 = .ok (.i2l, 1) := by decide +kernel
theorem dL_trend_11 : decode cL_trend 11 = .ok (.lastore, 1) := by decide +kernel
theorem dL_trend_12 : decode cL_trend 12 = .ok (.goto 11, 3) := by decide +kernel
theorem dL_trend_15 : decode cL_trend 15 = .ok (.astore 5, 2) := by decide +kernel
theorem dL_trend_17 : decode cL_trend 17 = .ok (.iconst 1, 1) := by decide +kernel
theorem dL_trend_18 : decode cL_trend 18 = .ok (.ireturn, 1) := by decide +kernel
theorem dL_trend_19 : decode cL_trend 19 = .ok (.astore 5, 2) := by decide +kernel
theorem dL_trend_21 : decode cL_trend 21 = .ok (.iconst 2, 1) := by decide +kernel
theorem dL_trend_22 : decode cL_trend 22 = .ok (.ireturn, 1) := by decide +kernel
theorem dL_trend_23 : decode cL_trend 23 = .ok (.iconst 0, 1) := by decide +kernel
theorem dL_trend_24 : decode cL_trend 24 = .ok (.ireturn, 1) := by decide +kernel
set_option maxRecDepth 20000 in
theorem ggL_news_X4_news : GoodIn wsL_news wsX4_news := goodIn_ca (goodIn_ca (goodIn_r _ [7, 8, 9, 10, 11, 12, 13, 14, 15, 16, 17, 6, 18, 19, 20, 21, 22, 23, 24, 25, 26, 27, 28, 29, 30, 31, 32, 33, 34, 35, 36, 37, 38, 39, 40, 41, 42, 43, 44, 45, 46, 47, 48, 49, 50, 51, 52, 53, 54, 55] (by decide +kernel) (by decide +kernel)) (goodIn_sub (fun _ h => List.mem_cons_of_mem _ (List.mem_append_left _ (List.mem_append_right _ h))) (by decide +kernel))) (goodIn_sub (fun _ h => List.mem_cons_of_mem _ (List.mem_append_right _ h)) (by decide +kernel))
set_option maxRecDepth 20000 in
theorem gL_news_X4_news : GoodIn wsL_news (wsV RL 22 RX4 yX4_news wsX4_news) := goodIn_app (goodIn_of _ (by decide +kernel)) ggL_news_X4_news
theorem dL_news_0 : decode cL_news 0 = .ok (.aload_n 3, 1) := by decide +kernel
theorem dL_news_1 : decode cL_news 1 = .ok (.iconst 0, 1) := by decide +kernel
theorem dL_news_2 : decode cL_news 2 = .ok (.aload_n 0, 1) := by decide +kernel
theorem dL_news_3 : decode cL_news 3 = .ok (.iload_n 1, 1) := by decide +kernel
theorem dL_news_4 : decode cL_news 4 = .ok (.iload_n 2, 1) := by decide +kernel
theorem dL_news_5 : decode cL_news 5 = .ok (.invokevirtual 22, 3) := by decide +kernel
theorem dL_news_8 : decode cL_news 8 = .ok (.i2l, 1) := by decide +kernel
theorem dL_news_9 : decode cL_news 9 = .ok (.lastore, 1) := by decide +kernel
theorem dL_news_10 : decode cL_news 10 = .ok (.goto 11, 3) := by decide +kernel
theorem dL_news_13 : decode cL_news 13 = .ok (.astore 4, 2) := by decide +kernel
theorem dL_news_15 : decode cL_news 15 = .ok (.iconst 1, 1) := by decide +kernel
theorem dL_news_16 : decode cL_news 16 = .ok (.ireturn, 1) := by decide +kernel
theorem dL_news_17 : decode cL_news 17 = .ok (.astore 4, 2) := by decide +kernel
theorem dL_news_19 : decode cL_news 19 = .ok (.iconst 2, 1) := by decide +kernel
theorem dL_news_20 : decode cL_news 20 = .ok (.ireturn, 1) := by decide +kernel
theorem dL_news_21 : decode cL_news 21 = .ok (.iconst 0, 1) := by decide +kernel
theorem dL_news_22 : decode cL_news 22 = .ok (.ireturn, 1) := by decide +kernel
set_option maxRecDepth 20000 in
theorem ggL_consent_X4_consent : GoodIn wsL_consent wsX4_consent := goodIn_ca (goodIn_r _ [6, 7, 8, 9, 10, 11, 12, 13, 14, 15, 16, 5, 17, 18, 19, 20, 21, 22, 23, 24, 25, 26, 27, 28, 29, 30, 31, 32, 33, 34, 35, 36, 37, 38, 39, 40, 41, 42, 43, 44, 45, 46, 47, 48, 49, 50, 51, 52, 53, 54, 55, 56, 57, 58, 59, 60, 61, 62, 63, 64, 65] (by decide +kernel) (by decide +kernel)) (goodIn_sub (fun _ h => List.mem_cons_of_mem _ (List.mem_append_right _ h)) (by decide +kernel))
set_option maxRecDepth 20000 in
theorem gL_consent_X4_consent : GoodIn wsL_consent (wsV RL 26 RX4 yX4_consent wsX4_consent) := goodIn_app (goodIn_of _ (by decide +kernel)) ggL_consent_X4_consent
theorem dL_consent_0 : decode cL_consent 0 = .ok (.aload_n 3, 1) := by decide +kernel
theorem dL_consent_1 : decode cL_consent 1 = .ok (.iconst 0, 1) := by decide +kernel
theorem dL_consent_2 : decode cL_consent 2 = .ok (.aload_n 0, 1) := by decide +kernel
theorem dL_consent_3 : decode cL_consent 3 = .ok (.iload_n 1, 1) := by decide +kernel
theorem dL_consent_4 : decode cL_consent 4 = .ok (.iload_n 2, 1) := by decide +kernel
theorem dL_consent_5 : decode cL_consent 5 = .ok (.invokevirtual 26, 3) := by decide +kernel
theorem dL_consent_8 : decode cL_consent 8 = .ok (.i2l, 1) := by decide +kernel
theorem dL_consent_9 : decode cL_consent 9 = .ok (.lastore, 1) := by decide +kernel
theorem dL_consent_10 : decode cL_consent 10 = .ok (.goto 7, 3) := by decide +kernel
theorem dL_consent_13 : decode cL_consent 13 = .ok (.astore 4, 2) := by decide +kernel
theorem dL_consent_15 : decode cL_consent 15 = .ok (.iconst 1, 1) := by decide +kernel
theorem dL_consent_16 : decode cL_consent 16 = .ok (.ireturn, 1) := by decide +kernel
theorem dL_consent_17 : decode cL_consent 17 = .ok (.iconst 0, 1) := by decide +kernel
theorem dL_consent_18 : decode cL_consent 18 = .ok (.ireturn, 1) := by decide +kernel
set_option maxRecDepth 20000 in
theorem ggL_measure_X4_measure : GoodIn wsL_measure wsX4_measure := goodIn_ca (goodIn_ca (goodIn_r _ [7, 8, 9, 10, 11, 12, 13, 14, 15, 16, 17, 18, 19, 20, 21, 22, 23, 24, 25, 6, 26, 27, 28, 29, 30, 31, 32, 33, 34, 35, 36, 37, 38, 39, 40, 41, 42, 43, 44, 45, 46, 47, 48, 49, 50, 51, 52, 53, 54, 55, 56, 57, 58, 59, 60, 61, 62, 63, 64, 65] (by decide +kernel) (by decide +kernel)) (goodIn_sub (fun _ h => List.mem_cons_of_mem _ (List.mem_append_left _ (List.mem_append_right _ h))) (by decide +kernel))) (goodIn_sub (fun _ h => List.mem_cons_of_mem _ (List.mem_append_right _ h)) (by decide +kernel))
set_option maxRecDepth 20000 in
theorem gL_measure_X4_measure : GoodIn wsL_measure (wsV RL 30 RX4 yX4_measure wsX4_measure) := goodIn_app (goodIn_of _ (by decide +kernel)) ggL_measure_X4_measure
theorem dL_measure_0 : decode cL_measure 0 = .ok (.aload 5, 2) := by decide +kernel
theorem dL_measure_2 : decode cL_measure 2 = .ok (.iconst 0, 1) := by decide +kernel
theorem dL_measure_3 : decode cL_measure 3 = .ok (.aload_n 0, 1) := by decide +kernel
theorem dL_measure_4 : decode cL_measure 4 = .ok (.iload_n 1, 1) := by decide +kernel
theorem dL_measure_5 : decode cL_measure 5 = .ok (.iload_n 2, 1) := by decide +kernel
theorem dL_measure_6 : decode cL_measure 6 = .ok (.iload_n 3, 1) := by decide +kernel
theorem dL_measure_7 : decode cL_measure 7 = .ok (.iload 4, 2) := by decide +kernel
theorem dL_measure_9 : decode cL_measure 9 = .ok (.invokevirtual 30, 3) := by decide +kernel
theorem dL_measure_12 : decode cL_measure 12 = .ok (.i2l, 1) := by decide +kernel
theorem dL_measure_13 : decode cL_measure 13 = .ok (.lastore, 1) := by decide +kernel
theorem dL_measure_14 : decode cL_measure 14 = .ok (.goto 11, 3) := by decide +kernel
theorem dL_measure_17 : decode cL_measure 17 = .ok (.astore 6, 2) := by decide +kernel
theorem dL_measure_19 : decode cL_measure 19 = .ok (.iconst 1, 1) := by decide +kernel
theorem dL_measure_20 : decode cL_measure 20 = .ok (.ireturn, 1) := by decide +kernel
theorem dL_measure_21 : decode cL_measure 21 = .ok (.astore 6, 2) := by decide +kernel
theorem dL_measure_23 : decode cL_measure 23 = .ok (.iconst 2, 1) := by decide +kernel
theorem dL_measure_24 : decode cL_measure 24 = .ok (.ireturn, 1) := by decide +kernel
theorem dL_measure_25 : decode cL_measure 25 = .ok (.iconst 0, 1) := by decide +kernel
theorem dL_measure_26 : decode cL_measure 26 = .ok (.ireturn, 1) := by decide +kernel
set_option maxRecDepth 20000 in
theorem ggL_pay_X4_pay : GoodIn wsL_pay wsX4_pay := goodIn_ca (goodIn_r _ [6, 7, 8, 9, 10, 11, 12, 13, 14, 15, 16, 17, 5, 18, 19, 20, 21, 22, 23, 24, 25, 26, 27, 28, 29, 30, 31, 32, 33, 34, 35, 36, 37, 38, 39, 40, 41] (by decide +kernel) (by decide +kernel)) (goodIn_sub (fun _ h => List.mem_cons_of_mem _ (List.mem_append_right _ h)) (by decide +kernel))
set_option maxRecDepth 20000 in
theorem gL_pay_X4_pay : GoodIn wsL_pay (wsV RL 34 RX4 yX4_pay wsX4_pay) := goodIn_app (goodIn_of _ (by decide +kernel)) ggL_pay_X4_pay
theorem dL_pay_0 : decode cL_pay 0 = .ok (.aload_n 2, 1) := by decide +kernel
theorem dL_pay_1 : decode cL_pay 1 = .ok (.iconst 0, 1) := by decide +kernel
theorem dL_pay_2 : decode cL_pay 2 = .ok (.aload_n 0, 1) := by decide +kernel
theorem dL_pay_3 : decode cL_pay 3 = .ok (.iload_n 1, 1) := by decide +kernel
theorem dL_pay_4 : decode cL_pay 4 = .ok (.invokevirtual 34, 3) := by decide +kernel
theorem dL_pay_7 : decode cL_pay 7 = .ok (.i2l, 1) := by decide +kernel
theorem dL_pay_8 : decode cL_pay 8 = .ok (.lastore, 1) := by decide +kernel
theorem dL_pay_9 : decode cL_pay 9 = .ok (.goto 6, 3) := by decide +kernel
theorem dL_pay_12 : decode cL_pay 12 = .ok (.astore_n 3, 1) := by decide +kernel
theorem dL_pay_13 : decode cL_pay 13 = .ok (.iconst 1, 1) := by decide +kernel
theorem dL_pay_14 : decode cL_pay 14 = .ok (.ireturn, 1) := by decide +kernel
theorem dL_pay_15 : decode cL_pay 15 = .ok (.iconst 0, 1) := by decide +kernel
theorem dL_pay_16 : decode cL_pay 16 = .ok (.ireturn, 1) := by decide +kernel
set_option maxRecDepth 20000 in
theorem ggL_figure_X4_figure : GoodIn wsL_figure wsX4_figure := goodIn_ca (goodIn_ca (goodIn_r _ [7, 8, 9, 10, 11, 12, 13, 14, 15, 16, 17, 6, 18, 19, 20, 21, 22, 23, 24, 25, 26, 27, 28, 29, 30, 31, 32, 33, 34, 35, 36, 37, 38, 39, 40, 41, 42, 43, 44, 45, 46, 47, 48, 49, 50, 51, 52, 53, 54, 55, 56, 57, 58, 59, 60, 61] (by decide +kernel) (by decide +kernel)) (goodIn_sub (fun _ h => List.mem_cons_of_mem _ (List.mem_append_left _ (List.mem_append_right _ h))) (by decide +kernel))) (goodIn_sub (fun _ h => List.mem_cons_of_mem _ (List.mem_append_right _ h)) (by decide +kernel))
set_option maxRecDepth 20000 in
theorem gL_figure_X4_figure : GoodIn wsL_figure (wsV RL 38 RX4 yX4_figure wsX4_figure) := goodIn_app (goodIn_of _ (by decide +kernel)) ggL_figure_X4_figure
theorem dL_figure_0 : decode cL_figure 0 = .ok (.aload_n 2, 1) := by decide +kernel
theorem dL_figure_1 : decode cL_figure 1 = .ok (.iconst 0, 1) := by decide +kernel
theorem dL_figure_2 : decode cL_figure 2 = .ok (.aload_n 0, 1) := by decide +kernel
theorem dL_figure_3 : decode cL_figure 3 = .ok (.iload_n 1, 1) := by decide +kernel
theorem dL_figure_4 : decode cL_figure 4 = .ok (.invokevirtual 38, 3) := by decide +kernel
theorem dL_figure_7 : decode cL_figure 7 = .ok (.i2l, 1) := by decide +kernel
theorem dL_figure_8 : decode cL_figure 8 = .ok (.lastore, 1) := by decide +kernel
theorem dL_figure_9 : decode cL_figure 9 = .ok (.goto 9, 3) := by decide +kernel
theorem dL_figure_12 : decode cL_figure 12 = .ok (.astore_n 3, 1) := by decide +kernel
theorem dL_figure_13 : decode cL_figure 13 = .ok (.iconst 1, 1) := by decide +kernel
theorem dL_figure_14 : decode cL_figure 14 = .ok (.ireturn, 1) := by decide +kernel
theorem dL_figure_15 : decode cL_figure 15 = .ok (.astore_n 3, 1) := by decide +kernel
theorem dL_figure_16 : decode cL_figure 16 = .ok (.iconst 2, 1) := by decide +kernel
theorem dL_figure_17 : decode cL_figure 17 = .ok (.ireturn, 1) := by decide +kernel
theorem dL_figure_18 : decode cL_figure 18 = .ok (.iconst 0, 1) := by decide +kernel
theorem dL_figure_19 : decode cL_figure 19 = .ok (.ireturn, 1) := by decide +kernel
set_option maxRecDepth 20000 in
theorem ggL_work_X4_work : GoodIn wsL_work wsX4_work := goodIn_ca (goodIn_ca (goodIn_ca (goodIn_r _ [8, 9, 10, 11, 12, 13, 14, 15, 16, 17, 18, 19, 20, 7, 21, 22, 23, 24, 25, 26, 27, 28, 29, 30, 31, 32, 33, 34, 35, 36, 37, 38, 39, 40, 41, 42, 43, 44, 45, 46, 47, 48, 49, 50, 51, 52, 53, 54, 55, 56, 57, 58, 59, 60, 61, 62] (by decide +kernel) (by decide +kernel)) (goodIn_sub (fun _ h => List.mem_cons_of_mem _ (List.mem_append_left _ (List.mem_append_left _ (List.mem_append_right _ h)))) (by decide +kernel))) (goodIn_sub (fun _ h => List.mem_cons_of_mem _ (List.mem_append_left _ (List.mem_append_right _ h))) (by decide +kernel))) (goodIn_sub (fun _ h => List.mem_cons_of_mem _ (List.mem_append_right _ h)) (by decide +kernel))
set_option maxRecDepth 20000 in
theorem gL_work_X4_work : GoodIn wsL_work (wsV RL 41 RX4 yX4_work wsX4_work) := goodIn_app (goodIn_of _ (by decide +kernel)) ggL_work_X4_work
theorem dL_work_0 : decode cL_work 0 = .ok (.aload_n 3, 1) := by decide +kernel
theorem dL_work_1 : decode cL_work 1 = .ok (.iconst 0, 1) := by decide +kernel
theorem dL_work_2 : decode cL_work 2 = .ok (.aload_n 0, 1) := by decide +kernel
theorem dL_work_3 : decode cL_work 3 = .ok (.iload_n 1, 1) := by decide +kernel
theorem dL_work_4 : decode cL_work 4 = .ok (.iload_n 2, 1) := by decide +kernel
theorem dL_work_5 : decode cL_work 5 = .ok (.invokevirtual 41, 3) := by decide +kernel
theorem dL_work_8 : decode cL_work 8 = .ok (.i2l, 1) := by decide +kernel
theorem dL_work_9 : decode cL_work 9 = .ok (.lastore, 1) := by decide +kernel
theorem dL_work_10 : decode cL_work 10 = .ok (.goto 15, 3) := by decide +kernel
theorem dL_work_13 : decode cL_work 13 = .ok (.astore 4, 2) := by decide +kernel
theorem dL_work_15 : decode cL_work 15 = .ok (.iconst 1, 1) := by decide +kernel
theorem dL_work_16 : decode cL_work 16 = .ok (.ireturn, 1) := by decide +kernel
theorem dL_work_17 : decode cL_work 17 = .ok (.astore 4, 2) := by decide +kernel
theorem dL_work_19 : decode cL_work 19 = .ok (.iconst 2, 1) := by decide +kernel
theorem dL_work_20 : decode cL_work 20 = .ok (.ireturn, 1) := by decide +kernel
theorem dL_work_21 : decode cL_work 21 = .ok (.astore 4, 2) := by decide +kernel
theorem dL_work_23 : decode cL_work 23 = .ok (.iconst 3, 1) := by decide +kernel
theorem dL_work_24 : decode cL_work 24 = .ok (.ireturn, 1) := by decide +kernel
theorem dL_work_25 : decode cL_work 25 = .ok (.iconst 0, 1) := by decide +kernel
theorem dL_work_26 : decode cL_work 26 = .ok (.ireturn, 1) := by decide +kernel
set_option maxRecDepth 20000 in
theorem ggL_swap_X4_swap : GoodIn wsL_swap wsX4_swap := goodIn_ca (goodIn_ca (goodIn_ca (goodIn_r _ [8, 9, 10, 11, 12, 13, 14, 15, 16, 17, 18, 19, 7, 20, 21, 22, 23, 24, 25, 26, 27, 28, 29, 30, 31, 32, 33, 34, 35, 36, 37, 38, 39, 40, 41, 42, 43, 44, 45, 46, 47, 48, 49, 50, 51, 52, 53, 54, 55, 56, 57, 58, 59, 60, 61, 62, 63, 64, 65, 66, 67, 68, 69, 70, 71, 72, 73, 74, 75, 76, 77, 78, 79, 80, 81, 82, 83, 84, 85, 86, 87, 88, 89] (by decide +kernel) (by decide +kernel)) (goodIn_sub (fun _ h => List.mem_cons_of_mem _ (List.mem_append_left _ (List.mem_append_left _ (List.mem_append_right _ h)))) (by decide +kernel))) (goodIn_sub (fun _ h => List.mem_cons_of_mem _ (List.mem_append_left _ (List.mem_append_right _ h))) (by decide +kernel))) (goodIn_sub (fun _ h => List.mem_cons_of_mem _ (List.mem_append_right _ h)) (by decide +kernel))
set_option maxRecDepth 20000 in
theorem gL_swap_X4_swap : GoodIn wsL_swap (wsV RL 44 RX4 yX4_swap wsX4_swap) := goodIn_app (goodIn_of _ (by decide +kernel)) ggL_swap_X4_swap
theorem dL_swap_0 : decode cL_swap 0 = .ok (.aload_n 3, 1) := by decide +kernel
theorem dL_swap_1 : decode cL_swap 1 = .ok (.iconst 0, 1) := by decide +kernel
theorem dL_swap_2 : decode cL_swap 2 = .ok (.aload_n 0, 1) := by decide +kernel
theorem dL_swap_3 : decode cL_swap 3 = .ok (.iload_n 1, 1) := by decide +kernel
theorem dL_swap_4 : decode cL_swap 4 = .ok (.iload_n 2, 1) := by decide +kernel
theorem dL_swap_5 : decode cL_swap 5 = .ok (.invokevirtual 44, 3) := by decide +kernel
theorem dL_swap_8 : decode cL_swap 8 = .ok (.i2l, 1) := by decide +kernel
theorem dL_swap_9 : decode cL_swap 9 = .ok (.lastore, 1) := by decide +kernel
theorem dL_swap_10 : decode cL_swap 10 = .ok (.goto 15, 3) := by decide +kernel
theorem dL_swap_13 : decode cL_swap 13 = .ok (.astore 4, 2) := by decide +kernel
theorem dL_swap_15 : decode cL_swap 15 = .ok (.iconst 1, 1) := by decide +kernel
theorem dL_swap_16 : decode cL_swap 16 = .ok (.ireturn, 1) := by decide +kernel
theorem dL_swap_17 : decode cL_swap 17 = .ok (.astore 4, 2) := by decide +kernel
theorem dL_swap_19 : decode cL_swap 19 = .ok (.iconst 2, 1) := by decide +kernel
theorem dL_swap_20 : decode cL_swap 20 = .ok (.ireturn, 1) := by decide +kernel
theorem dL_swap_21 : decode cL_swap 21 = .ok (.astore 4, 2) := by decide +kernel
theorem dL_swap_23 : decode cL_swap 23 = .ok (.iconst 3, 1) := by decide +kernel
theorem dL_swap_24 : decode cL_swap 24 = .ok (.ireturn, 1) := by decide +kernel
theorem dL_swap_25 : decode cL_swap 25 = .ok (.iconst 0, 1) := by decide +kernel
theorem dL_swap_26 : decode cL_swap 26 = .ok (.ireturn, 1) := by decide +kernel
set_option maxRecDepth 20000 in
theorem ggL_mend_X4_mend : GoodIn wsL_mend wsX4_mend := goodIn_ca (goodIn_ca (goodIn_r _ [7, 8, 9, 10, 11, 12, 13, 14, 15, 16, 17, 18, 19, 20, 21, 22, 6, 23, 24, 25, 26, 27, 28, 29, 30, 31, 32, 33, 34, 35, 36, 37, 38, 39, 40, 41, 42, 43, 44, 45, 46, 47, 48, 49, 50, 51, 52, 53, 54, 55, 56, 57, 58, 59, 60, 61] (by decide +kernel) (by decide +kernel)) (goodIn_sub (fun _ h => List.mem_cons_of_mem _ (List.mem_append_left _ (List.mem_append_right _ h))) (by decide +kernel))) (goodIn_sub (fun _ h => List.mem_cons_of_mem _ (List.mem_append_right _ h)) (by decide +kernel))
set_option maxRecDepth 20000 in
theorem gL_mend_X4_mend : GoodIn wsL_mend (wsV RL 47 RX4 yX4_mend wsX4_mend) := goodIn_app (goodIn_of _ (by decide +kernel)) ggL_mend_X4_mend
theorem dL_mend_0 : decode cL_mend 0 = .ok (.aload_n 2, 1) := by decide +kernel
theorem dL_mend_1 : decode cL_mend 1 = .ok (.iconst 0, 1) := by decide +kernel
theorem dL_mend_2 : decode cL_mend 2 = .ok (.aload_n 0, 1) := by decide +kernel
theorem dL_mend_3 : decode cL_mend 3 = .ok (.iload_n 1, 1) := by decide +kernel
theorem dL_mend_4 : decode cL_mend 4 = .ok (.invokevirtual 47, 3) := by decide +kernel
theorem dL_mend_7 : decode cL_mend 7 = .ok (.i2l, 1) := by decide +kernel
theorem dL_mend_8 : decode cL_mend 8 = .ok (.lastore, 1) := by decide +kernel
theorem dL_mend_9 : decode cL_mend 9 = .ok (.goto 9, 3) := by decide +kernel
theorem dL_mend_12 : decode cL_mend 12 = .ok (.astore_n 3, 1) := by decide +kernel
theorem dL_mend_13 : decode cL_mend 13 = .ok (.iconst 1, 1) := by decide +kernel
theorem dL_mend_14 : decode cL_mend 14 = .ok (.ireturn, 1) := by decide +kernel
theorem dL_mend_15 : decode cL_mend 15 = .ok (.astore_n 3, 1) := by decide +kernel
theorem dL_mend_16 : decode cL_mend 16 = .ok (.iconst 2, 1) := by decide +kernel
theorem dL_mend_17 : decode cL_mend 17 = .ok (.ireturn, 1) := by decide +kernel
theorem dL_mend_18 : decode cL_mend 18 = .ok (.iconst 0, 1) := by decide +kernel
theorem dL_mend_19 : decode cL_mend 19 = .ok (.ireturn, 1) := by decide +kernel
set_option maxRecDepth 20000 in
theorem ggL_melt_X4_melt : GoodIn wsL_melt wsX4_melt := goodIn_ca (goodIn_ca (goodIn_r _ [7, 8, 9, 10, 11, 12, 13, 14, 15, 16, 17, 18, 19, 6, 20, 21, 22, 23, 24, 25, 26, 27, 28, 29, 30, 31, 32, 33, 34, 35, 36, 37, 38, 39, 40, 41, 42, 43, 44, 45, 46, 47, 48, 49, 50, 51, 52, 53, 54, 55, 56, 57, 58] (by decide +kernel) (by decide +kernel)) (goodIn_sub (fun _ h => List.mem_cons_of_mem _ (List.mem_append_left _ (List.mem_append_right _ h))) (by decide +kernel))) (goodIn_sub (fun _ h => List.mem_cons_of_mem _ (List.mem_append_right _ h)) (by decide +kernel))
set_option maxRecDepth 20000 in
theorem gL_melt_X4_melt : GoodIn wsL_melt (wsV RL 50 RX4 yX4_melt wsX4_melt) := goodIn_app (goodIn_of _ (by decide +kernel)) ggL_melt_X4_melt
theorem dL_melt_0 : decode cL_melt 0 = .ok (.aload_n 2, 1) := by decide +kernel
theorem dL_melt_1 : decode cL_melt 1 = .ok (.iconst 0, 1) := by decide +kernel
theorem dL_melt_2 : decode cL_melt 2 = .ok (.aload_n 0, 1) := by decide +kernel
theorem dL_melt_3 : decode cL_melt 3 = .ok (.iload_n 1, 1) := by decide +kernel
theorem dL_melt_4 : decode cL_melt 4 = .ok (.invokevirtual 50, 3) := by decide +kernel
theorem dL_melt_7 : decode cL_melt 7 = .ok (.i2l, 1) := by decide +kernel
theorem dL_melt_8 : decode cL_melt 8 = .ok (.lastore, 1) := by decide +kernel
theorem dL_melt_9 : decode cL_melt 9 = .ok (.goto 9, 3) := by decide +kernel
theorem dL_melt_12 : decode cL_melt 12 = .ok (.astore_n 3, 1) := by decide +kernel
theorem dL_melt_13 : decode cL_melt 13 = .ok (.iconst 1, 1) := by decide +kernel
theorem dL_melt_14 : decode cL_melt 14 = .ok (.ireturn, 1) := by decide +kernel
theorem dL_melt_15 : decode cL_melt 15 = .ok (.astore_n 3, 1) := by decide +kernel
theorem dL_melt_16 : decode cL_melt 16 = .ok (.iconst 2, 1) := by decide +kernel
theorem dL_melt_17 : decode cL_melt 17 = .ok (.ireturn, 1) := by decide +kernel
theorem dL_melt_18 : decode cL_melt 18 = .ok (.iconst 0, 1) := by decide +kernel
theorem dL_melt_19 : decode cL_melt 19 = .ok (.ireturn, 1) := by decide +kernel
set_option maxRecDepth 20000 in
theorem ggL_tour_X4_tour : GoodIn wsL_tour wsX4_tour := goodIn_ca (goodIn_ca (goodIn_ca (goodIn_r _ [8, 9, 10, 11, 12, 13, 14, 15, 16, 17, 18, 19, 20, 21, 22, 7, 23, 24, 25, 26, 27, 28, 29, 30, 31, 32, 33, 34, 35, 36, 37, 38, 39, 40, 41, 42, 43, 44, 45, 46, 47, 48, 49, 50, 51, 52, 53, 54, 55, 56, 57, 58, 59, 60, 61, 62, 63, 64, 65, 66, 67, 68, 69, 70, 71, 72, 73, 74, 75, 76, 77, 78, 79, 80, 81, 82, 83, 84, 85, 86, 87, 88, 89, 90, 91, 92, 93] (by decide +kernel) (by decide +kernel)) (goodIn_sub (fun _ h => List.mem_cons_of_mem _ (List.mem_append_left _ (List.mem_append_left _ (List.mem_append_right _ h)))) (by decide +kernel))) (goodIn_sub (fun _ h => List.mem_cons_of_mem _ (List.mem_append_left _ (List.mem_append_right _ h))) (by decide +kernel))) (goodIn_sub (fun _ h => List.mem_cons_of_mem _ (List.mem_append_right _ h)) (by decide +kernel))
set_option maxRecDepth 20000 in
theorem gL_tour_X4_tour : GoodIn wsL_tour (wsV RL 53 RX4 yX4_tour wsX4_tour) := goodIn_app (goodIn_of _ (by decide +kernel)) ggL_tour_X4_tour
theorem dL_tour_0 : decode cL_tour 0 = .ok (.aload 4, 2) := by decide +kernel
theorem dL_tour_2 : decode cL_tour 2 = .ok (.iconst 0, 1) := by decide +kernel
theorem dL_tour_3 : decode cL_tour 3 = .ok (.aload_n 0, 1) := by decide +kernel
theorem dL_tour_4 : decode cL_tour 4 = .ok (.iload_n 1, 1) := by decide +kernel
theorem dL_tour_5 : decode cL_tour 5 = .ok (.iload_n 2, 1) := by decide +kernel
theorem dL_tour_6 : decode cL_tour 6 = .ok (.iload_n 3, 1) := by decide +kernel
theorem dL_tour_7 : decode cL_tour 7 = .ok (.invokevirtual 53, 3) := by decide +kernel
theorem dL_tour_10 : decode cL_tour 10 = .ok (.i2l, 1) := by decide +kernel
theorem dL_tour_11 : decode cL_tour 11 = .ok (.lastore, 1) := by decide +kernel
theorem dL_tour_12 : decode cL_tour 12 = .ok (.goto 15, 3) := by decide +kernel
theorem dL_tour_15 : decode cL_tour 15 = .ok (.astore 5, 2) := by decide +kernel
theorem dL_tour_17 : decode cL_tour 17 = .ok (.iconst 1, 1) := by decide +kernel
theorem dL_tour_18 : decode cL_tour 18 = .ok (.ireturn, 1) := by decide +kernel
theorem dL_tour_19 : decode cL_tour 19 = .ok (.astore 5, 2) := by decide +kernel
theorem dL_tour_21 : decode cL_tour 21 = .ok (.iconst 2, 1) := by decide +kernel
theorem dL_tour_22 : decode cL_tour 22 = .ok (.ireturn, 1) := by decide +kernel
theorem dL_tour_23 : decode cL_tour 23 = .ok (.astore 5, 2) := by decide +kernel
theorem dL_tour_25 : decode cL_tour 25 = .ok (.iconst 3, 1) := by decide +kernel
theorem dL_tour_26 : decode cL_tour 26 = .ok (.ireturn, 1) := by decide +kernel
theorem dL_tour_27 : decode cL_tour 27 = .ok (.iconst 0, 1) := by decide +kernel
theorem dL_tour_28 : decode cL_tour 28 = .ok (.ireturn, 1) := by decide +kernel
set_option maxRecDepth 20000 in
theorem ggL_room_X4_room : GoodIn wsL_room wsX4_room := goodIn_ca (goodIn_ca (goodIn_ca (goodIn_r _ [7, 8, 9, 10, 11, 6, 12, 13, 14, 15, 16, 17, 18, 19, 20, 21, 22, 23, 24, 25, 26, 27, 28, 29, 30, 31, 32, 33, 34, 35, 36, 37, 38, 39, 40, 41, 42, 43, 44, 45, 46, 47, 48, 49, 50, 51] (by decide +kernel) (by decide +kernel)) (goodIn_sub (fun _ h => List.mem_cons_of_mem _ (List.mem_append_left _ (List.mem_append_left _ (List.mem_append_right _ h)))) (by decide +kernel))) (goodIn_sub (fun _ h => List.mem_cons_of_mem _ (List.mem_append_left _ (List.mem_append_right _ h))) (by decide +kernel))) (goodIn_sub (fun _ h => List.mem_cons_of_mem _ (List.mem_append_right _ h)) (by decide +kernel))
set_option maxRecDepth 20000 in
theorem gL_room_X4_room : GoodIn wsL_room (wsV RL 56 RX4 yX4_room wsX4_room) := goodIn_app (goodIn_of _ (by decide +kernel)) ggL_room_X4_room
theorem dL_room_0 : decode cL_room 0 = .ok (.aload_n 3, 1) := by decide +kernel
theorem dL_room_1 : decode cL_room 1 = .ok (.iconst 0, 1) := by decide +kernel
theorem dL_room_2 : decode cL_room 2 = .ok (.aload_n 0, 1) := by decide +kernel
theorem dL_room_3 : decode cL_room 3 = .ok (.iload_n 1, 1) := by decide +kernel
theorem dL_room_4 : decode cL_room 4 = .ok (.iload_n 2, 1) := by decide +kernel
theorem dL_room_5 : decode cL_room 5 = .ok (.invokevirtual 56, 3) := by decide +kernel
theorem dL_room_8 : decode cL_room 8 = .ok (.i2l, 1) := by decide +kernel
theorem dL_room_9 : decode cL_room 9 = .ok (.lastore, 1) := by decide +kernel
theorem dL_room_10 : decode cL_room 10 = .ok (.goto 11, 3) := by decide +kernel
theorem dL_room_13 : decode cL_room 13 = .ok (.astore 4, 2) := by decide +kernel
theorem dL_room_15 : decode cL_room 15 = .ok (.iconst 1, 1) := by decide +kernel
theorem dL_room_16 : decode cL_room 16 = .ok (.ireturn, 1) := by decide +kernel
theorem dL_room_17 : decode cL_room 17 = .ok (.astore 4, 2) := by decide +kernel
theorem dL_room_19 : decode cL_room 19 = .ok (.iconst 2, 1) := by decide +kernel
theorem dL_room_20 : decode cL_room 20 = .ok (.ireturn, 1) := by decide +kernel
theorem dL_room_21 : decode cL_room 21 = .ok (.iconst 0, 1) := by decide +kernel
theorem dL_room_22 : decode cL_room 22 = .ok (.ireturn, 1) := by decide +kernel
set_option maxRecDepth 20000 in
theorem ggL_lamps_X4_lamps : GoodIn wsL_lamps wsX4_lamps := goodIn_ca (goodIn_ca (goodIn_r _ [7, 8, 9, 10, 11, 12, 13, 14, 15, 16, 17, 6, 18, 19, 20, 21, 22, 23, 24, 25, 26, 27, 28, 29, 30, 31, 32, 33, 34, 35, 36, 37, 38, 39, 40] (by decide +kernel) (by decide +kernel)) (goodIn_sub (fun _ h => List.mem_cons_of_mem _ (List.mem_append_left _ (List.mem_append_right _ h))) (by decide +kernel))) (goodIn_sub (fun _ h => List.mem_cons_of_mem _ (List.mem_append_right _ h)) (by decide +kernel))
set_option maxRecDepth 20000 in
theorem gL_lamps_X4_lamps : GoodIn wsL_lamps (wsV RL 59 RX4 yX4_lamps wsX4_lamps) := goodIn_app (goodIn_of _ (by decide +kernel)) ggL_lamps_X4_lamps
theorem dL_lamps_0 : decode cL_lamps 0 = .ok (.aload_n 3, 1) := by decide +kernel
theorem dL_lamps_1 : decode cL_lamps 1 = .ok (.iconst 0, 1) := by decide +kernel
theorem dL_lamps_2 : decode cL_lamps 2 = .ok (.aload_n 0, 1) := by decide +kernel
theorem dL_lamps_3 : decode cL_lamps 3 = .ok (.iload_n 1, 1) := by decide +kernel
theorem dL_lamps_4 : decode cL_lamps 4 = .ok (.iload_n 2, 1) := by decide +kernel
theorem dL_lamps_5 : decode cL_lamps 5 = .ok (.invokevirtual 59, 3) := by decide +kernel
theorem dL_lamps_8 : decode cL_lamps 8 = .ok (.i2l, 1) := by decide +kernel
theorem dL_lamps_9 : decode cL_lamps 9 = .ok (.lastore, 1) := by decide +kernel
theorem dL_lamps_10 : decode cL_lamps 10 = .ok (.goto 11, 3) := by decide +kernel
theorem dL_lamps_13 : decode cL_lamps 13 = .ok (.astore 4, 2) := by decide +kernel
theorem dL_lamps_15 : decode cL_lamps 15 = .ok (.iconst 1, 1) := by decide +kernel
theorem dL_lamps_16 : decode cL_lamps 16 = .ok (.ireturn, 1) := by decide +kernel
theorem dL_lamps_17 : decode cL_lamps 17 = .ok (.astore 4, 2) := by decide +kernel
theorem dL_lamps_19 : decode cL_lamps 19 = .ok (.iconst 2, 1) := by decide +kernel
theorem dL_lamps_20 : decode cL_lamps 20 = .ok (.ireturn, 1) := by decide +kernel
theorem dL_lamps_21 : decode cL_lamps 21 = .ok (.iconst 0, 1) := by decide +kernel
theorem dL_lamps_22 : decode cL_lamps 22 = .ok (.ireturn, 1) := by decide +kernel
set_option maxRecDepth 20000 in
theorem ggL_show_X4_show : GoodIn wsL_show wsX4_show := goodIn_ca (goodIn_ca (goodIn_r _ [7, 8, 9, 10, 11, 12, 13, 14, 15, 16, 17, 18, 19, 20, 6, 21, 22, 23, 24, 25, 26, 27, 28, 29, 30, 31, 32, 33, 34, 35, 36, 37, 38, 39, 40, 41, 42, 43, 44, 45, 46, 47, 48, 49, 50, 51, 52, 53, 54, 55, 56, 57, 58, 59, 60, 61, 62, 63, 64, 65, 66, 67, 68, 69, 70, 71, 72, 73, 74, 75, 76, 77, 78, 79, 80, 81, 82, 83, 84, 85, 86, 87, 88, 89, 90, 91, 92, 93, 94, 95, 96, 97, 98, 99, 100, 101, 102, 103, 104, 105, 106, 107, 108, 109, 110, 111, 112, 113, 114, 115] (by decide +kernel) (by decide +kernel)) (goodIn_sub (fun _ h => List.mem_cons_of_mem _ (List.mem_append_left _ (List.mem_append_right _ h))) (by decide +kernel))) (goodIn_sub (fun _ h => List.mem_cons_of_mem _ (List.mem_append_right _ h)) (by decide +kernel))
set_option maxRecDepth 20000 in
theorem gL_show_X4_show : GoodIn wsL_show (wsV RL 62 RX4 yX4_show wsX4_show) := goodIn_app (goodIn_of _ (by decide +kernel)) ggL_show_X4_show
theorem dL_show_0 : decode cL_show 0 = .ok (.aload_n 3, 1) := by decide +kernel
theorem dL_show_1 : decode cL_show 1 = .ok (.iconst 0, 1) := by decide +kernel
theorem dL_show_2 : decode cL_show 2 = .ok (.aload_n 0, 1) := by decide +kernel
theorem dL_show_3 : decode cL_show 3 = .ok (.iload_n 1, 1) := by decide +kernel
theorem dL_show_4 : decode cL_show 4 = .ok (.iload_n 2, 1) := by decide +kernel
theorem dL_show_5 : decode cL_show 5 = .ok (.invokevirtual 62, 3) := by decide +kernel
theorem dL_show_8 : decode cL_show 8 = .ok (.i2l, 1) := by decide +kernel
theorem dL_show_9 : decode cL_show 9 = .ok (.lastore, 1) := by decide +kernel
theorem dL_show_10 : decode cL_show 10 = .ok (.goto 11, 3) := by decide +kernel
theorem dL_show_13 : decode cL_show 13 = .ok (.astore 4, 2) := by decide +kernel
theorem dL_show_15 : decode cL_show 15 = .ok (.iconst 1, 1) := by decide +kernel
theorem dL_show_16 : decode cL_show 16 = .ok (.ireturn, 1) := by decide +kernel
theorem dL_show_17 : decode cL_show 17 = .ok (.astore 4, 2) := by decide +kernel
theorem dL_show_19 : decode cL_show 19 = .ok (.iconst 2, 1) := by decide +kernel
theorem dL_show_20 : decode cL_show 20 = .ok (.ireturn, 1) := by decide +kernel
theorem dL_show_21 : decode cL_show 21 = .ok (.iconst 0, 1) := by decide +kernel
theorem dL_show_22 : decode cL_show 22 = .ok (.ireturn, 1) := by decide +kernel
set_option maxRecDepth 20000 in
theorem ggL_take_X4_take : GoodIn wsL_take wsX4_take := goodIn_ca (goodIn_ca (goodIn_r _ [7, 8, 9, 10, 11, 12, 13, 14, 15, 16, 17, 6, 18, 19, 20, 21, 22, 23, 24, 25, 26, 27, 28, 29, 30, 31, 32, 33, 34, 35, 36, 37, 38, 39, 40, 41, 42, 43, 44, 45, 46, 47, 48, 49, 50, 51, 52, 53, 54, 55] (by decide +kernel) (by decide +kernel)) (goodIn_sub (fun _ h => List.mem_cons_of_mem _ (List.mem_append_left _ (List.mem_append_right _ h))) (by decide +kernel))) (goodIn_sub (fun _ h => List.mem_cons_of_mem _ (List.mem_append_right _ h)) (by decide +kernel))
set_option maxRecDepth 20000 in
theorem gL_take_X4_take : GoodIn wsL_take (wsV RL 65 RX4 yX4_take wsX4_take) := goodIn_app (goodIn_of _ (by decide +kernel)) ggL_take_X4_take
theorem dL_take_0 : decode cL_take 0 = .ok (.aload_n 2, 1) := by decide +kernel
theorem dL_take_1 : decode cL_take 1 = .ok (.iconst 0, 1) := by decide +kernel
theorem dL_take_2 : decode cL_take 2 = .ok (.aload_n 0, 1) := by decide +kernel
theorem dL_take_3 : decode cL_take 3 = .ok (.iload_n 1, 1) := by decide +kernel
theorem dL_take_4 : decode cL_take 4 = .ok (.invokevirtual 65, 3) := by decide +kernel
theorem dL_take_7 : decode cL_take 7 = .ok (.i2l, 1) := by decide +kernel
theorem dL_take_8 : decode cL_take 8 = .ok (.lastore, 1) := by decide +kernel
theorem dL_take_9 : decode cL_take 9 = .ok (.goto 9, 3) := by decide +kernel
theorem dL_take_12 : decode cL_take 12 = .ok (.astore_n 3, 1) := by decide +kernel
theorem dL_take_13 : decode cL_take 13 = .ok (.iconst 1, 1) := by decide +kernel
theorem dL_take_14 : decode cL_take 14 = .ok (.ireturn, 1) := by decide +kernel
theorem dL_take_15 : decode cL_take 15 = .ok (.astore_n 3, 1) := by decide +kernel
theorem dL_take_16 : decode cL_take 16 = .ok (.iconst 2, 1) := by decide +kernel
theorem dL_take_17 : decode cL_take 17 = .ok (.ireturn, 1) := by decide +kernel
theorem dL_take_18 : decode cL_take 18 = .ok (.iconst 0, 1) := by decide +kernel
theorem dL_take_19 : decode cL_take 19 = .ok (.ireturn, 1) := by decide +kernel
set_option maxRecDepth 20000 in
theorem ggL_clean_X4_clean : GoodIn wsL_clean wsX4_clean := goodIn_ca (goodIn_r _ [6, 7, 8, 9, 10, 11, 5, 12, 13, 14, 15, 16, 17, 18, 19, 20, 21, 22, 23, 24, 25, 26, 27, 28, 29, 30, 31, 32, 33, 34, 35, 36, 37, 38, 39, 40, 41, 42, 43, 44, 45, 46, 47, 48, 49, 50, 51] (by decide +kernel) (by decide +kernel)) (goodIn_sub (fun _ h => List.mem_cons_of_mem _ (List.mem_append_right _ h)) (by decide +kernel))
set_option maxRecDepth 20000 in
theorem gL_clean_X4_clean : GoodIn wsL_clean (wsV RL 68 RX4 yX4_clean wsX4_clean) := goodIn_app (goodIn_of _ (by decide +kernel)) ggL_clean_X4_clean
theorem dL_clean_0 : decode cL_clean 0 = .ok (.aload_n 2, 1) := by decide +kernel
theorem dL_clean_1 : decode cL_clean 1 = .ok (.iconst 0, 1) := by decide +kernel
theorem dL_clean_2 : decode cL_clean 2 = .ok (.aload_n 0, 1) := by decide +kernel
theorem dL_clean_3 : decode cL_clean 3 = .ok (.iload_n 1, 1) := by decide +kernel
theorem dL_clean_4 : decode cL_clean 4 = .ok (.invokevirtual 68, 3) := by decide +kernel
theorem dL_clean_7 : decode cL_clean 7 = .ok (.i2l, 1) := by decide +kernel
theorem dL_clean_8 : decode cL_clean 8 = .ok (.lastore, 1) := by decide +kernel
theorem dL_clean_9 : decode cL_clean 9 = .ok (.goto 6, 3) := by decide +kernel
theorem dL_clean_12 : decode cL_clean 12 = .ok (.astore_n 3, 1) := by decide +kernel
theorem dL_clean_13 : decode cL_clean 13 = .ok (.iconst 1, 1) := by decide +kernel
theorem dL_clean_14 : decode cL_clean 14 = .ok (.ireturn, 1) := by decide +kernel
theorem dL_clean_15 : decode cL_clean 15 = .ok (.iconst 0, 1) := by decide +kernel
theorem dL_clean_16 : decode cL_clean 16 = .ok (.ireturn, 1) := by decide +kernel
set_option maxRecDepth 20000 in
theorem ggL_price_X4_price : GoodIn wsL_price wsX4_price := goodIn_ca (goodIn_r _ [6, 7, 8, 9, 10, 5, 11, 12, 13, 14, 15, 16, 17, 18, 19, 20, 21, 22, 23, 24, 25, 26] (by decide +kernel) (by decide +kernel)) (goodIn_sub (fun _ h => List.mem_cons_of_mem _ (List.mem_append_right _ h)) (by decide +kernel))
set_option maxRecDepth 20000 in
theorem gL_price_X4_price : GoodIn wsL_price (wsV RL 71 RX4 yX4_price wsX4_price) := goodIn_app (goodIn_of _ (by decide +kernel)) ggL_price_X4_price
theorem dL_price_0 : decode cL_price 0 = .ok (.aload_n 2, 1) := by decide +kernel
theorem dL_price_1 : decode cL_price 1 = .ok (.iconst 0, 1) := by decide +kernel
theorem dL_price_2 : decode cL_price 2 = .ok (.aload_n 0, 1) := by decide +kernel
theorem dL_price_3 : decode cL_price 3 = .ok (.iload_n 1, 1) := by decide +kernel
theorem dL_price_4 : decode cL_price 4 = .ok (.invokevirtual 71, 3) := by decide +kernel
theorem dL_price_7 : decode cL_price 7 = .ok (.i2l, 1) := by decide +kernel
theorem dL_price_8 : decode cL_price 8 = .ok (.lastore, 1) := by decide +kernel
theorem dL_price_9 : decode cL_price 9 = .ok (.goto 6, 3) := by decide +kernel
theorem dL_price_12 : decode cL_price 12 = .ok (.astore_n 3, 1) := by decide +kernel
theorem dL_price_13 : decode cL_price 13 = .ok (.iconst 1, 1) := by decide +kernel
theorem dL_price_14 : decode cL_price 14 = .ok (.ireturn, 1) := by decide +kernel
theorem dL_price_15 : decode cL_price 15 = .ok (.iconst 0, 1) := by decide +kernel
theorem dL_price_16 : decode cL_price 16 = .ok (.ireturn, 1) := by decide +kernel
set_option maxRecDepth 20000 in
theorem ggL_pass_X4_pass : GoodIn wsL_pass wsX4_pass := goodIn_ca (goodIn_ca (goodIn_r _ [6, 7, 8, 9, 5, 10, 11, 12, 13, 14, 15, 16, 17, 18, 19, 20, 21, 22, 23, 24, 25, 26, 27, 28, 29, 30, 31, 32, 33, 34, 35, 36, 37, 38, 39, 40, 41, 42, 43, 44, 45, 46, 47, 48, 49, 50, 51, 52, 53, 54, 55, 56, 57, 58, 59, 60, 61, 62, 63, 64, 65, 66, 67, 68, 69, 70, 71, 72, 73, 74, 75, 76, 77, 78, 79, 80, 81, 82, 83, 84, 85, 86, 87, 88, 89, 90, 91, 92, 93, 94, 95, 96, 97, 98, 99, 100, 101, 102, 103, 104, 105, 106, 107, 108, 109, 110, 111, 112, 113, 114, 115, 116, 117, 118, 119, 120, 121, 122, 123, 124, 125, 126, 127, 128, 129, 130, 131, 132, 133, 134, 135, 136, 137, 138, 139, 140, 141, 142, 143, 144, 145, 146, 147, 148, 149, 150, 151, 152, 153, 154, 155, 156, 157, 158, 159, 160, 161, 162, 163, 164, 165] (by decide +kernel) (by decide +kernel)) (goodIn_sub (fun _ h => List.mem_cons_of_mem _ (List.mem_append_left _ (List.mem_append_right _ h))) (by decide +kernel))) (goodIn_sub (fun _ h => List.mem_cons_of_mem _ (List.mem_append_right _ h)) (by decide +kernel))
set_option maxRecDepth 20000 in
theorem gL_pass_X4_pass : GoodIn wsL_pass (wsV RL 74 RX4 yX4_pass wsX4_pass) := goodIn_app (goodIn_of _ (by decide +kernel)) ggL_pass_X4_pass
theorem dL_pass_0 : decode cL_pass 0 = .ok (.aload 4, 2) := by decide +kernel
theorem dL_pass_2 : decode cL_pass 2 = .ok (.iconst 0, 1) := by decide +kernel
theorem dL_pass_3 : decode cL_pass 3 = .ok (.aload_n 0, 1) := by decide +kernel
theorem dL_pass_4 : decode cL_pass 4 = .ok (.iload_n 1, 1) := by decide +kernel
theorem dL_pass_5 : decode cL_pass 5 = .ok (.iload_n 2, 1) := by decide +kernel
theorem dL_pass_6 : decode cL_pass 6 = .ok (.iload_n 3, 1) := by decide +kernel
theorem dL_pass_7 : decode cL_pass 7 = .ok (.invokevirtual 74, 3) := by decide +kernel
theorem dL_pass_10 : decode cL_pass 10 = .ok (.i2l, 1) := by decide +kernel
theorem dL_pass_11 : decode cL_pass 11 = .ok (.lastore, 1) := by decide +kernel
theorem dL_pass_12 : decode cL_pass 12 = .ok (.goto 7, 3) := by decide +kernel
theorem dL_pass_15 : decode cL_pass 15 = .ok (.astore 5, 2) := by decide +kernel
theorem dL_pass_17 : decode cL_pass 17 = .ok (.iconst 1, 1) := by decide +kernel
theorem dL_pass_18 : decode cL_pass 18 = .ok (.ireturn, 1) := by decide +kernel
theorem dL_pass_19 : decode cL_pass 19 = .ok (.iconst 0, 1) := by decide +kernel
theorem dL_pass_20 : decode cL_pass 20 = .ok (.ireturn, 1) := by decide +kernel
set_option maxRecDepth 20000 in
theorem ggL_ofPerson_X4_ofPerson : GoodIn wsL_ofPerson wsX4_ofPerson := goodIn_ca (goodIn_ca (goodIn_r _ [7, 8, 9, 10, 11, 12, 13, 14, 15, 16, 17, 18, 19, 20, 21, 6, 22, 23, 24, 25, 26, 27, 28, 29, 30, 31, 32, 33, 34, 35, 36, 37, 38, 39, 40, 41, 42, 43, 44, 45, 46, 47, 48, 49, 50, 51, 52, 53, 54, 55, 56, 57, 58, 59, 60, 61, 62, 63, 64, 65, 66, 67, 68, 69, 70, 71, 72, 73, 74, 75, 76, 77, 78, 79, 80, 81] (by decide +kernel) (by decide +kernel)) (goodIn_sub (fun _ h => List.mem_cons_of_mem _ (List.mem_append_left _ (List.mem_append_right _ h))) (by decide +kernel))) (goodIn_sub (fun _ h => List.mem_cons_of_mem _ (List.mem_append_right _ h)) (by decide +kernel))
set_option maxRecDepth 20000 in
theorem gL_ofPerson_X4_ofPerson : GoodIn wsL_ofPerson (wsV RL 77 RX4 yX4_ofPerson wsX4_ofPerson) := goodIn_app (goodIn_of _ (by decide +kernel)) ggL_ofPerson_X4_ofPerson
theorem dL_ofPerson_0 : decode cL_ofPerson 0 = .ok (.aload_n 3, 1) := by decide +kernel
theorem dL_ofPerson_1 : decode cL_ofPerson 1 = .ok (.iconst 0, 1) := by decide +kernel
theorem dL_ofPerson_2 : decode cL_ofPerson 2 = .ok (.aload_n 0, 1) := by decide +kernel
theorem dL_ofPerson_3 : decode cL_ofPerson 3 = .ok (.iload_n 1, 1) := by decide +kernel
theorem dL_ofPerson_4 : decode cL_ofPerson 4 = .ok (.iload_n 2, 1) := by decide +kernel
theorem dL_ofPerson_5 : decode cL_ofPerson 5 = .ok (.invokevirtual 77, 3) := by decide +kernel
theorem dL_ofPerson_8 : decode cL_ofPerson 8 = .ok (.i2l, 1) := by decide +kernel
theorem dL_ofPerson_9 : decode cL_ofPerson 9 = .ok (.lastore, 1) := by decide +kernel
theorem dL_ofPerson_10 : decode cL_ofPerson 10 = .ok (.goto 11, 3) := by decide +kernel
theorem dL_ofPerson_13 : decode cL_ofPerson 13 = .ok (.astore 4, 2) := by decide +kernel
theorem dL_ofPerson_15 : decode cL_ofPerson 15 = .ok (.iconst 1, 1) := by decide +kernel
theorem dL_ofPerson_16 : decode cL_ofPerson 16 = .ok (.ireturn, 1) := by decide +kernel
theorem dL_ofPerson_17 : decode cL_ofPerson 17 = .ok (.astore 4, 2) := by decide +kernel
theorem dL_ofPerson_19 : decode cL_ofPerson 19 = .ok (.iconst 2, 1) := by decide +kernel
theorem dL_ofPerson_20 : decode cL_ofPerson 20 = .ok (.ireturn, 1) := by decide +kernel
theorem dL_ofPerson_21 : decode cL_ofPerson 21 = .ok (.iconst 0, 1) := by decide +kernel
theorem dL_ofPerson_22 : decode cL_ofPerson 22 = .ok (.ireturn, 1) := by decide +kernel
set_option maxRecDepth 20000 in
theorem ggL_known_X4_known : GoodIn wsL_known wsX4_known := goodIn_ca (goodIn_r _ [6, 7, 8, 9, 10, 11, 12, 13, 14, 15, 16, 17, 5, 18, 19, 20, 21, 22, 23, 24, 25, 26, 27, 28, 29, 30, 31, 32, 33, 34, 35, 36, 37, 38, 39, 40, 41, 42] (by decide +kernel) (by decide +kernel)) (goodIn_sub (fun _ h => List.mem_cons_of_mem _ (List.mem_append_right _ h)) (by decide +kernel))
set_option maxRecDepth 20000 in
theorem gL_known_X4_known : GoodIn wsL_known (wsV RL 80 RX4 yX4_known wsX4_known) := goodIn_app (goodIn_of _ (by decide +kernel)) ggL_known_X4_known
theorem dL_known_0 : decode cL_known 0 = .ok (.aload 4, 2) := by decide +kernel
theorem dL_known_2 : decode cL_known 2 = .ok (.iconst 0, 1) := by decide +kernel
theorem dL_known_3 : decode cL_known 3 = .ok (.aload_n 0, 1) := by decide +kernel
theorem dL_known_4 : decode cL_known 4 = .ok (.iload_n 1, 1) := by decide +kernel
theorem dL_known_5 : decode cL_known 5 = .ok (.iload_n 2, 1) := by decide +kernel
theorem dL_known_6 : decode cL_known 6 = .ok (.iload_n 3, 1) := by decide +kernel
theorem dL_known_7 : decode cL_known 7 = .ok (.invokevirtual 80, 3) := by decide +kernel
theorem dL_known_10 : decode cL_known 10 = .ok (.i2l, 1) := by decide +kernel
theorem dL_known_11 : decode cL_known 11 = .ok (.lastore, 1) := by decide +kernel
theorem dL_known_12 : decode cL_known 12 = .ok (.goto 7, 3) := by decide +kernel
theorem dL_known_15 : decode cL_known 15 = .ok (.astore 5, 2) := by decide +kernel
theorem dL_known_17 : decode cL_known 17 = .ok (.iconst 1, 1) := by decide +kernel
theorem dL_known_18 : decode cL_known 18 = .ok (.ireturn, 1) := by decide +kernel
theorem dL_known_19 : decode cL_known 19 = .ok (.iconst 0, 1) := by decide +kernel
theorem dL_known_20 : decode cL_known 20 = .ok (.ireturn, 1) := by decide +kernel
set_option maxRecDepth 20000 in
theorem ggL_ofFigure_X4_ofFigure : GoodIn wsL_ofFigure wsX4_ofFigure := goodIn_ca (goodIn_ca (goodIn_r _ [7, 8, 9, 10, 11, 12, 13, 14, 15, 16, 17, 18, 19, 20, 21, 22, 23, 24, 25, 26, 6, 27, 28, 29, 30, 31, 32, 33, 34, 35, 36, 37, 38, 39, 40, 41, 42, 43, 44, 45, 46, 47, 48, 49, 50, 51, 52, 53, 54, 55, 56, 57, 58, 59, 60, 61, 62, 63, 64, 65, 66, 67, 68, 69, 70, 71, 72, 73, 74, 75, 76, 77, 78, 79, 80, 81, 82, 83, 84, 85, 86, 87, 88, 89, 90, 91, 92, 93, 94, 95, 96, 97, 98, 99, 100, 101, 102, 103] (by decide +kernel) (by decide +kernel)) (goodIn_sub (fun _ h => List.mem_cons_of_mem _ (List.mem_append_left _ (List.mem_append_right _ h))) (by decide +kernel))) (goodIn_sub (fun _ h => List.mem_cons_of_mem _ (List.mem_append_right _ h)) (by decide +kernel))
set_option maxRecDepth 20000 in
theorem gL_ofFigure_X4_ofFigure : GoodIn wsL_ofFigure (wsV RL 84 RX4 yX4_ofFigure wsX4_ofFigure) := goodIn_app (goodIn_of _ (by decide +kernel)) ggL_ofFigure_X4_ofFigure
theorem dL_ofFigure_0 : decode cL_ofFigure 0 = .ok (.aload_n 3, 1) := by decide +kernel
theorem dL_ofFigure_1 : decode cL_ofFigure 1 = .ok (.iconst 0, 1) := by decide +kernel
theorem dL_ofFigure_2 : decode cL_ofFigure 2 = .ok (.aload_n 0, 1) := by decide +kernel
theorem dL_ofFigure_3 : decode cL_ofFigure 3 = .ok (.iload_n 1, 1) := by decide +kernel
theorem dL_ofFigure_4 : decode cL_ofFigure 4 = .ok (.iload_n 2, 1) := by decide +kernel
theorem dL_ofFigure_5 : decode cL_ofFigure 5 = .ok (.invokevirtual 84, 3) := by decide +kernel
theorem dL_ofFigure_8 : decode cL_ofFigure 8 = .ok (.i2l, 1) := by decide +kernel
theorem dL_ofFigure_9 : decode cL_ofFigure 9 = .ok (.lastore, 1) := by decide +kernel
theorem dL_ofFigure_10 : decode cL_ofFigure 10 = .ok (.goto 11, 3) := by decide +kernel
theorem dL_ofFigure_13 : decode cL_ofFigure 13 = .ok (.astore 4, 2) := by decide +kernel
theorem dL_ofFigure_15 : decode cL_ofFigure 15 = .ok (.iconst 1, 1) := by decide +kernel
theorem dL_ofFigure_16 : decode cL_ofFigure 16 = .ok (.ireturn, 1) := by decide +kernel
theorem dL_ofFigure_17 : decode cL_ofFigure 17 = .ok (.astore 4, 2) := by decide +kernel
theorem dL_ofFigure_19 : decode cL_ofFigure 19 = .ok (.iconst 2, 1) := by decide +kernel
theorem dL_ofFigure_20 : decode cL_ofFigure 20 = .ok (.ireturn, 1) := by decide +kernel
theorem dL_ofFigure_21 : decode cL_ofFigure 21 = .ok (.iconst 0, 1) := by decide +kernel
theorem dL_ofFigure_22 : decode cL_ofFigure 22 = .ok (.ireturn, 1) := by decide +kernel
set_option maxRecDepth 20000 in
theorem ggL_ofRoom_X4_ofRoom : GoodIn wsL_ofRoom wsX4_ofRoom := goodIn_ca (goodIn_ca (goodIn_r _ [7, 8, 9, 10, 11, 12, 13, 14, 15, 16, 17, 18, 6, 19, 20, 21, 22, 23, 24, 25, 26, 27, 28, 29, 30, 31, 32, 33, 34, 35, 36, 37, 38, 39, 40, 41, 42, 43, 44, 45, 46, 47, 48, 49, 50, 51, 52, 53, 54, 55, 56, 57, 58, 59, 60, 61, 62, 63, 64, 65, 66, 67, 68, 69, 70, 71, 72, 73, 74, 75, 76, 77, 78, 79, 80, 81, 82, 83, 84, 85, 86, 87, 88, 89, 90, 91, 92, 93, 94, 95, 96, 97, 98, 99, 100, 101, 102] (by decide +kernel) (by decide +kernel)) (goodIn_sub (fun _ h => List.mem_cons_of_mem _ (List.mem_append_left _ (List.mem_append_right _ h))) (by decide +kernel))) (goodIn_sub (fun _ h => List.mem_cons_of_mem _ (List.mem_append_right _ h)) (by decide +kernel))
set_option maxRecDepth 20000 in
theorem gL_ofRoom_X4_ofRoom : GoodIn wsL_ofRoom (wsV RL 87 RX4 yX4_ofRoom wsX4_ofRoom) := goodIn_app (goodIn_of _ (by decide +kernel)) ggL_ofRoom_X4_ofRoom
theorem dL_ofRoom_0 : decode cL_ofRoom 0 = .ok (.aload_n 3, 1) := by decide +kernel
theorem dL_ofRoom_1 : decode cL_ofRoom 1 = .ok (.iconst 0, 1) := by decide +kernel
theorem dL_ofRoom_2 : decode cL_ofRoom 2 = .ok (.aload_n 0, 1) := by decide +kernel
theorem dL_ofRoom_3 : decode cL_ofRoom 3 = .ok (.iload_n 1, 1) := by decide +kernel
theorem dL_ofRoom_4 : decode cL_ofRoom 4 = .ok (.iload_n 2, 1) := by decide +kernel
theorem dL_ofRoom_5 : decode cL_ofRoom 5 = .ok (.invokevirtual 87, 3) := by decide +kernel
theorem dL_ofRoom_8 : decode cL_ofRoom 8 = .ok (.i2l, 1) := by decide +kernel
theorem dL_ofRoom_9 : decode cL_ofRoom 9 = .ok (.lastore, 1) := by decide +kernel
theorem dL_ofRoom_10 : decode cL_ofRoom 10 = .ok (.goto 11, 3) := by decide +kernel
theorem dL_ofRoom_13 : decode cL_ofRoom 13 = .ok (.astore 4, 2) := by decide +kernel
theorem dL_ofRoom_15 : decode cL_ofRoom 15 = .ok (.iconst 1, 1) := by decide +kernel
theorem dL_ofRoom_16 : decode cL_ofRoom 16 = .ok (.ireturn, 1) := by decide +kernel
theorem dL_ofRoom_17 : decode cL_ofRoom 17 = .ok (.astore 4, 2) := by decide +kernel
theorem dL_ofRoom_19 : decode cL_ofRoom 19 = .ok (.iconst 2, 1) := by decide +kernel
theorem dL_ofRoom_20 : decode cL_ofRoom 20 = .ok (.ireturn, 1) := by decide +kernel
theorem dL_ofRoom_21 : decode cL_ofRoom 21 = .ok (.iconst 0, 1) := by decide +kernel
theorem dL_ofRoom_22 : decode cL_ofRoom 22 = .ok (.ireturn, 1) := by decide +kernel
set_option maxRecDepth 20000 in
theorem ggL_many_X4_many : GoodIn wsL_many wsX4_many := goodIn_ca (goodIn_r _ [6, 7, 8, 9, 10, 11, 12, 13, 14, 15, 16, 17, 5, 18, 19, 20, 21, 22, 23, 24, 25, 26, 27, 28, 29, 30, 31, 32, 33, 34, 35, 36, 37, 38, 39, 40, 41, 42, 43, 44, 45, 46, 47, 48, 49, 50, 51, 52, 53, 54, 55, 56, 57, 58, 59, 60, 61, 62, 63, 64, 65, 66, 67, 68, 69, 70, 71, 72, 73, 74, 75, 76, 77, 78, 79, 80, 81, 82, 83, 84, 85, 86, 87, 88, 89, 90, 91, 92, 93, 94, 95, 96, 97, 98, 99, 100, 101, 102, 103, 104, 105, 106, 107, 108, 109, 110, 111, 112] (by decide +kernel) (by decide +kernel)) (goodIn_sub (fun _ h => List.mem_cons_of_mem _ (List.mem_append_right _ h)) (by decide +kernel))
set_option maxRecDepth 20000 in
theorem gL_many_X4_many : GoodIn wsL_many (wsV RL 90 RX4 yX4_many wsX4_many) := goodIn_app (goodIn_of _ (by decide +kernel)) ggL_many_X4_many
theorem dL_many_0 : decode cL_many 0 = .ok (.aload_n 2, 1) := by decide +kernel
theorem dL_many_1 : decode cL_many 1 = .ok (.iconst 0, 1) := by decide +kernel
theorem dL_many_2 : decode cL_many 2 = .ok (.aload_n 0, 1) := by decide +kernel
theorem dL_many_3 : decode cL_many 3 = .ok (.iload_n 1, 1) := by decide +kernel
theorem dL_many_4 : decode cL_many 4 = .ok (.invokevirtual 90, 3) := by decide +kernel
theorem dL_many_7 : decode cL_many 7 = .ok (.i2l, 1) := by decide +kernel
theorem dL_many_8 : decode cL_many 8 = .ok (.lastore, 1) := by decide +kernel
theorem dL_many_9 : decode cL_many 9 = .ok (.goto 6, 3) := by decide +kernel
theorem dL_many_12 : decode cL_many 12 = .ok (.astore_n 3, 1) := by decide +kernel
theorem dL_many_13 : decode cL_many 13 = .ok (.iconst 1, 1) := by decide +kernel
theorem dL_many_14 : decode cL_many 14 = .ok (.ireturn, 1) := by decide +kernel
theorem dL_many_15 : decode cL_many 15 = .ok (.iconst 0, 1) := by decide +kernel
theorem dL_many_16 : decode cL_many 16 = .ok (.ireturn, 1) := by decide +kernel
set_option maxRecDepth 20000 in
theorem ggL_wouldFame_X4_wouldFame : GoodIn wsL_wouldFame wsX4_wouldFame := goodIn_ca (goodIn_ca (goodIn_r _ [7, 8, 9, 10, 11, 12, 13, 14, 15, 16, 6, 17, 18, 19, 20, 21, 22, 23, 24, 25, 26, 27, 28, 29, 30, 31, 32, 33, 34, 35, 36, 37, 38, 39, 40, 41, 42, 43, 44, 45, 46, 47, 48, 49, 50, 51, 52, 53, 54, 55, 56, 57, 58, 59] (by decide +kernel) (by decide +kernel)) (goodIn_sub (fun _ h => List.mem_cons_of_mem _ (List.mem_append_left _ (List.mem_append_right _ h))) (by decide +kernel))) (goodIn_sub (fun _ h => List.mem_cons_of_mem _ (List.mem_append_right _ h)) (by decide +kernel))
set_option maxRecDepth 20000 in
theorem gL_wouldFame_X4_wouldFame : GoodIn wsL_wouldFame (wsV RL 93 RX4 yX4_wouldFame wsX4_wouldFame) := goodIn_app (goodIn_of _ (by decide +kernel)) ggL_wouldFame_X4_wouldFame
theorem dL_wouldFame_0 : decode cL_wouldFame 0 = .ok (.aload 4, 2) := by decide +kernel
theorem dL_wouldFame_2 : decode cL_wouldFame 2 = .ok (.iconst 0, 1) := by decide +kernel
theorem dL_wouldFame_3 : decode cL_wouldFame 3 = .ok (.aload_n 0, 1) := by decide +kernel
theorem dL_wouldFame_4 : decode cL_wouldFame 4 = .ok (.iload_n 1, 1) := by decide +kernel
theorem dL_wouldFame_5 : decode cL_wouldFame 5 = .ok (.iload_n 2, 1) := by decide +kernel
theorem dL_wouldFame_6 : decode cL_wouldFame 6 = .ok (.iload_n 3, 1) := by decide +kernel
theorem dL_wouldFame_7 : decode cL_wouldFame 7 = .ok (.invokevirtual 93, 3) := by decide +kernel
theorem dL_wouldFame_10 : decode cL_wouldFame 10 = .ok (.i2l, 1) := by decide +kernel
theorem dL_wouldFame_11 : decode cL_wouldFame 11 = .ok (.lastore, 1) := by decide +kernel
theorem dL_wouldFame_12 : decode cL_wouldFame 12 = .ok (.goto 11, 3) := by decide +kernel
theorem dL_wouldFame_15 : decode cL_wouldFame 15 = .ok (.astore 5, 2) := by decide +kernel
theorem dL_wouldFame_17 : decode cL_wouldFame 17 = .ok (.iconst 1, 1) := by decide +kernel
theorem dL_wouldFame_18 : decode cL_wouldFame 18 = .ok (.ireturn, 1) := by decide +kernel
theorem dL_wouldFame_19 : decode cL_wouldFame 19 = .ok (.astore 5, 2) := by decide +kernel
theorem dL_wouldFame_21 : decode cL_wouldFame 21 = .ok (.iconst 2, 1) := by decide +kernel
theorem dL_wouldFame_22 : decode cL_wouldFame 22 = .ok (.ireturn, 1) := by decide +kernel
theorem dL_wouldFame_23 : decode cL_wouldFame 23 = .ok (.iconst 0, 1) := by decide +kernel
theorem dL_wouldFame_24 : decode cL_wouldFame 24 = .ok (.ireturn, 1) := by decide +kernel
set_option maxRecDepth 20000 in
theorem ggL_readyIn_X4_readyIn : GoodIn wsL_readyIn wsX4_readyIn := goodIn_ca (goodIn_r _ [6, 7, 8, 9, 10, 11, 12, 13, 14, 15, 5, 16, 17, 18, 19, 20, 21, 22, 23, 24, 25, 26, 27, 28, 29, 30, 31, 32, 33, 34, 35, 36, 37, 38, 39, 40, 41, 42, 43, 44, 45, 46, 47, 48, 49, 50, 51, 52, 53, 54, 55] (by decide +kernel) (by decide +kernel)) (goodIn_sub (fun _ h => List.mem_cons_of_mem _ (List.mem_append_right _ h)) (by decide +kernel))
set_option maxRecDepth 20000 in
theorem gL_readyIn_X4_readyIn : GoodIn wsL_readyIn (wsV RL 96 RX4 yX4_readyIn wsX4_readyIn) := goodIn_app (goodIn_of _ (by decide +kernel)) ggL_readyIn_X4_readyIn
theorem dL_readyIn_0 : decode cL_readyIn 0 = .ok (.aload_n 2, 1) := by decide +kernel
theorem dL_readyIn_1 : decode cL_readyIn 1 = .ok (.iconst 0, 1) := by decide +kernel
theorem dL_readyIn_2 : decode cL_readyIn 2 = .ok (.aload_n 0, 1) := by decide +kernel
theorem dL_readyIn_3 : decode cL_readyIn 3 = .ok (.iload_n 1, 1) := by decide +kernel
theorem dL_readyIn_4 : decode cL_readyIn 4 = .ok (.invokevirtual 96, 3) := by decide +kernel
theorem dL_readyIn_7 : decode cL_readyIn 7 = .ok (.i2l, 1) := by decide +kernel
theorem dL_readyIn_8 : decode cL_readyIn 8 = .ok (.lastore, 1) := by decide +kernel
theorem dL_readyIn_9 : decode cL_readyIn 9 = .ok (.goto 6, 3) := by decide +kernel
theorem dL_readyIn_12 : decode cL_readyIn 12 = .ok (.astore_n 3, 1) := by decide +kernel
theorem dL_readyIn_13 : decode cL_readyIn 13 = .ok (.iconst 1, 1) := by decide +kernel
theorem dL_readyIn_14 : decode cL_readyIn 14 = .ok (.ireturn, 1) := by decide +kernel
theorem dL_readyIn_15 : decode cL_readyIn 15 = .ok (.iconst 0, 1) := by decide +kernel
theorem dL_readyIn_16 : decode cL_readyIn 16 = .ok (.ireturn, 1) := by decide +kernel
set_option maxRecDepth 20000 in
theorem ggL_meltsIn_X4_meltsIn : GoodIn wsL_meltsIn wsX4_meltsIn := goodIn_ca (goodIn_ca (goodIn_r _ [7, 8, 9, 10, 11, 12, 13, 14, 15, 16, 17, 18, 6, 19, 20, 21, 22, 23, 24, 25, 26, 27, 28, 29, 30, 31, 32, 33, 34, 35, 36, 37, 38, 39, 40, 41, 42, 43, 44, 45, 46, 47, 48, 49, 50, 51, 52, 53, 54, 55, 56, 57, 58, 59, 60, 61, 62, 63, 64, 65, 66, 67, 68, 69, 70, 71, 72, 73, 74, 75, 76, 77, 78, 79, 80, 81, 82, 83, 84, 85, 86, 87, 88, 89, 90, 91, 92, 93, 94, 95, 96, 97, 98, 99, 100, 101, 102, 103, 104, 105, 106, 107, 108, 109, 110, 111, 112, 113, 114, 115, 116, 117, 118, 119, 120, 121, 122, 123, 124, 125, 126, 127, 128, 129, 130, 131, 132, 133, 134, 135, 136, 137, 138, 139, 140, 141, 142, 143, 144, 145, 146, 147, 148, 149, 150, 151, 152, 153, 154, 155, 156, 157, 158, 159, 160, 161, 162, 163, 164, 165, 166, 167, 168, 169, 170, 171, 172, 173, 174, 175, 176, 177, 178, 179, 180, 181, 182, 183, 184, 185, 186, 187, 188, 189, 190, 191, 192, 193, 194, 195, 196, 197] (by decide +kernel) (by decide +kernel)) (goodIn_sub (fun _ h => List.mem_cons_of_mem _ (List.mem_append_left _ (List.mem_append_right _ h))) (by decide +kernel))) (goodIn_sub (fun _ h => List.mem_cons_of_mem _ (List.mem_append_right _ h)) (by decide +kernel))
set_option maxRecDepth 20000 in
theorem gL_meltsIn_X4_meltsIn : GoodIn wsL_meltsIn (wsV RL 99 RX4 yX4_meltsIn wsX4_meltsIn) := goodIn_app (goodIn_of _ (by decide +kernel)) ggL_meltsIn_X4_meltsIn
theorem dL_meltsIn_0 : decode cL_meltsIn 0 = .ok (.aload 4, 2) := by decide +kernel
theorem dL_meltsIn_2 : decode cL_meltsIn 2 = .ok (.iconst 0, 1) := by decide +kernel
theorem dL_meltsIn_3 : decode cL_meltsIn 3 = .ok (.aload_n 0, 1) := by decide +kernel
theorem dL_meltsIn_4 : decode cL_meltsIn 4 = .ok (.iload_n 1, 1) := by decide +kernel
theorem dL_meltsIn_5 : decode cL_meltsIn 5 = .ok (.iload_n 2, 1) := by decide +kernel
theorem dL_meltsIn_6 : decode cL_meltsIn 6 = .ok (.iload_n 3, 1) := by decide +kernel
theorem dL_meltsIn_7 : decode cL_meltsIn 7 = .ok (.invokevirtual 99, 3) := by decide +kernel
theorem dL_meltsIn_10 : decode cL_meltsIn 10 = .ok (.i2l, 1) := by decide +kernel
theorem dL_meltsIn_11 : decode cL_meltsIn 11 = .ok (.lastore, 1) := by decide +kernel
theorem dL_meltsIn_12 : decode cL_meltsIn 12 = .ok (.goto 11, 3) := by decide +kernel
theorem dL_meltsIn_15 : decode cL_meltsIn 15 = .ok (.astore 5, 2) := by decide +kernel
theorem dL_meltsIn_17 : decode cL_meltsIn 17 = .ok (.iconst 1, 1) := by decide +kernel
theorem dL_meltsIn_18 : decode cL_meltsIn 18 = .ok (.ireturn, 1) := by decide +kernel
theorem dL_meltsIn_19 : decode cL_meltsIn 19 = .ok (.astore 5, 2) := by decide +kernel
theorem dL_meltsIn_21 : decode cL_meltsIn 21 = .ok (.iconst 2, 1) := by decide +kernel
theorem dL_meltsIn_22 : decode cL_meltsIn 22 = .ok (.ireturn, 1) := by decide +kernel
theorem dL_meltsIn_23 : decode cL_meltsIn 23 = .ok (.iconst 0, 1) := by decide +kernel
theorem dL_meltsIn_24 : decode cL_meltsIn 24 = .ok (.ireturn, 1) := by decide +kernel
