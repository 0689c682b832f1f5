theorem dX0_init_0 : decode cX0_init 0 = .ok (.aload_n 0, 1) := by decide +kernel
theorem dX0_init_1 : decode cX0_init 1 = .ok (.invokespecial 3, 3) := by decide +kernel
theorem dX0_init_4 : decode cX0_init 4 = .ok (.aload_n 0, 1) := by decide +kernel
theorem dX0_init_5 : decode cX0_init 5 = .ok (.aload_n 1, 1) := by decide +kernel
theorem dX0_init_6 : decode cX0_init 6 = .ok (.putfield 9, 3) := by decide +kernel
theorem dX0_init_9 : decode cX0_init 9 = .ok (.aload_n 0, 1) := by decide +kernel
theorem dX0_init_10 : decode cX0_init 10 = .ok (.aload_n 1, 1) := by decide +kernel
theorem dX0_init_11 : decode cX0_init 11 = .ok (.putfield 15, 3) := by decide +kernel
theorem dX0_init_14 : decode cX0_init 14 = .ok (.aload_n 0, 1) := by decide +kernel
theorem dX0_init_15 : decode cX0_init 15 = .ok (.iconst 5, 1) := by decide +kernel
theorem dX0_init_16 : decode cX0_init 16 = .ok (.putfield 18, 3) := by decide +kernel
theorem dX0_init_19 : decode cX0_init 19 = .ok (.return_, 1) := by decide +kernel
theorem dX0_copyFrom_0 : decode cX0_copyFrom 0 = .ok (.aload_n 0, 1) := by decide +kernel
theorem dX0_copyFrom_1 : decode cX0_copyFrom 1 = .ok (.aload_n 2, 1) := by decide +kernel
theorem dX0_copyFrom_2 : decode cX0_copyFrom 2 = .ok (.putfield 9, 3) := by decide +kernel
theorem dX0_copyFrom_5 : decode cX0_copyFrom 5 = .ok (.aload_n 0, 1) := by decide +kernel
theorem dX0_copyFrom_6 : decode cX0_copyFrom 6 = .ok (.aload_n 3, 1) := by decide +kernel
theorem dX0_copyFrom_7 : decode cX0_copyFrom 7 = .ok (.putfield 15, 3) := by decide +kernel
theorem dX0_copyFrom_10 : decode cX0_copyFrom 10 = .ok (.aload_n 0, 1) := by decide +kernel
theorem dX0_copyFrom_11 : decode cX0_copyFrom 11 = .ok (.aload_n 1, 1) := by decide +kernel
theorem dX0_copyFrom_12 : decode cX0_copyFrom 12 = .ok (.getfield 22, 3) := by decide +kernel
theorem dX0_copyFrom_15 : decode cX0_copyFrom 15 = .ok (.putfield 22, 3) := by decide +kernel
theorem dX0_copyFrom_18 : decode cX0_copyFrom 18 = .ok (.aload_n 0, 1) := by decide +kernel
theorem dX0_copyFrom_19 : decode cX0_copyFrom 19 = .ok (.aload_n 1, 1) := by decide +kernel
theorem dX0_copyFrom_20 : decode cX0_copyFrom 20 = .ok (.getfield 25, 3) := by decide +kernel
theorem dX0_copyFrom_23 : decode cX0_copyFrom 23 = .ok (.putfield 25, 3) := by decide +kernel
theorem dX0_copyFrom_26 : decode cX0_copyFrom 26 = .ok (.aload_n 0, 1) := by decide +kernel
theorem dX0_copyFrom_27 : decode cX0_copyFrom 27 = .ok (.aload_n 1, 1) := by decide +kernel
theorem dX0_copyFrom_28 : decode cX0_copyFrom 28 = .ok (.getfield 28, 3) := by decide +kernel
theorem dX0_copyFrom_31 : decode cX0_copyFrom 31 = .ok (.putfield 28, 3) := by decide +kernel
theorem dX0_copyFrom_34 : decode cX0_copyFrom 34 = .ok (.aload_n 0, 1) := by decide +kernel
theorem dX0_copyFrom_35 : decode cX0_copyFrom 35 = .ok (.aload_n 1, 1) := by decide +kernel
theorem dX0_copyFrom_36 : decode cX0_copyFrom 36 = .ok (.getfield 31, 3) := by decide +kernel
theorem dX0_copyFrom_39 : decode cX0_copyFrom 39 = .ok (.putfield 31, 3) := by decide +kernel
theorem dX0_copyFrom_42 : decode cX0_copyFrom 42 = .ok (.aload_n 0, 1) := by decide +kernel
theorem dX0_copyFrom_43 : decode cX0_copyFrom 43 = .ok (.aload_n 1, 1) := by decide +kernel
theorem dX0_copyFrom_44 : decode cX0_copyFrom 44 = .ok (.getfield 34, 3) := by decide +kernel
theorem dX0_copyFrom_47 : decode cX0_copyFrom 47 = .ok (.putfield 34, 3) := by decide +kernel
theorem dX0_copyFrom_50 : decode cX0_copyFrom 50 = .ok (.aload_n 0, 1) := by decide +kernel
theorem dX0_copyFrom_51 : decode cX0_copyFrom 51 = .ok (.aload_n 1, 1) := by decide +kernel
theorem dX0_copyFrom_52 : decode cX0_copyFrom 52 = .ok (.getfield 18, 3) := by decide +kernel
theorem dX0_copyFrom_55 : decode cX0_copyFrom 55 = .ok (.putfield 18, 3) := by decide +kernel
theorem dX0_copyFrom_58 : decode cX0_copyFrom 58 = .ok (.aload_n 0, 1) := by decide +kernel
theorem dX0_copyFrom_59 : decode cX0_copyFrom 59 = .ok (.aload_n 1, 1) := by decide +kernel
theorem dX0_copyFrom_60 : decode cX0_copyFrom 60 = .ok (.getfield 37, 3) := by decide +kernel
theorem dX0_copyFrom_63 : decode cX0_copyFrom 63 = .ok (.putfield 37, 3) := by decide +kernel
theorem dX0_copyFrom_66 : decode cX0_copyFrom 66 = .ok (.aload_n 0, 1) := by decide +kernel
theorem dX0_copyFrom_67 : decode cX0_copyFrom 67 = .ok (.aload_n 1, 1) := by decide +kernel
theorem dX0_copyFrom_68 : decode cX0_copyFrom 68 = .ok (.getfield 40, 3) := by decide +kernel
theorem dX0_copyFrom_71 : decode cX0_copyFrom 71 = .ok (.putfield 40, 3) := by decide +kernel
theorem dX0_copyFrom_74 : decode cX0_copyFrom 74 = .ok (.aload_n 0, 1) := by decide +kernel
theorem dX0_copyFrom_75 : decode cX0_copyFrom 75 = .ok (.aload_n 1, 1) := by decide +kernel
theorem dX0_copyFrom_76 : decode cX0_copyFrom 76 = .ok (.getfield 43, 3) := by decide +kernel
theorem dX0_copyFrom_79 : decode cX0_copyFrom 79 = .ok (.putfield 43, 3) := by decide +kernel
theorem dX0_copyFrom_82 : decode cX0_copyFrom 82 = .ok (.return_, 1) := by decide +kernel
theorem dX0_isDone_0 : decode cX0_isDone 0 = .ok (.aload_n 0, 1) := by decide +kernel
theorem dX0_isDone_1 : decode cX0_isDone 1 = .ok (.getfield 22, 3) := by decide +kernel
theorem dX0_isDone_4 : decode cX0_isDone 4 = .ok (.bipush 6, 2) := by decide +kernel
theorem dX0_isDone_6 : decode cX0_isDone 6 = .ok (.if_icmp .ne 16, 3) := by decide +kernel
theorem dX0_isDone_9 : decode cX0_isDone 9 = .ok (.aload_n 0, 1) := by decide +kernel
theorem dX0_isDone_10 : decode cX0_isDone 10 = .ok (.getfield 18, 3) := by decide +kernel
theorem dX0_isDone_13 : decode cX0_isDone 13 = .ok (.bipush 7, 2) := by decide +kernel
theorem dX0_isDone_15 : decode cX0_isDone 15 = .ok (.if_icmp .eq 7, 3) := by decide +kernel
theorem dX0_isDone_18 : decode cX0_isDone 18 = .ok (.iconst 1, 1) := by decide +kernel
theorem dX0_isDone_19 : decode cX0_isDone 19 = .ok (.goto 4, 3) := by decide +kernel
theorem dX0_isDone_22 : decode cX0_isDone 22 = .ok (.iconst 0, 1) := by decide +kernel
theorem dX0_isDone_23 : decode cX0_isDone 23 = .ok (.ireturn, 1) := by decide +kernel
theorem dX0_isReadyInStore_0 : decode cX0_isReadyInStore 0 = .ok (.aload_n 0, 1) := by decide +kernel
theorem dX0_isReadyInStore_1 : decode cX0_isReadyInStore 1 = .ok (.getfield 22, 3) := by decide +kernel
theorem dX0_isReadyInStore_4 : decode cX0_isReadyInStore 4 = .ok (.bipush 6, 2) := by decide +kernel
theorem dX0_isReadyInStore_6 : decode cX0_isReadyInStore 6 = .ok (.if_icmp .ne 15, 3) := by decide +kernel
theorem dX0_isReadyInStore_9 : decode cX0_isReadyInStore 9 = .ok (.aload_n 0, 1) := by decide +kernel
theorem dX0_isReadyInStore_10 : decode cX0_isReadyInStore 10 = .ok (.getfield 18, 3) := by decide +kernel
theorem dX0_isReadyInStore_13 : decode cX0_isReadyInStore 13 = .ok (.iconst 5, 1) := by decide +kernel
theorem dX0_isReadyInStore_14 : decode cX0_isReadyInStore 14 = .ok (.if_icmp .ne 7, 3) := by decide +kernel
theorem dX0_isReadyInStore_17 : decode cX0_isReadyInStore 17 = .ok (.iconst 1, 1) := by decide +kernel
theorem dX0_isReadyInStore_18 : decode cX0_isReadyInStore 18 = .ok (.goto 4, 3) := by decide +kernel
theorem dX0_isReadyInStore_21 : decode cX0_isReadyInStore 21 = .ok (.iconst 0, 1) := by decide +kernel
theorem dX0_isReadyInStore_22 : decode cX0_isReadyInStore 22 = .ok (.ireturn, 1) := by decide +kernel
theorem dX0_isShown_0 : decode cX0_isShown 0 = .ok (.aload_n 0, 1) := by decide +kernel
theorem dX0_isShown_1 : decode cX0_isShown 1 = .ok (.getfield 18, 3) := by decide +kernel
theorem dX0_isShown_4 : decode cX0_isShown 4 = .ok (.ifCond .lt 15, 3) := by decide +kernel
theorem dX0_isShown_7 : decode cX0_isShown 7 = .ok (.aload_n 0, 1) := by decide +kernel
theorem dX0_isShown_8 : decode cX0_isShown 8 = .ok (.getfield 18, 3) := by decide +kernel
theorem dX0_isShown_11 : decode cX0_isShown 11 = .ok (.iconst 5, 1) := by decide +kernel
theorem dX0_isShown_12 : decode cX0_isShown 12 = .ok (.if_icmp .ge 7, 3) := by decide +kernel
theorem dX0_isShown_15 : decode cX0_isShown 15 = .ok (.iconst 1, 1) := by decide +kernel
theorem dX0_isShown_16 : decode cX0_isShown 16 = .ok (.goto 4, 3) := by decide +kernel
theorem dX0_isShown_19 : decode cX0_isShown 19 = .ok (.iconst 0, 1) := by decide +kernel
theorem dX0_isShown_20 : decode cX0_isShown 20 = .ok (.ireturn, 1) := by decide +kernel
theorem dX0_becomeMelted_0 : decode cX0_becomeMelted 0 = .ok (.aload_n 0, 1) := by decide +kernel
theorem dX0_becomeMelted_1 : decode cX0_becomeMelted 1 = .ok (.bipush 7, 2) := by decide +kernel
theorem dX0_becomeMelted_3 : decode cX0_becomeMelted 3 = .ok (.putfield 18, 3) := by decide +kernel
theorem dX0_becomeMelted_6 : decode cX0_becomeMelted 6 = .ok (.aload_n 0, 1) := by decide +kernel
theorem dX0_becomeMelted_7 : decode cX0_becomeMelted 7 = .ok (.iconst 0, 1) := by decide +kernel
theorem dX0_becomeMelted_8 : decode cX0_becomeMelted 8 = .ok (.putfield 28, 3) := by decide +kernel
theorem dX0_becomeMelted_11 : decode cX0_becomeMelted 11 = .ok (.return_, 1) := by decide +kernel
set_option maxRecDepth 20000 in
theorem ggX0_workDay_X2_doubt : GoodIn wsX0_workDay wsX2_doubt := goodIn_r _ [11, 12, 13, 25, 26, 27, 28, 29, 30, 31, 32] (by decide +kernel) (by decide +kernel)
set_option maxRecDepth 20000 in
theorem gX0_workDay_X2_doubt : GoodIn wsX0_workDay (wsV RX0 50 RX2 yX2_doubt wsX2_doubt) := goodIn_app (goodIn_of _ (by decide +kernel)) ggX0_workDay_X2_doubt
theorem dX0_workDay_0 : decode cX0_workDay 0 = .ok (.aload_n 0, 1) := by decide +kernel
theorem dX0_workDay_1 : decode cX0_workDay 1 = .ok (.getfield 22, 3) := by decide +kernel
theorem dX0_workDay_4 : decode cX0_workDay 4 = .ok (.bipush 6, 2) := by decide +kernel
theorem dX0_workDay_6 : decode cX0_workDay 6 = .ok (.if_icmp .ge 12, 3) := by decide +kernel
theorem dX0_workDay_9 : decode cX0_workDay 9 = .ok (.aload_n 0, 1) := by decide +kernel
theorem dX0_workDay_10 : decode cX0_workDay 10 = .ok (.getfield 18, 3) := by decide +kernel
theorem dX0_workDay_13 : decode cX0_workDay 13 = .ok (.bipush 7, 2) := by decide +kernel
theorem dX0_workDay_15 : decode cX0_workDay 15 = .ok (.if_icmp .ne 5, 3) := by decide +kernel
theorem dX0_workDay_18 : decode cX0_workDay 18 = .ok (.iconst 0, 1) := by decide +kernel
theorem dX0_workDay_19 : decode cX0_workDay 19 = .ok (.ireturn, 1) := by decide +kernel
theorem dX0_workDay_20 : decode cX0_workDay 20 = .ok (.aload_n 0, 1) := by decide +kernel
theorem dX0_workDay_21 : decode cX0_workDay 21 = .ok (.dup, 1) := by decide +kernel
theorem dX0_workDay_22 : decode cX0_workDay 22 = .ok (.getfield 25, 3) := by decide +kernel
theorem dX0_workDay_25 : decode cX0_workDay 25 = .ok (.aload_n 0, 1) := by decide +kernel
theorem dX0_workDay_26 : decode cX0_workDay 26 = .ok (.getfield 28, 3) := by decide +kernel
theorem dX0_workDay_29 : decode cX0_workDay 29 = .ok (.iadd, 1) := by decide +kernel
theorem dX0_workDay_30 : decode cX0_workDay 30 = .ok (.putfield 25, 3) := by decide +kernel
theorem dX0_workDay_33 : decode cX0_workDay 33 = .ok (.aload_n 0, 1) := by decide +kernel
theorem dX0_workDay_34 : decode cX0_workDay 34 = .ok (.getfield 22, 3) := by decide +kernel
theorem dX0_workDay_37 : decode cX0_workDay 37 = .ok (.getstatic 46, 3) := by decide +kernel
theorem dX0_workDay_40 : decode cX0_workDay 40 = .ok (.arraylength, 1) := by decide +kernel
theorem dX0_workDay_41 : decode cX0_workDay 41 = .ok (.if_icmp .ge 67, 3) := by decide +kernel
theorem dX0_workDay_44 : decode cX0_workDay 44 = .ok (.aload_n 0, 1) := by decide +kernel
theorem dX0_workDay_45 : decode cX0_workDay 45 = .ok (.getfield 25, 3) := by decide +kernel
theorem dX0_workDay_48 : decode cX0_workDay 48 = .ok (.getstatic 46, 3) := by decide +kernel
theorem dX0_workDay_51 : decode cX0_workDay 51 = .ok (.aload_n 0, 1) := by decide +kernel
theorem dX0_workDay_52 : decode cX0_workDay 52 = .ok (.getfield 22, 3) := by decide +kernel
theorem dX0_workDay_55 : decode cX0_workDay 55 = .ok (.iaload, 1) := by decide +kernel
theorem dX0_workDay_56 : decode cX0_workDay 56 = .ok (.if_icmp .lt 52, 3) := by decide +kernel
theorem dX0_workDay_59 : decode cX0_workDay 59 = .ok (.aload_n 0, 1) := by decide +kernel
theorem dX0_workDay_60 : decode cX0_workDay 60 = .ok (.dup, 1) := by decide +kernel
theorem dX0_workDay_61 : decode cX0_workDay 61 = .ok (.getfield 25, 3) := by decide +kernel
theorem dX0_workDay_64 : decode cX0_workDay 64 = .ok (.getstatic 46, 3) := by decide +kernel
theorem dX0_workDay_67 : decode cX0_workDay 67 = .ok (.aload_n 0, 1) := by decide +kernel
theorem dX0_workDay_68 : decode cX0_workDay 68 = .ok (.getfield 22, 3) := by decide +kernel
theorem dX0_workDay_71 : decode cX0_workDay 71 = .ok (.iaload, 1) := by decide +kernel
theorem dX0_workDay_72 : decode cX0_workDay 72 = .ok (.isub, 1) := by decide +kernel
theorem dX0_workDay_73 : decode cX0_workDay 73 = .ok (.putfield 25, 3) := by decide +kernel
theorem dX0_workDay_76 : decode cX0_workDay 76 = .ok (.aload_n 0, 1) := by decide +kernel
theorem dX0_workDay_77 : decode cX0_workDay 77 = .ok (.dup, 1) := by decide +kernel
theorem dX0_workDay_78 : decode cX0_workDay 78 = .ok (.getfield 22, 3) := by decide +kernel
theorem dX0_workDay_81 : decode cX0_workDay 81 = .ok (.iconst 1, 1) := by decide +kernel
theorem dX0_workDay_82 : decode cX0_workDay 82 = .ok (.iadd, 1) := by decide +kernel
theorem dX0_workDay_83 : decode cX0_workDay 83 = .ok (.putfield 22, 3) := by decide +kernel
theorem dX0_workDay_86 : decode cX0_workDay 86 = .ok (.aload_n 0, 1) := by decide +kernel
theorem dX0_workDay_87 : decode cX0_workDay 87 = .ok (.getfield 22, 3) := by decide +kernel
theorem dX0_workDay_90 : decode cX0_workDay 90 = .ok (.iconst 1, 1) := by decide +kernel
theorem dX0_workDay_91 : decode cX0_workDay 91 = .ok (.if_icmp .ne (-58), 3) := by decide +kernel
theorem dX0_workDay_94 : decode cX0_workDay 94 = .ok (.aload_n 0, 1) := by decide +kernel
theorem dX0_workDay_95 : decode cX0_workDay 95 = .ok (.aload_n 0, 1) := by decide +kernel
theorem dX0_workDay_96 : decode cX0_workDay 96 = .ok (.getfield 9, 3) := by decide +kernel
theorem dX0_workDay_99 : decode cX0_workDay 99 = .ok (.invokevirtual 50, 3) := by decide +kernel
theorem dX0_workDay_102 : decode cX0_workDay 102 = .ok (.putfield 31, 3) := by decide +kernel
theorem dX0_workDay_105 : decode cX0_workDay 105 = .ok (.goto (-72), 3) := by decide +kernel
theorem dX0_workDay_108 : decode cX0_workDay 108 = .ok (.aload_n 0, 1) := by decide +kernel
theorem dX0_workDay_109 : decode cX0_workDay 109 = .ok (.getfield 22, 3) := by decide +kernel
theorem dX0_workDay_112 : decode cX0_workDay 112 = .ok (.bipush 6, 2) := by decide +kernel
theorem dX0_workDay_114 : decode cX0_workDay 114 = .ok (.if_icmp .ge 5, 3) := by decide +kernel
theorem dX0_workDay_117 : decode cX0_workDay 117 = .ok (.iconst 0, 1) := by decide +kernel
theorem dX0_workDay_118 : decode cX0_workDay 118 = .ok (.ireturn, 1) := by decide +kernel
theorem dX0_workDay_119 : decode cX0_workDay 119 = .ok (.aload_n 0, 1) := by decide +kernel
theorem dX0_workDay_120 : decode cX0_workDay 120 = .ok (.iconst 0, 1) := by decide +kernel
theorem dX0_workDay_121 : decode cX0_workDay 121 = .ok (.putfield 25, 3) := by decide +kernel
theorem dX0_workDay_124 : decode cX0_workDay 124 = .ok (.aload_n 0, 1) := by decide +kernel
theorem dX0_workDay_125 : decode cX0_workDay 125 = .ok (.iconst 0, 1) := by decide +kernel
theorem dX0_workDay_126 : decode cX0_workDay 126 = .ok (.putfield 28, 3) := by decide +kernel
theorem dX0_workDay_129 : decode cX0_workDay 129 = .ok (.iconst 1, 1) := by decide +kernel
theorem dX0_workDay_130 : decode cX0_workDay 130 = .ok (.ireturn, 1) := by decide +kernel
theorem dX0_workLeftInStep_0 : decode cX0_workLeftInStep 0 = .ok (.aload_n 0, 1) := by decide +kernel
theorem dX0_workLeftInStep_1 : decode cX0_workLeftInStep 1 = .ok (.getfield 22, 3) := by decide +kernel
theorem dX0_workLeftInStep_4 : decode cX0_workLeftInStep 4 = .ok (.getstatic 46, 3) := by decide +kernel
theorem dX0_workLeftInStep_7 : decode cX0_workLeftInStep 7 = .ok (.arraylength, 1) := by decide +kernel
theorem dX0_workLeftInStep_8 : decode cX0_workLeftInStep 8 = .ok (.if_icmp .ge 19, 3) := by decide +kernel
theorem dX0_workLeftInStep_11 : decode cX0_workLeftInStep 11 = .ok (.getstatic 46, 3) := by decide +kernel
theorem dX0_workLeftInStep_14 : decode cX0_workLeftInStep 14 = .ok (.aload_n 0, 1) := by decide +kernel
theorem dX0_workLeftInStep_15 : decode cX0_workLeftInStep 15 = .ok (.getfield 22, 3) := by decide +kernel
theorem dX0_workLeftInStep_18 : decode cX0_workLeftInStep 18 = .ok (.iaload, 1) := by decide +kernel
theorem dX0_workLeftInStep_19 : decode cX0_workLeftInStep 19 = .ok (.aload_n 0, 1) := by decide +kernel
theorem dX0_workLeftInStep_20 : decode cX0_workLeftInStep 20 = .ok (.getfield 25, 3) := by decide +kernel
theorem dX0_workLeftInStep_23 : decode cX0_workLeftInStep 23 = .ok (.isub, 1) := by decide +kernel
theorem dX0_workLeftInStep_24 : decode cX0_workLeftInStep 24 = .ok (.goto 4, 3) := by decide +kernel
theorem dX0_workLeftInStep_27 : decode cX0_workLeftInStep 27 = .ok (.iconst 0, 1) := by decide +kernel
theorem dX0_workLeftInStep_28 : decode cX0_workLeftInStep 28 = .ok (.ireturn, 1) := by decide +kernel
set_option maxRecDepth 20000 in
theorem ggX0_daysTillDone_X0_isDone : GoodIn wsX0_daysTillDone wsX0_isDone := goodIn_r _ [9, 4, 1, 10, 11, 12, 13, 14, 15, 16, 17, 18, 19, 20] (by decide +kernel) (by decide +kernel)
set_option maxRecDepth 20000 in
theorem gX0_daysTillDone_X0_isDone : GoodIn wsX0_daysTillDone (wsV RX0 56 RX0 yX0_isDone wsX0_isDone) := goodIn_app (goodIn_of _ (by decide +kernel)) ggX0_daysTillDone_X0_isDone
theorem dX0_daysTillDone_0 : decode cX0_daysTillDone 0 = .ok (.aload_n 0, 1) := by decide +kernel
theorem dX0_daysTillDone_1 : decode cX0_daysTillDone 1 = .ok (.invokevirtual 56, 3) := by decide +kernel
theorem dX0_daysTillDone_4 : decode cX0_daysTillDone 4 = .ok (.ifCond .eq 5, 3) := by decide +kernel
theorem dX0_daysTillDone_7 : decode cX0_daysTillDone 7 = .ok (.iconst 0, 1) := by decide +kernel
theorem dX0_daysTillDone_8 : decode cX0_daysTillDone 8 = .ok (.ireturn, 1) := by decide +kernel
theorem dX0_daysTillDone_9 : decode cX0_daysTillDone 9 = .ok (.aload_n 0, 1) := by decide +kernel
theorem dX0_daysTillDone_10 : decode cX0_daysTillDone 10 = .ok (.getfield 18, 3) := by decide +kernel
theorem dX0_daysTillDone_13 : decode cX0_daysTillDone 13 = .ok (.bipush 7, 2) := by decide +kernel
theorem dX0_daysTillDone_15 : decode cX0_daysTillDone 15 = .ok (.if_icmp .eq 10, 3) := by decide +kernel
theorem dX0_daysTillDone_18 : decode cX0_daysTillDone 18 = .ok (.aload_n 0, 1) := by decide +kernel
theorem dX0_daysTillDone_19 : decode cX0_daysTillDone 19 = .ok (.getfield 28, 3) := by decide +kernel
theorem dX0_daysTillDone_22 : decode cX0_daysTillDone 22 = .ok (.ifCond .gt 5, 3) := by decide +kernel
theorem dX0_daysTillDone_25 : decode cX0_daysTillDone 25 = .ok (.iconst (-1), 1) := by decide +kernel
theorem dX0_daysTillDone_26 : decode cX0_daysTillDone 26 = .ok (.ireturn, 1) := by decide +kernel
theorem dX0_daysTillDone_27 : decode cX0_daysTillDone 27 = .ok (.aload_n 0, 1) := by decide +kernel
theorem dX0_daysTillDone_28 : decode cX0_daysTillDone 28 = .ok (.getfield 25, 3) := by decide +kernel
theorem dX0_daysTillDone_31 : decode cX0_daysTillDone 31 = .ok (.ineg, 1) := by decide +kernel
theorem dX0_daysTillDone_32 : decode cX0_daysTillDone 32 = .ok (.istore_n 1, 1) := by decide +kernel
theorem dX0_daysTillDone_33 : decode cX0_daysTillDone 33 = .ok (.aload_n 0, 1) := by decide +kernel
theorem dX0_daysTillDone_34 : decode cX0_daysTillDone 34 = .ok (.getfield 22, 3) := by decide +kernel
theorem dX0_daysTillDone_37 : decode cX0_daysTillDone 37 = .ok (.istore_n 2, 1) := by decide +kernel
theorem dX0_daysTillDone_38 : decode cX0_daysTillDone 38 = .ok (.iload_n 2, 1) := by decide +kernel
theorem dX0_daysTillDone_39 : decode cX0_daysTillDone 39 = .ok (.getstatic 46, 3) := by decide +kernel
theorem dX0_daysTillDone_42 : decode cX0_daysTillDone 42 = .ok (.arraylength, 1) := by decide +kernel
theorem dX0_daysTillDone_43 : decode cX0_daysTillDone 43 = .ok (.if_icmp .ge 17, 3) := by decide +kernel
theorem dX0_daysTillDone_46 : decode cX0_daysTillDone 46 = .ok (.iload_n 1, 1) := by decide +kernel
theorem dX0_daysTillDone_47 : decode cX0_daysTillDone 47 = .ok (.getstatic 46, 3) := by decide +kernel
theorem dX0_daysTillDone_50 : decode cX0_daysTillDone 50 = .ok (.iload_n 2, 1) := by decide +kernel
theorem dX0_daysTillDone_51 : decode cX0_daysTillDone 51 = .ok (.iaload, 1) := by decide +kernel
theorem dX0_daysTillDone_52 : decode cX0_daysTillDone 52 = .ok (.iadd, 1) := by decide +kernel
theorem dX0_daysTillDone_53 : decode cX0_daysTillDone 53 = .ok (.istore_n 1, 1) := by decide +kernel
theorem dX0_daysTillDone_54 : decode cX0_daysTillDone 54 = .ok (.iinc 2 1, 3) := by decide +kernel
theorem dX0_daysTillDone_57 : decode cX0_daysTillDone 57 = .ok (.goto (-19), 3) := by decide +kernel
theorem dX0_daysTillDone_60 : decode cX0_daysTillDone 60 = .ok (.iload_n 1, 1) := by decide +kernel
theorem dX0_daysTillDone_61 : decode cX0_daysTillDone 61 = .ok (.aload_n 0, 1) := by decide +kernel
theorem dX0_daysTillDone_62 : decode cX0_daysTillDone 62 = .ok (.getfield 28, 3) := by decide +kernel
theorem dX0_daysTillDone_65 : decode cX0_daysTillDone 65 = .ok (.iadd, 1) := by decide +kernel
theorem dX0_daysTillDone_66 : decode cX0_daysTillDone 66 = .ok (.iconst 1, 1) := by decide +kernel
theorem dX0_daysTillDone_67 : decode cX0_daysTillDone 67 = .ok (.isub, 1) := by decide +kernel
theorem dX0_daysTillDone_68 : decode cX0_daysTillDone 68 = .ok (.aload_n 0, 1) := by decide +kernel
theorem dX0_daysTillDone_69 : decode cX0_daysTillDone 69 = .ok (.getfield 28, 3) := by decide +kernel
theorem dX0_daysTillDone_72 : decode cX0_daysTillDone 72 = .ok (.idiv, 1) := by decide +kernel
theorem dX0_daysTillDone_73 : decode cX0_daysTillDone 73 = .ok (.ireturn, 1) := by decide +kernel
set_option maxRecDepth 20000 in
theorem ggX0_likeness_X0_isDone : GoodIn wsX0_likeness wsX0_isDone := goodIn_r _ [9, 10, 11, 19, 20, 21, 22, 23, 24, 25, 26, 27, 28, 29] (by decide +kernel) (by decide +kernel)
set_option maxRecDepth 20000 in
theorem gX0_likeness_X0_isDone : GoodIn wsX0_likeness (wsV RX0 56 RX0 yX0_isDone wsX0_isDone) := goodIn_app (goodIn_of _ (by decide +kernel)) ggX0_likeness_X0_isDone
set_option maxRecDepth 20000 in
theorem ggX0_likeness_X2_doubleHeight : GoodIn wsX0_likeness wsX2_doubleHeight := goodIn_r _ [16, 17, 18, 30, 31, 32, 33, 34, 35, 36, 37] (by decide +kernel) (by decide +kernel)
set_option maxRecDepth 20000 in
theorem gX0_likeness_X2_doubleHeight : GoodIn wsX0_likeness (wsV RX0 60 RX2 yX2_doubleHeight wsX2_doubleHeight) := goodIn_app (goodIn_of _ (by decide +kernel)) ggX0_likeness_X2_doubleHeight
theorem dX0_likeness_0 : decode cX0_likeness 0 = .ok (.aload_n 0, 1) := by decide +kernel
theorem dX0_likeness_1 : decode cX0_likeness 1 = .ok (.invokevirtual 56, 3) := by decide +kernel
theorem dX0_likeness_4 : decode cX0_likeness 4 = .ok (.ifCond .ne 5, 3) := by decide +kernel
theorem dX0_likeness_7 : decode cX0_likeness 7 = .ok (.iconst 0, 1) := by decide +kernel
theorem dX0_likeness_8 : decode cX0_likeness 8 = .ok (.ireturn, 1) := by decide +kernel
theorem dX0_likeness_9 : decode cX0_likeness 9 = .ok (.bipush 100, 2) := by decide +kernel
theorem dX0_likeness_11 : decode cX0_likeness 11 = .ok (.aload_n 0, 1) := by decide +kernel
theorem dX0_likeness_12 : decode cX0_likeness 12 = .ok (.getfield 31, 3) := by decide +kernel
theorem dX0_likeness_15 : decode cX0_likeness 15 = .ok (.isub, 1) := by decide +kernel
theorem dX0_likeness_16 : decode cX0_likeness 16 = .ok (.aload_n 0, 1) := by decide +kernel
theorem dX0_likeness_17 : decode cX0_likeness 17 = .ok (.getfield 34, 3) := by decide +kernel
theorem dX0_likeness_20 : decode cX0_likeness 20 = .ok (.iconst 2, 1) := by decide +kernel
theorem dX0_likeness_21 : decode cX0_likeness 21 = .ok (.idiv, 1) := by decide +kernel
theorem dX0_likeness_22 : decode cX0_likeness 22 = .ok (.isub, 1) := by decide +kernel
theorem dX0_likeness_23 : decode cX0_likeness 23 = .ok (.istore_n 1, 1) := by decide +kernel
theorem dX0_likeness_24 : decode cX0_likeness 24 = .ok (.aload_n 0, 1) := by decide +kernel
theorem dX0_likeness_25 : decode cX0_likeness 25 = .ok (.getfield 9, 3) := by decide +kernel
theorem dX0_likeness_28 : decode cX0_likeness 28 = .ok (.aload_n 0, 1) := by decide +kernel
theorem dX0_likeness_29 : decode cX0_likeness 29 = .ok (.getfield 15, 3) := by decide +kernel
theorem dX0_likeness_32 : decode cX0_likeness 32 = .ok (.if_acmp .eq 34, 3) := by decide +kernel
theorem dX0_likeness_35 : decode cX0_likeness 35 = .ok (.aload_n 0, 1) := by decide +kernel
theorem dX0_likeness_36 : decode cX0_likeness 36 = .ok (.getfield 9, 3) := by decide +kernel
theorem dX0_likeness_39 : decode cX0_likeness 39 = .ok (.invokevirtual 60, 3) := by decide +kernel
theorem dX0_likeness_42 : decode cX0_likeness 42 = .ok (.aload_n 0, 1) := by decide +kernel
theorem dX0_likeness_43 : decode cX0_likeness 43 = .ok (.getfield 15, 3) := by decide +kernel
theorem dX0_likeness_46 : decode cX0_likeness 46 = .ok (.invokevirtual 60, 3) := by decide +kernel
theorem dX0_likeness_49 : decode cX0_likeness 49 = .ok (.isub, 1) := by decide +kernel
theorem dX0_likeness_50 : decode cX0_likeness 50 = .ok (.istore_n 2, 1) := by decide +kernel
theorem dX0_likeness_51 : decode cX0_likeness 51 = .ok (.iload_n 1, 1) := by decide +kernel
theorem dX0_likeness_52 : decode cX0_likeness 52 = .ok (.iload_n 2, 1) := by decide +kernel
theorem dX0_likeness_53 : decode cX0_likeness 53 = .ok (.ifCond .ge 8, 3) := by decide +kernel
theorem dX0_likeness_56 : decode cX0_likeness 56 = .ok (.iload_n 2, 1) := by decide +kernel
theorem dX0_likeness_57 : decode cX0_likeness 57 = .ok (.ineg, 1) := by decide +kernel
theorem dX0_likeness_58 : decode cX0_likeness 58 = .ok (.goto 4, 3) := by decide +kernel
theorem dX0_likeness_61 : decode cX0_likeness 61 = .ok (.iload_n 2, 1) := by decide +kernel
theorem dX0_likeness_62 : decode cX0_likeness 62 = .ok (.iconst 4, 1) := by decide +kernel
theorem dX0_likeness_63 : decode cX0_likeness 63 = .ok (.idiv, 1) := by decide +kernel
theorem dX0_likeness_64 : decode cX0_likeness 64 = .ok (.isub, 1) := by decide +kernel
theorem dX0_likeness_65 : decode cX0_likeness 65 = .ok (.istore_n 1, 1) := by decide +kernel
theorem dX0_likeness_66 : decode cX0_likeness 66 = .ok (.iload_n 1, 1) := by decide +kernel
theorem dX0_likeness_67 : decode cX0_likeness 67 = .ok (.ifCond .ge 7, 3) := by decide +kernel
theorem dX0_likeness_70 : decode cX0_likeness 70 = .ok (.iconst 0, 1) := by decide +kernel
theorem dX0_likeness_71 : decode cX0_likeness 71 = .ok (.goto 4, 3) := by decide +kernel
theorem dX0_likeness_74 : decode cX0_likeness 74 = .ok (.iload_n 1, 1) := by decide +kernel
theorem dX0_likeness_75 : decode cX0_likeness 75 = .ok (.ireturn, 1) := by decide +kernel
set_option maxRecDepth 20000 in
theorem ggX0_draw_X0_isShown : GoodIn wsX0_draw wsX0_isShown := goodIn_r _ [7, 8, 28, 29, 30, 31, 32, 33, 34, 35, 36, 37, 38] (by decide +kernel) (by decide +kernel)
set_option maxRecDepth 20000 in
theorem gX0_draw_X0_isShown : GoodIn wsX0_draw (wsV RX0 63 RX0 yX0_isShown wsX0_isShown) := goodIn_app (goodIn_of _ (by decide +kernel)) ggX0_draw_X0_isShown
set_option maxRecDepth 20000 in
theorem ggX0_draw_X0_likeness : GoodIn wsX0_draw wsX0_likeness := goodIn_r _ [12, 13, 14, 1, 15, 16, 17, 18, 6, 19, 20, 8, 21, 22, 23, 24, 25, 26, 27, 28, 29, 30, 31, 32, 33, 34, 35, 36, 37, 38, 39, 40, 41, 42, 43, 44, 45, 46] (by decide +kernel) (by decide +kernel)
set_option maxRecDepth 20000 in
theorem gX0_draw_X0_likeness : GoodIn wsX0_draw (wsV RX0 69 RX0 yX0_likeness wsX0_likeness) := goodIn_app (goodIn_of _ (by decide +kernel)) ggX0_draw_X0_likeness
theorem dX0_draw_0 : decode cX0_draw 0 = .ok (.aload_n 0, 1) := by decide +kernel
theorem dX0_draw_1 : decode cX0_draw 1 = .ok (.invokevirtual 63, 3) := by decide +kernel
theorem dX0_draw_4 : decode cX0_draw 4 = .ok (.ifCond .eq 23, 3) := by decide +kernel
theorem dX0_draw_7 : decode cX0_draw 7 = .ok (.aload_n 0, 1) := by decide +kernel
theorem dX0_draw_8 : decode cX0_draw 8 = .ok (.getfield 9, 3) := by decide +kernel
theorem dX0_draw_11 : decode cX0_draw 11 = .ok (.getfield 66, 3) := by decide +kernel
theorem dX0_draw_14 : decode cX0_draw 14 = .ok (.iconst 0, 1) := by decide +kernel
theorem dX0_draw_15 : decode cX0_draw 15 = .ok (.iaload, 1) := by decide +kernel
theorem dX0_draw_16 : decode cX0_draw 16 = .ok (.aload_n 0, 1) := by decide +kernel
theorem dX0_draw_17 : decode cX0_draw 17 = .ok (.invokevirtual 69, 3) := by decide +kernel
theorem dX0_draw_20 : decode cX0_draw 20 = .ok (.imul, 1) := by decide +kernel
theorem dX0_draw_21 : decode cX0_draw 21 = .ok (.bipush 100, 2) := by decide +kernel
theorem dX0_draw_23 : decode cX0_draw 23 = .ok (.idiv, 1) := by decide +kernel
theorem dX0_draw_24 : decode cX0_draw 24 = .ok (.goto 4, 3) := by decide +kernel
theorem dX0_draw_27 : decode cX0_draw 27 = .ok (.iconst 0, 1) := by decide +kernel
theorem dX0_draw_28 : decode cX0_draw 28 = .ok (.ireturn, 1) := by decide +kernel
theorem dX0_swapHeadWith_0 : decode cX0_swapHeadWith 0 = .ok (.aload_n 0, 1) := by decide +kernel
theorem dX0_swapHeadWith_1 : decode cX0_swapHeadWith 1 = .ok (.getfield 9, 3) := by decide +kernel
theorem dX0_swapHeadWith_4 : decode cX0_swapHeadWith 4 = .ok (.astore_n 2, 1) := by decide +kernel
theorem dX0_swapHeadWith_5 : decode cX0_swapHeadWith 5 = .ok (.aload_n 0, 1) := by decide +kernel
theorem dX0_swapHeadWith_6 : decode cX0_swapHeadWith 6 = .ok (.getfield 31, 3) := by decide +kernel
theorem dX0_swapHeadWith_9 : decode cX0_swapHeadWith 9 = .ok (.istore_n 3, 1) := by decide +kernel
theorem dX0_swapHeadWith_10 : decode cX0_swapHeadWith 10 = .ok (.aload_n 0, 1) := by decide +kernel
theorem dX0_swapHeadWith_11 : decode cX0_swapHeadWith 11 = .ok (.aload_n 1, 1) := by decide +kernel
theorem dX0_swapHeadWith_12 : decode cX0_swapHeadWith 12 = .ok (.getfield 9, 3) := by decide +kernel
theorem dX0_swapHeadWith_15 : decode cX0_swapHeadWith 15 = .ok (.putfield 9, 3) := by decide +kernel
theorem dX0_swapHeadWith_18 : decode cX0_swapHeadWith 18 = .ok (.aload_n 0, 1) := by decide +kernel
theorem dX0_swapHeadWith_19 : decode cX0_swapHeadWith 19 = .ok (.aload_n 1, 1) := by decide +kernel
theorem dX0_swapHeadWith_20 : decode cX0_swapHeadWith 20 = .ok (.getfield 31, 3) := by decide +kernel
theorem dX0_swapHeadWith_23 : decode cX0_swapHeadWith 23 = .ok (.putfield 31, 3) := by decide +kernel
theorem dX0_swapHeadWith_26 : decode cX0_swapHeadWith 26 = .ok (.aload_n 1, 1) := by decide +kernel
theorem dX0_swapHeadWith_27 : decode cX0_swapHeadWith 27 = .ok (.aload_n 2, 1) := by decide +kernel
theorem dX0_swapHeadWith_28 : decode cX0_swapHeadWith 28 = .ok (.putfield 9, 3) := by decide +kernel
theorem dX0_swapHeadWith_31 : decode cX0_swapHeadWith 31 = .ok (.aload_n 1, 1) := by decide +kernel
theorem dX0_swapHeadWith_32 : decode cX0_swapHeadWith 32 = .ok (.iload_n 3, 1) := by decide +kernel
theorem dX0_swapHeadWith_33 : decode cX0_swapHeadWith 33 = .ok (.putfield 31, 3) := by decide +kernel
theorem dX0_swapHeadWith_36 : decode cX0_swapHeadWith 36 = .ok (.return_, 1) := by decide +kernel
set_option maxRecDepth 20000 in
theorem ggX0_wearDay_X0_becomeMelted : GoodIn wsX0_wearDay wsX0_becomeMelted := goodIn_r _ [13, 14, 15, 16, 17, 18, 19, 20, 21, 22, 23, 24, 25, 26] (by decide +kernel) (by decide +kernel)
set_option maxRecDepth 20000 in
theorem gX0_wearDay_X0_becomeMelted : GoodIn wsX0_wearDay (wsV RX0 81 RX0 yX0_becomeMelted wsX0_becomeMelted) := goodIn_app (goodIn_of _ (by decide +kernel)) ggX0_wearDay_X0_becomeMelted
theorem dX0_wearDay_0 : decode cX0_wearDay 0 = .ok (.aload_n 0, 1) := by decide +kernel
theorem dX0_wearDay_1 : decode cX0_wearDay 1 = .ok (.dup, 1) := by decide +kernel
theorem dX0_wearDay_2 : decode cX0_wearDay 2 = .ok (.getfield 43, 3) := by decide +kernel
theorem dX0_wearDay_5 : decode cX0_wearDay 5 = .ok (.iload_n 1, 1) := by decide +kernel
theorem dX0_wearDay_6 : decode cX0_wearDay 6 = .ok (.iadd, 1) := by decide +kernel
theorem dX0_wearDay_7 : decode cX0_wearDay 7 = .ok (.putfield 43, 3) := by decide +kernel
theorem dX0_wearDay_10 : decode cX0_wearDay 10 = .ok (.aload_n 0, 1) := by decide +kernel
theorem dX0_wearDay_11 : decode cX0_wearDay 11 = .ok (.getfield 9, 3) := by decide +kernel
theorem dX0_wearDay_14 : decode cX0_wearDay 14 = .ok (.dup, 1) := by decide +kernel
theorem dX0_wearDay_15 : decode cX0_wearDay 15 = .ok (.getfield 72, 3) := by decide +kernel
theorem dX0_wearDay_18 : decode cX0_wearDay 18 = .ok (.iload_n 1, 1) := by decide +kernel
theorem dX0_wearDay_19 : decode cX0_wearDay 19 = .ok (.bipush 100, 2) := by decide +kernel
theorem dX0_wearDay_21 : decode cX0_wearDay 21 = .ok (.idiv, 1) := by decide +kernel
theorem dX0_wearDay_22 : decode cX0_wearDay 22 = .ok (.iadd, 1) := by decide +kernel
theorem dX0_wearDay_23 : decode cX0_wearDay 23 = .ok (.putfield 72, 3) := by decide +kernel
theorem dX0_wearDay_26 : decode cX0_wearDay 26 = .ok (.iload_n 3, 1) := by decide +kernel
theorem dX0_wearDay_27 : decode cX0_wearDay 27 = .ok (.bipush 25, 2) := by decide +kernel
theorem dX0_wearDay_29 : decode cX0_wearDay 29 = .ok (.if_icmp .le 15, 3) := by decide +kernel
theorem dX0_wearDay_32 : decode cX0_wearDay 32 = .ok (.iload_n 3, 1) := by decide +kernel
theorem dX0_wearDay_33 : decode cX0_wearDay 33 = .ok (.bipush 25, 2) := by decide +kernel
theorem dX0_wearDay_35 : decode cX0_wearDay 35 = .ok (.isub, 1) := by decide +kernel
theorem dX0_wearDay_36 : decode cX0_wearDay 36 = .ok (.iload_n 2, 1) := by decide +kernel
theorem dX0_wearDay_37 : decode cX0_wearDay 37 = .ok (.imul, 1) := by decide +kernel
theorem dX0_wearDay_38 : decode cX0_wearDay 38 = .ok (.bipush 10, 2) := by decide +kernel
theorem dX0_wearDay_40 : decode cX0_wearDay 40 = .ok (.idiv, 1) := by decide +kernel
theorem dX0_wearDay_41 : decode cX0_wearDay 41 = .ok (.goto 4, 3) := by decide +kernel
theorem dX0_wearDay_44 : decode cX0_wearDay 44 = .ok (.iconst 0, 1) := by decide +kernel
theorem dX0_wearDay_45 : decode cX0_wearDay 45 = .ok (.istore 4, 2) := by decide +kernel
theorem dX0_wearDay_47 : decode cX0_wearDay 47 = .ok (.aload_n 0, 1) := by decide +kernel
theorem dX0_wearDay_48 : decode cX0_wearDay 48 = .ok (.aload_n 0, 1) := by decide +kernel
theorem dX0_wearDay_49 : decode cX0_wearDay 49 = .ok (.getfield 34, 3) := by decide +kernel
theorem dX0_wearDay_52 : decode cX0_wearDay 52 = .ok (.iload_n 1, 1) := by decide +kernel
theorem dX0_wearDay_53 : decode cX0_wearDay 53 = .ok (.bipush 50, 2) := by decide +kernel
theorem dX0_wearDay_55 : decode cX0_wearDay 55 = .ok (.idiv, 1) := by decide +kernel
theorem dX0_wearDay_56 : decode cX0_wearDay 56 = .ok (.iadd, 1) := by decide +kernel
theorem dX0_wearDay_57 : decode cX0_wearDay 57 = .ok (.iload_n 2, 1) := by decide +kernel
theorem dX0_wearDay_58 : decode cX0_wearDay 58 = .ok (.iconst 3, 1) := by decide +kernel
theorem dX0_wearDay_59 : decode cX0_wearDay 59 = .ok (.idiv, 1) := by decide +kernel
theorem dX0_wearDay_60 : decode cX0_wearDay 60 = .ok (.iadd, 1) := by decide +kernel
theorem dX0_wearDay_61 : decode cX0_wearDay 61 = .ok (.iload 4, 2) := by decide +kernel
theorem dX0_wearDay_63 : decode cX0_wearDay 63 = .ok (.iadd, 1) := by decide +kernel
theorem dX0_wearDay_64 : decode cX0_wearDay 64 = .ok (.bipush 100, 2) := by decide +kernel
theorem dX0_wearDay_66 : decode cX0_wearDay 66 = .ok (.invokestatic 75, 3) := by decide +kernel
theorem dX0_wearDay_69 : decode cX0_wearDay 69 = .ok (.putfield 34, 3) := by decide +kernel
theorem dX0_wearDay_72 : decode cX0_wearDay 72 = .ok (.aload_n 0, 1) := by decide +kernel
theorem dX0_wearDay_73 : decode cX0_wearDay 73 = .ok (.getfield 34, 3) := by decide +kernel
theorem dX0_wearDay_76 : decode cX0_wearDay 76 = .ok (.bipush 100, 2) := by decide +kernel
theorem dX0_wearDay_78 : decode cX0_wearDay 78 = .ok (.if_icmp .ge 5, 3) := by decide +kernel
theorem dX0_wearDay_81 : decode cX0_wearDay 81 = .ok (.iconst 0, 1) := by decide +kernel
theorem dX0_wearDay_82 : decode cX0_wearDay 82 = .ok (.ireturn, 1) := by decide +kernel
theorem dX0_wearDay_83 : decode cX0_wearDay 83 = .ok (.aload_n 0, 1) := by decide +kernel
theorem dX0_wearDay_84 : decode cX0_wearDay 84 = .ok (.invokevirtual 81, 3) := by decide +kernel
theorem dX0_wearDay_87 : decode cX0_wearDay 87 = .ok (.iconst 1, 1) := by decide +kernel
theorem dX0_wearDay_88 : decode cX0_wearDay 88 = .ok (.ireturn, 1) := by decide +kernel
set_option maxRecDepth 20000 in
theorem ggX0_tourDay_X0_likeness : GoodIn wsX0_tourDay wsX0_likeness := goodIn_r _ [15, 16, 4, 2, 17, 18, 19, 20, 14, 21, 22, 10, 23, 24, 25, 26, 27, 28, 29, 30, 31, 32, 33, 34, 35, 36, 37, 38, 39, 40, 41, 42, 43, 44, 45, 46, 47, 48] (by decide +kernel) (by decide +kernel)
set_option maxRecDepth 20000 in
theorem gX0_tourDay_X0_likeness : GoodIn wsX0_tourDay (wsV RX0 69 RX0 yX0_likeness wsX0_likeness) := goodIn_app (goodIn_of _ (by decide +kernel)) ggX0_tourDay_X0_likeness
theorem dX0_tourDay_0 : decode cX0_tourDay 0 = .ok (.iconst 0, 1) := by decide +kernel
theorem dX0_tourDay_1 : decode cX0_tourDay 1 = .ok (.istore_n 1, 1) := by decide +kernel
theorem dX0_tourDay_2 : decode cX0_tourDay 2 = .ok (.aload_n 0, 1) := by decide +kernel
theorem dX0_tourDay_3 : decode cX0_tourDay 3 = .ok (.getfield 37, 3) := by decide +kernel
theorem dX0_tourDay_6 : decode cX0_tourDay 6 = .ok (.ifCond .lt 33, 3) := by decide +kernel
theorem dX0_tourDay_9 : decode cX0_tourDay 9 = .ok (.aload_n 0, 1) := by decide +kernel
theorem dX0_tourDay_10 : decode cX0_tourDay 10 = .ok (.getfield 37, 3) := by decide +kernel
theorem dX0_tourDay_13 : decode cX0_tourDay 13 = .ok (.iconst 3, 1) := by decide +kernel
theorem dX0_tourDay_14 : decode cX0_tourDay 14 = .ok (.if_icmp .ge 25, 3) := by decide +kernel
theorem dX0_tourDay_17 : decode cX0_tourDay 17 = .ok (.aload_n 0, 1) := by decide +kernel
theorem dX0_tourDay_18 : decode cX0_tourDay 18 = .ok (.getfield 9, 3) := by decide +kernel
theorem dX0_tourDay_21 : decode cX0_tourDay 21 = .ok (.getfield 66, 3) := by decide +kernel
theorem dX0_tourDay_24 : decode cX0_tourDay 24 = .ok (.aload_n 0, 1) := by decide +kernel
theorem dX0_tourDay_25 : decode cX0_tourDay 25 = .ok (.getfield 37, 3) := by decide +kernel
theorem dX0_tourDay_28 : decode cX0_tourDay 28 = .ok (.iaload, 1) := by decide +kernel
theorem dX0_tourDay_29 : decode cX0_tourDay 29 = .ok (.aload_n 0, 1) := by decide +kernel
theorem dX0_tourDay_30 : decode cX0_tourDay 30 = .ok (.invokevirtual 69, 3) := by decide +kernel
theorem dX0_tourDay_33 : decode cX0_tourDay 33 = .ok (.imul, 1) := by decide +kernel
theorem dX0_tourDay_34 : decode cX0_tourDay 34 = .ok (.sipush 1000, 3) := by decide +kernel
theorem dX0_tourDay_37 : decode cX0_tourDay 37 = .ok (.idiv, 1) := by decide +kernel
theorem dX0_tourDay_38 : decode cX0_tourDay 38 = .ok (.istore_n 1, 1) := by decide +kernel
theorem dX0_tourDay_39 : decode cX0_tourDay 39 = .ok (.aload_n 0, 1) := by decide +kernel
theorem dX0_tourDay_40 : decode cX0_tourDay 40 = .ok (.aload_n 0, 1) := by decide +kernel
theorem dX0_tourDay_41 : decode cX0_tourDay 41 = .ok (.getfield 34, 3) := by decide +kernel
theorem dX0_tourDay_44 : decode cX0_tourDay 44 = .ok (.iconst 2, 1) := by decide +kernel
theorem dX0_tourDay_45 : decode cX0_tourDay 45 = .ok (.iadd, 1) := by decide +kernel
theorem dX0_tourDay_46 : decode cX0_tourDay 46 = .ok (.bipush 99, 2) := by decide +kernel
theorem dX0_tourDay_48 : decode cX0_tourDay 48 = .ok (.invokestatic 75, 3) := by decide +kernel
theorem dX0_tourDay_51 : decode cX0_tourDay 51 = .ok (.putfield 34, 3) := by decide +kernel
theorem dX0_tourDay_54 : decode cX0_tourDay 54 = .ok (.aload_n 0, 1) := by decide +kernel
theorem dX0_tourDay_55 : decode cX0_tourDay 55 = .ok (.dup, 1) := by decide +kernel
theorem dX0_tourDay_56 : decode cX0_tourDay 56 = .ok (.getfield 40, 3) := by decide +kernel
theorem dX0_tourDay_59 : decode cX0_tourDay 59 = .ok (.iconst 1, 1) := by decide +kernel
theorem dX0_tourDay_60 : decode cX0_tourDay 60 = .ok (.isub, 1) := by decide +kernel
theorem dX0_tourDay_61 : decode cX0_tourDay 61 = .ok (.putfield 40, 3) := by decide +kernel
theorem dX0_tourDay_64 : decode cX0_tourDay 64 = .ok (.aload_n 0, 1) := by decide +kernel
theorem dX0_tourDay_65 : decode cX0_tourDay 65 = .ok (.getfield 40, 3) := by decide +kernel
theorem dX0_tourDay_68 : decode cX0_tourDay 68 = .ok (.ifCond .gt 13, 3) := by decide +kernel
theorem dX0_tourDay_71 : decode cX0_tourDay 71 = .ok (.aload_n 0, 1) := by decide +kernel
theorem dX0_tourDay_72 : decode cX0_tourDay 72 = .ok (.iconst 0, 1) := by decide +kernel
theorem dX0_tourDay_73 : decode cX0_tourDay 73 = .ok (.putfield 40, 3) := by decide +kernel
theorem dX0_tourDay_76 : decode cX0_tourDay 76 = .ok (.aload_n 0, 1) := by decide +kernel
theorem dX0_tourDay_77 : decode cX0_tourDay 77 = .ok (.iconst 5, 1) := by decide +kernel
theorem dX0_tourDay_78 : decode cX0_tourDay 78 = .ok (.putfield 18, 3) := by decide +kernel
theorem dX0_tourDay_81 : decode cX0_tourDay 81 = .ok (.iload_n 1, 1) := by decide +kernel
theorem dX0_tourDay_82 : decode cX0_tourDay 82 = .ok (.ireturn, 1) := by decide +kernel
set_option maxRecDepth 20000 in
theorem ggX1_init_X2_init : GoodIn wsX1_init wsX2_init := goodIn_r _ [21, 22, 2, 3, 23, 24, 25, 26, 27, 28, 50, 51, 52, 53, 54, 55, 56, 57] (by decide +kernel) (by decide +kernel)
set_option maxRecDepth 20000 in
theorem gX1_init_X2_init : GoodIn wsX1_init (wsX2_init) := ggX1_init_X2_init
set_option maxRecDepth 20000 in
theorem ggX1_init_X0_init : GoodIn wsX1_init wsX0_init := goodIn_r _ [31, 32, 2, 3, 33, 34, 35, 58, 59, 60, 61, 62, 63, 64, 65, 66, 67, 68] (by decide +kernel) (by decide +kernel)
set_option maxRecDepth 20000 in
theorem gX1_init_X0_init : GoodIn wsX1_init (wsX0_init) := ggX1_init_X0_init
set_option maxRecDepth 20000 in
theorem ggX1_init_X3_init : GoodIn wsX1_init wsX3_init := goodIn_r _ [37, 38, 2, 3] (by decide +kernel) (by decide +kernel)
set_option maxRecDepth 20000 in
theorem gX1_init_X3_init_n35 : GoodIn wsX1_init (wsX3_init) := ggX1_init_X3_init
theorem dX1_init_0 : decode cX1_init 0 = .ok (.aload_n 0, 1) := by decide +kernel
theorem dX1_init_1 : decode cX1_init 1 = .ok (.invokespecial 3, 3) := by decide +kernel
theorem dX1_init_4 : decode cX1_init 4 = .ok (.aload_n 0, 1) := by decide +kernel
theorem dX1_init_5 : decode cX1_init 5 = .ok (.bipush 10, 2) := by decide +kernel
theorem dX1_init_7 : decode cX1_init 7 = .ok (.anewarray 9, 3) := by decide +kernel
theorem dX1_init_10 : decode cX1_init 10 = .ok (.putfield 11, 3) := by decide +kernel
theorem dX1_init_13 : decode cX1_init 13 = .ok (.iconst 0, 1) := by decide +kernel
theorem dX1_init_14 : decode cX1_init 14 = .ok (.istore_n 1, 1) := by decide +kernel
theorem dX1_init_15 : decode cX1_init 15 = .ok (.iload_n 1, 1) := by decide +kernel
theorem dX1_init_16 : decode cX1_init 16 = .ok (.bipush 10, 2) := by decide +kernel
theorem dX1_init_18 : decode cX1_init 18 = .ok (.if_icmp .ge 23, 3) := by decide +kernel
theorem dX1_init_21 : decode cX1_init 21 = .ok (.aload_n 0, 1) := by decide +kernel
theorem dX1_init_22 : decode cX1_init 22 = .ok (.getfield 11, 3) := by decide +kernel
theorem dX1_init_25 : decode cX1_init 25 = .ok (.iload_n 1, 1) := by decide +kernel
theorem dX1_init_26 : decode cX1_init 26 = .ok (.new 9, 3) := by decide +kernel
theorem dX1_init_29 : decode cX1_init 29 = .ok (.dup, 1) := by decide +kernel
theorem dX1_init_30 : decode cX1_init 30 = .ok (.iload_n 1, 1) := by decide +kernel
theorem dX1_init_31 : decode cX1_init 31 = .ok (.invokespecial 17, 3) := by decide +kernel
theorem dX1_init_34 : decode cX1_init 34 = .ok (.aastore, 1) := by decide +kernel
theorem dX1_init_35 : decode cX1_init 35 = .ok (.iinc 1 1, 3) := by decide +kernel
theorem dX1_init_38 : decode cX1_init 38 = .ok (.goto (-23), 3) := by decide +kernel
theorem dX1_init_41 : decode cX1_init 41 = .ok (.aload_n 0, 1) := by decide +kernel
theorem dX1_init_42 : decode cX1_init 42 = .ok (.bipush 8, 2) := by decide +kernel
theorem dX1_init_44 : decode cX1_init 44 = .ok (.anewarray 20, 3) := by decide +kernel
theorem dX1_init_47 : decode cX1_init 47 = .ok (.putfield 22, 3) := by decide +kernel
theorem dX1_init_50 : decode cX1_init 50 = .ok (.iconst 0, 1) := by decide +kernel
theorem dX1_init_51 : decode cX1_init 51 = .ok (.istore_n 1, 1) := by decide +kernel
theorem dX1_init_52 : decode cX1_init 52 = .ok (.iload_n 1, 1) := by decide +kernel
theorem dX1_init_53 : decode cX1_init 53 = .ok (.bipush 8, 2) := by decide +kernel
theorem dX1_init_55 : decode cX1_init 55 = .ok (.if_icmp .ge 28, 3) := by decide +kernel
theorem dX1_init_58 : decode cX1_init 58 = .ok (.aload_n 0, 1) := by decide +kernel
theorem dX1_init_59 : decode cX1_init 59 = .ok (.getfield 22, 3) := by decide +kernel
theorem dX1_init_62 : decode cX1_init 62 = .ok (.iload_n 1, 1) := by decide +kernel
theorem dX1_init_63 : decode cX1_init 63 = .ok (.new 20, 3) := by decide +kernel
theorem dX1_init_66 : decode cX1_init 66 = .ok (.dup, 1) := by decide +kernel
theorem dX1_init_67 : decode cX1_init 67 = .ok (.aload_n 0, 1) := by decide +kernel
theorem dX1_init_68 : decode cX1_init 68 = .ok (.getfield 11, 3) := by decide +kernel
theorem dX1_init_71 : decode cX1_init 71 = .ok (.iconst 0, 1) := by decide +kernel
theorem dX1_init_72 : decode cX1_init 72 = .ok (.aaload, 1) := by decide +kernel
theorem dX1_init_73 : decode cX1_init 73 = .ok (.invokespecial 26, 3) := by decide +kernel
theorem dX1_init_76 : decode cX1_init 76 = .ok (.aastore, 1) := by decide +kernel
theorem dX1_init_77 : decode cX1_init 77 = .ok (.iinc 1 1, 3) := by decide +kernel
theorem dX1_init_80 : decode cX1_init 80 = .ok (.goto (-28), 3) := by decide +kernel
theorem dX1_init_83 : decode cX1_init 83 = .ok (.aload_n 0, 1) := by decide +kernel
theorem dX1_init_84 : decode cX1_init 84 = .ok (.iconst 5, 1) := by decide +kernel
theorem dX1_init_85 : decode cX1_init 85 = .ok (.anewarray 29, 3) := by decide +kernel
theorem dX1_init_88 : decode cX1_init 88 = .ok (.putfield 31, 3) := by decide +kernel
theorem dX1_init_91 : decode cX1_init 91 = .ok (.iconst 0, 1) := by decide +kernel
theorem dX1_init_92 : decode cX1_init 92 = .ok (.istore_n 1, 1) := by decide +kernel
theorem dX1_init_93 : decode cX1_init 93 = .ok (.iload_n 1, 1) := by decide +kernel
theorem dX1_init_94 : decode cX1_init 94 = .ok (.iconst 5, 1) := by decide +kernel
theorem dX1_init_95 : decode cX1_init 95 = .ok (.if_icmp .ge 22, 3) := by decide +kernel
theorem dX1_init_98 : decode cX1_init 98 = .ok (.aload_n 0, 1) := by decide +kernel
theorem dX1_init_99 : decode cX1_init 99 = .ok (.getfield 31, 3) := by decide +kernel
theorem dX1_init_102 : decode cX1_init 102 = .ok (.iload_n 1, 1) := by decide +kernel
theorem dX1_init_103 : decode cX1_init 103 = .ok (.new 29, 3) := by decide +kernel
theorem dX1_init_106 : decode cX1_init 106 = .ok (.dup, 1) := by decide +kernel
theorem dX1_init_107 : decode cX1_init 107 = .ok (.invokespecial 35, 3) := by decide +kernel
theorem dX1_init_110 : decode cX1_init 110 = .ok (.aastore, 1) := by decide +kernel
theorem dX1_init_111 : decode cX1_init 111 = .ok (.iinc 1 1, 3) := by decide +kernel
theorem dX1_init_114 : decode cX1_init 114 = .ok (.goto (-21), 3) := by decide +kernel
theorem dX1_init_117 : decode cX1_init 117 = .ok (.aload_n 0, 1) := by decide +kernel
theorem dX1_init_118 : decode cX1_init 118 = .ok (.sipush 200, 3) := by decide +kernel
theorem dX1_init_121 : decode cX1_init 121 = .ok (.putfield 36, 3) := by decide +kernel
theorem dX1_init_124 : decode cX1_init 124 = .ok (.aload_n 0, 1) := by decide +kernel
theorem dX1_init_125 : decode cX1_init 125 = .ok (.bipush 30, 2) := by decide +kernel
theorem dX1_init_127 : decode cX1_init 127 = .ok (.putfield 40, 3) := by decide +kernel
theorem dX1_init_130 : decode cX1_init 130 = .ok (.aload_n 0, 1) := by decide +kernel
theorem dX1_init_131 : decode cX1_init 131 = .ok (.iconst 5, 1) := by decide +kernel
theorem dX1_init_132 : decode cX1_init 132 = .ok (.putfield 43, 3) := by decide +kernel
theorem dX1_init_135 : decode cX1_init 135 = .ok (.return_, 1) := by decide +kernel
set_option maxRecDepth 20000 in
theorem ggX1_copyFrom_X2_copyFrom : GoodIn wsX1_copyFrom wsX2_copyFrom := goodIn_r _ [21, 22, 23, 24, 25, 26, 27, 28, 77, 78, 79, 80, 81, 82, 83, 84] (by decide +kernel) (by decide +kernel)
set_option maxRecDepth 20000 in
theorem gX1_copyFrom_X2_copyFrom : GoodIn wsX1_copyFrom (wsV RX1 61 RX2 yX2_copyFrom wsX2_copyFrom) := goodIn_app (goodIn_of _ (by decide +kernel)) ggX1_copyFrom_X2_copyFrom
set_option maxRecDepth 20000 in
theorem ggX1_copyFrom_X1_personAt : GoodIn wsX1_copyFrom wsX1_personAt := goodIn_ca (goodIn_r _ [33, 1, 9, 34, 35, 36, 37, 38, 55, 56, 57, 58, 59, 60, 61, 62, 63, 64, 65] (by decide +kernel) (by decide +kernel)) (goodIn_sub (fun _ h => List.mem_cons_of_mem _ (List.mem_append_right _ h)) (by decide +kernel))
set_option maxRecDepth 20000 in
theorem gX1_copyFrom_X1_personAt : GoodIn wsX1_copyFrom (wsV RX1 71 RX1 yX1_personAt wsX1_personAt) := goodIn_app (goodIn_of _ (by decide +kernel)) ggX1_copyFrom_X1_personAt
set_option maxRecDepth 20000 in
theorem ggX1_copyFrom_X0_copyFrom : GoodIn wsX1_copyFrom wsX0_copyFrom := goodIn_r _ [43, 44, 45, 46, 47, 48, 49, 50, 51, 52, 53, 54, 66, 67, 68, 69, 70, 71, 72, 73, 74, 75, 76] (by decide +kernel) (by decide +kernel)
set_option maxRecDepth 20000 in
theorem gX1_copyFrom_X0_copyFrom : GoodIn wsX1_copyFrom (wsV RX1 78 RX0 yX0_copyFrom wsX0_copyFrom) := goodIn_app (goodIn_of _ (by decide +kernel)) ggX1_copyFrom_X0_copyFrom
theorem dX1_copyFrom_0 : decode cX1_copyFrom 0 = .ok (.aload_n 0, 1) := by decide +kernel
theorem dX1_copyFrom_1 : decode cX1_copyFrom 1 = .ok (.aload_n 1, 1) := by decide +kernel
theorem dX1_copyFrom_2 : decode cX1_copyFrom 2 = .ok (.getfield 46, 3) := by decide +kernel
theorem dX1_copyFrom_5 : decode cX1_copyFrom 5 = .ok (.putfield 46, 3) := by decide +kernel
theorem dX1_copyFrom_8 : decode cX1_copyFrom 8 = .ok (.aload_n 0, 1) := by decide +kernel
theorem dX1_copyFrom_9 : decode cX1_copyFrom 9 = .ok (.aload_n 1, 1) := by decide +kernel
theorem dX1_copyFrom_10 : decode cX1_copyFrom 10 = .ok (.getfield 49, 3) := by decide +kernel
theorem dX1_copyFrom_13 : decode cX1_copyFrom 13 = .ok (.putfield 49, 3) := by decide +kernel
theorem dX1_copyFrom_16 : decode cX1_copyFrom 16 = .ok (.aload_n 0, 1) := by decide +kernel
theorem dX1_copyFrom_17 : decode cX1_copyFrom 17 = .ok (.aload_n 1, 1) := by decide +kernel
theorem dX1_copyFrom_18 : decode cX1_copyFrom 18 = .ok (.getfield 52, 3) := by decide +kernel
theorem dX1_copyFrom_21 : decode cX1_copyFrom 21 = .ok (.putfield 52, 3) := by decide +kernel
theorem dX1_copyFrom_24 : decode cX1_copyFrom 24 = .ok (.aload_n 0, 1) := by decide +kernel
theorem dX1_copyFrom_25 : decode cX1_copyFrom 25 = .ok (.aload_n 1, 1) := by decide +kernel
theorem dX1_copyFrom_26 : decode cX1_copyFrom 26 = .ok (.getfield 55, 3) := by decide +kernel
theorem dX1_copyFrom_29 : decode cX1_copyFrom 29 = .ok (.putfield 55, 3) := by decide +kernel
theorem dX1_copyFrom_32 : decode cX1_copyFrom 32 = .ok (.aload_n 0, 1) := by decide +kernel
theorem dX1_copyFrom_33 : decode cX1_copyFrom 33 = .ok (.aload_n 1, 1) := by decide +kernel
theorem dX1_copyFrom_34 : decode cX1_copyFrom 34 = .ok (.getfield 36, 3) := by decide +kernel
theorem dX1_copyFrom_37 : decode cX1_copyFrom 37 = .ok (.putfield 36, 3) := by decide +kernel
theorem dX1_copyFrom_40 : decode cX1_copyFrom 40 = .ok (.aload_n 0, 1) := by decide +kernel
theorem dX1_copyFrom_41 : decode cX1_copyFrom 41 = .ok (.aload_n 1, 1) := by decide +kernel
theorem dX1_copyFrom_42 : decode cX1_copyFrom 42 = .ok (.getfield 40, 3) := by decide +kernel
theorem dX1_copyFrom_45 : decode cX1_copyFrom 45 = .ok (.putfield 40, 3) := by decide +kernel
theorem dX1_copyFrom_48 : decode cX1_copyFrom 48 = .ok (.aload_n 0, 1) := by decide +kernel
theorem dX1_copyFrom_49 : decode cX1_copyFrom 49 = .ok (.aload_n 1, 1) := by decide +kernel
theorem dX1_copyFrom_50 : decode cX1_copyFrom 50 = .ok (.getfield 43, 3) := by decide +kernel
theorem dX1_copyFrom_53 : decode cX1_copyFrom 53 = .ok (.putfield 43, 3) := by decide +kernel
theorem dX1_copyFrom_56 : decode cX1_copyFrom 56 = .ok (.aload_n 0, 1) := by decide +kernel
theorem dX1_copyFrom_57 : decode cX1_copyFrom 57 = .ok (.aload_n 1, 1) := by decide +kernel
theorem dX1_copyFrom_58 : decode cX1_copyFrom 58 = .ok (.getfield 58, 3) := by decide +kernel
theorem dX1_copyFrom_61 : decode cX1_copyFrom 61 = .ok (.putfield 58, 3) := by decide +kernel
theorem dX1_copyFrom_64 : decode cX1_copyFrom 64 = .ok (.iconst 0, 1) := by decide +kernel
theorem dX1_copyFrom_65 : decode cX1_copyFrom 65 = .ok (.istore_n 2, 1) := by decide +kernel
theorem dX1_copyFrom_66 : decode cX1_copyFrom 66 = .ok (.iload_n 2, 1) := by decide +kernel
theorem dX1_copyFrom_67 : decode cX1_copyFrom 67 = .ok (.aload_n 0, 1) := by decide +kernel
theorem dX1_copyFrom_68 : decode cX1_copyFrom 68 = .ok (.getfield 46, 3) := by decide +kernel
theorem dX1_copyFrom_71 : decode cX1_copyFrom 71 = .ok (.if_icmp .ge 24, 3) := by decide +kernel
theorem dX1_copyFrom_74 : decode cX1_copyFrom 74 = .ok (.aload_n 0, 1) := by decide +kernel
theorem dX1_copyFrom_75 : decode cX1_copyFrom 75 = .ok (.getfield 11, 3) := by decide +kernel
theorem dX1_copyFrom_78 : decode cX1_copyFrom 78 = .ok (.iload_n 2, 1) := by decide +kernel
theorem dX1_copyFrom_79 : decode cX1_copyFrom 79 = .ok (.aaload, 1) := by decide +kernel
theorem dX1_copyFrom_80 : decode cX1_copyFrom 80 = .ok (.aload_n 1, 1) := by decide +kernel
theorem dX1_copyFrom_81 : decode cX1_copyFrom 81 = .ok (.getfield 11, 3) := by decide +kernel
theorem dX1_copyFrom_84 : decode cX1_copyFrom 84 = .ok (.iload_n 2, 1) := by decide +kernel
theorem dX1_copyFrom_85 : decode cX1_copyFrom 85 = .ok (.aaload, 1) := by decide +kernel
theorem dX1_copyFrom_86 : decode cX1_copyFrom 86 = .ok (.invokevirtual 61, 3) := by decide +kernel
theorem dX1_copyFrom_89 : decode cX1_copyFrom 89 = .ok (.iinc 2 1, 3) := by decide +kernel
theorem dX1_copyFrom_92 : decode cX1_copyFrom 92 = .ok (.goto (-26), 3) := by decide +kernel
theorem dX1_copyFrom_95 : decode cX1_copyFrom 95 = .ok (.iconst 0, 1) := by decide +kernel
theorem dX1_copyFrom_96 : decode cX1_copyFrom 96 = .ok (.istore_n 2, 1) := by decide +kernel
theorem dX1_copyFrom_97 : decode cX1_copyFrom 97 = .ok (.iload_n 2, 1) := by decide +kernel
theorem dX1_copyFrom_98 : decode cX1_copyFrom 98 = .ok (.aload_n 0, 1) := by decide +kernel
theorem dX1_copyFrom_99 : decode cX1_copyFrom 99 = .ok (.getfield 49, 3) := by decide +kernel
theorem dX1_copyFrom_102 : decode cX1_copyFrom 102 = .ok (.if_icmp .ge 48, 3) := by decide +kernel
theorem dX1_copyFrom_105 : decode cX1_copyFrom 105 = .ok (.aload_n 1, 1) := by decide +kernel
theorem dX1_copyFrom_106 : decode cX1_copyFrom 106 = .ok (.getfield 22, 3) := by decide +kernel
theorem dX1_copyFrom_109 : decode cX1_copyFrom 109 = .ok (.iload_n 2, 1) := by decide +kernel
theorem dX1_copyFrom_110 : decode cX1_copyFrom 110 = .ok (.aaload, 1) := by decide +kernel
theorem dX1_copyFrom_111 : decode cX1_copyFrom 111 = .ok (.astore_n 3, 1) := by decide +kernel
theorem dX1_copyFrom_112 : decode cX1_copyFrom 112 = .ok (.aload_n 0, 1) := by decide +kernel
theorem dX1_copyFrom_113 : decode cX1_copyFrom 113 = .ok (.getfield 22, 3) := by decide +kernel
theorem dX1_copyFrom_116 : decode cX1_copyFrom 116 = .ok (.iload_n 2, 1) := by decide +kernel
theorem dX1_copyFrom_117 : decode cX1_copyFrom 117 = .ok (.aaload, 1) := by decide +kernel
theorem dX1_copyFrom_118 : decode cX1_copyFrom 118 = .ok (.aload_n 3, 1) := by decide +kernel
theorem dX1_copyFrom_119 : decode cX1_copyFrom 119 = .ok (.aload_n 0, 1) := by decide +kernel
theorem dX1_copyFrom_120 : decode cX1_copyFrom 120 = .ok (.aload_n 3, 1) := by decide +kernel
theorem dX1_copyFrom_121 : decode cX1_copyFrom 121 = .ok (.getfield 64, 3) := by decide +kernel
theorem dX1_copyFrom_124 : decode cX1_copyFrom 124 = .ok (.getfield 68, 3) := by decide +kernel
theorem dX1_copyFrom_127 : decode cX1_copyFrom 127 = .ok (.invokevirtual 71, 3) := by decide +kernel
theorem dX1_copyFrom_130 : decode cX1_copyFrom 130 = .ok (.aload_n 0, 1) := by decide +kernel
theorem dX1_copyFrom_131 : decode cX1_copyFrom 131 = .ok (.aload_n 3, 1) := by decide +kernel
theorem dX1_copyFrom_132 : decode cX1_copyFrom 132 = .ok (.getfield 75, 3) := by decide +kernel
theorem dX1_copyFrom_135 : decode cX1_copyFrom 135 = .ok (.getfield 68, 3) := by decide +kernel
theorem dX1_copyFrom_138 : decode cX1_copyFrom 138 = .ok (.invokevirtual 71, 3) := by decide +kernel
theorem dX1_copyFrom_141 : decode cX1_copyFrom 141 = .ok (.invokevirtual 78, 3) := by decide +kernel
theorem dX1_copyFrom_144 : decode cX1_copyFrom 144 = .ok (.iinc 2 1, 3) := by decide +kernel
theorem dX1_copyFrom_147 : decode cX1_copyFrom 147 = .ok (.goto (-50), 3) := by decide +kernel
theorem dX1_copyFrom_150 : decode cX1_copyFrom 150 = .ok (.iconst 0, 1) := by decide +kernel
theorem dX1_copyFrom_151 : decode cX1_copyFrom 151 = .ok (.istore_n 2, 1) := by decide +kernel
theorem dX1_copyFrom_152 : decode cX1_copyFrom 152 = .ok (.iload_n 2, 1) := by decide +kernel
theorem dX1_copyFrom_153 : decode cX1_copyFrom 153 = .ok (.aload_n 0, 1) := by decide +kernel
theorem dX1_copyFrom_154 : decode cX1_copyFrom 154 = .ok (.getfield 52, 3) := by decide +kernel
theorem dX1_copyFrom_157 : decode cX1_copyFrom 157 = .ok (.if_icmp .ge 45, 3) := by decide +kernel
theorem dX1_copyFrom_160 : decode cX1_copyFrom 160 = .ok (.aload_n 0, 1) := by decide +kernel
theorem dX1_copyFrom_161 : decode cX1_copyFrom 161 = .ok (.getfield 31, 3) := by decide +kernel
theorem dX1_copyFrom_164 : decode cX1_copyFrom 164 = .ok (.iload_n 2, 1) := by decide +kernel
theorem dX1_copyFrom_165 : decode cX1_copyFrom 165 = .ok (.aaload, 1) := by decide +kernel
theorem dX1_copyFrom_166 : decode cX1_copyFrom 166 = .ok (.aload_n 1, 1) := by decide +kernel
theorem dX1_copyFrom_167 : decode cX1_copyFrom 167 = .ok (.getfield 31, 3) := by decide +kernel
theorem dX1_copyFrom_170 : decode cX1_copyFrom 170 = .ok (.iload_n 2, 1) := by decide +kernel
theorem dX1_copyFrom_171 : decode cX1_copyFrom 171 = .ok (.aaload, 1) := by decide +kernel
theorem dX1_copyFrom_172 : decode cX1_copyFrom 172 = .ok (.getfield 81, 3) := by decide +kernel
theorem dX1_copyFrom_175 : decode cX1_copyFrom 175 = .ok (.putfield 81, 3) := by decide +kernel
theorem dX1_copyFrom_178 : decode cX1_copyFrom 178 = .ok (.aload_n 0, 1) := by decide +kernel
theorem dX1_copyFrom_179 : decode cX1_copyFrom 179 = .ok (.getfield 31, 3) := by decide +kernel
theorem dX1_copyFrom_182 : decode cX1_copyFrom 182 = .ok (.iload_n 2, 1) := by decide +kernel
theorem dX1_copyFrom_183 : decode cX1_copyFrom 183 = .ok (.aaload, 1) := by decide +kernel
theorem dX1_copyFrom_184 : decode cX1_copyFrom 184 = .ok (.aload_n 1, 1) := by decide +kernel
theorem dX1_copyFrom_185 : decode cX1_copyFrom 185 = .ok (.getfield 31, 3) := by decide +kernel
theorem dX1_copyFrom_188 : decode cX1_copyFrom 188 = .ok (.iload_n 2, 1) := by decide +kernel
theorem dX1_copyFrom_189 : decode cX1_copyFrom 189 = .ok (.aaload, 1) := by decide +kernel
theorem dX1_copyFrom_190 : decode cX1_copyFrom 190 = .ok (.getfield 84, 3) := by decide +kernel
theorem dX1_copyFrom_193 : decode cX1_copyFrom 193 = .ok (.putfield 84, 3) := by decide +kernel
theorem dX1_copyFrom_196 : decode cX1_copyFrom 196 = .ok (.iinc 2 1, 3) := by decide +kernel
theorem dX1_copyFrom_199 : decode cX1_copyFrom 199 = .ok (.goto (-47), 3) := by decide +kernel
theorem dX1_copyFrom_202 : decode cX1_copyFrom 202 = .ok (.return_, 1) := by decide +kernel
set_option maxRecDepth 20000 in
theorem ggX1_personAt_X4_checkIndex : GoodIn wsX1_personAt wsX4_checkIndex := goodIn_ca (goodIn_r _ [5, 6, 7] (by decide +kernel) (by decide +kernel)) (goodIn_sub (fun _ h => List.mem_cons_of_mem _ (List.mem_append_right _ h)) (by decide +kernel))
set_option maxRecDepth 20000 in
theorem gX1_personAt_X4_checkIndex_n87 : GoodIn wsX1_personAt (wsX4_checkIndex) := ggX1_personAt_X4_checkIndex
theorem dX1_personAt_0 : decode cX1_personAt 0 = .ok (.iload_n 1, 1) := by decide +kernel
theorem dX1_personAt_1 : decode cX1_personAt 1 = .ok (.aload_n 0, 1) := by decide +kernel
theorem dX1_personAt_2 : decode cX1_personAt 2 = .ok (.getfield 46, 3) := by decide +kernel
theorem dX1_personAt_5 : decode cX1_personAt 5 = .ok (.invokestatic 87, 3) := by decide +kernel
theorem dX1_personAt_8 : decode cX1_personAt 8 = .ok (.aload_n 0, 1) := by decide +kernel
theorem dX1_personAt_9 : decode cX1_personAt 9 = .ok (.getfield 11, 3) := by decide +kernel
theorem dX1_personAt_12 : decode cX1_personAt 12 = .ok (.iload_n 1, 1) := by decide +kernel
theorem dX1_personAt_13 : decode cX1_personAt 13 = .ok (.aaload, 1) := by decide +kernel
theorem dX1_personAt_14 : decode cX1_personAt 14 = .ok (.areturn, 1) := by decide +kernel
set_option maxRecDepth 20000 in
theorem ggX1_figureAt_X4_checkIndex : GoodIn wsX1_figureAt wsX4_checkIndex := goodIn_ca (goodIn_r _ [5, 6, 7] (by decide +kernel) (by decide +kernel)) (goodIn_sub (fun _ h => List.mem_cons_of_mem _ (List.mem_append_right _ h)) (by decide +kernel))
set_option maxRecDepth 20000 in
theorem gX1_figureAt_X4_checkIndex_n87 : GoodIn wsX1_figureAt (wsX4_checkIndex) := ggX1_figureAt_X4_checkIndex
theorem dX1_figureAt_0 : decode cX1_figureAt 0 = .ok (.iload_n 1, 1) := by decide +kernel
theorem dX1_figureAt_1 : decode cX1_figureAt 1 = .ok (.aload_n 0, 1) := by decide +kernel
theorem dX1_figureAt_2 : decode cX1_figureAt 2 = .ok (.getfield 49, 3) := by decide +kernel
theorem dX1_figureAt_5 : decode cX1_figureAt 5 = .ok (.invokestatic 87, 3) := by decide +kernel
theorem dX1_figureAt_8 : decode cX1_figureAt 8 = .ok (.aload_n 0, 1) := by decide +kernel
theorem dX1_figureAt_9 : decode cX1_figureAt 9 = .ok (.getfield 22, 3) := by decide +kernel
theorem dX1_figureAt_12 : decode cX1_figureAt 12 = .ok (.iload_n 1, 1) := by decide +kernel
theorem dX1_figureAt_13 : decode cX1_figureAt 13 = .ok (.aaload, 1) := by decide +kernel
theorem dX1_figureAt_14 : decode cX1_figureAt 14 = .ok (.areturn, 1) := by decide +kernel
set_option maxRecDepth 20000 in
theorem ggX1_roomAt_X4_checkIndex : GoodIn wsX1_roomAt wsX4_checkIndex := goodIn_ca (goodIn_r _ [5, 6, 7] (by decide +kernel) (by decide +kernel)) (goodIn_sub (fun _ h => List.mem_cons_of_mem _ (List.mem_append_right _ h)) (by decide +kernel))
set_option maxRecDepth 20000 in
theorem gX1_roomAt_X4_checkIndex_n87 : GoodIn wsX1_roomAt (wsX4_checkIndex) := ggX1_roomAt_X4_checkIndex
theorem dX1_roomAt_0 : decode cX1_roomAt 0 = .ok (.iload_n 1, 1) := by decide +kernel
theorem dX1_roomAt_1 : decode cX1_roomAt 1 = .ok (.aload_n 0, 1) := by decide +kernel
theorem dX1_roomAt_2 : decode cX1_roomAt 2 = .ok (.getfield 52, 3) := by decide +kernel
theorem dX1_roomAt_5 : decode cX1_roomAt 5 = .ok (.invokestatic 87, 3) := by decide +kernel
theorem dX1_roomAt_8 : decode cX1_roomAt 8 = .ok (.aload_n 0, 1) := by decide +kernel
theorem dX1_roomAt_9 : decode cX1_roomAt 9 = .ok (.getfield 31, 3) := by decide +kernel
theorem dX1_roomAt_12 : decode cX1_roomAt 12 = .ok (.iload_n 1, 1) := by decide +kernel
theorem dX1_roomAt_13 : decode cX1_roomAt 13 = .ok (.aaload, 1) := by decide +kernel
theorem dX1_roomAt_14 : decode cX1_roomAt 14 = .ok (.areturn, 1) := by decide +kernel
set_option maxRecDepth 20000 in
theorem ggX1_addPerson_X1_personAt : GoodIn wsX1_addPerson wsX1_personAt := goodIn_ca (goodIn_r _ [7, 1, 8, 9, 10, 11, 12, 13, 14, 15, 16, 17, 18, 19, 20, 21, 22, 23, 24] (by decide +kernel) (by decide +kernel)) (goodIn_sub (fun _ h => List.mem_cons_of_mem _ (List.mem_append_right _ h)) (by decide +kernel))
set_option maxRecDepth 20000 in
theorem gX1_addPerson_X1_personAt : GoodIn wsX1_addPerson (wsV RX1 71 RX1 yX1_personAt wsX1_personAt) := goodIn_app (goodIn_of _ (by decide +kernel)) ggX1_addPerson_X1_personAt
theorem dX1_addPerson_0 : decode cX1_addPerson 0 = .ok (.aload_n 0, 1) := by decide +kernel
theorem dX1_addPerson_1 : decode cX1_addPerson 1 = .ok (.getfield 46, 3) := by decide +kernel
theorem dX1_addPerson_4 : decode cX1_addPerson 4 = .ok (.istore 4, 2) := by decide +kernel
theorem dX1_addPerson_6 : decode cX1_addPerson 6 = .ok (.aload_n 0, 1) := by decide +kernel
theorem dX1_addPerson_7 : decode cX1_addPerson 7 = .ok (.dup, 1) := by decide +kernel
theorem dX1_addPerson_8 : decode cX1_addPerson 8 = .ok (.getfield 46, 3) := by decide +kernel
theorem dX1_addPerson_11 : decode cX1_addPerson 11 = .ok (.iconst 1, 1) := by decide +kernel
theorem dX1_addPerson_12 : decode cX1_addPerson 12 = .ok (.iadd, 1) := by decide +kernel
theorem dX1_addPerson_13 : decode cX1_addPerson 13 = .ok (.putfield 46, 3) := by decide +kernel
theorem dX1_addPerson_16 : decode cX1_addPerson 16 = .ok (.aload_n 0, 1) := by decide +kernel
theorem dX1_addPerson_17 : decode cX1_addPerson 17 = .ok (.iload 4, 2) := by decide +kernel
theorem dX1_addPerson_19 : decode cX1_addPerson 19 = .ok (.invokevirtual 71, 3) := by decide +kernel
theorem dX1_addPerson_22 : decode cX1_addPerson 22 = .ok (.astore 5, 2) := by decide +kernel
theorem dX1_addPerson_24 : decode cX1_addPerson 24 = .ok (.aload 5, 2) := by decide +kernel
theorem dX1_addPerson_26 : decode cX1_addPerson 26 = .ok (.getfield 91, 3) := by decide +kernel
theorem dX1_addPerson_29 : decode cX1_addPerson 29 = .ok (.iconst 0, 1) := by decide +kernel
theorem dX1_addPerson_30 : decode cX1_addPerson 30 = .ok (.iload_n 1, 1) := by decide +kernel
theorem dX1_addPerson_31 : decode cX1_addPerson 31 = .ok (.iastore, 1) := by decide +kernel
theorem dX1_addPerson_32 : decode cX1_addPerson 32 = .ok (.aload 5, 2) := by decide +kernel
theorem dX1_addPerson_34 : decode cX1_addPerson 34 = .ok (.getfield 91, 3) := by decide +kernel
theorem dX1_addPerson_37 : decode cX1_addPerson 37 = .ok (.iconst 1, 1) := by decide +kernel
theorem dX1_addPerson_38 : decode cX1_addPerson 38 = .ok (.iload_n 2, 1) := by decide +kernel
theorem dX1_addPerson_39 : decode cX1_addPerson 39 = .ok (.iastore, 1) := by decide +kernel
theorem dX1_addPerson_40 : decode cX1_addPerson 40 = .ok (.aload 5, 2) := by decide +kernel
theorem dX1_addPerson_42 : decode cX1_addPerson 42 = .ok (.getfield 91, 3) := by decide +kernel
theorem dX1_addPerson_45 : decode cX1_addPerson 45 = .ok (.iconst 2, 1) := by decide +kernel
theorem dX1_addPerson_46 : decode cX1_addPerson 46 = .ok (.iload_n 3, 1) := by decide +kernel
theorem dX1_addPerson_47 : decode cX1_addPerson 47 = .ok (.iastore, 1) := by decide +kernel
theorem dX1_addPerson_48 : decode cX1_addPerson 48 = .ok (.iload 4, 2) := by decide +kernel
theorem dX1_addPerson_50 : decode cX1_addPerson 50 = .ok (.ireturn, 1) := by decide +kernel
set_option maxRecDepth 20000 in
theorem ggX1_addFigure_X1_figureAt : GoodIn wsX1_addFigure wsX1_figureAt := goodIn_ca (goodIn_r _ [8, 1, 9, 10, 11, 12, 13, 14, 15, 16, 17, 18, 19, 20, 21, 22, 23, 24, 25] (by decide +kernel) (by decide +kernel)) (goodIn_sub (fun _ h => List.mem_cons_of_mem _ (List.mem_append_right _ h)) (by decide +kernel))
set_option maxRecDepth 20000 in
theorem gX1_addFigure_X1_figureAt : GoodIn wsX1_addFigure (wsV RX1 95 RX1 yX1_figureAt wsX1_figureAt) := goodIn_app (goodIn_of _ (by decide +kernel)) ggX1_addFigure_X1_figureAt
theorem dX1_addFigure_0 : decode cX1_addFigure 0 = .ok (.aload_n 0, 1) := by decide +kernel
theorem dX1_addFigure_1 : decode cX1_addFigure 1 = .ok (.getfield 49, 3) := by decide +kernel
theorem dX1_addFigure_4 : decode cX1_addFigure 4 = .ok (.istore_n 2, 1) := by decide +kernel
theorem dX1_addFigure_5 : decode cX1_addFigure 5 = .ok (.aload_n 0, 1) := by decide +kernel
theorem dX1_addFigure_6 : decode cX1_addFigure 6 = .ok (.dup, 1) := by decide +kernel
theorem dX1_addFigure_7 : decode cX1_addFigure 7 = .ok (.getfield 49, 3) := by decide +kernel
theorem dX1_addFigure_10 : decode cX1_addFigure 10 = .ok (.iconst 1, 1) := by decide +kernel
theorem dX1_addFigure_11 : decode cX1_addFigure 11 = .ok (.iadd, 1) := by decide +kernel
theorem dX1_addFigure_12 : decode cX1_addFigure 12 = .ok (.putfield 49, 3) := by decide +kernel
theorem dX1_addFigure_15 : decode cX1_addFigure 15 = .ok (.aload_n 0, 1) := by decide +kernel
theorem dX1_addFigure_16 : decode cX1_addFigure 16 = .ok (.iload_n 2, 1) := by decide +kernel
theorem dX1_addFigure_17 : decode cX1_addFigure 17 = .ok (.invokevirtual 95, 3) := by decide +kernel
theorem dX1_addFigure_20 : decode cX1_addFigure 20 = .ok (.astore_n 3, 1) := by decide +kernel
theorem dX1_addFigure_21 : decode cX1_addFigure 21 = .ok (.aload_n 3, 1) := by decide +kernel
theorem dX1_addFigure_22 : decode cX1_addFigure 22 = .ok (.aload_n 1, 1) := by decide +kernel
theorem dX1_addFigure_23 : decode cX1_addFigure 23 = .ok (.putfield 64, 3) := by decide +kernel
theorem dX1_addFigure_26 : decode cX1_addFigure 26 = .ok (.aload_n 3, 1) := by decide +kernel
theorem dX1_addFigure_27 : decode cX1_addFigure 27 = .ok (.aload_n 1, 1) := by decide +kernel
theorem dX1_addFigure_28 : decode cX1_addFigure 28 = .ok (.putfield 75, 3) := by decide +kernel
theorem dX1_addFigure_31 : decode cX1_addFigure 31 = .ok (.iload_n 2, 1) := by decide +kernel
theorem dX1_addFigure_32 : decode cX1_addFigure 32 = .ok (.ireturn, 1) := by decide +kernel
set_option maxRecDepth 20000 in
theorem ggX1_addRoom_X1_roomAt : GoodIn wsX1_addRoom wsX1_roomAt := goodIn_ca (goodIn_r _ [8, 1, 9, 10, 11, 12, 13, 14, 15, 16, 17, 18, 19, 20, 21, 22, 23, 24, 25] (by decide +kernel) (by decide +kernel)) (goodIn_sub (fun _ h => List.mem_cons_of_mem _ (List.mem_append_right _ h)) (by decide +kernel))
set_option maxRecDepth 20000 in
theorem gX1_addRoom_X1_roomAt : GoodIn wsX1_addRoom (wsV RX1 99 RX1 yX1_roomAt wsX1_roomAt) := goodIn_app (goodIn_of _ (by decide +kernel)) ggX1_addRoom_X1_roomAt
theorem dX1_addRoom_0 : decode cX1_addRoom 0 = .ok (.aload_n 0, 1) := by decide +kernel
theorem dX1_addRoom_1 : decode cX1_addRoom 1 = .ok (.getfield 52, 3) := by decide +kernel
theorem dX1_addRoom_4 : decode cX1_addRoom 4 = .ok (.istore_n 3, 1) := by decide +kernel
theorem dX1_addRoom_5 : decode cX1_addRoom 5 = .ok (.aload_n 0, 1) := by decide +kernel
theorem dX1_addRoom_6 : decode cX1_addRoom 6 = .ok (.dup, 1) := by decide +kernel
theorem dX1_addRoom_7 : decode cX1_addRoom 7 = .ok (.getfield 52, 3) := by decide +kernel
theorem dX1_addRoom_10 : decode cX1_addRoom 10 = .ok (.iconst 1, 1) := by decide +kernel
theorem dX1_addRoom_11 : decode cX1_addRoom 11 = .ok (.iadd, 1) := by decide +kernel
theorem dX1_addRoom_12 : decode cX1_addRoom 12 = .ok (.putfield 52, 3) := by decide +kernel
theorem dX1_addRoom_15 : decode cX1_addRoom 15 = .ok (.aload_n 0, 1) := by decide +kernel
theorem dX1_addRoom_16 : decode cX1_addRoom 16 = .ok (.iload_n 3, 1) := by decide +kernel
theorem dX1_addRoom_17 : decode cX1_addRoom 17 = .ok (.invokevirtual 99, 3) := by decide +kernel
theorem dX1_addRoom_20 : decode cX1_addRoom 20 = .ok (.astore 4, 2) := by decide +kernel
theorem dX1_addRoom_22 : decode cX1_addRoom 22 = .ok (.aload 4, 2) := by decide +kernel
theorem dX1_addRoom_24 : decode cX1_addRoom 24 = .ok (.iload_n 1, 1) := by decide +kernel
theorem dX1_addRoom_25 : decode cX1_addRoom 25 = .ok (.putfield 81, 3) := by decide +kernel
theorem dX1_addRoom_28 : decode cX1_addRoom 28 = .ok (.aload 4, 2) := by decide +kernel
theorem dX1_addRoom_30 : decode cX1_addRoom 30 = .ok (.iload_n 2, 1) := by decide +kernel
theorem dX1_addRoom_31 : decode cX1_addRoom 31 = .ok (.putfield 84, 3) := by decide +kernel
theorem dX1_addRoom_34 : decode cX1_addRoom 34 = .ok (.iload_n 3, 1) := by decide +kernel
theorem dX1_addRoom_35 : decode cX1_addRoom 35 = .ok (.ireturn, 1) := by decide +kernel
set_option maxRecDepth 20000 in
theorem ggX1_takeAllOf_X0_isShown : GoodIn wsX1_takeAllOf wsX0_isShown := goodIn_r _ [9, 10, 22, 23, 24, 25, 26, 27, 28, 29, 30, 31, 32] (by decide +kernel) (by decide +kernel)
set_option maxRecDepth 20000 in
theorem gX1_takeAllOf_X0_isShown : GoodIn wsX1_takeAllOf (wsV RX1 103 RX0 yX0_isShown wsX0_isShown) := goodIn_app (goodIn_of _ (by decide +kernel)) ggX1_takeAllOf_X0_isShown
theorem dX1_takeAllOf_0 : decode cX1_takeAllOf 0 = .ok (.iconst 0, 1) := by decide +kernel
theorem dX1_takeAllOf_1 : decode cX1_takeAllOf 1 = .ok (.istore_n 2, 1) := by decide +kernel
theorem dX1_takeAllOf_2 : decode cX1_takeAllOf 2 = .ok (.iconst 0, 1) := by decide +kernel
theorem dX1_takeAllOf_3 : decode cX1_takeAllOf 3 = .ok (.istore_n 3, 1) := by decide +kernel
theorem dX1_takeAllOf_4 : decode cX1_takeAllOf 4 = .ok (.iload_n 3, 1) := by decide +kernel
theorem dX1_takeAllOf_5 : decode cX1_takeAllOf 5 = .ok (.aload_n 0, 1) := by decide +kernel
theorem dX1_takeAllOf_6 : decode cX1_takeAllOf 6 = .ok (.getfield 49, 3) := by decide +kernel
theorem dX1_takeAllOf_9 : decode cX1_takeAllOf 9 = .ok (.if_icmp .ge 43, 3) := by decide +kernel
theorem dX1_takeAllOf_12 : decode cX1_takeAllOf 12 = .ok (.aload_n 0, 1) := by decide +kernel
theorem dX1_takeAllOf_13 : decode cX1_takeAllOf 13 = .ok (.getfield 22, 3) := by decide +kernel
theorem dX1_takeAllOf_16 : decode cX1_takeAllOf 16 = .ok (.iload_n 3, 1) := by decide +kernel
theorem dX1_takeAllOf_17 : decode cX1_takeAllOf 17 = .ok (.aaload, 1) := by decide +kernel
theorem dX1_takeAllOf_18 : decode cX1_takeAllOf 18 = .ok (.astore 4, 2) := by decide +kernel
theorem dX1_takeAllOf_20 : decode cX1_takeAllOf 20 = .ok (.aload 4, 2) := by decide +kernel
theorem dX1_takeAllOf_22 : decode cX1_takeAllOf 22 = .ok (.getfield 64, 3) := by decide +kernel
theorem dX1_takeAllOf_25 : decode cX1_takeAllOf 25 = .ok (.aload_n 1, 1) := by decide +kernel
theorem dX1_takeAllOf_26 : decode cX1_takeAllOf 26 = .ok (.if_acmp .ne 20, 3) := by decide +kernel
theorem dX1_takeAllOf_29 : decode cX1_takeAllOf 29 = .ok (.aload 4, 2) := by decide +kernel
theorem dX1_takeAllOf_31 : decode cX1_takeAllOf 31 = .ok (.invokevirtual 103, 3) := by decide +kernel
theorem dX1_takeAllOf_34 : decode cX1_takeAllOf 34 = .ok (.ifCond .eq 12, 3) := by decide +kernel
theorem dX1_takeAllOf_37 : decode cX1_takeAllOf 37 = .ok (.aload 4, 2) := by decide +kernel
theorem dX1_takeAllOf_39 : decode cX1_takeAllOf 39 = .ok (.iconst 5, 1) := by decide +kernel
theorem dX1_takeAllOf_40 : decode cX1_takeAllOf 40 = .ok (.putfield 107, 3) := by decide +kernel
theorem dX1_takeAllOf_43 : decode cX1_takeAllOf 43 = .ok (.iinc 2 1, 3) := by decide +kernel
theorem dX1_takeAllOf_46 : decode cX1_takeAllOf 46 = .ok (.iinc 3 1, 3) := by decide +kernel
theorem dX1_takeAllOf_49 : decode cX1_takeAllOf 49 = .ok (.goto (-45), 3) := by decide +kernel
theorem dX1_takeAllOf_52 : decode cX1_takeAllOf 52 = .ok (.iload_n 2, 1) := by decide +kernel
theorem dX1_takeAllOf_53 : decode cX1_takeAllOf 53 = .ok (.ireturn, 1) := by decide +kernel
set_option maxRecDepth 20000 in
theorem ggX1_shownOf_X0_isShown : GoodIn wsX1_shownOf wsX0_isShown := goodIn_r _ [8, 9, 21, 22, 23, 24, 25, 26, 27, 28, 29, 30, 31] (by decide +kernel) (by decide +kernel)
set_option maxRecDepth 20000 in
theorem gX1_shownOf_X0_isShown : GoodIn wsX1_shownOf (wsV RX1 103 RX0 yX0_isShown wsX0_isShown) := goodIn_app (goodIn_of _ (by decide +kernel)) ggX1_shownOf_X0_isShown
theorem dX1_shownOf_0 : decode cX1_shownOf 0 = .ok (.iconst 0, 1) := by decide +kernel
theorem dX1_shownOf_1 : decode cX1_shownOf 1 = .ok (.istore_n 2, 1) := by decide +kernel
theorem dX1_shownOf_2 : decode cX1_shownOf 2 = .ok (.iload_n 2, 1) := by decide +kernel
theorem dX1_shownOf_3 : decode cX1_shownOf 3 = .ok (.aload_n 0, 1) := by decide +kernel
theorem dX1_shownOf_4 : decode cX1_shownOf 4 = .ok (.getfield 49, 3) := by decide +kernel
theorem dX1_shownOf_7 : decode cX1_shownOf 7 = .ok (.if_icmp .ge 36, 3) := by decide +kernel
theorem dX1_shownOf_10 : decode cX1_shownOf 10 = .ok (.aload_n 0, 1) := by decide +kernel
theorem dX1_shownOf_11 : decode cX1_shownOf 11 = .ok (.getfield 22, 3) := by decide +kernel
theorem dX1_shownOf_14 : decode cX1_shownOf 14 = .ok (.iload_n 2, 1) := by decide +kernel
theorem dX1_shownOf_15 : decode cX1_shownOf 15 = .ok (.aaload, 1) := by decide +kernel
theorem dX1_shownOf_16 : decode cX1_shownOf 16 = .ok (.getfield 64, 3) := by decide +kernel
theorem dX1_shownOf_19 : decode cX1_shownOf 19 = .ok (.aload_n 1, 1) := by decide +kernel
theorem dX1_shownOf_20 : decode cX1_shownOf 20 = .ok (.if_acmp .ne 17, 3) := by decide +kernel
theorem dX1_shownOf_23 : decode cX1_shownOf 23 = .ok (.aload_n 0, 1) := by decide +kernel
theorem dX1_shownOf_24 : decode cX1_shownOf 24 = .ok (.getfield 22, 3) := by decide +kernel
theorem dX1_shownOf_27 : decode cX1_shownOf 27 = .ok (.iload_n 2, 1) := by decide +kernel
theorem dX1_shownOf_28 : decode cX1_shownOf 28 = .ok (.aaload, 1) := by decide +kernel
theorem dX1_shownOf_29 : decode cX1_shownOf 29 = .ok (.invokevirtual 103, 3) := by decide +kernel
theorem dX1_shownOf_32 : decode cX1_shownOf 32 = .ok (.ifCond .eq 5, 3) := by decide +kernel
theorem dX1_shownOf_35 : decode cX1_shownOf 35 = .ok (.iload_n 2, 1) := by decide +kernel
theorem dX1_shownOf_36 : decode cX1_shownOf 36 = .ok (.ireturn, 1) := by decide +kernel
theorem dX1_shownOf_37 : decode cX1_shownOf 37 = .ok (.iinc 2 1, 3) := by decide +kernel
theorem dX1_shownOf_40 : decode cX1_shownOf 40 = .ok (.goto (-38), 3) := by decide +kernel
theorem dX1_shownOf_43 : decode cX1_shownOf 43 = .ok (.iconst (-1), 1) := by decide +kernel
theorem dX1_shownOf_44 : decode cX1_shownOf 44 = .ok (.ireturn, 1) := by decide +kernel
theorem dX1_hasFigureOf_0 : decode cX1_hasFigureOf 0 = .ok (.iconst 0, 1) := by decide +kernel
theorem dX1_hasFigureOf_1 : decode cX1_hasFigureOf 1 = .ok (.istore_n 2, 1) := by decide +kernel
theorem dX1_hasFigureOf_2 : decode cX1_hasFigureOf 2 = .ok (.iload_n 2, 1) := by decide +kernel
theorem dX1_hasFigureOf_3 : decode cX1_hasFigureOf 3 = .ok (.aload_n 0, 1) := by decide +kernel
theorem dX1_hasFigureOf_4 : decode cX1_hasFigureOf 4 = .ok (.getfield 49, 3) := by decide +kernel
theorem dX1_hasFigureOf_7 : decode cX1_hasFigureOf 7 = .ok (.if_icmp .ge 38, 3) := by decide +kernel
theorem dX1_hasFigureOf_10 : decode cX1_hasFigureOf 10 = .ok (.aload_n 0, 1) := by decide +kernel
theorem dX1_hasFigureOf_11 : decode cX1_hasFigureOf 11 = .ok (.getfield 22, 3) := by decide +kernel
theorem dX1_hasFigureOf_14 : decode cX1_hasFigureOf 14 = .ok (.iload_n 2, 1) := by decide +kernel
theorem dX1_hasFigureOf_15 : decode cX1_hasFigureOf 15 = .ok (.aaload, 1) := by decide +kernel
theorem dX1_hasFigureOf_16 : decode cX1_hasFigureOf 16 = .ok (.getfield 64, 3) := by decide +kernel
theorem dX1_hasFigureOf_19 : decode cX1_hasFigureOf 19 = .ok (.aload_n 1, 1) := by decide +kernel
theorem dX1_hasFigureOf_20 : decode cX1_hasFigureOf 20 = .ok (.if_acmp .ne 19, 3) := by decide +kernel
theorem dX1_hasFigureOf_23 : decode cX1_hasFigureOf 23 = .ok (.aload_n 0, 1) := by decide +kernel
theorem dX1_hasFigureOf_24 : decode cX1_hasFigureOf 24 = .ok (.getfield 22, 3) := by decide +kernel
theorem dX1_hasFigureOf_27 : decode cX1_hasFigureOf 27 = .ok (.iload_n 2, 1) := by decide +kernel
theorem dX1_hasFigureOf_28 : decode cX1_hasFigureOf 28 = .ok (.aaload, 1) := by decide +kernel
theorem dX1_hasFigureOf_29 : decode cX1_hasFigureOf 29 = .ok (.getfield 107, 3) := by decide +kernel
theorem dX1_hasFigureOf_32 : decode cX1_hasFigureOf 32 = .ok (.bipush 7, 2) := by decide +kernel
theorem dX1_hasFigureOf_34 : decode cX1_hasFigureOf 34 = .ok (.if_icmp .eq 5, 3) := by decide +kernel
theorem dX1_hasFigureOf_37 : decode cX1_hasFigureOf 37 = .ok (.iconst 1, 1) := by decide +kernel
theorem dX1_hasFigureOf_38 : decode cX1_hasFigureOf 38 = .ok (.ireturn, 1) := by decide +kernel
theorem dX1_hasFigureOf_39 : decode cX1_hasFigureOf 39 = .ok (.iinc 2 1, 3) := by decide +kernel
theorem dX1_hasFigureOf_42 : decode cX1_hasFigureOf 42 = .ok (.goto (-40), 3) := by decide +kernel
theorem dX1_hasFigureOf_45 : decode cX1_hasFigureOf 45 = .ok (.iconst 0, 1) := by decide +kernel
theorem dX1_hasFigureOf_46 : decode cX1_hasFigureOf 46 = .ok (.ireturn, 1) := by decide +kernel
theorem dX1_cleanFiguresIn_0 : decode cX1_cleanFiguresIn 0 = .ok (.iconst 0, 1) := by decide +kernel
theorem dX1_cleanFiguresIn_1 : decode cX1_cleanFiguresIn 1 = .ok (.istore_n 2, 1) := by decide +kernel
theorem dX1_cleanFiguresIn_2 : decode cX1_cleanFiguresIn 2 = .ok (.iload_n 2, 1) := by decide +kernel
theorem dX1_cleanFiguresIn_3 : decode cX1_cleanFiguresIn 3 = .ok (.aload_n 0, 1) := by decide +kernel
theorem dX1_cleanFiguresIn_4 : decode cX1_cleanFiguresIn 4 = .ok (.getfield 49, 3) := by decide +kernel
theorem dX1_cleanFiguresIn_7 : decode cX1_cleanFiguresIn 7 = .ok (.if_icmp .ge 39, 3) := by decide +kernel
theorem dX1_cleanFiguresIn_10 : decode cX1_cleanFiguresIn 10 = .ok (.aload_n 0, 1) := by decide +kernel
theorem dX1_cleanFiguresIn_11 : decode cX1_cleanFiguresIn 11 = .ok (.getfield 22, 3) := by decide +kernel
theorem dX1_cleanFiguresIn_14 : decode cX1_cleanFiguresIn 14 = .ok (.iload_n 2, 1) := by decide +kernel
theorem dX1_cleanFiguresIn_15 : decode cX1_cleanFiguresIn 15 = .ok (.aaload, 1) := by decide +kernel
theorem dX1_cleanFiguresIn_16 : decode cX1_cleanFiguresIn 16 = .ok (.astore_n 3, 1) := by decide +kernel
theorem dX1_cleanFiguresIn_17 : decode cX1_cleanFiguresIn 17 = .ok (.aload_n 3, 1) := by decide +kernel
theorem dX1_cleanFiguresIn_18 : decode cX1_cleanFiguresIn 18 = .ok (.getfield 107, 3) := by decide +kernel
theorem dX1_cleanFiguresIn_21 : decode cX1_cleanFiguresIn 21 = .ok (.iload_n 1, 1) := by decide +kernel
theorem dX1_cleanFiguresIn_22 : decode cX1_cleanFiguresIn 22 = .ok (.if_icmp .ne 18, 3) := by decide +kernel
theorem dX1_cleanFiguresIn_25 : decode cX1_cleanFiguresIn 25 = .ok (.aload_n 3, 1) := by decide +kernel
theorem dX1_cleanFiguresIn_26 : decode cX1_cleanFiguresIn 26 = .ok (.aload_n 3, 1) := by decide +kernel
theorem dX1_cleanFiguresIn_27 : decode cX1_cleanFiguresIn 27 = .ok (.getfield 110, 3) := by decide +kernel
theorem dX1_cleanFiguresIn_30 : decode cX1_cleanFiguresIn 30 = .ok (.bipush 6, 2) := by decide +kernel
theorem dX1_cleanFiguresIn_32 : decode cX1_cleanFiguresIn 32 = .ok (.isub, 1) := by decide +kernel
theorem dX1_cleanFiguresIn_33 : decode cX1_cleanFiguresIn 33 = .ok (.iconst 0, 1) := by decide +kernel
theorem dX1_cleanFiguresIn_34 : decode cX1_cleanFiguresIn 34 = .ok (.invokestatic 113, 3) := by decide +kernel
theorem dX1_cleanFiguresIn_37 : decode cX1_cleanFiguresIn 37 = .ok (.putfield 110, 3) := by decide +kernel
theorem dX1_cleanFiguresIn_40 : decode cX1_cleanFiguresIn 40 = .ok (.iinc 2 1, 3) := by decide +kernel
theorem dX1_cleanFiguresIn_43 : decode cX1_cleanFiguresIn 43 = .ok (.goto (-41), 3) := by decide +kernel
theorem dX1_cleanFiguresIn_46 : decode cX1_cleanFiguresIn 46 = .ok (.return_, 1) := by decide +kernel
theorem dX1_figuresIn_0 : decode cX1_figuresIn 0 = .ok (.iconst 0, 1) := by decide +kernel
theorem dX1_figuresIn_1 : decode cX1_figuresIn 1 = .ok (.istore_n 3, 1) := by decide +kernel
theorem dX1_figuresIn_2 : decode cX1_figuresIn 2 = .ok (.iconst 0, 1) := by decide +kernel
theorem dX1_figuresIn_3 : decode cX1_figuresIn 3 = .ok (.istore 4, 2) := by decide +kernel
theorem dX1_figuresIn_5 : decode cX1_figuresIn 5 = .ok (.iload 4, 2) := by decide +kernel
theorem dX1_figuresIn_7 : decode cX1_figuresIn 7 = .ok (.aload_n 0, 1) := by decide +kernel
theorem dX1_figuresIn_8 : decode cX1_figuresIn 8 = .ok (.getfield 49, 3) := by decide +kernel
theorem dX1_figuresIn_11 : decode cX1_figuresIn 11 = .ok (.if_icmp .ge 40, 3) := by decide +kernel
theorem dX1_figuresIn_14 : decode cX1_figuresIn 14 = .ok (.aload_n 0, 1) := by decide +kernel
theorem dX1_figuresIn_15 : decode cX1_figuresIn 15 = .ok (.getfield 22, 3) := by decide +kernel
theorem dX1_figuresIn_18 : decode cX1_figuresIn 18 = .ok (.iload 4, 2) := by decide +kernel
theorem dX1_figuresIn_20 : decode cX1_figuresIn 20 = .ok (.aaload, 1) := by decide +kernel
theorem dX1_figuresIn_21 : decode cX1_figuresIn 21 = .ok (.getfield 107, 3) := by decide +kernel
theorem dX1_figuresIn_24 : decode cX1_figuresIn 24 = .ok (.iload_n 1, 1) := by decide +kernel
theorem dX1_figuresIn_25 : decode cX1_figuresIn 25 = .ok (.if_icmp .lt 20, 3) := by decide +kernel
theorem dX1_figuresIn_28 : decode cX1_figuresIn 28 = .ok (.aload_n 0, 1) := by decide +kernel
theorem dX1_figuresIn_29 : decode cX1_figuresIn 29 = .ok (.getfield 22, 3) := by decide +kernel
theorem dX1_figuresIn_32 : decode cX1_figuresIn 32 = .ok (.iload 4, 2) := by decide +kernel
theorem dX1_figuresIn_34 : decode cX1_figuresIn 34 = .ok (.aaload, 1) := by decide +kernel
theorem dX1_figuresIn_35 : decode cX1_figuresIn 35 = .ok (.getfield 107, 3) := by decide +kernel
theorem dX1_figuresIn_38 : decode cX1_figuresIn 38 = .ok (.iload_n 2, 1) := by decide +kernel
theorem dX1_figuresIn_39 : decode cX1_figuresIn 39 = .ok (.if_icmp .gt 6, 3) := by decide +kernel
theorem dX1_figuresIn_42 : decode cX1_figuresIn 42 = .ok (.iinc 3 1, 3) := by decide +kernel
theorem dX1_figuresIn_45 : decode cX1_figuresIn 45 = .ok (.iinc 4 1, 3) := by decide +kernel
theorem dX1_figuresIn_48 : decode cX1_figuresIn 48 = .ok (.goto (-43), 3) := by decide +kernel
theorem dX1_figuresIn_51 : decode cX1_figuresIn 51 = .ok (.iload_n 3, 1) := by decide +kernel
theorem dX1_figuresIn_52 : decode cX1_figuresIn 52 = .ok (.ireturn, 1) := by decide +kernel
set_option maxRecDepth 20000 in
theorem ggX1_figuresDone_X0_isDone : GoodIn wsX1_figuresDone wsX0_isDone := goodIn_r _ [7, 8, 9, 21, 22, 23, 24, 25, 26, 27, 28, 29, 30, 31] (by decide +kernel) (by decide +kernel)
set_option maxRecDepth 20000 in
theorem gX1_figuresDone_X0_isDone : GoodIn wsX1_figuresDone (wsV RX1 119 RX0 yX0_isDone wsX0_isDone) := goodIn_app (goodIn_of _ (by decide +kernel)) ggX1_figuresDone_X0_isDone
theorem dX1_figuresDone_0 : decode cX1_figuresDone 0 = .ok (.iconst 0, 1) := by decide +kernel
theorem dX1_figuresDone_1 : decode cX1_figuresDone 1 = .ok (.istore_n 1, 1) := by decide +kernel
theorem dX1_figuresDone_2 : decode cX1_figuresDone 2 = .ok (.iconst 0, 1) := by decide +kernel
theorem dX1_figuresDone_3 : decode cX1_figuresDone 3 = .ok (.istore_n 2, 1) := by decide +kernel
theorem dX1_figuresDone_4 : decode cX1_figuresDone 4 = .ok (.iload_n 2, 1) := by decide +kernel
theorem dX1_figuresDone_5 : decode cX1_figuresDone 5 = .ok (.aload_n 0, 1) := by decide +kernel
theorem dX1_figuresDone_6 : decode cX1_figuresDone 6 = .ok (.getfield 49, 3) := by decide +kernel
theorem dX1_figuresDone_9 : decode cX1_figuresDone 9 = .ok (.if_icmp .ge 24, 3) := by decide +kernel
theorem dX1_figuresDone_12 : decode cX1_figuresDone 12 = .ok (.aload_n 0, 1) := by decide +kernel
theorem dX1_figuresDone_13 : decode cX1_figuresDone 13 = .ok (.getfield 22, 3) := by decide +kernel
theorem dX1_figuresDone_16 : decode cX1_figuresDone 16 = .ok (.iload_n 2, 1) := by decide +kernel
theorem dX1_figuresDone_17 : decode cX1_figuresDone 17 = .ok (.aaload, 1) := by decide +kernel
theorem dX1_figuresDone_18 : decode cX1_figuresDone 18 = .ok (.invokevirtual 119, 3) := by decide +kernel
theorem dX1_figuresDone_21 : decode cX1_figuresDone 21 = .ok (.ifCond .eq 6, 3) := by decide +kernel
theorem dX1_figuresDone_24 : decode cX1_figuresDone 24 = .ok (.iinc 1 1, 3) := by decide +kernel
theorem dX1_figuresDone_27 : decode cX1_figuresDone 27 = .ok (.iinc 2 1, 3) := by decide +kernel
theorem dX1_figuresDone_30 : decode cX1_figuresDone 30 = .ok (.goto (-26), 3) := by decide +kernel
theorem dX1_figuresDone_33 : decode cX1_figuresDone 33 = .ok (.iload_n 1, 1) := by decide +kernel
theorem dX1_figuresDone_34 : decode cX1_figuresDone 34 = .ok (.ireturn, 1) := by decide +kernel
set_option maxRecDepth 20000 in
theorem ggX1_drawsIn_X0_draw : GoodIn wsX1_drawsIn wsX0_draw := goodIn_r _ [8, 9, 10, 11, 12, 13, 7, 14, 15, 16, 17, 18, 19, 20, 21, 22, 23, 24, 25, 26, 27, 28, 29, 30, 31, 32, 33, 34, 46, 47, 48, 49, 50, 51, 52, 53, 54, 55, 56, 57, 58, 59, 60, 61, 62, 63, 64] (by decide +kernel) (by decide +kernel)
set_option maxRecDepth 20000 in
theorem gX1_drawsIn_X0_draw : GoodIn wsX1_drawsIn (wsV RX1 122 RX0 yX0_draw wsX0_draw) := goodIn_app (goodIn_of _ (by decide +kernel)) ggX1_drawsIn_X0_draw
theorem dX1_drawsIn_0 : decode cX1_drawsIn 0 = .ok (.iconst 0, 1) := by decide +kernel
theorem dX1_drawsIn_1 : decode cX1_drawsIn 1 = .ok (.istore_n 3, 1) := by decide +kernel
theorem dX1_drawsIn_2 : decode cX1_drawsIn 2 = .ok (.iconst 0, 1) := by decide +kernel
theorem dX1_drawsIn_3 : decode cX1_drawsIn 3 = .ok (.istore 4, 2) := by decide +kernel
theorem dX1_drawsIn_5 : decode cX1_drawsIn 5 = .ok (.iload 4, 2) := by decide +kernel
theorem dX1_drawsIn_7 : decode cX1_drawsIn 7 = .ok (.aload_n 0, 1) := by decide +kernel
theorem dX1_drawsIn_8 : decode cX1_drawsIn 8 = .ok (.getfield 49, 3) := by decide +kernel
theorem dX1_drawsIn_11 : decode cX1_drawsIn 11 = .ok (.if_icmp .ge 50, 3) := by decide +kernel
theorem dX1_drawsIn_14 : decode cX1_drawsIn 14 = .ok (.aload_n 0, 1) := by decide +kernel
theorem dX1_drawsIn_15 : decode cX1_drawsIn 15 = .ok (.getfield 22, 3) := by decide +kernel
theorem dX1_drawsIn_18 : decode cX1_drawsIn 18 = .ok (.iload 4, 2) := by decide +kernel
theorem dX1_drawsIn_20 : decode cX1_drawsIn 20 = .ok (.aaload, 1) := by decide +kernel
theorem dX1_drawsIn_21 : decode cX1_drawsIn 21 = .ok (.getfield 107, 3) := by decide +kernel
theorem dX1_drawsIn_24 : decode cX1_drawsIn 24 = .ok (.iload_n 1, 1) := by decide +kernel
theorem dX1_drawsIn_25 : decode cX1_drawsIn 25 = .ok (.if_icmp .lt 30, 3) := by decide +kernel
theorem dX1_drawsIn_28 : decode cX1_drawsIn 28 = .ok (.aload_n 0, 1) := by decide +kernel
theorem dX1_drawsIn_29 : decode cX1_drawsIn 29 = .ok (.getfield 22, 3) := by decide +kernel
theorem dX1_drawsIn_32 : decode cX1_drawsIn 32 = .ok (.iload 4, 2) := by decide +kernel
theorem dX1_drawsIn_34 : decode cX1_drawsIn 34 = .ok (.aaload, 1) := by decide +kernel
theorem dX1_drawsIn_35 : decode cX1_drawsIn 35 = .ok (.getfield 107, 3) := by decide +kernel
theorem dX1_drawsIn_38 : decode cX1_drawsIn 38 = .ok (.iload_n 2, 1) := by decide +kernel
theorem dX1_drawsIn_39 : decode cX1_drawsIn 39 = .ok (.if_icmp .gt 16, 3) := by decide +kernel
theorem dX1_drawsIn_42 : decode cX1_drawsIn 42 = .ok (.iload_n 3, 1) := by decide +kernel
theorem dX1_drawsIn_43 : decode cX1_drawsIn 43 = .ok (.aload_n 0, 1) := by decide +kernel
theorem dX1_drawsIn_44 : decode cX1_drawsIn 44 = .ok (.getfield 22, 3) := by decide +kernel
theorem dX1_drawsIn_47 : decode cX1_drawsIn 47 = .ok (.iload 4, 2) := by decide +kernel
theorem dX1_drawsIn_49 : decode cX1_drawsIn 49 = .ok (.aaload, 1) := by decide +kernel
theorem dX1_drawsIn_50 : decode cX1_drawsIn 50 = .ok (.invokevirtual 122, 3) := by decide +kernel
theorem dX1_drawsIn_53 : decode cX1_drawsIn 53 = .ok (.iadd, 1) := by decide +kernel
theorem dX1_drawsIn_54 : decode cX1_drawsIn 54 = .ok (.istore_n 3, 1) := by decide +kernel
theorem dX1_drawsIn_55 : decode cX1_drawsIn 55 = .ok (.iinc 4 1, 3) := by decide +kernel
theorem dX1_drawsIn_58 : decode cX1_drawsIn 58 = .ok (.goto (-53), 3) := by decide +kernel
theorem dX1_drawsIn_61 : decode cX1_drawsIn 61 = .ok (.iload_n 3, 1) := by decide +kernel
theorem dX1_drawsIn_62 : decode cX1_drawsIn 62 = .ok (.ireturn, 1) := by decide +kernel
set_option maxRecDepth 20000 in
theorem ggX1_likenessShown_X0_isShown : GoodIn wsX1_likenessShown wsX0_isShown := goodIn_r _ [7, 8, 40, 41, 42, 43, 44, 45, 46, 47, 48, 49, 50] (by decide +kernel) (by decide +kernel)
set_option maxRecDepth 20000 in
theorem gX1_likenessShown_X0_isShown : GoodIn wsX1_likenessShown (wsV RX1 103 RX0 yX0_isShown wsX0_isShown) := goodIn_app (goodIn_of _ (by decide +kernel)) ggX1_likenessShown_X0_isShown
set_option maxRecDepth 20000 in
theorem ggX1_likenessShown_X0_likeness : GoodIn wsX1_likenessShown wsX0_likeness := goodIn_r _ [12, 13, 14, 15, 16, 17, 18, 19, 6, 20, 21, 8, 22, 23, 24, 25, 26, 27, 28, 40, 41, 42, 43, 44, 45, 46, 47, 48, 49, 50, 51, 52, 53, 54, 55, 56, 57, 58] (by decide +kernel) (by decide +kernel)
set_option maxRecDepth 20000 in
theorem gX1_likenessShown_X0_likeness : GoodIn wsX1_likenessShown (wsV RX1 126 RX0 yX0_likeness wsX0_likeness) := goodIn_app (goodIn_of _ (by decide +kernel)) ggX1_likenessShown_X0_likeness
theorem dX1_likenessShown_0 : decode cX1_likenessShown 0 = .ok (.iconst 0, 1) := by decide +kernel
theorem dX1_likenessShown_1 : decode cX1_likenessShown 1 = .ok (.istore_n 1, 1) := by decide +kernel
theorem dX1_likenessShown_2 : decode cX1_likenessShown 2 = .ok (.iconst 0, 1) := by decide +kernel
theorem dX1_likenessShown_3 : decode cX1_likenessShown 3 = .ok (.istore_n 2, 1) := by decide +kernel
theorem dX1_likenessShown_4 : decode cX1_likenessShown 4 = .ok (.iload_n 2, 1) := by decide +kernel
theorem dX1_likenessShown_5 : decode cX1_likenessShown 5 = .ok (.aload_n 0, 1) := by decide +kernel
theorem dX1_likenessShown_6 : decode cX1_likenessShown 6 = .ok (.getfield 49, 3) := by decide +kernel
theorem dX1_likenessShown_9 : decode cX1_likenessShown 9 = .ok (.if_icmp .ge 33, 3) := by decide +kernel
theorem dX1_likenessShown_12 : decode cX1_likenessShown 12 = .ok (.aload_n 0, 1) := by decide +kernel
theorem dX1_likenessShown_13 : decode cX1_likenessShown 13 = .ok (.getfield 22, 3) := by decide +kernel
theorem dX1_likenessShown_16 : decode cX1_likenessShown 16 = .ok (.iload_n 2, 1) := by decide +kernel
theorem dX1_likenessShown_17 : decode cX1_likenessShown 17 = .ok (.aaload, 1) := by decide +kernel
theorem dX1_likenessShown_18 : decode cX1_likenessShown 18 = .ok (.invokevirtual 103, 3) := by decide +kernel
theorem dX1_likenessShown_21 : decode cX1_likenessShown 21 = .ok (.ifCond .eq 15, 3) := by decide +kernel
theorem dX1_likenessShown_24 : decode cX1_likenessShown 24 = .ok (.iload_n 1, 1) := by decide +kernel
theorem dX1_likenessShown_25 : decode cX1_likenessShown 25 = .ok (.aload_n 0, 1) := by decide +kernel
theorem dX1_likenessShown_26 : decode cX1_likenessShown 26 = .ok (.getfield 22, 3) := by decide +kernel
theorem dX1_likenessShown_29 : decode cX1_likenessShown 29 = .ok (.iload_n 2, 1) := by decide +kernel
theorem dX1_likenessShown_30 : decode cX1_likenessShown 30 = .ok (.aaload, 1) := by decide +kernel
theorem dX1_likenessShown_31 : decode cX1_likenessShown 31 = .ok (.invokevirtual 126, 3) := by decide +kernel
theorem dX1_likenessShown_34 : decode cX1_likenessShown 34 = .ok (.iadd, 1) := by decide +kernel
theorem dX1_likenessShown_35 : decode cX1_likenessShown 35 = .ok (.istore_n 1, 1) := by decide +kernel
theorem dX1_likenessShown_36 : decode cX1_likenessShown 36 = .ok (.iinc 2 1, 3) := by decide +kernel
theorem dX1_likenessShown_39 : decode cX1_likenessShown 39 = .ok (.goto (-35), 3) := by decide +kernel
theorem dX1_likenessShown_42 : decode cX1_likenessShown 42 = .ok (.iload_n 1, 1) := by decide +kernel
theorem dX1_likenessShown_43 : decode cX1_likenessShown 43 = .ok (.ireturn, 1) := by decide +kernel
theorem dX1_allDue_0 : decode cX1_allDue 0 = .ok (.iconst 0, 1) := by decide +kernel
theorem dX1_allDue_1 : decode cX1_allDue 1 = .ok (.istore_n 1, 1) := by decide +kernel
theorem dX1_allDue_2 : decode cX1_allDue 2 = .ok (.iconst 0, 1) := by decide +kernel
theorem dX1_allDue_3 : decode cX1_allDue 3 = .ok (.istore_n 2, 1) := by decide +kernel
theorem dX1_allDue_4 : decode cX1_allDue 4 = .ok (.iload_n 2, 1) := by decide +kernel
theorem dX1_allDue_5 : decode cX1_allDue 5 = .ok (.aload_n 0, 1) := by decide +kernel
theorem dX1_allDue_6 : decode cX1_allDue 6 = .ok (.getfield 46, 3) := by decide +kernel
theorem dX1_allDue_9 : decode cX1_allDue 9 = .ok (.if_icmp .ge 21, 3) := by decide +kernel
theorem dX1_allDue_12 : decode cX1_allDue 12 = .ok (.iload_n 1, 1) := by decide +kernel
theorem dX1_allDue_13 : decode cX1_allDue 13 = .ok (.aload_n 0, 1) := by decide +kernel
theorem dX1_allDue_14 : decode cX1_allDue 14 = .ok (.getfield 11, 3) := by decide +kernel
theorem dX1_allDue_17 : decode cX1_allDue 17 = .ok (.iload_n 2, 1) := by decide +kernel
theorem dX1_allDue_18 : decode cX1_allDue 18 = .ok (.aaload, 1) := by decide +kernel
theorem dX1_allDue_19 : decode cX1_allDue 19 = .ok (.getfield 129, 3) := by decide +kernel
theorem dX1_allDue_22 : decode cX1_allDue 22 = .ok (.iadd, 1) := by decide +kernel
theorem dX1_allDue_23 : decode cX1_allDue 23 = .ok (.istore_n 1, 1) := by decide +kernel
theorem dX1_allDue_24 : decode cX1_allDue 24 = .ok (.iinc 2 1, 3) := by decide +kernel
theorem dX1_allDue_27 : decode cX1_allDue 27 = .ok (.goto (-23), 3) := by decide +kernel
theorem dX1_allDue_30 : decode cX1_allDue 30 = .ok (.iload_n 1, 1) := by decide +kernel
theorem dX1_allDue_31 : decode cX1_allDue 31 = .ok (.ireturn, 1) := by decide +kernel
theorem dX1_allHands_0 : decode cX1_allHands 0 = .ok (.iconst 0, 1) := by decide +kernel
theorem dX1_allHands_1 : decode cX1_allHands 1 = .ok (.istore_n 1, 1) := by decide +kernel
theorem dX1_allHands_2 : decode cX1_allHands 2 = .ok (.iconst 0, 1) := by decide +kernel
theorem dX1_allHands_3 : decode cX1_allHands 3 = .ok (.istore_n 2, 1) := by decide +kernel
theorem dX1_allHands_4 : decode cX1_allHands 4 = .ok (.iload_n 2, 1) := by decide +kernel
theorem dX1_allHands_5 : decode cX1_allHands 5 = .ok (.aload_n 0, 1) := by decide +kernel
theorem dX1_allHands_6 : decode cX1_allHands 6 = .ok (.getfield 49, 3) := by decide +kernel
theorem dX1_allHands_9 : decode cX1_allHands 9 = .ok (.if_icmp .ge 21, 3) := by decide +kernel
theorem dX1_allHands_12 : decode cX1_allHands 12 = .ok (.iload_n 1, 1) := by decide +kernel
theorem dX1_allHands_13 : decode cX1_allHands 13 = .ok (.aload_n 0, 1) := by decide +kernel
theorem dX1_allHands_14 : decode cX1_allHands 14 = .ok (.getfield 22, 3) := by decide +kernel
theorem dX1_allHands_17 : decode cX1_allHands 17 = .ok (.iload_n 2, 1) := by decide +kernel
theorem dX1_allHands_18 : decode cX1_allHands 18 = .ok (.aaload, 1) := by decide +kernel
theorem dX1_allHands_19 : decode cX1_allHands 19 = .ok (.getfield 132, 3) := by decide +kernel
theorem dX1_allHands_22 : decode cX1_allHands 22 = .ok (.iadd, 1) := by decide +kernel
theorem dX1_allHands_23 : decode cX1_allHands 23 = .ok (.istore_n 1, 1) := by decide +kernel
theorem dX1_allHands_24 : decode cX1_allHands 24 = .ok (.iinc 2 1, 3) := by decide +kernel
theorem dX1_allHands_27 : decode cX1_allHands 27 = .ok (.goto (-23), 3) := by decide +kernel
theorem dX1_allHands_30 : decode cX1_allHands 30 = .ok (.iload_n 1, 1) := by decide +kernel
theorem dX1_allHands_31 : decode cX1_allHands 31 = .ok (.ireturn, 1) := by decide +kernel
set_option maxRecDepth 20000 in
theorem ggX1_passDay_X1_beginMonthOfAll : GoodIn wsX1_passDay wsX1_beginMonthOfAll := goodIn_r _ [9, 10, 11, 12, 13, 14, 15, 16, 17, 18, 19, 20, 21, 22, 23, 24, 117, 118, 119, 120, 121, 122, 123, 124, 125, 126, 127, 128, 129, 130, 131, 132, 133, 134, 135] (by decide +kernel) (by decide +kernel)
set_option maxRecDepth 20000 in
theorem gX1_passDay_X1_beginMonthOfAll : GoodIn wsX1_passDay (wsV RX1 135 RX1 yX1_beginMonthOfAll wsX1_beginMonthOfAll) := goodIn_app (goodIn_of _ (by decide +kernel)) ggX1_passDay_X1_beginMonthOfAll
set_option maxRecDepth 20000 in
theorem ggX1_passDay_X1_workOnAll : GoodIn wsX1_passDay wsX1_workOnAll := goodIn_r _ [28, 29, 30, 31, 32, 33, 34, 35, 36, 37, 38, 39, 40, 41, 42, 43, 44, 15, 45, 46, 47, 117, 118, 119, 120, 121, 122, 123, 124, 125, 126, 127, 136, 137, 138, 139, 140, 141, 142, 143, 144, 145, 146, 128, 129, 130, 131, 132, 133, 134, 135] (by decide +kernel) (by decide +kernel)
set_option maxRecDepth 20000 in
theorem gX1_passDay_X1_workOnAll : GoodIn wsX1_passDay (wsV RX1 138 RX1 yX1_workOnAll wsX1_workOnAll) := goodIn_app (goodIn_of _ (by decide +kernel)) ggX1_passDay_X1_workOnAll
set_option maxRecDepth 20000 in
theorem ggX1_passDay_X1_drawsIn : GoodIn wsX1_passDay wsX1_drawsIn := goodIn_r _ [51, 29, 30, 52, 53, 54, 55, 34, 56, 40, 57, 58, 59, 60, 61, 37, 62, 63, 64, 65, 41, 66, 67, 68, 69, 70, 71, 36, 72, 73, 74, 15, 75, 47, 46, 117, 118, 119, 120, 121, 122, 123, 124, 125, 126, 127, 136, 137, 138, 139, 140, 141, 142, 143, 144, 145, 146, 128, 129, 130, 131, 132, 133, 134, 135] (by decide +kernel) (by decide +kernel)
set_option maxRecDepth 20000 in
theorem gX1_passDay_X1_drawsIn : GoodIn wsX1_passDay (wsV RX1 141 RX1 yX1_drawsIn wsX1_drawsIn) := goodIn_app (goodIn_of _ (by decide +kernel)) ggX1_passDay_X1_drawsIn
set_option maxRecDepth 20000 in
theorem ggX1_passDay_X1_wearAllShown : GoodIn wsX1_passDay wsX1_wearAllShown := goodIn_ca (goodIn_r _ [79, 29, 30, 52, 80, 81, 59, 60, 34, 61, 37, 53, 54, 55, 56, 40, 57, 58, 62, 63, 64, 65, 41, 66, 67, 68, 69, 70, 71, 36, 72, 73, 74, 15, 75, 47, 46, 82, 83, 84, 8, 85, 86, 87, 88, 89, 90, 91, 92, 93, 94, 95, 96, 97, 98, 99, 100, 101, 102, 103, 104, 105, 106, 39, 117, 118, 119, 120, 121, 122, 123, 124, 125, 126, 127, 136, 137, 138, 139, 140, 141, 142, 143, 144, 145, 146, 147, 148, 128, 129, 130, 131, 132, 133, 134, 135] (by decide +kernel) (by decide +kernel)) (goodIn_sub (fun _ h => List.mem_cons_of_mem _ (List.mem_append_right _ h)) (by decide +kernel))
set_option maxRecDepth 20000 in
theorem gX1_passDay_X1_wearAllShown : GoodIn wsX1_passDay (wsV RX1 144 RX1 yX1_wearAllShown wsX1_wearAllShown) := goodIn_app (goodIn_of _ (by decide +kernel)) ggX1_passDay_X1_wearAllShown
set_option maxRecDepth 20000 in
theorem ggX1_passDay_X1_tourWithAll : GoodIn wsX1_passDay wsX1_tourWithAll := goodIn_r _ [110, 29, 30, 52, 4, 111, 112, 113, 34, 114, 115, 40, 57, 66, 99, 100, 101, 102, 116, 37, 62, 63, 64, 65, 41, 67, 68, 69, 70, 71, 36, 72, 73, 74, 15, 75, 47, 46, 117, 118, 119, 120, 121, 122, 123, 124, 125, 126, 127, 136, 137, 138, 139, 140, 141, 142, 143, 144, 145, 146, 128, 129, 130, 131, 132, 133, 134, 135] (by decide +kernel) (by decide +kernel)
set_option maxRecDepth 20000 in
theorem gX1_passDay_X1_tourWithAll : GoodIn wsX1_passDay (wsV RX1 148 RX1 yX1_tourWithAll wsX1_tourWithAll) := goodIn_app (goodIn_of _ (by decide +kernel)) ggX1_passDay_X1_tourWithAll
theorem dX1_passDay_0 : decode cX1_passDay 0 = .ok (.aload_n 0, 1) := by decide +kernel
theorem dX1_passDay_1 : decode cX1_passDay 1 = .ok (.dup, 1) := by decide +kernel
theorem dX1_passDay_2 : decode cX1_passDay 2 = .ok (.getfield 55, 3) := by decide +kernel
theorem dX1_passDay_5 : decode cX1_passDay 5 = .ok (.iconst 1, 1) := by decide +kernel
theorem dX1_passDay_6 : decode cX1_passDay 6 = .ok (.iadd, 1) := by decide +kernel
theorem dX1_passDay_7 : decode cX1_passDay 7 = .ok (.putfield 55, 3) := by decide +kernel
theorem dX1_passDay_10 : decode cX1_passDay 10 = .ok (.aload_n 0, 1) := by decide +kernel
theorem dX1_passDay_11 : decode cX1_passDay 11 = .ok (.getfield 55, 3) := by decide +kernel
theorem dX1_passDay_14 : decode cX1_passDay 14 = .ok (.bipush 30, 2) := by decide +kernel
theorem dX1_passDay_16 : decode cX1_passDay 16 = .ok (.irem, 1) := by decide +kernel
theorem dX1_passDay_17 : decode cX1_passDay 17 = .ok (.ifCond .ne 7, 3) := by decide +kernel
theorem dX1_passDay_20 : decode cX1_passDay 20 = .ok (.aload_n 0, 1) := by decide +kernel
theorem dX1_passDay_21 : decode cX1_passDay 21 = .ok (.invokevirtual 135, 3) := by decide +kernel
theorem dX1_passDay_24 : decode cX1_passDay 24 = .ok (.aload_n 0, 1) := by decide +kernel
theorem dX1_passDay_25 : decode cX1_passDay 25 = .ok (.invokevirtual 138, 3) := by decide +kernel
theorem dX1_passDay_28 : decode cX1_passDay 28 = .ok (.istore_n 3, 1) := by decide +kernel
theorem dX1_passDay_29 : decode cX1_passDay 29 = .ok (.aload_n 0, 1) := by decide +kernel
theorem dX1_passDay_30 : decode cX1_passDay 30 = .ok (.iconst 0, 1) := by decide +kernel
theorem dX1_passDay_31 : decode cX1_passDay 31 = .ok (.iconst 4, 1) := by decide +kernel
theorem dX1_passDay_32 : decode cX1_passDay 32 = .ok (.invokevirtual 141, 3) := by decide +kernel
theorem dX1_passDay_35 : decode cX1_passDay 35 = .ok (.istore 4, 2) := by decide +kernel
theorem dX1_passDay_37 : decode cX1_passDay 37 = .ok (.iload_n 1, 1) := by decide +kernel
theorem dX1_passDay_38 : decode cX1_passDay 38 = .ok (.bipush 100, 2) := by decide +kernel
theorem dX1_passDay_40 : decode cX1_passDay 40 = .ok (.iconst 5, 1) := by decide +kernel
theorem dX1_passDay_41 : decode cX1_passDay 41 = .ok (.aload_n 0, 1) := by decide +kernel
theorem dX1_passDay_42 : decode cX1_passDay 42 = .ok (.getfield 43, 3) := by decide +kernel
theorem dX1_passDay_45 : decode cX1_passDay 45 = .ok (.imul, 1) := by decide +kernel
theorem dX1_passDay_46 : decode cX1_passDay 46 = .ok (.isub, 1) := by decide +kernel
theorem dX1_passDay_47 : decode cX1_passDay 47 = .ok (.imul, 1) := by decide +kernel
theorem dX1_passDay_48 : decode cX1_passDay 48 = .ok (.bipush 100, 2) := by decide +kernel
theorem dX1_passDay_50 : decode cX1_passDay 50 = .ok (.idiv, 1) := by decide +kernel
theorem dX1_passDay_51 : decode cX1_passDay 51 = .ok (.istore 5, 2) := by decide +kernel
theorem dX1_passDay_53 : decode cX1_passDay 53 = .ok (.aload_n 0, 1) := by decide +kernel
theorem dX1_passDay_54 : decode cX1_passDay 54 = .ok (.dup, 1) := by decide +kernel
theorem dX1_passDay_55 : decode cX1_passDay 55 = .ok (.getfield 58, 3) := by decide +kernel
theorem dX1_passDay_58 : decode cX1_passDay 58 = .ok (.iload 5, 2) := by decide +kernel
theorem dX1_passDay_60 : decode cX1_passDay 60 = .ok (.iadd, 1) := by decide +kernel
theorem dX1_passDay_61 : decode cX1_passDay 61 = .ok (.putfield 58, 3) := by decide +kernel
theorem dX1_passDay_64 : decode cX1_passDay 64 = .ok (.aload_n 0, 1) := by decide +kernel
theorem dX1_passDay_65 : decode cX1_passDay 65 = .ok (.dup, 1) := by decide +kernel
theorem dX1_passDay_66 : decode cX1_passDay 66 = .ok (.getfield 36, 3) := by decide +kernel
theorem dX1_passDay_69 : decode cX1_passDay 69 = .ok (.aload_n 0, 1) := by decide +kernel
theorem dX1_passDay_70 : decode cX1_passDay 70 = .ok (.getfield 43, 3) := by decide +kernel
theorem dX1_passDay_73 : decode cX1_passDay 73 = .ok (.iload 5, 2) := by decide +kernel
theorem dX1_passDay_75 : decode cX1_passDay 75 = .ok (.imul, 1) := by decide +kernel
theorem dX1_passDay_76 : decode cX1_passDay 76 = .ok (.iadd, 1) := by decide +kernel
theorem dX1_passDay_77 : decode cX1_passDay 77 = .ok (.putfield 36, 3) := by decide +kernel
theorem dX1_passDay_80 : decode cX1_passDay 80 = .ok (.aload_n 0, 1) := by decide +kernel
theorem dX1_passDay_81 : decode cX1_passDay 81 = .ok (.iload 5, 2) := by decide +kernel
theorem dX1_passDay_83 : decode cX1_passDay 83 = .ok (.iload 4, 2) := by decide +kernel
theorem dX1_passDay_85 : decode cX1_passDay 85 = .ok (.iload_n 2, 1) := by decide +kernel
theorem dX1_passDay_86 : decode cX1_passDay 86 = .ok (.invokevirtual 144, 3) := by decide +kernel
theorem dX1_passDay_89 : decode cX1_passDay 89 = .ok (.istore 6, 2) := by decide +kernel
theorem dX1_passDay_91 : decode cX1_passDay 91 = .ok (.aload_n 0, 1) := by decide +kernel
theorem dX1_passDay_92 : decode cX1_passDay 92 = .ok (.invokevirtual 148, 3) := by decide +kernel
theorem dX1_passDay_95 : decode cX1_passDay 95 = .ok (.iload_n 3, 1) := by decide +kernel
theorem dX1_passDay_96 : decode cX1_passDay 96 = .ok (.iload 6, 2) := by decide +kernel
theorem dX1_passDay_98 : decode cX1_passDay 98 = .ok (.iadd, 1) := by decide +kernel
theorem dX1_passDay_99 : decode cX1_passDay 99 = .ok (.ireturn, 1) := by decide +kernel
set_option maxRecDepth 20000 in
theorem ggX1_beginMonthOfAll_X2_beginMonth : GoodIn wsX1_beginMonthOfAll wsX2_beginMonth := goodIn_r _ [7, 8, 9, 10, 11, 6, 12, 13, 14, 15, 27, 28, 29, 30, 31, 32, 33, 34] (by decide +kernel) (by decide +kernel)
set_option maxRecDepth 20000 in
theorem gX1_beginMonthOfAll_X2_beginMonth : GoodIn wsX1_beginMonthOfAll (wsV RX1 151 RX2 yX2_beginMonth wsX2_beginMonth) := goodIn_app (goodIn_of _ (by decide +kernel)) ggX1_beginMonthOfAll_X2_beginMonth
theorem dX1_beginMonthOfAll_0 : decode cX1_beginMonthOfAll 0 = .ok (.iconst 0, 1) := by decide +kernel
theorem dX1_beginMonthOfAll_1 : decode cX1_beginMonthOfAll 1 = .ok (.istore_n 1, 1) := by decide +kernel
theorem dX1_beginMonthOfAll_2 : decode cX1_beginMonthOfAll 2 = .ok (.iload_n 1, 1) := by decide +kernel
theorem dX1_beginMonthOfAll_3 : decode cX1_beginMonthOfAll 3 = .ok (.aload_n 0, 1) := by decide +kernel
theorem dX1_beginMonthOfAll_4 : decode cX1_beginMonthOfAll 4 = .ok (.getfield 46, 3) := by decide +kernel
theorem dX1_beginMonthOfAll_7 : decode cX1_beginMonthOfAll 7 = .ok (.if_icmp .ge 18, 3) := by decide +kernel
theorem dX1_beginMonthOfAll_10 : decode cX1_beginMonthOfAll 10 = .ok (.aload_n 0, 1) := by decide +kernel
theorem dX1_beginMonthOfAll_11 : decode cX1_beginMonthOfAll 11 = .ok (.getfield 11, 3) := by decide +kernel
theorem dX1_beginMonthOfAll_14 : decode cX1_beginMonthOfAll 14 = .ok (.iload_n 1, 1) := by decide +kernel
theorem dX1_beginMonthOfAll_15 : decode cX1_beginMonthOfAll 15 = .ok (.aaload, 1) := by decide +kernel
theorem dX1_beginMonthOfAll_16 : decode cX1_beginMonthOfAll 16 = .ok (.invokevirtual 151, 3) := by decide +kernel
theorem dX1_beginMonthOfAll_19 : decode cX1_beginMonthOfAll 19 = .ok (.iinc 1 1, 3) := by decide +kernel
theorem dX1_beginMonthOfAll_22 : decode cX1_beginMonthOfAll 22 = .ok (.goto (-20), 3) := by decide +kernel
theorem dX1_beginMonthOfAll_25 : decode cX1_beginMonthOfAll 25 = .ok (.return_, 1) := by decide +kernel
set_option maxRecDepth 20000 in
theorem ggX1_workOnAll_X0_workDay : GoodIn wsX1_workOnAll wsX0_workDay := goodIn_r _ [7, 8, 9, 10, 11, 12, 13, 14, 15, 16, 17, 18, 19, 20, 32, 33, 34, 35, 36, 37, 38, 39, 40, 41, 42, 43, 44, 45, 46, 47, 48, 49, 50] (by decide +kernel) (by decide +kernel)
set_option maxRecDepth 20000 in
theorem gX1_workOnAll_X0_workDay : GoodIn wsX1_workOnAll (wsV RX1 154 RX0 yX0_workDay wsX0_workDay) := goodIn_app (goodIn_of _ (by decide +kernel)) ggX1_workOnAll_X0_workDay
theorem dX1_workOnAll_0 : decode cX1_workOnAll 0 = .ok (.iconst 0, 1) := by decide +kernel
theorem dX1_workOnAll_1 : decode cX1_workOnAll 1 = .ok (.istore_n 1, 1) := by decide +kernel
theorem dX1_workOnAll_2 : decode cX1_workOnAll 2 = .ok (.iconst 0, 1) := by decide +kernel
theorem dX1_workOnAll_3 : decode cX1_workOnAll 3 = .ok (.istore_n 2, 1) := by decide +kernel
theorem dX1_workOnAll_4 : decode cX1_workOnAll 4 = .ok (.iload_n 2, 1) := by decide +kernel
theorem dX1_workOnAll_5 : decode cX1_workOnAll 5 = .ok (.aload_n 0, 1) := by decide +kernel
theorem dX1_workOnAll_6 : decode cX1_workOnAll 6 = .ok (.getfield 49, 3) := by decide +kernel
theorem dX1_workOnAll_9 : decode cX1_workOnAll 9 = .ok (.if_icmp .ge 24, 3) := by decide +kernel
theorem dX1_workOnAll_12 : decode cX1_workOnAll 12 = .ok (.aload_n 0, 1) := by decide +kernel
theorem dX1_workOnAll_13 : decode cX1_workOnAll 13 = .ok (.getfield 22, 3) := by decide +kernel
theorem dX1_workOnAll_16 : decode cX1_workOnAll 16 = .ok (.iload_n 2, 1) := by decide +kernel
theorem dX1_workOnAll_17 : decode cX1_workOnAll 17 = .ok (.aaload, 1) := by decide +kernel
theorem dX1_workOnAll_18 : decode cX1_workOnAll 18 = .ok (.invokevirtual 154, 3) := by decide +kernel
theorem dX1_workOnAll_21 : decode cX1_workOnAll 21 = .ok (.ifCond .eq 6, 3) := by decide +kernel
theorem dX1_workOnAll_24 : decode cX1_workOnAll 24 = .ok (.iinc 1 1, 3) := by decide +kernel
theorem dX1_workOnAll_27 : decode cX1_workOnAll 27 = .ok (.iinc 2 1, 3) := by decide +kernel
theorem dX1_workOnAll_30 : decode cX1_workOnAll 30 = .ok (.goto (-26), 3) := by decide +kernel
theorem dX1_workOnAll_33 : decode cX1_workOnAll 33 = .ok (.iload_n 1, 1) := by decide +kernel
theorem dX1_workOnAll_34 : decode cX1_workOnAll 34 = .ok (.ireturn, 1) := by decide +kernel
set_option maxRecDepth 20000 in
theorem ggX1_wearAllShown_X0_isShown : GoodIn wsX1_wearAllShown wsX0_isShown := goodIn_r _ [9, 10, 75, 76, 77, 78, 79, 80, 81, 82, 83, 84, 85] (by decide +kernel) (by decide +kernel)
set_option maxRecDepth 20000 in
theorem gX1_wearAllShown_X0_isShown : GoodIn wsX1_wearAllShown (wsV RX1 103 RX0 yX0_isShown wsX0_isShown) := goodIn_app (goodIn_of _ (by decide +kernel)) ggX1_wearAllShown_X0_isShown
set_option maxRecDepth 20000 in
theorem ggX1_wearAllShown_X0_draw : GoodIn wsX1_wearAllShown wsX0_draw := goodIn_r _ [14, 15, 16, 17, 6, 7, 8, 9, 10, 18, 19, 20, 21, 22, 23, 24, 25, 26, 27, 28, 29, 30, 31, 32, 33, 34, 35, 36, 75, 76, 77, 78, 79, 80, 81, 82, 83, 84, 85, 88, 89, 90, 91, 92, 93, 94, 95] (by decide +kernel) (by decide +kernel)
set_option maxRecDepth 20000 in
theorem gX1_wearAllShown_X0_draw : GoodIn wsX1_wearAllShown (wsV RX1 122 RX0 yX0_draw wsX0_draw) := goodIn_app (goodIn_of _ (by decide +kernel)) ggX1_wearAllShown_X0_draw
set_option maxRecDepth 20000 in
theorem ggX1_wearAllShown_X1_roomAt : GoodIn wsX1_wearAllShown wsX1_roomAt := goodIn_ca (goodIn_r _ [41, 42, 43, 44, 45, 46, 47, 48, 64, 65, 66, 67, 68, 69, 70, 71, 72, 73, 74] (by decide +kernel) (by decide +kernel)) (goodIn_sub (fun _ h => List.mem_cons_of_mem _ (List.mem_append_right _ h)) (by decide +kernel))
set_option maxRecDepth 20000 in
theorem gX1_wearAllShown_X1_roomAt : GoodIn wsX1_wearAllShown (wsV RX1 99 RX1 yX1_roomAt wsX1_roomAt) := goodIn_app (goodIn_of _ (by decide +kernel)) ggX1_wearAllShown_X1_roomAt
set_option maxRecDepth 20000 in
theorem ggX1_wearAllShown_X0_wearDay : GoodIn wsX1_wearAllShown wsX0_wearDay := goodIn_r _ [52, 53, 15, 54, 23, 55, 56, 57, 58, 59, 60, 61, 8, 62, 10, 63, 75, 76, 77, 78, 79, 80, 81, 82, 83, 84, 85, 88, 89, 90, 91, 92, 93, 94, 95] (by decide +kernel) (by decide +kernel)
set_option maxRecDepth 20000 in
theorem gX1_wearAllShown_X0_wearDay : GoodIn wsX1_wearAllShown (wsV RX1 157 RX0 yX0_wearDay wsX0_wearDay) := goodIn_app (goodIn_of _ (by decide +kernel)) ggX1_wearAllShown_X0_wearDay
theorem dX1_wearAllShown_0 : decode cX1_wearAllShown 0 = .ok (.iconst 0, 1) := by decide +kernel
theorem dX1_wearAllShown_1 : decode cX1_wearAllShown 1 = .ok (.istore 4, 2) := by decide +kernel
theorem dX1_wearAllShown_3 : decode cX1_wearAllShown 3 = .ok (.iconst 0, 1) := by decide +kernel
theorem dX1_wearAllShown_4 : decode cX1_wearAllShown 4 = .ok (.istore 5, 2) := by decide +kernel
theorem dX1_wearAllShown_6 : decode cX1_wearAllShown 6 = .ok (.iload 5, 2) := by decide +kernel
theorem dX1_wearAllShown_8 : decode cX1_wearAllShown 8 = .ok (.aload_n 0, 1) := by decide +kernel
theorem dX1_wearAllShown_9 : decode cX1_wearAllShown 9 = .ok (.getfield 49, 3) := by decide +kernel
theorem dX1_wearAllShown_12 : decode cX1_wearAllShown 12 = .ok (.if_icmp .ge 74, 3) := by decide +kernel
theorem dX1_wearAllShown_15 : decode cX1_wearAllShown 15 = .ok (.aload_n 0, 1) := by decide +kernel
theorem dX1_wearAllShown_16 : decode cX1_wearAllShown 16 = .ok (.getfield 22, 3) := by decide +kernel
theorem dX1_wearAllShown_19 : decode cX1_wearAllShown 19 = .ok (.iload 5, 2) := by decide +kernel
theorem dX1_wearAllShown_21 : decode cX1_wearAllShown 21 = .ok (.aaload, 1) := by decide +kernel
theorem dX1_wearAllShown_22 : decode cX1_wearAllShown 22 = .ok (.astore 6, 2) := by decide +kernel
theorem dX1_wearAllShown_24 : decode cX1_wearAllShown 24 = .ok (.aload 6, 2) := by decide +kernel
theorem dX1_wearAllShown_26 : decode cX1_wearAllShown 26 = .ok (.invokevirtual 103, 3) := by decide +kernel
theorem dX1_wearAllShown_29 : decode cX1_wearAllShown 29 = .ok (.ifCond .ne 6, 3) := by decide +kernel
theorem dX1_wearAllShown_32 : decode cX1_wearAllShown 32 = .ok (.goto 48, 3) := by decide +kernel
theorem dX1_wearAllShown_35 : decode cX1_wearAllShown 35 = .ok (.iload_n 2, 1) := by decide +kernel
theorem dX1_wearAllShown_36 : decode cX1_wearAllShown 36 = .ok (.ifCond .le 15, 3) := by decide +kernel
theorem dX1_wearAllShown_39 : decode cX1_wearAllShown 39 = .ok (.iload_n 1, 1) := by decide +kernel
theorem dX1_wearAllShown_40 : decode cX1_wearAllShown 40 = .ok (.aload 6, 2) := by decide +kernel
theorem dX1_wearAllShown_42 : decode cX1_wearAllShown 42 = .ok (.invokevirtual 122, 3) := by decide +kernel
theorem dX1_wearAllShown_45 : decode cX1_wearAllShown 45 = .ok (.imul, 1) := by decide +kernel
theorem dX1_wearAllShown_46 : decode cX1_wearAllShown 46 = .ok (.iload_n 2, 1) := by decide +kernel
theorem dX1_wearAllShown_47 : decode cX1_wearAllShown 47 = .ok (.idiv, 1) := by decide +kernel
theorem dX1_wearAllShown_48 : decode cX1_wearAllShown 48 = .ok (.goto 4, 3) := by decide +kernel
theorem dX1_wearAllShown_51 : decode cX1_wearAllShown 51 = .ok (.iconst 0, 1) := by decide +kernel
theorem dX1_wearAllShown_52 : decode cX1_wearAllShown 52 = .ok (.istore 7, 2) := by decide +kernel
theorem dX1_wearAllShown_54 : decode cX1_wearAllShown 54 = .ok (.aload 6, 2) := by decide +kernel
theorem dX1_wearAllShown_56 : decode cX1_wearAllShown 56 = .ok (.iload 7, 2) := by decide +kernel
theorem dX1_wearAllShown_58 : decode cX1_wearAllShown 58 = .ok (.aload_n 0, 1) := by decide +kernel
theorem dX1_wearAllShown_59 : decode cX1_wearAllShown 59 = .ok (.aload 6, 2) := by decide +kernel
theorem dX1_wearAllShown_61 : decode cX1_wearAllShown 61 = .ok (.getfield 107, 3) := by decide +kernel
theorem dX1_wearAllShown_64 : decode cX1_wearAllShown 64 = .ok (.invokevirtual 99, 3) := by decide +kernel
theorem dX1_wearAllShown_67 : decode cX1_wearAllShown 67 = .ok (.getfield 81, 3) := by decide +kernel
theorem dX1_wearAllShown_70 : decode cX1_wearAllShown 70 = .ok (.iload_n 3, 1) := by decide +kernel
theorem dX1_wearAllShown_71 : decode cX1_wearAllShown 71 = .ok (.invokevirtual 157, 3) := by decide +kernel
theorem dX1_wearAllShown_74 : decode cX1_wearAllShown 74 = .ok (.ifCond .eq 6, 3) := by decide +kernel
theorem dX1_wearAllShown_77 : decode cX1_wearAllShown 77 = .ok (.iinc 4 1, 3) := by decide +kernel
theorem dX1_wearAllShown_80 : decode cX1_wearAllShown 80 = .ok (.iinc 5 1, 3) := by decide +kernel
theorem dX1_wearAllShown_83 : decode cX1_wearAllShown 83 = .ok (.goto (-77), 3) := by decide +kernel
theorem dX1_wearAllShown_86 : decode cX1_wearAllShown 86 = .ok (.iload 4, 2) := by decide +kernel
theorem dX1_wearAllShown_88 : decode cX1_wearAllShown 88 = .ok (.ireturn, 1) := by decide +kernel
set_option maxRecDepth 20000 in
theorem ggX1_tourWithAll_X0_tourDay : GoodIn wsX1_tourWithAll wsX0_tourDay := goodIn_r _ [9, 10, 11, 12, 13, 14, 15, 16, 17, 18, 19, 20, 21, 22, 8, 23, 24, 25, 26, 27, 28, 29, 30, 31, 32, 33, 34, 35, 36, 37, 49, 50, 51, 52, 53, 54, 55, 56, 57, 58, 59, 60, 61, 62, 63, 64, 65, 66, 67] (by decide +kernel) (by decide +kernel)
set_option maxRecDepth 20000 in
theorem gX1_tourWithAll_X0_tourDay : GoodIn wsX1_tourWithAll (wsV RX1 161 RX0 yX0_tourDay wsX0_tourDay) := goodIn_app (goodIn_of _ (by decide +kernel)) ggX1_tourWithAll_X0_tourDay
theorem dX1_tourWithAll_0 : decode cX1_tourWithAll 0 = .ok (.iconst 0, 1) := by decide +kernel
theorem dX1_tourWithAll_1 : decode cX1_tourWithAll 1 = .ok (.istore_n 1, 1) := by decide +kernel
theorem dX1_tourWithAll_2 : decode cX1_tourWithAll 2 = .ok (.iload_n 1, 1) := by decide +kernel
theorem dX1_tourWithAll_3 : decode cX1_tourWithAll 3 = .ok (.aload_n 0, 1) := by decide +kernel
theorem dX1_tourWithAll_4 : decode cX1_tourWithAll 4 = .ok (.getfield 49, 3) := by decide +kernel
theorem dX1_tourWithAll_7 : decode cX1_tourWithAll 7 = .ok (.if_icmp .ge 41, 3) := by decide +kernel
theorem dX1_tourWithAll_10 : decode cX1_tourWithAll 10 = .ok (.aload_n 0, 1) := by decide +kernel
theorem dX1_tourWithAll_11 : decode cX1_tourWithAll 11 = .ok (.getfield 22, 3) := by decide +kernel
theorem dX1_tourWithAll_14 : decode cX1_tourWithAll 14 = .ok (.iload_n 1, 1) := by decide +kernel
theorem dX1_tourWithAll_15 : decode cX1_tourWithAll 15 = .ok (.aaload, 1) := by decide +kernel
theorem dX1_tourWithAll_16 : decode cX1_tourWithAll 16 = .ok (.getfield 107, 3) := by decide +kernel
theorem dX1_tourWithAll_19 : decode cX1_tourWithAll 19 = .ok (.bipush 6, 2) := by decide +kernel
theorem dX1_tourWithAll_21 : decode cX1_tourWithAll 21 = .ok (.if_icmp .ne 21, 3) := by decide +kernel
theorem dX1_tourWithAll_24 : decode cX1_tourWithAll 24 = .ok (.aload_n 0, 1) := by decide +kernel
theorem dX1_tourWithAll_25 : decode cX1_tourWithAll 25 = .ok (.dup, 1) := by decide +kernel
theorem dX1_tourWithAll_26 : decode cX1_tourWithAll 26 = .ok (.getfield 36, 3) := by decide +kernel
theorem dX1_tourWithAll_29 : decode cX1_tourWithAll 29 = .ok (.aload_n 0, 1) := by decide +kernel
theorem dX1_tourWithAll_30 : decode cX1_tourWithAll 30 = .ok (.getfield 22, 3) := by decide +kernel
theorem dX1_tourWithAll_33 : decode cX1_tourWithAll 33 = .ok (.iload_n 1, 1) := by decide +kernel
theorem dX1_tourWithAll_34 : decode cX1_tourWithAll 34 = .ok (.aaload, 1) := by decide +kernel
theorem dX1_tourWithAll_35 : decode cX1_tourWithAll 35 = .ok (.invokevirtual 161, 3) := by decide +kernel
theorem dX1_tourWithAll_38 : decode cX1_tourWithAll 38 = .ok (.iadd, 1) := by decide +kernel
theorem dX1_tourWithAll_39 : decode cX1_tourWithAll 39 = .ok (.putfield 36, 3) := by decide +kernel
theorem dX1_tourWithAll_42 : decode cX1_tourWithAll 42 = .ok (.iinc 1 1, 3) := by decide +kernel
theorem dX1_tourWithAll_45 : decode cX1_tourWithAll 45 = .ok (.goto (-43), 3) := by decide +kernel
theorem dX1_tourWithAll_48 : decode cX1_tourWithAll 48 = .ok (.return_, 1) := by decide +kernel
theorem dX2_init_0 : decode cX2_init 0 = .ok (.aload_n 0, 1) := by decide +kernel
theorem dX2_init_1 : decode cX2_init 1 = .ok (.invokespecial 3, 3) := by decide +kernel
theorem dX2_init_4 : decode cX2_init 4 = .ok (.aload_n 0, 1) := by decide +kernel
theorem dX2_init_5 : decode cX2_init 5 = .ok (.iload_n 1, 1) := by decide +kernel
theorem dX2_init_6 : decode cX2_init 6 = .ok (.putfield 9, 3) := by decide +kernel
theorem dX2_init_9 : decode cX2_init 9 = .ok (.aload_n 0, 1) := by decide +kernel
theorem dX2_init_10 : decode cX2_init 10 = .ok (.iconst 3, 1) := by decide +kernel
theorem dX2_init_11 : decode cX2_init 11 = .ok (.newarray .int, 2) := by decide +kernel
theorem dX2_init_13 : decode cX2_init 13 = .ok (.putfield 15, 3) := by decide +kernel
theorem dX2_init_16 : decode cX2_init 16 = .ok (.aload_n 0, 1) := by decide +kernel
theorem dX2_init_17 : decode cX2_init 17 = .ok (.iconst 3, 1) := by decide +kernel
theorem dX2_init_18 : decode cX2_init 18 = .ok (.newarray .int, 2) := by decide +kernel
theorem dX2_init_20 : decode cX2_init 20 = .ok (.putfield 19, 3) := by decide +kernel
theorem dX2_init_23 : decode cX2_init 23 = .ok (.aload_n 0, 1) := by decide +kernel
theorem dX2_init_24 : decode cX2_init 24 = .ok (.bipush 6, 2) := by decide +kernel
theorem dX2_init_26 : decode cX2_init 26 = .ok (.newarray .int, 2) := by decide +kernel
theorem dX2_init_28 : decode cX2_init 28 = .ok (.putfield 22, 3) := by decide +kernel
theorem dX2_init_31 : decode cX2_init 31 = .ok (.aload_n 0, 1) := by decide +kernel
theorem dX2_init_32 : decode cX2_init 32 = .ok (.bipush 6, 2) := by decide +kernel
theorem dX2_init_34 : decode cX2_init 34 = .ok (.newarray .int, 2) := by decide +kernel
theorem dX2_init_36 : decode cX2_init 36 = .ok (.putfield 25, 3) := by decide +kernel
theorem dX2_init_39 : decode cX2_init 39 = .ok (.iconst 0, 1) := by decide +kernel
theorem dX2_init_40 : decode cX2_init 40 = .ok (.istore_n 2, 1) := by decide +kernel
theorem dX2_init_41 : decode cX2_init 41 = .ok (.iload_n 2, 1) := by decide +kernel
theorem dX2_init_42 : decode cX2_init 42 = .ok (.bipush 6, 2) := by decide +kernel
theorem dX2_init_44 : decode cX2_init 44 = .ok (.if_icmp .ge 17, 3) := by decide +kernel
theorem dX2_init_47 : decode cX2_init 47 = .ok (.aload_n 0, 1) := by decide +kernel
theorem dX2_init_48 : decode cX2_init 48 = .ok (.getfield 25, 3) := by decide +kernel
theorem dX2_init_51 : decode cX2_init 51 = .ok (.iload_n 2, 1) := by decide +kernel
theorem dX2_init_52 : decode cX2_init 52 = .ok (.bipush 99, 2) := by decide +kernel
theorem dX2_init_54 : decode cX2_init 54 = .ok (.iastore, 1) := by decide +kernel
theorem dX2_init_55 : decode cX2_init 55 = .ok (.iinc 2 1, 3) := by decide +kernel
theorem dX2_init_58 : decode cX2_init 58 = .ok (.goto (-17), 3) := by decide +kernel
theorem dX2_init_61 : decode cX2_init 61 = .ok (.return_, 1) := by decide +kernel
theorem dX2_copyFrom_0 : decode cX2_copyFrom 0 = .ok (.iconst 0, 1) := by decide +kernel
theorem dX2_copyFrom_1 : decode cX2_copyFrom 1 = .ok (.istore_n 2, 1) := by decide +kernel
theorem dX2_copyFrom_2 : decode cX2_copyFrom 2 = .ok (.iload_n 2, 1) := by decide +kernel
theorem dX2_copyFrom_3 : decode cX2_copyFrom 3 = .ok (.iconst 3, 1) := by decide +kernel
theorem dX2_copyFrom_4 : decode cX2_copyFrom 4 = .ok (.if_icmp .ge 33, 3) := by decide +kernel
theorem dX2_copyFrom_7 : decode cX2_copyFrom 7 = .ok (.aload_n 0, 1) := by decide +kernel
theorem dX2_copyFrom_8 : decode cX2_copyFrom 8 = .ok (.getfield 15, 3) := by decide +kernel
theorem dX2_copyFrom_11 : decode cX2_copyFrom 11 = .ok (.iload_n 2, 1) := by decide +kernel
theorem dX2_copyFrom_12 : decode cX2_copyFrom 12 = .ok (.aload_n 1, 1) := by decide +kernel
theorem dX2_copyFrom_13 : decode cX2_copyFrom 13 = .ok (.getfield 15, 3) := by decide +kernel
theorem dX2_copyFrom_16 : decode cX2_copyFrom 16 = .ok (.iload_n 2, 1) := by decide +kernel
theorem dX2_copyFrom_17 : decode cX2_copyFrom 17 = .ok (.iaload, 1) := by decide +kernel
theorem dX2_copyFrom_18 : decode cX2_copyFrom 18 = .ok (.iastore, 1) := by decide +kernel
theorem dX2_copyFrom_19 : decode cX2_copyFrom 19 = .ok (.aload_n 0, 1) := by decide +kernel
theorem dX2_copyFrom_20 : decode cX2_copyFrom 20 = .ok (.getfield 19, 3) := by decide +kernel
theorem dX2_copyFrom_23 : decode cX2_copyFrom 23 = .ok (.iload_n 2, 1) := by decide +kernel
theorem dX2_copyFrom_24 : decode cX2_copyFrom 24 = .ok (.aload_n 1, 1) := by decide +kernel
theorem dX2_copyFrom_25 : decode cX2_copyFrom 25 = .ok (.getfield 19, 3) := by decide +kernel
theorem dX2_copyFrom_28 : decode cX2_copyFrom 28 = .ok (.iload_n 2, 1) := by decide +kernel
theorem dX2_copyFrom_29 : decode cX2_copyFrom 29 = .ok (.iaload, 1) := by decide +kernel
theorem dX2_copyFrom_30 : decode cX2_copyFrom 30 = .ok (.iastore, 1) := by decide +kernel
theorem dX2_copyFrom_31 : decode cX2_copyFrom 31 = .ok (.iinc 2 1, 3) := by decide +kernel
theorem dX2_copyFrom_34 : decode cX2_copyFrom 34 = .ok (.goto (-32), 3) := by decide +kernel
theorem dX2_copyFrom_37 : decode cX2_copyFrom 37 = .ok (.iconst 0, 1) := by decide +kernel
theorem dX2_copyFrom_38 : decode cX2_copyFrom 38 = .ok (.istore_n 2, 1) := by decide +kernel
theorem dX2_copyFrom_39 : decode cX2_copyFrom 39 = .ok (.iload_n 2, 1) := by decide +kernel
theorem dX2_copyFrom_40 : decode cX2_copyFrom 40 = .ok (.bipush 6, 2) := by decide +kernel
theorem dX2_copyFrom_42 : decode cX2_copyFrom 42 = .ok (.if_icmp .ge 33, 3) := by decide +kernel
theorem dX2_copyFrom_45 : decode cX2_copyFrom 45 = .ok (.aload_n 0, 1) := by decide +kernel
theorem dX2_copyFrom_46 : decode cX2_copyFrom 46 = .ok (.getfield 22, 3) := by decide +kernel
theorem dX2_copyFrom_49 : decode cX2_copyFrom 49 = .ok (.iload_n 2, 1) := by decide +kernel
theorem dX2_copyFrom_50 : decode cX2_copyFrom 50 = .ok (.aload_n 1, 1) := by decide +kernel
theorem dX2_copyFrom_51 : decode cX2_copyFrom 51 = .ok (.getfield 22, 3) := by decide +kernel
theorem dX2_copyFrom_54 : decode cX2_copyFrom 54 = .ok (.iload_n 2, 1) := by decide +kernel
theorem dX2_copyFrom_55 : decode cX2_copyFrom 55 = .ok (.iaload, 1) := by decide +kernel
theorem dX2_copyFrom_56 : decode cX2_copyFrom 56 = .ok (.iastore, 1) := by decide +kernel
theorem dX2_copyFrom_57 : decode cX2_copyFrom 57 = .ok (.aload_n 0, 1) := by decide +kernel
theorem dX2_copyFrom_58 : decode cX2_copyFrom 58 = .ok (.getfield 25, 3) := by decide +kernel
theorem dX2_copyFrom_61 : decode cX2_copyFrom 61 = .ok (.iload_n 2, 1) := by decide +kernel
theorem dX2_copyFrom_62 : decode cX2_copyFrom 62 = .ok (.aload_n 1, 1) := by decide +kernel
theorem dX2_copyFrom_63 : decode cX2_copyFrom 63 = .ok (.getfield 25, 3) := by decide +kernel
theorem dX2_copyFrom_66 : decode cX2_copyFrom 66 = .ok (.iload_n 2, 1) := by decide +kernel
theorem dX2_copyFrom_67 : decode cX2_copyFrom 67 = .ok (.iaload, 1) := by decide +kernel
theorem dX2_copyFrom_68 : decode cX2_copyFrom 68 = .ok (.iastore, 1) := by decide +kernel
theorem dX2_copyFrom_69 : decode cX2_copyFrom 69 = .ok (.iinc 2 1, 3) := by decide +kernel
theorem dX2_copyFrom_72 : decode cX2_copyFrom 72 = .ok (.goto (-33), 3) := by decide +kernel
theorem dX2_copyFrom_75 : decode cX2_copyFrom 75 = .ok (.aload_n 0, 1) := by decide +kernel
theorem dX2_copyFrom_76 : decode cX2_copyFrom 76 = .ok (.aload_n 1, 1) := by decide +kernel
theorem dX2_copyFrom_77 : decode cX2_copyFrom 77 = .ok (.getfield 28, 3) := by decide +kernel
theorem dX2_copyFrom_80 : decode cX2_copyFrom 80 = .ok (.putfield 28, 3) := by decide +kernel
theorem dX2_copyFrom_83 : decode cX2_copyFrom 83 = .ok (.aload_n 0, 1) := by decide +kernel
theorem dX2_copyFrom_84 : decode cX2_copyFrom 84 = .ok (.aload_n 1, 1) := by decide +kernel
theorem dX2_copyFrom_85 : decode cX2_copyFrom 85 = .ok (.getfield 32, 3) := by decide +kernel
theorem dX2_copyFrom_88 : decode cX2_copyFrom 88 = .ok (.putfield 32, 3) := by decide +kernel
theorem dX2_copyFrom_91 : decode cX2_copyFrom 91 = .ok (.aload_n 0, 1) := by decide +kernel
theorem dX2_copyFrom_92 : decode cX2_copyFrom 92 = .ok (.aload_n 1, 1) := by decide +kernel
theorem dX2_copyFrom_93 : decode cX2_copyFrom 93 = .ok (.getfield 35, 3) := by decide +kernel
theorem dX2_copyFrom_96 : decode cX2_copyFrom 96 = .ok (.putfield 35, 3) := by decide +kernel
theorem dX2_copyFrom_99 : decode cX2_copyFrom 99 = .ok (.return_, 1) := by decide +kernel
set_option maxRecDepth 20000 in
theorem ggX2_changeFame_X2_heldFame : GoodIn wsX2_changeFame wsX2_heldFame := goodIn_r _ [5] (by decide +kernel) (by decide +kernel)
set_option maxRecDepth 20000 in
theorem gX2_changeFame_X2_heldFame : GoodIn wsX2_changeFame (va_wsS RX2 38 yX2_heldFame wsX2_heldFame) := goodIn_app (goodIn_of _ (by decide +kernel)) ggX2_changeFame_X2_heldFame
theorem dX2_changeFame_0 : decode cX2_changeFame 0 = .ok (.iconst 0, 1) := by decide +kernel
theorem dX2_changeFame_1 : decode cX2_changeFame 1 = .ok (.istore_n 2, 1) := by decide +kernel
theorem dX2_changeFame_2 : decode cX2_changeFame 2 = .ok (.iload_n 2, 1) := by decide +kernel
theorem dX2_changeFame_3 : decode cX2_changeFame 3 = .ok (.iconst 3, 1) := by decide +kernel
theorem dX2_changeFame_4 : decode cX2_changeFame 4 = .ok (.if_icmp .ge 26, 3) := by decide +kernel
theorem dX2_changeFame_7 : decode cX2_changeFame 7 = .ok (.aload_n 0, 1) := by decide +kernel
theorem dX2_changeFame_8 : decode cX2_changeFame 8 = .ok (.getfield 15, 3) := by decide +kernel
theorem dX2_changeFame_11 : decode cX2_changeFame 11 = .ok (.iload_n 2, 1) := by decide +kernel
theorem dX2_changeFame_12 : decode cX2_changeFame 12 = .ok (.aload_n 0, 1) := by decide +kernel
theorem dX2_changeFame_13 : decode cX2_changeFame 13 = .ok (.getfield 15, 3) := by decide +kernel
theorem dX2_changeFame_16 : decode cX2_changeFame 16 = .ok (.iload_n 2, 1) := by decide +kernel
theorem dX2_changeFame_17 : decode cX2_changeFame 17 = .ok (.iaload, 1) := by decide +kernel
theorem dX2_changeFame_18 : decode cX2_changeFame 18 = .ok (.iload_n 1, 1) := by decide +kernel
theorem dX2_changeFame_19 : decode cX2_changeFame 19 = .ok (.iadd, 1) := by decide +kernel
theorem dX2_changeFame_20 : decode cX2_changeFame 20 = .ok (.invokestatic 38, 3) := by decide +kernel
theorem dX2_changeFame_23 : decode cX2_changeFame 23 = .ok (.iastore, 1) := by decide +kernel
theorem dX2_changeFame_24 : decode cX2_changeFame 24 = .ok (.iinc 2 1, 3) := by decide +kernel
theorem dX2_changeFame_27 : decode cX2_changeFame 27 = .ok (.goto (-25), 3) := by decide +kernel
theorem dX2_changeFame_30 : decode cX2_changeFame 30 = .ok (.return_, 1) := by decide +kernel
set_option maxRecDepth 20000 in
theorem ggX2_beginMonth_X2_heldFame : GoodIn wsX2_beginMonth wsX2_heldFame := goodIn_r _ [6] (by decide +kernel) (by decide +kernel)
set_option maxRecDepth 20000 in
theorem gX2_beginMonth_X2_heldFame : GoodIn wsX2_beginMonth (va_wsS RX2 38 yX2_heldFame wsX2_heldFame) := goodIn_app (goodIn_of _ (by decide +kernel)) ggX2_beginMonth_X2_heldFame
set_option maxRecDepth 20000 in
theorem ggX2_beginMonth_X2_nearerToZero : GoodIn wsX2_beginMonth wsX2_nearerToZero := goodIn_r _ [9] (by decide +kernel) (by decide +kernel)
set_option maxRecDepth 20000 in
theorem gX2_beginMonth_X2_nearerToZero : GoodIn wsX2_beginMonth (va_wsS RX2 42 yX2_nearerToZero wsX2_nearerToZero) := goodIn_app (goodIn_of _ (by decide +kernel)) ggX2_beginMonth_X2_nearerToZero
theorem dX2_beginMonth_0 : decode cX2_beginMonth 0 = .ok (.iconst 0, 1) := by decide +kernel
theorem dX2_beginMonth_1 : decode cX2_beginMonth 1 = .ok (.istore_n 1, 1) := by decide +kernel
theorem dX2_beginMonth_2 : decode cX2_beginMonth 2 = .ok (.iload_n 1, 1) := by decide +kernel
theorem dX2_beginMonth_3 : decode cX2_beginMonth 3 = .ok (.iconst 3, 1) := by decide +kernel
theorem dX2_beginMonth_4 : decode cX2_beginMonth 4 = .ok (.if_icmp .ge 46, 3) := by decide +kernel
theorem dX2_beginMonth_7 : decode cX2_beginMonth 7 = .ok (.aload_n 0, 1) := by decide +kernel
theorem dX2_beginMonth_8 : decode cX2_beginMonth 8 = .ok (.getfield 15, 3) := by decide +kernel
theorem dX2_beginMonth_11 : decode cX2_beginMonth 11 = .ok (.iload_n 1, 1) := by decide +kernel
theorem dX2_beginMonth_12 : decode cX2_beginMonth 12 = .ok (.aload_n 0, 1) := by decide +kernel
theorem dX2_beginMonth_13 : decode cX2_beginMonth 13 = .ok (.getfield 15, 3) := by decide +kernel
theorem dX2_beginMonth_16 : decode cX2_beginMonth 16 = .ok (.iload_n 1, 1) := by decide +kernel
theorem dX2_beginMonth_17 : decode cX2_beginMonth 17 = .ok (.iaload, 1) := by decide +kernel
theorem dX2_beginMonth_18 : decode cX2_beginMonth 18 = .ok (.aload_n 0, 1) := by decide +kernel
theorem dX2_beginMonth_19 : decode cX2_beginMonth 19 = .ok (.getfield 19, 3) := by decide +kernel
theorem dX2_beginMonth_22 : decode cX2_beginMonth 22 = .ok (.iload_n 1, 1) := by decide +kernel
theorem dX2_beginMonth_23 : decode cX2_beginMonth 23 = .ok (.iaload, 1) := by decide +kernel
theorem dX2_beginMonth_24 : decode cX2_beginMonth 24 = .ok (.iadd, 1) := by decide +kernel
theorem dX2_beginMonth_25 : decode cX2_beginMonth 25 = .ok (.invokestatic 38, 3) := by decide +kernel
theorem dX2_beginMonth_28 : decode cX2_beginMonth 28 = .ok (.iastore, 1) := by decide +kernel
theorem dX2_beginMonth_29 : decode cX2_beginMonth 29 = .ok (.aload_n 0, 1) := by decide +kernel
theorem dX2_beginMonth_30 : decode cX2_beginMonth 30 = .ok (.getfield 19, 3) := by decide +kernel
theorem dX2_beginMonth_33 : decode cX2_beginMonth 33 = .ok (.iload_n 1, 1) := by decide +kernel
theorem dX2_beginMonth_34 : decode cX2_beginMonth 34 = .ok (.aload_n 0, 1) := by decide +kernel
theorem dX2_beginMonth_35 : decode cX2_beginMonth 35 = .ok (.getfield 19, 3) := by decide +kernel
theorem dX2_beginMonth_38 : decode cX2_beginMonth 38 = .ok (.iload_n 1, 1) := by decide +kernel
theorem dX2_beginMonth_39 : decode cX2_beginMonth 39 = .ok (.iaload, 1) := by decide +kernel
theorem dX2_beginMonth_40 : decode cX2_beginMonth 40 = .ok (.invokestatic 42, 3) := by decide +kernel
theorem dX2_beginMonth_43 : decode cX2_beginMonth 43 = .ok (.iastore, 1) := by decide +kernel
theorem dX2_beginMonth_44 : decode cX2_beginMonth 44 = .ok (.iinc 1 1, 3) := by decide +kernel
theorem dX2_beginMonth_47 : decode cX2_beginMonth 47 = .ok (.goto (-45), 3) := by decide +kernel
theorem dX2_beginMonth_50 : decode cX2_beginMonth 50 = .ok (.return_, 1) := by decide +kernel
set_option maxRecDepth 20000 in
theorem ggX2_fameBehind_X2_heldFame : GoodIn wsX2_fameBehind wsX2_heldFame := goodIn_r _ [6] (by decide +kernel) (by decide +kernel)
set_option maxRecDepth 20000 in
theorem gX2_fameBehind_X2_heldFame : GoodIn wsX2_fameBehind (va_wsS RX2 38 yX2_heldFame wsX2_heldFame) := goodIn_app (goodIn_of _ (by decide +kernel)) ggX2_fameBehind_X2_heldFame
set_option maxRecDepth 20000 in
theorem ggX2_fameBehind_X2_nearerToZero : GoodIn wsX2_fameBehind wsX2_nearerToZero := goodIn_r _ [9] (by decide +kernel) (by decide +kernel)
set_option maxRecDepth 20000 in
theorem gX2_fameBehind_X2_nearerToZero : GoodIn wsX2_fameBehind (va_wsS RX2 42 yX2_nearerToZero wsX2_nearerToZero) := goodIn_app (goodIn_of _ (by decide +kernel)) ggX2_fameBehind_X2_nearerToZero
theorem dX2_fameBehind_0 : decode cX2_fameBehind 0 = .ok (.aload_n 0, 1) := by decide +kernel
theorem dX2_fameBehind_1 : decode cX2_fameBehind 1 = .ok (.getfield 15, 3) := by decide +kernel
theorem dX2_fameBehind_4 : decode cX2_fameBehind 4 = .ok (.iload_n 1, 1) := by decide +kernel
theorem dX2_fameBehind_5 : decode cX2_fameBehind 5 = .ok (.iaload, 1) := by decide +kernel
theorem dX2_fameBehind_6 : decode cX2_fameBehind 6 = .ok (.istore_n 3, 1) := by decide +kernel
theorem dX2_fameBehind_7 : decode cX2_fameBehind 7 = .ok (.aload_n 0, 1) := by decide +kernel
theorem dX2_fameBehind_8 : decode cX2_fameBehind 8 = .ok (.getfield 19, 3) := by decide +kernel
theorem dX2_fameBehind_11 : decode cX2_fameBehind 11 = .ok (.iload_n 1, 1) := by decide +kernel
theorem dX2_fameBehind_12 : decode cX2_fameBehind 12 = .ok (.iaload, 1) := by decide +kernel
theorem dX2_fameBehind_13 : decode cX2_fameBehind 13 = .ok (.istore 4, 2) := by decide +kernel
theorem dX2_fameBehind_15 : decode cX2_fameBehind 15 = .ok (.iconst 0, 1) := by decide +kernel
theorem dX2_fameBehind_16 : decode cX2_fameBehind 16 = .ok (.istore 5, 2) := by decide +kernel
theorem dX2_fameBehind_18 : decode cX2_fameBehind 18 = .ok (.iload 5, 2) := by decide +kernel
theorem dX2_fameBehind_20 : decode cX2_fameBehind 20 = .ok (.iload_n 2, 1) := by decide +kernel
theorem dX2_fameBehind_21 : decode cX2_fameBehind 21 = .ok (.if_icmp .ge 24, 3) := by decide +kernel
theorem dX2_fameBehind_24 : decode cX2_fameBehind 24 = .ok (.iload_n 3, 1) := by decide +kernel
theorem dX2_fameBehind_25 : decode cX2_fameBehind 25 = .ok (.iload 4, 2) := by decide +kernel
theorem dX2_fameBehind_27 : decode cX2_fameBehind 27 = .ok (.iadd, 1) := by decide +kernel
theorem dX2_fameBehind_28 : decode cX2_fameBehind 28 = .ok (.invokestatic 38, 3) := by decide +kernel
theorem dX2_fameBehind_31 : decode cX2_fameBehind 31 = .ok (.istore_n 3, 1) := by decide +kernel
theorem dX2_fameBehind_32 : decode cX2_fameBehind 32 = .ok (.iload 4, 2) := by decide +kernel
theorem dX2_fameBehind_34 : decode cX2_fameBehind 34 = .ok (.invokestatic 42, 3) := by decide +kernel
theorem dX2_fameBehind_37 : decode cX2_fameBehind 37 = .ok (.istore 4, 2) := by decide +kernel
theorem dX2_fameBehind_39 : decode cX2_fameBehind 39 = .ok (.iinc 5 1, 3) := by decide +kernel
theorem dX2_fameBehind_42 : decode cX2_fameBehind 42 = .ok (.goto (-24), 3) := by decide +kernel
theorem dX2_fameBehind_45 : decode cX2_fameBehind 45 = .ok (.iload_n 3, 1) := by decide +kernel
theorem dX2_fameBehind_46 : decode cX2_fameBehind 46 = .ok (.ireturn, 1) := by decide +kernel
theorem dX2_heldFame_0 : decode cX2_heldFame 0 = .ok (.iload_n 0, 1) := by decide +kernel
theorem dX2_heldFame_1 : decode cX2_heldFame 1 = .ok (.ifCond .ge 7, 3) := by decide +kernel
theorem dX2_heldFame_4 : decode cX2_heldFame 4 = .ok (.iconst 0, 1) := by decide +kernel
theorem dX2_heldFame_5 : decode cX2_heldFame 5 = .ok (.goto 17, 3) := by decide +kernel
theorem dX2_heldFame_8 : decode cX2_heldFame 8 = .ok (.iload_n 0, 1) := by decide +kernel
theorem dX2_heldFame_9 : decode cX2_heldFame 9 = .ok (.sipush 999, 3) := by decide +kernel
theorem dX2_heldFame_12 : decode cX2_heldFame 12 = .ok (.if_icmp .le 9, 3) := by decide +kernel
theorem dX2_heldFame_15 : decode cX2_heldFame 15 = .ok (.sipush 999, 3) := by decide +kernel
theorem dX2_heldFame_18 : decode cX2_heldFame 18 = .ok (.goto 4, 3) := by decide +kernel
theorem dX2_heldFame_21 : decode cX2_heldFame 21 = .ok (.iload_n 0, 1) := by decide +kernel
theorem dX2_heldFame_22 : decode cX2_heldFame 22 = .ok (.ireturn, 1) := by decide +kernel
theorem dX2_nearerToZero_0 : decode cX2_nearerToZero 0 = .ok (.iload_n 0, 1) := by decide +kernel
theorem dX2_nearerToZero_1 : decode cX2_nearerToZero 1 = .ok (.ifCond .le 9, 3) := by decide +kernel
theorem dX2_nearerToZero_4 : decode cX2_nearerToZero 4 = .ok (.iload_n 0, 1) := by decide +kernel
theorem dX2_nearerToZero_5 : decode cX2_nearerToZero 5 = .ok (.iconst 1, 1) := by decide +kernel
theorem dX2_nearerToZero_6 : decode cX2_nearerToZero 6 = .ok (.isub, 1) := by decide +kernel
theorem dX2_nearerToZero_7 : decode cX2_nearerToZero 7 = .ok (.goto 14, 3) := by decide +kernel
theorem dX2_nearerToZero_10 : decode cX2_nearerToZero 10 = .ok (.iload_n 0, 1) := by decide +kernel
theorem dX2_nearerToZero_11 : decode cX2_nearerToZero 11 = .ok (.ifCond .ge 9, 3) := by decide +kernel
theorem dX2_nearerToZero_14 : decode cX2_nearerToZero 14 = .ok (.iload_n 0, 1) := by decide +kernel
theorem dX2_nearerToZero_15 : decode cX2_nearerToZero 15 = .ok (.iconst 1, 1) := by decide +kernel
theorem dX2_nearerToZero_16 : decode cX2_nearerToZero 16 = .ok (.iadd, 1) := by decide +kernel
theorem dX2_nearerToZero_17 : decode cX2_nearerToZero 17 = .ok (.goto 4, 3) := by decide +kernel
theorem dX2_nearerToZero_20 : decode cX2_nearerToZero 20 = .ok (.iconst 0, 1) := by decide +kernel
theorem dX2_nearerToZero_21 : decode cX2_nearerToZero 21 = .ok (.ireturn, 1) := by decide +kernel
theorem dX2_learn_0 : decode cX2_learn 0 = .ok (.aload_n 0, 1) := by decide +kernel
theorem dX2_learn_1 : decode cX2_learn 1 = .ok (.getfield 22, 3) := by decide +kernel
theorem dX2_learn_4 : decode cX2_learn 4 = .ok (.iload_n 1, 1) := by decide +kernel
theorem dX2_learn_5 : decode cX2_learn 5 = .ok (.iaload, 1) := by decide +kernel
theorem dX2_learn_6 : decode cX2_learn 6 = .ok (.iload_n 2, 1) := by decide +kernel
theorem dX2_learn_7 : decode cX2_learn 7 = .ok (.invokestatic 45, 3) := by decide +kernel
theorem dX2_learn_10 : decode cX2_learn 10 = .ok (.istore 4, 2) := by decide +kernel
theorem dX2_learn_12 : decode cX2_learn 12 = .ok (.aload_n 0, 1) := by decide +kernel
theorem dX2_learn_13 : decode cX2_learn 13 = .ok (.getfield 25, 3) := by decide +kernel
theorem dX2_learn_16 : decode cX2_learn 16 = .ok (.iload_n 1, 1) := by decide +kernel
theorem dX2_learn_17 : decode cX2_learn 17 = .ok (.iaload, 1) := by decide +kernel
theorem dX2_learn_18 : decode cX2_learn 18 = .ok (.iload_n 3, 1) := by decide +kernel
theorem dX2_learn_19 : decode cX2_learn 19 = .ok (.invokestatic 51, 3) := by decide +kernel
theorem dX2_learn_22 : decode cX2_learn 22 = .ok (.istore 5, 2) := by decide +kernel
theorem dX2_learn_24 : decode cX2_learn 24 = .ok (.iload 4, 2) := by decide +kernel
theorem dX2_learn_26 : decode cX2_learn 26 = .ok (.iload 5, 2) := by decide +kernel
theorem dX2_learn_28 : decode cX2_learn 28 = .ok (.if_icmp .le 7, 3) := by decide +kernel
theorem dX2_learn_31 : decode cX2_learn 31 = .ok (.iconst 1, 1) := by decide +kernel
theorem dX2_learn_32 : decode cX2_learn 32 = .ok (.goto 4, 3) := by decide +kernel
theorem dX2_learn_35 : decode cX2_learn 35 = .ok (.iconst 0, 1) := by decide +kernel
theorem dX2_learn_36 : decode cX2_learn 36 = .ok (.istore 6, 2) := by decide +kernel
theorem dX2_learn_38 : decode cX2_learn 38 = .ok (.aload_n 0, 1) := by decide +kernel
theorem dX2_learn_39 : decode cX2_learn 39 = .ok (.getfield 22, 3) := by decide +kernel
theorem dX2_learn_42 : decode cX2_learn 42 = .ok (.iload_n 1, 1) := by decide +kernel
theorem dX2_learn_43 : decode cX2_learn 43 = .ok (.iload 6, 2) := by decide +kernel
theorem dX2_learn_45 : decode cX2_learn 45 = .ok (.ifCond .eq 7, 3) := by decide +kernel
theorem dX2_learn_48 : decode cX2_learn 48 = .ok (.iload_n 2, 1) := by decide +kernel
theorem dX2_learn_49 : decode cX2_learn 49 = .ok (.goto 5, 3) := by decide +kernel
theorem dX2_learn_52 : decode cX2_learn 52 = .ok (.iload 4, 2) := by decide +kernel
theorem dX2_learn_54 : decode cX2_learn 54 = .ok (.iastore, 1) := by decide +kernel
theorem dX2_learn_55 : decode cX2_learn 55 = .ok (.aload_n 0, 1) := by decide +kernel
theorem dX2_learn_56 : decode cX2_learn 56 = .ok (.getfield 25, 3) := by decide +kernel
theorem dX2_learn_59 : decode cX2_learn 59 = .ok (.iload_n 1, 1) := by decide +kernel
theorem dX2_learn_60 : decode cX2_learn 60 = .ok (.iload 6, 2) := by decide +kernel
theorem dX2_learn_62 : decode cX2_learn 62 = .ok (.ifCond .eq 7, 3) := by decide +kernel
theorem dX2_learn_65 : decode cX2_learn 65 = .ok (.iload_n 3, 1) := by decide +kernel
theorem dX2_learn_66 : decode cX2_learn 66 = .ok (.goto 5, 3) := by decide +kernel
theorem dX2_learn_69 : decode cX2_learn 69 = .ok (.iload 5, 2) := by decide +kernel
theorem dX2_learn_71 : decode cX2_learn 71 = .ok (.iastore, 1) := by decide +kernel
theorem dX2_learn_72 : decode cX2_learn 72 = .ok (.aload_n 0, 1) := by decide +kernel
theorem dX2_learn_73 : decode cX2_learn 73 = .ok (.dup, 1) := by decide +kernel
theorem dX2_learn_74 : decode cX2_learn 74 = .ok (.getfield 35, 3) := by decide +kernel
theorem dX2_learn_77 : decode cX2_learn 77 = .ok (.iload 6, 2) := by decide +kernel
theorem dX2_learn_79 : decode cX2_learn 79 = .ok (.ifCond .eq 7, 3) := by decide +kernel
theorem dX2_learn_82 : decode cX2_learn 82 = .ok (.iconst 1, 1) := by decide +kernel
theorem dX2_learn_83 : decode cX2_learn 83 = .ok (.goto 4, 3) := by decide +kernel
theorem dX2_learn_86 : decode cX2_learn 86 = .ok (.iconst 0, 1) := by decide +kernel
theorem dX2_learn_87 : decode cX2_learn 87 = .ok (.iadd, 1) := by decide +kernel
theorem dX2_learn_88 : decode cX2_learn 88 = .ok (.putfield 35, 3) := by decide +kernel
theorem dX2_learn_91 : decode cX2_learn 91 = .ok (.return_, 1) := by decide +kernel
theorem dX2_doubt_0 : decode cX2_doubt 0 = .ok (.iconst 0, 1) := by decide +kernel
theorem dX2_doubt_1 : decode cX2_doubt 1 = .ok (.istore_n 1, 1) := by decide +kernel
theorem dX2_doubt_2 : decode cX2_doubt 2 = .ok (.iconst 0, 1) := by decide +kernel
theorem dX2_doubt_3 : decode cX2_doubt 3 = .ok (.istore_n 2, 1) := by decide +kernel
theorem dX2_doubt_4 : decode cX2_doubt 4 = .ok (.iload_n 2, 1) := by decide +kernel
theorem dX2_doubt_5 : decode cX2_doubt 5 = .ok (.bipush 6, 2) := by decide +kernel
theorem dX2_doubt_7 : decode cX2_doubt 7 = .ok (.if_icmp .ge 25, 3) := by decide +kernel
theorem dX2_doubt_10 : decode cX2_doubt 10 = .ok (.iload_n 1, 1) := by decide +kernel
theorem dX2_doubt_11 : decode cX2_doubt 11 = .ok (.aload_n 0, 1) := by decide +kernel
theorem dX2_doubt_12 : decode cX2_doubt 12 = .ok (.getfield 25, 3) := by decide +kernel
theorem dX2_doubt_15 : decode cX2_doubt 15 = .ok (.iload_n 2, 1) := by decide +kernel
theorem dX2_doubt_16 : decode cX2_doubt 16 = .ok (.iaload, 1) := by decide +kernel
theorem dX2_doubt_17 : decode cX2_doubt 17 = .ok (.aload_n 0, 1) := by decide +kernel
theorem dX2_doubt_18 : decode cX2_doubt 18 = .ok (.getfield 22, 3) := by decide +kernel
theorem dX2_doubt_21 : decode cX2_doubt 21 = .ok (.iload_n 2, 1) := by decide +kernel
theorem dX2_doubt_22 : decode cX2_doubt 22 = .ok (.iaload, 1) := by decide +kernel
theorem dX2_doubt_23 : decode cX2_doubt 23 = .ok (.isub, 1) := by decide +kernel
theorem dX2_doubt_24 : decode cX2_doubt 24 = .ok (.iadd, 1) := by decide +kernel
theorem dX2_doubt_25 : decode cX2_doubt 25 = .ok (.istore_n 1, 1) := by decide +kernel
theorem dX2_doubt_26 : decode cX2_doubt 26 = .ok (.iinc 2 1, 3) := by decide +kernel
theorem dX2_doubt_29 : decode cX2_doubt 29 = .ok (.goto (-25), 3) := by decide +kernel
theorem dX2_doubt_32 : decode cX2_doubt 32 = .ok (.iload_n 1, 1) := by decide +kernel
theorem dX2_doubt_33 : decode cX2_doubt 33 = .ok (.bipush 6, 2) := by decide +kernel
theorem dX2_doubt_35 : decode cX2_doubt 35 = .ok (.idiv, 1) := by decide +kernel
theorem dX2_doubt_36 : decode cX2_doubt 36 = .ok (.ireturn, 1) := by decide +kernel
theorem dX2_doubleHeight_0 : decode cX2_doubleHeight 0 = .ok (.aload_n 0, 1) := by decide +kernel
theorem dX2_doubleHeight_1 : decode cX2_doubleHeight 1 = .ok (.getfield 22, 3) := by decide +kernel
theorem dX2_doubleHeight_4 : decode cX2_doubleHeight 4 = .ok (.iconst 5, 1) := by decide +kernel
theorem dX2_doubleHeight_5 : decode cX2_doubleHeight 5 = .ok (.iaload, 1) := by decide +kernel
theorem dX2_doubleHeight_6 : decode cX2_doubleHeight 6 = .ok (.aload_n 0, 1) := by decide +kernel
theorem dX2_doubleHeight_7 : decode cX2_doubleHeight 7 = .ok (.getfield 25, 3) := by decide +kernel
theorem dX2_doubleHeight_10 : decode cX2_doubleHeight 10 = .ok (.iconst 5, 1) := by decide +kernel
theorem dX2_doubleHeight_11 : decode cX2_doubleHeight 11 = .ok (.iaload, 1) := by decide +kernel
theorem dX2_doubleHeight_12 : decode cX2_doubleHeight 12 = .ok (.iadd, 1) := by decide +kernel
theorem dX2_doubleHeight_13 : decode cX2_doubleHeight 13 = .ok (.ireturn, 1) := by decide +kernel
theorem dX3_init_0 : decode cX3_init 0 = .ok (.aload_n 0, 1) := by decide +kernel
theorem dX3_init_1 : decode cX3_init 1 = .ok (.invokespecial 1, 3) := by decide +kernel
theorem dX3_init_4 : decode cX3_init 4 = .ok (.return_, 1) := by decide +kernel
set_option maxRecDepth 20000 in
theorem ggX4_init_X1_init : GoodIn wsX4_init wsX1_init := goodIn_r _ [11, 12, 2, 3, 13, 14, 15, 16, 17, 18, 19, 20, 21, 22, 23, 24, 25, 26, 27, 28, 29, 30, 31, 32, 33, 34, 35, 36, 37, 38, 39, 40, 41, 42, 43, 44, 45, 46, 47, 48, 49, 50, 51, 52, 53, 54, 55, 56, 57, 58, 61, 62, 63, 64, 65, 66, 67, 68, 69, 70, 71, 72, 73, 74, 75, 76, 77, 78, 79, 80, 81] (by decide +kernel) (by decide +kernel)
set_option maxRecDepth 20000 in
theorem gX4_init_X1_init : GoodIn wsX4_init (wsX1_init) := ggX4_init_X1_init
theorem dX4_init_0 : decode cX4_init 0 = .ok (.aload_n 0, 1) := by decide +kernel
theorem dX4_init_1 : decode cX4_init 1 = .ok (.invokespecial 1, 3) := by decide +kernel
theorem dX4_init_4 : decode cX4_init 4 = .ok (.aload_n 0, 1) := by decide +kernel
theorem dX4_init_5 : decode cX4_init 5 = .ok (.new 7, 3) := by decide +kernel
theorem dX4_init_8 : decode cX4_init 8 = .ok (.dup, 1) := by decide +kernel
theorem dX4_init_9 : decode cX4_init 9 = .ok (.invokespecial 9, 3) := by decide +kernel
theorem dX4_init_12 : decode cX4_init 12 = .ok (.putfield 10, 3) := by decide +kernel
theorem dX4_init_15 : decode cX4_init 15 = .ok (.aload_n 0, 1) := by decide +kernel
theorem dX4_init_16 : decode cX4_init 16 = .ok (.new 7, 3) := by decide +kernel
theorem dX4_init_19 : decode cX4_init 19 = .ok (.dup, 1) := by decide +kernel
theorem dX4_init_20 : decode cX4_init 20 = .ok (.invokespecial 9, 3) := by decide +kernel
theorem dX4_init_23 : decode cX4_init 23 = .ok (.putfield 16, 3) := by decide +kernel
theorem dX4_init_26 : decode cX4_init 26 = .ok (.return_, 1) := by decide +kernel
set_option maxRecDepth 20000 in
theorem ggX4_person_X4_checkArgument : GoodIn wsX4_person wsX4_checkArgument := goodIn_ca (goodIn_r _ [6, 7, 8] (by decide +kernel) (by decide +kernel)) (goodIn_sub (fun _ h => List.mem_cons_of_mem _ (List.mem_append_left _ (List.mem_append_left _ (List.mem_append_right _ h)))) (by decide +kernel))
set_option maxRecDepth 20000 in
theorem gX4_person_X4_checkArgument : GoodIn wsX4_person (va_wsS RX4 19 yX4_checkArgument wsX4_checkArgument) := goodIn_app (goodIn_of _ (by decide +kernel)) ggX4_person_X4_checkArgument
set_option maxRecDepth 20000 in
theorem ggX4_person_X4_checkState : GoodIn wsX4_person wsX4_checkState := goodIn_ca (goodIn_r _ [11, 12, 13] (by decide +kernel) (by decide +kernel)) (goodIn_sub (fun _ h => List.mem_cons_of_mem _ (List.mem_append_left _ (List.mem_append_right _ h))) (by decide +kernel))
set_option maxRecDepth 20000 in
theorem gX4_person_X4_checkState : GoodIn wsX4_person (va_wsS RX4 27 yX4_checkState wsX4_checkState) := goodIn_app (goodIn_of _ (by decide +kernel)) ggX4_person_X4_checkState
set_option maxRecDepth 20000 in
theorem ggX4_person_X1_addPerson : GoodIn wsX4_person wsX1_addPerson := goodIn_ca (goodIn_r _ [18, 19, 20, 21, 22, 23, 17, 24, 25, 26, 5, 27, 28, 29, 32, 33, 34, 35, 36, 37, 38, 39, 40, 41, 42, 43, 44, 45, 46, 47, 48, 49, 50] (by decide +kernel) (by decide +kernel)) (goodIn_sub (fun _ h => List.mem_cons_of_mem _ (List.mem_append_right _ h)) (by decide +kernel))
set_option maxRecDepth 20000 in
theorem gX4_person_X1_addPerson : GoodIn wsX4_person (wsV RX4 31 RX1 yX1_addPerson wsX1_addPerson) := goodIn_app (goodIn_of _ (by decide +kernel)) ggX4_person_X1_addPerson
theorem dX4_person_0 : decode cX4_person 0 = .ok (.iload_n 1, 1) := by decide +kernel
theorem dX4_person_1 : decode cX4_person 1 = .ok (.iconst 0, 1) := by decide +kernel
theorem dX4_person_2 : decode cX4_person 2 = .ok (.sipush 999, 3) := by decide +kernel
theorem dX4_person_5 : decode cX4_person 5 = .ok (.invokestatic 19, 3) := by decide +kernel
theorem dX4_person_8 : decode cX4_person 8 = .ok (.iload_n 2, 1) := by decide +kernel
theorem dX4_person_9 : decode cX4_person 9 = .ok (.iconst 0, 1) := by decide +kernel
theorem dX4_person_10 : decode cX4_person 10 = .ok (.sipush 999, 3) := by decide +kernel
theorem dX4_person_13 : decode cX4_person 13 = .ok (.invokestatic 19, 3) := by decide +kernel
theorem dX4_person_16 : decode cX4_person 16 = .ok (.iload_n 3, 1) := by decide +kernel
theorem dX4_person_17 : decode cX4_person 17 = .ok (.iconst 0, 1) := by decide +kernel
theorem dX4_person_18 : decode cX4_person 18 = .ok (.sipush 999, 3) := by decide +kernel
theorem dX4_person_21 : decode cX4_person 21 = .ok (.invokestatic 19, 3) := by decide +kernel
theorem dX4_person_24 : decode cX4_person 24 = .ok (.aload_n 0, 1) := by decide +kernel
theorem dX4_person_25 : decode cX4_person 25 = .ok (.getfield 10, 3) := by decide +kernel
theorem dX4_person_28 : decode cX4_person 28 = .ok (.getfield 23, 3) := by decide +kernel
theorem dX4_person_31 : decode cX4_person 31 = .ok (.bipush 10, 2) := by decide +kernel
theorem dX4_person_33 : decode cX4_person 33 = .ok (.if_icmp .ge 7, 3) := by decide +kernel
theorem dX4_person_36 : decode cX4_person 36 = .ok (.iconst 1, 1) := by decide +kernel
theorem dX4_person_37 : decode cX4_person 37 = .ok (.goto 4, 3) := by decide +kernel
theorem dX4_person_40 : decode cX4_person 40 = .ok (.iconst 0, 1) := by decide +kernel
theorem dX4_person_41 : decode cX4_person 41 = .ok (.invokestatic 27, 3) := by decide +kernel
theorem dX4_person_44 : decode cX4_person 44 = .ok (.aload_n 0, 1) := by decide +kernel
theorem dX4_person_45 : decode cX4_person 45 = .ok (.getfield 10, 3) := by decide +kernel
theorem dX4_person_48 : decode cX4_person 48 = .ok (.iload_n 1, 1) := by decide +kernel
theorem dX4_person_49 : decode cX4_person 49 = .ok (.iload_n 2, 1) := by decide +kernel
theorem dX4_person_50 : decode cX4_person 50 = .ok (.iload_n 3, 1) := by decide +kernel
theorem dX4_person_51 : decode cX4_person 51 = .ok (.invokevirtual 31, 3) := by decide +kernel
theorem dX4_person_54 : decode cX4_person 54 = .ok (.ireturn, 1) := by decide +kernel
set_option maxRecDepth 20000 in
theorem ggX4_trend_X1_personAt : GoodIn wsX4_trend wsX1_personAt := goodIn_ca (goodIn_r _ [7, 8, 9, 10, 11, 12, 13, 14, 31, 32, 33, 34, 35, 36, 37, 38, 39, 40, 41] (by decide +kernel) (by decide +kernel)) (goodIn_sub (fun _ h => List.mem_cons_of_mem _ (List.mem_append_left _ (List.mem_append_right _ h))) (by decide +kernel))
set_option maxRecDepth 20000 in
theorem gX4_trend_X1_personAt : GoodIn wsX4_trend (wsV RX4 35 RX1 yX1_personAt wsX1_personAt) := goodIn_app (goodIn_of _ (by decide +kernel)) ggX4_trend_X1_personAt
set_option maxRecDepth 20000 in
theorem ggX4_trend_X4_checkIndex : GoodIn wsX4_trend wsX4_checkIndex := goodIn_ca (goodIn_r _ [12, 13, 14] (by decide +kernel) (by decide +kernel)) (goodIn_sub (fun _ h => List.mem_cons_of_mem _ (List.mem_append_left _ (List.mem_append_right _ h))) (by decide +kernel))
set_option maxRecDepth 20000 in
theorem gX4_trend_X4_checkIndex : GoodIn wsX4_trend (va_wsS RX4 39 yX4_checkIndex wsX4_checkIndex) := goodIn_app (goodIn_of _ (by decide +kernel)) ggX4_trend_X4_checkIndex
set_option maxRecDepth 20000 in
theorem ggX4_trend_X4_checkArgument : GoodIn wsX4_trend wsX4_checkArgument := goodIn_ca (goodIn_r _ [18, 19, 20] (by decide +kernel) (by decide +kernel)) (goodIn_sub (fun _ h => List.mem_cons_of_mem _ (List.mem_append_right _ h)) (by decide +kernel))
set_option maxRecDepth 20000 in
theorem gX4_trend_X4_checkArgument : GoodIn wsX4_trend (va_wsS RX4 19 yX4_checkArgument wsX4_checkArgument) := goodIn_app (goodIn_of _ (by decide +kernel)) ggX4_trend_X4_checkArgument
theorem dX4_trend_0 : decode cX4_trend 0 = .ok (.aload_n 0, 1) := by decide +kernel
theorem dX4_trend_1 : decode cX4_trend 1 = .ok (.getfield 10, 3) := by decide +kernel
theorem dX4_trend_4 : decode cX4_trend 4 = .ok (.iload_n 1, 1) := by decide +kernel
theorem dX4_trend_5 : decode cX4_trend 5 = .ok (.invokevirtual 35, 3) := by decide +kernel
theorem dX4_trend_8 : decode cX4_trend 8 = .ok (.astore 4, 2) := by decide +kernel
theorem dX4_trend_10 : decode cX4_trend 10 = .ok (.iload_n 2, 1) := by decide +kernel
theorem dX4_trend_11 : decode cX4_trend 11 = .ok (.iconst 3, 1) := by decide +kernel
theorem dX4_trend_12 : decode cX4_trend 12 = .ok (.invokestatic 39, 3) := by decide +kernel
theorem dX4_trend_15 : decode cX4_trend 15 = .ok (.iload_n 3, 1) := by decide +kernel
theorem dX4_trend_16 : decode cX4_trend 16 = .ok (.bipush (-40), 2) := by decide +kernel
theorem dX4_trend_18 : decode cX4_trend 18 = .ok (.bipush 40, 2) := by decide +kernel
theorem dX4_trend_20 : decode cX4_trend 20 = .ok (.invokestatic 19, 3) := by decide +kernel
theorem dX4_trend_23 : decode cX4_trend 23 = .ok (.aload 4, 2) := by decide +kernel
theorem dX4_trend_25 : decode cX4_trend 25 = .ok (.getfield 43, 3) := by decide +kernel
theorem dX4_trend_28 : decode cX4_trend 28 = .ok (.iload_n 2, 1) := by decide +kernel
theorem dX4_trend_29 : decode cX4_trend 29 = .ok (.iaload, 1) := by decide +kernel
theorem dX4_trend_30 : decode cX4_trend 30 = .ok (.istore 5, 2) := by decide +kernel
theorem dX4_trend_32 : decode cX4_trend 32 = .ok (.aload 4, 2) := by decide +kernel
theorem dX4_trend_34 : decode cX4_trend 34 = .ok (.getfield 43, 3) := by decide +kernel
theorem dX4_trend_37 : decode cX4_trend 37 = .ok (.iload_n 2, 1) := by decide +kernel
theorem dX4_trend_38 : decode cX4_trend 38 = .ok (.iload_n 3, 1) := by decide +kernel
theorem dX4_trend_39 : decode cX4_trend 39 = .ok (.iastore, 1) := by decide +kernel
theorem dX4_trend_40 : decode cX4_trend 40 = .ok (.iload 5, 2) := by decide +kernel
theorem dX4_trend_42 : decode cX4_trend 42 = .ok (.ireturn, 1) := by decide +kernel
set_option maxRecDepth 20000 in
theorem ggX4_news_X1_personAt : GoodIn wsX4_news wsX1_personAt := goodIn_ca (goodIn_r _ [7, 8, 9, 10, 11, 12, 13, 14, 39, 40, 41, 42, 43, 44, 45, 46, 47, 48, 49] (by decide +kernel) (by decide +kernel)) (goodIn_sub (fun _ h => List.mem_cons_of_mem _ (List.mem_append_left _ (List.mem_append_right _ h))) (by decide +kernel))
set_option maxRecDepth 20000 in
theorem gX4_news_X1_personAt : GoodIn wsX4_news (wsV RX4 35 RX1 yX1_personAt wsX1_personAt) := goodIn_app (goodIn_of _ (by decide +kernel)) ggX4_news_X1_personAt
set_option maxRecDepth 20000 in
theorem ggX4_news_X4_checkArgument : GoodIn wsX4_news wsX4_checkArgument := goodIn_ca (goodIn_r _ [17, 18, 19] (by decide +kernel) (by decide +kernel)) (goodIn_sub (fun _ h => List.mem_cons_of_mem _ (List.mem_append_right _ h)) (by decide +kernel))
set_option maxRecDepth 20000 in
theorem gX4_news_X4_checkArgument : GoodIn wsX4_news (va_wsS RX4 19 yX4_checkArgument wsX4_checkArgument) := goodIn_app (goodIn_of _ (by decide +kernel)) ggX4_news_X4_checkArgument
set_option maxRecDepth 20000 in
theorem ggX4_news_X2_changeFame : GoodIn wsX4_news wsX2_changeFame := goodIn_r _ [24, 25, 26, 27, 23, 28, 31, 32, 33, 34, 35, 36, 37, 38] (by decide +kernel) (by decide +kernel)
set_option maxRecDepth 20000 in
theorem gX4_news_X2_changeFame : GoodIn wsX4_news (wsV RX4 49 RX2 yX2_changeFame wsX2_changeFame) := goodIn_app (goodIn_of _ (by decide +kernel)) ggX4_news_X2_changeFame
theorem dX4_news_0 : decode cX4_news 0 = .ok (.aload_n 0, 1) := by decide +kernel
theorem dX4_news_1 : decode cX4_news 1 = .ok (.getfield 10, 3) := by decide +kernel
theorem dX4_news_4 : decode cX4_news 4 = .ok (.iload_n 1, 1) := by decide +kernel
theorem dX4_news_5 : decode cX4_news 5 = .ok (.invokevirtual 35, 3) := by decide +kernel
theorem dX4_news_8 : decode cX4_news 8 = .ok (.astore_n 3, 1) := by decide +kernel
theorem dX4_news_9 : decode cX4_news 9 = .ok (.iload_n 2, 1) := by decide +kernel
theorem dX4_news_10 : decode cX4_news 10 = .ok (.sipush (-500), 3) := by decide +kernel
theorem dX4_news_13 : decode cX4_news 13 = .ok (.sipush 500, 3) := by decide +kernel
theorem dX4_news_16 : decode cX4_news 16 = .ok (.invokestatic 19, 3) := by decide +kernel
theorem dX4_news_19 : decode cX4_news 19 = .ok (.aload_n 3, 1) := by decide +kernel
theorem dX4_news_20 : decode cX4_news 20 = .ok (.iload_n 2, 1) := by decide +kernel
theorem dX4_news_21 : decode cX4_news 21 = .ok (.invokevirtual 49, 3) := by decide +kernel
theorem dX4_news_24 : decode cX4_news 24 = .ok (.aload_n 3, 1) := by decide +kernel
theorem dX4_news_25 : decode cX4_news 25 = .ok (.getfield 53, 3) := by decide +kernel
theorem dX4_news_28 : decode cX4_news 28 = .ok (.iconst 0, 1) := by decide +kernel
theorem dX4_news_29 : decode cX4_news 29 = .ok (.iaload, 1) := by decide +kernel
theorem dX4_news_30 : decode cX4_news 30 = .ok (.ireturn, 1) := by decide +kernel
set_option maxRecDepth 20000 in
theorem ggX4_consent_X1_personAt : GoodIn wsX4_consent wsX1_personAt := goodIn_ca (goodIn_r _ [7, 8, 9, 10, 11, 12, 13, 14, 39, 40, 41, 42, 43, 44, 45, 46, 47, 48, 49] (by decide +kernel) (by decide +kernel)) (goodIn_sub (fun _ h => List.mem_cons_of_mem _ (List.mem_append_right _ h)) (by decide +kernel))
set_option maxRecDepth 20000 in
theorem gX4_consent_X1_personAt : GoodIn wsX4_consent (wsV RX4 35 RX1 yX1_personAt wsX1_personAt) := goodIn_app (goodIn_of _ (by decide +kernel)) ggX4_consent_X1_personAt
set_option maxRecDepth 20000 in
theorem ggX4_consent_X1_takeAllOf : GoodIn wsX4_consent wsX1_takeAllOf := goodIn_r _ [18, 19, 20, 21, 22, 23, 24, 25, 26, 27, 28, 39, 40, 41, 42, 43, 44, 45, 46, 47, 48, 49, 50, 51, 52, 53, 54, 55, 56, 57, 58, 59, 60] (by decide +kernel) (by decide +kernel)
set_option maxRecDepth 20000 in
theorem gX4_consent_X1_takeAllOf : GoodIn wsX4_consent (wsV RX4 60 RX1 yX1_takeAllOf wsX1_takeAllOf) := goodIn_app (goodIn_of _ (by decide +kernel)) ggX4_consent_X1_takeAllOf
theorem dX4_consent_0 : decode cX4_consent 0 = .ok (.aload_n 0, 1) := by decide +kernel
theorem dX4_consent_1 : decode cX4_consent 1 = .ok (.getfield 10, 3) := by decide +kernel
theorem dX4_consent_4 : decode cX4_consent 4 = .ok (.iload_n 1, 1) := by decide +kernel
theorem dX4_consent_5 : decode cX4_consent 5 = .ok (.invokevirtual 35, 3) := by decide +kernel
theorem dX4_consent_8 : decode cX4_consent 8 = .ok (.astore_n 3, 1) := by decide +kernel
theorem dX4_consent_9 : decode cX4_consent 9 = .ok (.aload_n 3, 1) := by decide +kernel
theorem dX4_consent_10 : decode cX4_consent 10 = .ok (.iload_n 2, 1) := by decide +kernel
theorem dX4_consent_11 : decode cX4_consent 11 = .ok (.putfield 56, 3) := by decide +kernel
theorem dX4_consent_14 : decode cX4_consent 14 = .ok (.iload_n 2, 1) := by decide +kernel
theorem dX4_consent_15 : decode cX4_consent 15 = .ok (.ifCond .eq 7, 3) := by decide +kernel
theorem dX4_consent_18 : decode cX4_consent 18 = .ok (.iconst 0, 1) := by decide +kernel
theorem dX4_consent_19 : decode cX4_consent 19 = .ok (.goto 11, 3) := by decide +kernel
theorem dX4_consent_22 : decode cX4_consent 22 = .ok (.aload_n 0, 1) := by decide +kernel
theorem dX4_consent_23 : decode cX4_consent 23 = .ok (.getfield 10, 3) := by decide +kernel
theorem dX4_consent_26 : decode cX4_consent 26 = .ok (.aload_n 3, 1) := by decide +kernel
theorem dX4_consent_27 : decode cX4_consent 27 = .ok (.invokevirtual 60, 3) := by decide +kernel
theorem dX4_consent_30 : decode cX4_consent 30 = .ok (.ireturn, 1) := by decide +kernel
set_option maxRecDepth 20000 in
theorem ggX4_measure_X1_personAt : GoodIn wsX4_measure wsX1_personAt := goodIn_ca (goodIn_r _ [15, 16, 17, 18, 19, 20, 21, 22, 49, 50, 51, 52, 53, 54, 55, 56, 57, 58, 59] (by decide +kernel) (by decide +kernel)) (goodIn_sub (fun _ h => List.mem_cons_of_mem _ (List.mem_append_left _ (List.mem_append_right _ h))) (by decide +kernel))
set_option maxRecDepth 20000 in
theorem gX4_measure_X1_personAt : GoodIn wsX4_measure (wsV RX4 35 RX1 yX1_personAt wsX1_personAt) := goodIn_app (goodIn_of _ (by decide +kernel)) ggX4_measure_X1_personAt
set_option maxRecDepth 20000 in
theorem ggX4_measure_X4_checkIndex : GoodIn wsX4_measure wsX4_checkIndex := goodIn_ca (goodIn_r _ [20, 21, 22] (by decide +kernel) (by decide +kernel)) (goodIn_sub (fun _ h => List.mem_cons_of_mem _ (List.mem_append_left _ (List.mem_append_right _ h))) (by decide +kernel))
set_option maxRecDepth 20000 in
theorem gX4_measure_X4_checkIndex : GoodIn wsX4_measure (va_wsS RX4 39 yX4_checkIndex wsX4_checkIndex) := goodIn_app (goodIn_of _ (by decide +kernel)) ggX4_measure_X4_checkIndex
set_option maxRecDepth 20000 in
theorem ggX4_measure_X4_checkArgument : GoodIn wsX4_measure wsX4_checkArgument := goodIn_ca (goodIn_r _ [26, 27, 28] (by decide +kernel) (by decide +kernel)) (goodIn_sub (fun _ h => List.mem_cons_of_mem _ (List.mem_append_right _ h)) (by decide +kernel))
set_option maxRecDepth 20000 in
theorem gX4_measure_X4_checkArgument : GoodIn wsX4_measure (va_wsS RX4 19 yX4_checkArgument wsX4_checkArgument) := goodIn_app (goodIn_of _ (by decide +kernel)) ggX4_measure_X4_checkArgument
set_option maxRecDepth 20000 in
theorem ggX4_measure_X2_learn : GoodIn wsX4_measure wsX2_learn := goodIn_r _ [33, 34, 35, 3, 4, 5, 36, 37, 7, 8, 38, 41, 42, 43, 44, 45, 46, 47, 48] (by decide +kernel) (by decide +kernel)
set_option maxRecDepth 20000 in
theorem gX4_measure_X2_learn : GoodIn wsX4_measure (wsV RX4 73 RX2 yX2_learn wsX2_learn) := goodIn_app (goodIn_of _ (by decide +kernel)) ggX4_measure_X2_learn
theorem dX4_measure_0 : decode cX4_measure 0 = .ok (.aload_n 0, 1) := by decide +kernel
theorem dX4_measure_1 : decode cX4_measure 1 = .ok (.getfield 10, 3) := by decide +kernel
theorem dX4_measure_4 : decode cX4_measure 4 = .ok (.iload_n 1, 1) := by decide +kernel
theorem dX4_measure_5 : decode cX4_measure 5 = .ok (.invokevirtual 35, 3) := by decide +kernel
theorem dX4_measure_8 : decode cX4_measure 8 = .ok (.astore 5, 2) := by decide +kernel
theorem dX4_measure_10 : decode cX4_measure 10 = .ok (.iload_n 2, 1) := by decide +kernel
theorem dX4_measure_11 : decode cX4_measure 11 = .ok (.bipush 6, 2) := by decide +kernel
theorem dX4_measure_13 : decode cX4_measure 13 = .ok (.invokestatic 39, 3) := by decide +kernel
theorem dX4_measure_16 : decode cX4_measure 16 = .ok (.iload_n 3, 1) := by decide +kernel
theorem dX4_measure_17 : decode cX4_measure 17 = .ok (.iconst 0, 1) := by decide +kernel
theorem dX4_measure_18 : decode cX4_measure 18 = .ok (.bipush 99, 2) := by decide +kernel
theorem dX4_measure_20 : decode cX4_measure 20 = .ok (.invokestatic 19, 3) := by decide +kernel
theorem dX4_measure_23 : decode cX4_measure 23 = .ok (.iload 4, 2) := by decide +kernel
theorem dX4_measure_25 : decode cX4_measure 25 = .ok (.iconst 0, 1) := by decide +kernel
theorem dX4_measure_26 : decode cX4_measure 26 = .ok (.bipush 20, 2) := by decide +kernel
theorem dX4_measure_28 : decode cX4_measure 28 = .ok (.invokestatic 19, 3) := by decide +kernel
theorem dX4_measure_31 : decode cX4_measure 31 = .ok (.aload 5, 2) := by decide +kernel
theorem dX4_measure_33 : decode cX4_measure 33 = .ok (.iload_n 2, 1) := by decide +kernel
theorem dX4_measure_34 : decode cX4_measure 34 = .ok (.iload_n 3, 1) := by decide +kernel
theorem dX4_measure_35 : decode cX4_measure 35 = .ok (.iload 4, 2) := by decide +kernel
theorem dX4_measure_37 : decode cX4_measure 37 = .ok (.isub, 1) := by decide +kernel
theorem dX4_measure_38 : decode cX4_measure 38 = .ok (.iconst 0, 1) := by decide +kernel
theorem dX4_measure_39 : decode cX4_measure 39 = .ok (.invokestatic 64, 3) := by decide +kernel
theorem dX4_measure_42 : decode cX4_measure 42 = .ok (.iload_n 3, 1) := by decide +kernel
theorem dX4_measure_43 : decode cX4_measure 43 = .ok (.iload 4, 2) := by decide +kernel
theorem dX4_measure_45 : decode cX4_measure 45 = .ok (.iadd, 1) := by decide +kernel
theorem dX4_measure_46 : decode cX4_measure 46 = .ok (.bipush 99, 2) := by decide +kernel
theorem dX4_measure_48 : decode cX4_measure 48 = .ok (.invokestatic 70, 3) := by decide +kernel
theorem dX4_measure_51 : decode cX4_measure 51 = .ok (.invokevirtual 73, 3) := by decide +kernel
theorem dX4_measure_54 : decode cX4_measure 54 = .ok (.aload 5, 2) := by decide +kernel
theorem dX4_measure_56 : decode cX4_measure 56 = .ok (.getfield 76, 3) := by decide +kernel
theorem dX4_measure_59 : decode cX4_measure 59 = .ok (.iload_n 2, 1) := by decide +kernel
theorem dX4_measure_60 : decode cX4_measure 60 = .ok (.iaload, 1) := by decide +kernel
theorem dX4_measure_61 : decode cX4_measure 61 = .ok (.aload 5, 2) := by decide +kernel
theorem dX4_measure_63 : decode cX4_measure 63 = .ok (.getfield 79, 3) := by decide +kernel
theorem dX4_measure_66 : decode cX4_measure 66 = .ok (.iload_n 2, 1) := by decide +kernel
theorem dX4_measure_67 : decode cX4_measure 67 = .ok (.iaload, 1) := by decide +kernel
theorem dX4_measure_68 : decode cX4_measure 68 = .ok (.isub, 1) := by decide +kernel
theorem dX4_measure_69 : decode cX4_measure 69 = .ok (.ireturn, 1) := by decide +kernel
set_option maxRecDepth 20000 in
theorem ggX4_pay_X1_personAt : GoodIn wsX4_pay wsX1_personAt := goodIn_ca (goodIn_r _ [8, 9, 10, 11, 12, 13, 14, 15, 26, 27, 28, 29, 30, 31, 32, 33, 34, 35, 36] (by decide +kernel) (by decide +kernel)) (goodIn_sub (fun _ h => List.mem_cons_of_mem _ (List.mem_append_right _ h)) (by decide +kernel))
set_option maxRecDepth 20000 in
theorem gX4_pay_X1_personAt : GoodIn wsX4_pay (wsV RX4 35 RX1 yX1_personAt wsX1_personAt) := goodIn_app (goodIn_of _ (by decide +kernel)) ggX4_pay_X1_personAt
theorem dX4_pay_0 : decode cX4_pay 0 = .ok (.aload_n 0, 1) := by decide +kernel
theorem dX4_pay_1 : decode cX4_pay 1 = .ok (.getfield 10, 3) := by decide +kernel
theorem dX4_pay_4 : decode cX4_pay 4 = .ok (.iload_n 1, 1) := by decide +kernel
theorem dX4_pay_5 : decode cX4_pay 5 = .ok (.invokevirtual 35, 3) := by decide +kernel
theorem dX4_pay_8 : decode cX4_pay 8 = .ok (.astore_n 2, 1) := by decide +kernel
theorem dX4_pay_9 : decode cX4_pay 9 = .ok (.aload_n 2, 1) := by decide +kernel
theorem dX4_pay_10 : decode cX4_pay 10 = .ok (.getfield 82, 3) := by decide +kernel
theorem dX4_pay_13 : decode cX4_pay 13 = .ok (.istore_n 3, 1) := by decide +kernel
theorem dX4_pay_14 : decode cX4_pay 14 = .ok (.aload_n 2, 1) := by decide +kernel
theorem dX4_pay_15 : decode cX4_pay 15 = .ok (.iconst 0, 1) := by decide +kernel
theorem dX4_pay_16 : decode cX4_pay 16 = .ok (.putfield 82, 3) := by decide +kernel
theorem dX4_pay_19 : decode cX4_pay 19 = .ok (.aload_n 0, 1) := by decide +kernel
theorem dX4_pay_20 : decode cX4_pay 20 = .ok (.getfield 10, 3) := by decide +kernel
theorem dX4_pay_23 : decode cX4_pay 23 = .ok (.dup, 1) := by decide +kernel
theorem dX4_pay_24 : decode cX4_pay 24 = .ok (.getfield 85, 3) := by decide +kernel
theorem dX4_pay_27 : decode cX4_pay 27 = .ok (.iload_n 3, 1) := by decide +kernel
theorem dX4_pay_28 : decode cX4_pay 28 = .ok (.isub, 1) := by decide +kernel
theorem dX4_pay_29 : decode cX4_pay 29 = .ok (.putfield 85, 3) := by decide +kernel
theorem dX4_pay_32 : decode cX4_pay 32 = .ok (.iload_n 3, 1) := by decide +kernel
theorem dX4_pay_33 : decode cX4_pay 33 = .ok (.ireturn, 1) := by decide +kernel
set_option maxRecDepth 20000 in
theorem ggX4_figure_X1_personAt : GoodIn wsX4_figure wsX1_personAt := goodIn_ca (goodIn_r _ [7, 8, 9, 10, 11, 12, 13, 14, 34, 35, 36, 37, 38, 39, 40, 41, 42, 43, 44] (by decide +kernel) (by decide +kernel)) (goodIn_sub (fun _ h => List.mem_cons_of_mem _ (List.mem_append_left _ (List.mem_append_right _ h))) (by decide +kernel))
set_option maxRecDepth 20000 in
theorem gX4_figure_X1_personAt : GoodIn wsX4_figure (wsV RX4 35 RX1 yX1_personAt wsX1_personAt) := goodIn_app (goodIn_of _ (by decide +kernel)) ggX4_figure_X1_personAt
set_option maxRecDepth 20000 in
theorem ggX4_figure_X4_checkState : GoodIn wsX4_figure wsX4_checkState := goodIn_ca (goodIn_r _ [17, 18, 19] (by decide +kernel) (by decide +kernel)) (goodIn_sub (fun _ h => List.mem_cons_of_mem _ (List.mem_append_right _ h)) (by decide +kernel))
set_option maxRecDepth 20000 in
theorem gX4_figure_X4_checkState : GoodIn wsX4_figure (va_wsS RX4 27 yX4_checkState wsX4_checkState) := goodIn_app (goodIn_of _ (by decide +kernel)) ggX4_figure_X4_checkState
set_option maxRecDepth 20000 in
theorem ggX4_figure_X1_addFigure : GoodIn wsX4_figure wsX1_addFigure := goodIn_ca (goodIn_r _ [23, 24, 25, 26, 27, 28, 29, 6, 30, 31, 10, 11, 12, 13, 14, 34, 35, 36, 37, 38, 39, 40, 41, 42, 43, 44, 45, 46, 47, 48, 49, 50, 51, 52, 53, 54, 55] (by decide +kernel) (by decide +kernel)) (goodIn_sub (fun _ h => List.mem_cons_of_mem _ (List.mem_append_left _ (List.mem_append_right _ h))) (by decide +kernel))
set_option maxRecDepth 20000 in
theorem gX4_figure_X1_addFigure : GoodIn wsX4_figure (wsV RX4 91 RX1 yX1_addFigure wsX1_addFigure) := goodIn_app (goodIn_of _ (by decide +kernel)) ggX4_figure_X1_addFigure
theorem dX4_figure_0 : decode cX4_figure 0 = .ok (.aload_n 0, 1) := by decide +kernel
theorem dX4_figure_1 : decode cX4_figure 1 = .ok (.getfield 10, 3) := by decide +kernel
theorem dX4_figure_4 : decode cX4_figure 4 = .ok (.iload_n 1, 1) := by decide +kernel
theorem dX4_figure_5 : decode cX4_figure 5 = .ok (.invokevirtual 35, 3) := by decide +kernel
theorem dX4_figure_8 : decode cX4_figure 8 = .ok (.astore_n 2, 1) := by decide +kernel
theorem dX4_figure_9 : decode cX4_figure 9 = .ok (.aload_n 0, 1) := by decide +kernel
theorem dX4_figure_10 : decode cX4_figure 10 = .ok (.getfield 10, 3) := by decide +kernel
theorem dX4_figure_13 : decode cX4_figure 13 = .ok (.getfield 88, 3) := by decide +kernel
theorem dX4_figure_16 : decode cX4_figure 16 = .ok (.bipush 8, 2) := by decide +kernel
theorem dX4_figure_18 : decode cX4_figure 18 = .ok (.if_icmp .ge 7, 3) := by decide +kernel
theorem dX4_figure_21 : decode cX4_figure 21 = .ok (.iconst 1, 1) := by decide +kernel
theorem dX4_figure_22 : decode cX4_figure 22 = .ok (.goto 4, 3) := by decide +kernel
theorem dX4_figure_25 : decode cX4_figure 25 = .ok (.iconst 0, 1) := by decide +kernel
theorem dX4_figure_26 : decode cX4_figure 26 = .ok (.invokestatic 27, 3) := by decide +kernel
theorem dX4_figure_29 : decode cX4_figure 29 = .ok (.aload_n 0, 1) := by decide +kernel
theorem dX4_figure_30 : decode cX4_figure 30 = .ok (.getfield 10, 3) := by decide +kernel
theorem dX4_figure_33 : decode cX4_figure 33 = .ok (.aload_n 2, 1) := by decide +kernel
theorem dX4_figure_34 : decode cX4_figure 34 = .ok (.invokevirtual 91, 3) := by decide +kernel
theorem dX4_figure_37 : decode cX4_figure 37 = .ok (.ireturn, 1) := by decide +kernel
set_option maxRecDepth 20000 in
theorem ggX4_work_X1_figureAt : GoodIn wsX4_work wsX1_figureAt := goodIn_ca (goodIn_r _ [9, 10, 11, 12, 13, 14, 15, 16, 45, 46, 47, 48, 49, 50, 51, 52, 53, 54, 55] (by decide +kernel) (by decide +kernel)) (goodIn_sub (fun _ h => List.mem_cons_of_mem _ (List.mem_append_left _ (List.mem_append_left _ (List.mem_append_right _ h)))) (by decide +kernel))
set_option maxRecDepth 20000 in
theorem gX4_work_X1_figureAt : GoodIn wsX4_work (wsV RX4 94 RX1 yX1_figureAt wsX1_figureAt) := goodIn_app (goodIn_of _ (by decide +kernel)) ggX4_work_X1_figureAt
set_option maxRecDepth 20000 in
theorem ggX4_work_X4_checkArgument : GoodIn wsX4_work wsX4_checkArgument := goodIn_ca (goodIn_r _ [19, 20, 21] (by decide +kernel) (by decide +kernel)) (goodIn_sub (fun _ h => List.mem_cons_of_mem _ (List.mem_append_left _ (List.mem_append_right _ h))) (by decide +kernel))
set_option maxRecDepth 20000 in
theorem gX4_work_X4_checkArgument : GoodIn wsX4_work (va_wsS RX4 19 yX4_checkArgument wsX4_checkArgument) := goodIn_app (goodIn_of _ (by decide +kernel)) ggX4_work_X4_checkArgument
set_option maxRecDepth 20000 in
theorem ggX4_work_X1_allHands : GoodIn wsX4_work wsX1_allHands := goodIn_r _ [25, 10, 11, 26, 45, 46, 47, 48, 49, 50, 51, 52, 53, 54, 55, 34, 35, 36, 37, 38, 39, 40, 41, 42, 43, 44] (by decide +kernel) (by decide +kernel)
set_option maxRecDepth 20000 in
theorem gX4_work_X1_allHands : GoodIn wsX4_work (wsV RX4 98 RX1 yX1_allHands wsX1_allHands) := goodIn_app (goodIn_of _ (by decide +kernel)) ggX4_work_X1_allHands
set_option maxRecDepth 20000 in
theorem ggX4_work_X4_checkState : GoodIn wsX4_work wsX4_checkState := goodIn_ca (goodIn_r _ [29, 30, 31] (by decide +kernel) (by decide +kernel)) (goodIn_sub (fun _ h => List.mem_cons_of_mem _ (List.mem_append_right _ h)) (by decide +kernel))
set_option maxRecDepth 20000 in
theorem gX4_work_X4_checkState : GoodIn wsX4_work (va_wsS RX4 27 yX4_checkState wsX4_checkState) := goodIn_app (goodIn_of _ (by decide +kernel)) ggX4_work_X4_checkState
theorem dX4_work_0 : decode cX4_work 0 = .ok (.aload_n 0, 1) := by decide +kernel
theorem dX4_work_1 : decode cX4_work 1 = .ok (.getfield 10, 3) := by decide +kernel
theorem dX4_work_4 : decode cX4_work 4 = .ok (.iload_n 1, 1) := by decide +kernel
theorem dX4_work_5 : decode cX4_work 5 = .ok (.invokevirtual 94, 3) := by decide +kernel
theorem dX4_work_8 : decode cX4_work 8 = .ok (.astore_n 3, 1) := by decide +kernel
theorem dX4_work_9 : decode cX4_work 9 = .ok (.iload_n 2, 1) := by decide +kernel
theorem dX4_work_10 : decode cX4_work 10 = .ok (.iconst 0, 1) := by decide +kernel
theorem dX4_work_11 : decode cX4_work 11 = .ok (.bipush 9, 2) := by decide +kernel
theorem dX4_work_13 : decode cX4_work 13 = .ok (.invokestatic 19, 3) := by decide +kernel
theorem dX4_work_16 : decode cX4_work 16 = .ok (.aload_n 0, 1) := by decide +kernel
theorem dX4_work_17 : decode cX4_work 17 = .ok (.getfield 10, 3) := by decide +kernel
theorem dX4_work_20 : decode cX4_work 20 = .ok (.invokevirtual 98, 3) := by decide +kernel
theorem dX4_work_23 : decode cX4_work 23 = .ok (.aload_n 3, 1) := by decide +kernel
theorem dX4_work_24 : decode cX4_work 24 = .ok (.getfield 102, 3) := by decide +kernel
theorem dX4_work_27 : decode cX4_work 27 = .ok (.isub, 1) := by decide +kernel
theorem dX4_work_28 : decode cX4_work 28 = .ok (.iload_n 2, 1) := by decide +kernel
theorem dX4_work_29 : decode cX4_work 29 = .ok (.iadd, 1) := by decide +kernel
theorem dX4_work_30 : decode cX4_work 30 = .ok (.istore 4, 2) := by decide +kernel
theorem dX4_work_32 : decode cX4_work 32 = .ok (.aload_n 3, 1) := by decide +kernel
theorem dX4_work_33 : decode cX4_work 33 = .ok (.getfield 107, 3) := by decide +kernel
theorem dX4_work_36 : decode cX4_work 36 = .ok (.bipush 6, 2) := by decide +kernel
theorem dX4_work_38 : decode cX4_work 38 = .ok (.if_icmp .ge 23, 3) := by decide +kernel
theorem dX4_work_41 : decode cX4_work 41 = .ok (.aload_n 3, 1) := by decide +kernel
theorem dX4_work_42 : decode cX4_work 42 = .ok (.getfield 110, 3) := by decide +kernel
theorem dX4_work_45 : decode cX4_work 45 = .ok (.bipush 7, 2) := by decide +kernel
theorem dX4_work_47 : decode cX4_work 47 = .ok (.if_icmp .eq 14, 3) := by decide +kernel
theorem dX4_work_50 : decode cX4_work 50 = .ok (.iload 4, 2) := by decide +kernel
theorem dX4_work_52 : decode cX4_work 52 = .ok (.bipush 12, 2) := by decide +kernel
theorem dX4_work_54 : decode cX4_work 54 = .ok (.if_icmp .gt 7, 3) := by decide +kernel
theorem dX4_work_57 : decode cX4_work 57 = .ok (.iconst 1, 1) := by decide +kernel
theorem dX4_work_58 : decode cX4_work 58 = .ok (.goto 4, 3) := by decide +kernel
theorem dX4_work_61 : decode cX4_work 61 = .ok (.iconst 0, 1) := by decide +kernel
theorem dX4_work_62 : decode cX4_work 62 = .ok (.invokestatic 27, 3) := by decide +kernel
theorem dX4_work_65 : decode cX4_work 65 = .ok (.aload_n 3, 1) := by decide +kernel
theorem dX4_work_66 : decode cX4_work 66 = .ok (.iload_n 2, 1) := by decide +kernel
theorem dX4_work_67 : decode cX4_work 67 = .ok (.putfield 102, 3) := by decide +kernel
theorem dX4_work_70 : decode cX4_work 70 = .ok (.iload 4, 2) := by decide +kernel
theorem dX4_work_72 : decode cX4_work 72 = .ok (.ireturn, 1) := by decide +kernel
set_option maxRecDepth 20000 in
theorem ggX4_swap_X1_figureAt : GoodIn wsX4_swap wsX1_figureAt := goodIn_ca (goodIn_r _ [8, 9, 10, 11, 12, 13, 14, 15, 53, 54, 55, 56, 57, 58, 59, 60, 61, 62, 63] (by decide +kernel) (by decide +kernel)) (goodIn_sub (fun _ h => List.mem_cons_of_mem _ (List.mem_append_left _ (List.mem_append_right _ h))) (by decide +kernel))
set_option maxRecDepth 20000 in
theorem gX4_swap_X1_figureAt : GoodIn wsX4_swap (wsV RX4 94 RX1 yX1_figureAt wsX1_figureAt) := goodIn_app (goodIn_of _ (by decide +kernel)) ggX4_swap_X1_figureAt
set_option maxRecDepth 20000 in
theorem ggX4_swap_X0_isReadyInStore : GoodIn wsX4_swap wsX0_isReadyInStore := goodIn_r _ [20, 21, 22, 64, 65, 66, 67, 68, 69, 70, 71, 72, 73, 74] (by decide +kernel) (by decide +kernel)
set_option maxRecDepth 20000 in
theorem gX4_swap_X0_isReadyInStore : GoodIn wsX4_swap (wsV RX4 120 RX0 yX0_isReadyInStore wsX0_isReadyInStore) := goodIn_app (goodIn_of _ (by decide +kernel)) ggX4_swap_X0_isReadyInStore
set_option maxRecDepth 20000 in
theorem ggX4_swap_X4_checkState : GoodIn wsX4_swap wsX4_checkState := goodIn_ca (goodIn_r _ [25, 26, 27] (by decide +kernel) (by decide +kernel)) (goodIn_sub (fun _ h => List.mem_cons_of_mem _ (List.mem_append_right _ h)) (by decide +kernel))
set_option maxRecDepth 20000 in
theorem gX4_swap_X4_checkState : GoodIn wsX4_swap (va_wsS RX4 27 yX4_checkState wsX4_checkState) := goodIn_app (goodIn_of _ (by decide +kernel)) ggX4_swap_X4_checkState
set_option maxRecDepth 20000 in
theorem ggX4_swap_X0_swapHeadWith : GoodIn wsX4_swap wsX0_swapHeadWith := goodIn_r _ [31, 32, 33, 64, 65, 66, 67, 68, 69, 70, 71, 72, 73, 74] (by decide +kernel) (by decide +kernel)
set_option maxRecDepth 20000 in
theorem gX4_swap_X0_swapHeadWith : GoodIn wsX4_swap (wsV RX4 124 RX0 yX0_swapHeadWith wsX0_swapHeadWith) := goodIn_app (goodIn_of _ (by decide +kernel)) ggX4_swap_X0_swapHeadWith
set_option maxRecDepth 20000 in
theorem ggX4_swap_X0_likeness : GoodIn wsX4_swap wsX0_likeness := goodIn_r _ [37, 33, 38, 32, 39, 40, 41, 42, 19, 43, 21, 22, 44, 45, 46, 47, 48, 49, 50, 64, 65, 66, 67, 68, 69, 70, 71, 72, 73, 74, 75, 76, 77, 78, 79, 80, 81, 82] (by decide +kernel) (by decide +kernel)
set_option maxRecDepth 20000 in
theorem gX4_swap_X0_likeness : GoodIn wsX4_swap (wsV RX4 128 RX0 yX0_likeness wsX0_likeness) := goodIn_app (goodIn_of _ (by decide +kernel)) ggX4_swap_X0_likeness
theorem dX4_swap_0 : decode cX4_swap 0 = .ok (.aload_n 0, 1) := by decide +kernel
theorem dX4_swap_1 : decode cX4_swap 1 = .ok (.getfield 10, 3) := by decide +kernel
theorem dX4_swap_4 : decode cX4_swap 4 = .ok (.iload_n 1, 1) := by decide +kernel
theorem dX4_swap_5 : decode cX4_swap 5 = .ok (.invokevirtual 94, 3) := by decide +kernel
theorem dX4_swap_8 : decode cX4_swap 8 = .ok (.astore_n 3, 1) := by decide +kernel
theorem dX4_swap_9 : decode cX4_swap 9 = .ok (.aload_n 0, 1) := by decide +kernel
theorem dX4_swap_10 : decode cX4_swap 10 = .ok (.getfield 10, 3) := by decide +kernel
theorem dX4_swap_13 : decode cX4_swap 13 = .ok (.iload_n 2, 1) := by decide +kernel
theorem dX4_swap_14 : decode cX4_swap 14 = .ok (.invokevirtual 94, 3) := by decide +kernel
theorem dX4_swap_17 : decode cX4_swap 17 = .ok (.astore 4, 2) := by decide +kernel
theorem dX4_swap_19 : decode cX4_swap 19 = .ok (.iload_n 1, 1) := by decide +kernel
theorem dX4_swap_20 : decode cX4_swap 20 = .ok (.iload_n 2, 1) := by decide +kernel
theorem dX4_swap_21 : decode cX4_swap 21 = .ok (.if_icmp .ne 13, 3) := by decide +kernel
theorem dX4_swap_24 : decode cX4_swap 24 = .ok (.new 113, 3) := by decide +kernel
theorem dX4_swap_27 : decode cX4_swap 27 = .ok (.dup, 1) := by decide +kernel
theorem dX4_swap_28 : decode cX4_swap 28 = .ok (.ldc 115, 2) := by decide +kernel
theorem dX4_swap_30 : decode cX4_swap 30 = .ok (.invokespecial 117, 3) := by decide +kernel
theorem dX4_swap_33 : decode cX4_swap 33 = .ok (.athrow, 1) := by decide +kernel
theorem dX4_swap_34 : decode cX4_swap 34 = .ok (.aload_n 3, 1) := by decide +kernel
theorem dX4_swap_35 : decode cX4_swap 35 = .ok (.invokevirtual 120, 3) := by decide +kernel
theorem dX4_swap_38 : decode cX4_swap 38 = .ok (.ifCond .eq 15, 3) := by decide +kernel
theorem dX4_swap_41 : decode cX4_swap 41 = .ok (.aload 4, 2) := by decide +kernel
theorem dX4_swap_43 : decode cX4_swap 43 = .ok (.invokevirtual 120, 3) := by decide +kernel
theorem dX4_swap_46 : decode cX4_swap 46 = .ok (.ifCond .eq 7, 3) := by decide +kernel
theorem dX4_swap_49 : decode cX4_swap 49 = .ok (.iconst 1, 1) := by decide +kernel
theorem dX4_swap_50 : decode cX4_swap 50 = .ok (.goto 4, 3) := by decide +kernel
theorem dX4_swap_53 : decode cX4_swap 53 = .ok (.iconst 0, 1) := by decide +kernel
theorem dX4_swap_54 : decode cX4_swap 54 = .ok (.invokestatic 27, 3) := by decide +kernel
theorem dX4_swap_57 : decode cX4_swap 57 = .ok (.aload_n 3, 1) := by decide +kernel
theorem dX4_swap_58 : decode cX4_swap 58 = .ok (.aload 4, 2) := by decide +kernel
theorem dX4_swap_60 : decode cX4_swap 60 = .ok (.invokevirtual 124, 3) := by decide +kernel
theorem dX4_swap_63 : decode cX4_swap 63 = .ok (.aload_n 3, 1) := by decide +kernel
theorem dX4_swap_64 : decode cX4_swap 64 = .ok (.invokevirtual 128, 3) := by decide +kernel
theorem dX4_swap_67 : decode cX4_swap 67 = .ok (.ireturn, 1) := by decide +kernel
set_option maxRecDepth 20000 in
theorem ggX4_mend_X1_figureAt : GoodIn wsX4_mend wsX1_figureAt := goodIn_ca (goodIn_r _ [12, 13, 14, 15, 16, 17, 18, 19, 45, 46, 47, 48, 49, 50, 51, 52, 53, 54, 55] (by decide +kernel) (by decide +kernel)) (goodIn_sub (fun _ h => List.mem_cons_of_mem _ (List.mem_append_left _ (List.mem_append_right _ h))) (by decide +kernel))
set_option maxRecDepth 20000 in
theorem gX4_mend_X1_figureAt : GoodIn wsX4_mend (wsV RX4 94 RX1 yX1_figureAt wsX1_figureAt) := goodIn_app (goodIn_of _ (by decide +kernel)) ggX4_mend_X1_figureAt
set_option maxRecDepth 20000 in
theorem ggX4_mend_X0_isReadyInStore : GoodIn wsX4_mend wsX0_isReadyInStore := goodIn_r _ [24, 25, 26, 34, 35, 36, 37, 38, 39, 40, 41, 42, 43, 44] (by decide +kernel) (by decide +kernel)
set_option maxRecDepth 20000 in
theorem gX4_mend_X0_isReadyInStore : GoodIn wsX4_mend (wsV RX4 120 RX0 yX0_isReadyInStore wsX0_isReadyInStore) := goodIn_app (goodIn_of _ (by decide +kernel)) ggX4_mend_X0_isReadyInStore
set_option maxRecDepth 20000 in
theorem ggX4_mend_X4_checkState : GoodIn wsX4_mend wsX4_checkState := goodIn_ca (goodIn_r _ [29, 30, 31] (by decide +kernel) (by decide +kernel)) (goodIn_sub (fun _ h => List.mem_cons_of_mem _ (List.mem_append_right _ h)) (by decide +kernel))
set_option maxRecDepth 20000 in
theorem gX4_mend_X4_checkState : GoodIn wsX4_mend (va_wsS RX4 27 yX4_checkState wsX4_checkState) := goodIn_app (goodIn_of _ (by decide +kernel)) ggX4_mend_X4_checkState
theorem dX4_mend_0 : decode cX4_mend 0 = .ok (.aload_n 0, 1) := by decide +kernel
theorem dX4_mend_1 : decode cX4_mend 1 = .ok (.getfield 10, 3) := by decide +kernel
theorem dX4_mend_4 : decode cX4_mend 4 = .ok (.iload_n 1, 1) := by decide +kernel
theorem dX4_mend_5 : decode cX4_mend 5 = .ok (.invokevirtual 94, 3) := by decide +kernel
theorem dX4_mend_8 : decode cX4_mend 8 = .ok (.astore_n 2, 1) := by decide +kernel
theorem dX4_mend_9 : decode cX4_mend 9 = .ok (.aload_n 2, 1) := by decide +kernel
theorem dX4_mend_10 : decode cX4_mend 10 = .ok (.invokevirtual 120, 3) := by decide +kernel
theorem dX4_mend_13 : decode cX4_mend 13 = .ok (.invokestatic 27, 3) := by decide +kernel
theorem dX4_mend_16 : decode cX4_mend 16 = .ok (.aload_n 2, 1) := by decide +kernel
theorem dX4_mend_17 : decode cX4_mend 17 = .ok (.getfield 131, 3) := by decide +kernel
theorem dX4_mend_20 : decode cX4_mend 20 = .ok (.bipush 10, 2) := by decide +kernel
theorem dX4_mend_22 : decode cX4_mend 22 = .ok (.idiv, 1) := by decide +kernel
theorem dX4_mend_23 : decode cX4_mend 23 = .ok (.aload_n 0, 1) := by decide +kernel
theorem dX4_mend_24 : decode cX4_mend 24 = .ok (.getfield 10, 3) := by decide +kernel
theorem dX4_mend_27 : decode cX4_mend 27 = .ok (.getfield 134, 3) := by decide +kernel
theorem dX4_mend_30 : decode cX4_mend 30 = .ok (.bipush 10, 2) := by decide +kernel
theorem dX4_mend_32 : decode cX4_mend 32 = .ok (.idiv, 1) := by decide +kernel
theorem dX4_mend_33 : decode cX4_mend 33 = .ok (.invokestatic 70, 3) := by decide +kernel
theorem dX4_mend_36 : decode cX4_mend 36 = .ok (.istore_n 3, 1) := by decide +kernel
theorem dX4_mend_37 : decode cX4_mend 37 = .ok (.aload_n 2, 1) := by decide +kernel
theorem dX4_mend_38 : decode cX4_mend 38 = .ok (.dup, 1) := by decide +kernel
theorem dX4_mend_39 : decode cX4_mend 39 = .ok (.getfield 131, 3) := by decide +kernel
theorem dX4_mend_42 : decode cX4_mend 42 = .ok (.iload_n 3, 1) := by decide +kernel
theorem dX4_mend_43 : decode cX4_mend 43 = .ok (.bipush 10, 2) := by decide +kernel
theorem dX4_mend_45 : decode cX4_mend 45 = .ok (.imul, 1) := by decide +kernel
theorem dX4_mend_46 : decode cX4_mend 46 = .ok (.isub, 1) := by decide +kernel
theorem dX4_mend_47 : decode cX4_mend 47 = .ok (.putfield 131, 3) := by decide +kernel
theorem dX4_mend_50 : decode cX4_mend 50 = .ok (.aload_n 0, 1) := by decide +kernel
theorem dX4_mend_51 : decode cX4_mend 51 = .ok (.getfield 10, 3) := by decide +kernel
theorem dX4_mend_54 : decode cX4_mend 54 = .ok (.dup, 1) := by decide +kernel
theorem dX4_mend_55 : decode cX4_mend 55 = .ok (.getfield 134, 3) := by decide +kernel
theorem dX4_mend_58 : decode cX4_mend 58 = .ok (.iload_n 3, 1) := by decide +kernel
theorem dX4_mend_59 : decode cX4_mend 59 = .ok (.bipush 10, 2) := by decide +kernel
theorem dX4_mend_61 : decode cX4_mend 61 = .ok (.imul, 1) := by decide +kernel
theorem dX4_mend_62 : decode cX4_mend 62 = .ok (.isub, 1) := by decide +kernel
theorem dX4_mend_63 : decode cX4_mend 63 = .ok (.putfield 134, 3) := by decide +kernel
theorem dX4_mend_66 : decode cX4_mend 66 = .ok (.aload_n 2, 1) := by decide +kernel
theorem dX4_mend_67 : decode cX4_mend 67 = .ok (.getfield 131, 3) := by decide +kernel
theorem dX4_mend_70 : decode cX4_mend 70 = .ok (.ireturn, 1) := by decide +kernel
set_option maxRecDepth 20000 in
theorem ggX4_melt_X1_figureAt : GoodIn wsX4_melt wsX1_figureAt := goodIn_ca (goodIn_r _ [9, 10, 11, 12, 13, 14, 15, 16, 42, 43, 44, 45, 46, 47, 48, 49, 50, 51, 52] (by decide +kernel) (by decide +kernel)) (goodIn_sub (fun _ h => List.mem_cons_of_mem _ (List.mem_append_left _ (List.mem_append_right _ h))) (by decide +kernel))
set_option maxRecDepth 20000 in
theorem gX4_melt_X1_figureAt : GoodIn wsX4_melt (wsV RX4 94 RX1 yX1_figureAt wsX1_figureAt) := goodIn_app (goodIn_of _ (by decide +kernel)) ggX4_melt_X1_figureAt
set_option maxRecDepth 20000 in
theorem ggX4_melt_X4_checkState : GoodIn wsX4_melt wsX4_checkState := goodIn_ca (goodIn_r _ [19, 20, 21] (by decide +kernel) (by decide +kernel)) (goodIn_sub (fun _ h => List.mem_cons_of_mem _ (List.mem_append_right _ h)) (by decide +kernel))
set_option maxRecDepth 20000 in
theorem gX4_melt_X4_checkState : GoodIn wsX4_melt (va_wsS RX4 27 yX4_checkState wsX4_checkState) := goodIn_app (goodIn_of _ (by decide +kernel)) ggX4_melt_X4_checkState
set_option maxRecDepth 20000 in
theorem ggX4_melt_X0_becomeMelted : GoodIn wsX4_melt wsX0_becomeMelted := goodIn_r _ [26, 27, 28, 31, 32, 33, 34, 35, 36, 37, 38, 39, 40, 41] (by decide +kernel) (by decide +kernel)
set_option maxRecDepth 20000 in
theorem gX4_melt_X0_becomeMelted : GoodIn wsX4_melt (wsV RX4 137 RX0 yX0_becomeMelted wsX0_becomeMelted) := goodIn_app (goodIn_of _ (by decide +kernel)) ggX4_melt_X0_becomeMelted
theorem dX4_melt_0 : decode cX4_melt 0 = .ok (.aload_n 0, 1) := by decide +kernel
theorem dX4_melt_1 : decode cX4_melt 1 = .ok (.getfield 10, 3) := by decide +kernel
theorem dX4_melt_4 : decode cX4_melt 4 = .ok (.iload_n 1, 1) := by decide +kernel
theorem dX4_melt_5 : decode cX4_melt 5 = .ok (.invokevirtual 94, 3) := by decide +kernel
theorem dX4_melt_8 : decode cX4_melt 8 = .ok (.astore_n 2, 1) := by decide +kernel
theorem dX4_melt_9 : decode cX4_melt 9 = .ok (.aload_n 2, 1) := by decide +kernel
theorem dX4_melt_10 : decode cX4_melt 10 = .ok (.getfield 110, 3) := by decide +kernel
theorem dX4_melt_13 : decode cX4_melt 13 = .ok (.iconst 5, 1) := by decide +kernel
theorem dX4_melt_14 : decode cX4_melt 14 = .ok (.if_icmp .ne 7, 3) := by decide +kernel
theorem dX4_melt_17 : decode cX4_melt 17 = .ok (.iconst 1, 1) := by decide +kernel
theorem dX4_melt_18 : decode cX4_melt 18 = .ok (.goto 4, 3) := by decide +kernel
theorem dX4_melt_21 : decode cX4_melt 21 = .ok (.iconst 0, 1) := by decide +kernel
theorem dX4_melt_22 : decode cX4_melt 22 = .ok (.invokestatic 27, 3) := by decide +kernel
theorem dX4_melt_25 : decode cX4_melt 25 = .ok (.aload_n 2, 1) := by decide +kernel
theorem dX4_melt_26 : decode cX4_melt 26 = .ok (.getfield 107, 3) := by decide +kernel
theorem dX4_melt_29 : decode cX4_melt 29 = .ok (.iconst 3, 1) := by decide +kernel
theorem dX4_melt_30 : decode cX4_melt 30 = .ok (.if_icmp .le 17, 3) := by decide +kernel
theorem dX4_melt_33 : decode cX4_melt 33 = .ok (.aload_n 0, 1) := by decide +kernel
theorem dX4_melt_34 : decode cX4_melt 34 = .ok (.getfield 10, 3) := by decide +kernel
theorem dX4_melt_37 : decode cX4_melt 37 = .ok (.dup, 1) := by decide +kernel
theorem dX4_melt_38 : decode cX4_melt 38 = .ok (.getfield 134, 3) := by decide +kernel
theorem dX4_melt_41 : decode cX4_melt 41 = .ok (.bipush 20, 2) := by decide +kernel
theorem dX4_melt_43 : decode cX4_melt 43 = .ok (.iadd, 1) := by decide +kernel
theorem dX4_melt_44 : decode cX4_melt 44 = .ok (.putfield 134, 3) := by decide +kernel
theorem dX4_melt_47 : decode cX4_melt 47 = .ok (.aload_n 2, 1) := by decide +kernel
theorem dX4_melt_48 : decode cX4_melt 48 = .ok (.invokevirtual 137, 3) := by decide +kernel
theorem dX4_melt_51 : decode cX4_melt 51 = .ok (.aload_n 0, 1) := by decide +kernel
theorem dX4_melt_52 : decode cX4_melt 52 = .ok (.getfield 10, 3) := by decide +kernel
theorem dX4_melt_55 : decode cX4_melt 55 = .ok (.getfield 134, 3) := by decide +kernel
theorem dX4_melt_58 : decode cX4_melt 58 = .ok (.ireturn, 1) := by decide +kernel
set_option maxRecDepth 20000 in
theorem ggX4_tour_X1_figureAt : GoodIn wsX4_tour wsX1_figureAt := goodIn_ca (goodIn_r _ [11, 12, 13, 14, 15, 16, 17, 18, 76, 77, 78, 79, 80, 81, 82, 83, 84, 85, 86] (by decide +kernel) (by decide +kernel)) (goodIn_sub (fun _ h => List.mem_cons_of_mem _ (List.mem_append_left _ (List.mem_append_left _ (List.mem_append_right _ h)))) (by decide +kernel))
set_option maxRecDepth 20000 in
theorem gX4_tour_X1_figureAt : GoodIn wsX4_tour (wsV RX4 94 RX1 yX1_figureAt wsX1_figureAt) := goodIn_app (goodIn_of _ (by decide +kernel)) ggX4_tour_X1_figureAt
set_option maxRecDepth 20000 in
theorem ggX4_tour_X4_checkArgument : GoodIn wsX4_tour wsX4_checkArgument := goodIn_ca (goodIn_r _ [21, 22, 23] (by decide +kernel) (by decide +kernel)) (goodIn_sub (fun _ h => List.mem_cons_of_mem _ (List.mem_append_left _ (List.mem_append_right _ h))) (by decide +kernel))
set_option maxRecDepth 20000 in
theorem gX4_tour_X4_checkArgument : GoodIn wsX4_tour (va_wsS RX4 19 yX4_checkArgument wsX4_checkArgument) := goodIn_app (goodIn_of _ (by decide +kernel)) ggX4_tour_X4_checkArgument
set_option maxRecDepth 20000 in
theorem ggX4_tour_X0_isReadyInStore : GoodIn wsX4_tour wsX0_isReadyInStore := goodIn_r _ [28, 29, 30, 57, 58, 59, 60, 61, 62, 63, 64, 65, 66, 67] (by decide +kernel) (by decide +kernel)
set_option maxRecDepth 20000 in
theorem gX4_tour_X0_isReadyInStore : GoodIn wsX4_tour (wsV RX4 120 RX0 yX0_isReadyInStore wsX0_isReadyInStore) := goodIn_app (goodIn_of _ (by decide +kernel)) ggX4_tour_X0_isReadyInStore
set_option maxRecDepth 20000 in
theorem ggX4_tour_X4_checkState : GoodIn wsX4_tour wsX4_checkState := goodIn_ca (goodIn_r _ [33, 34, 35] (by decide +kernel) (by decide +kernel)) (goodIn_sub (fun _ h => List.mem_cons_of_mem _ (List.mem_append_right _ h)) (by decide +kernel))
set_option maxRecDepth 20000 in
theorem gX4_tour_X4_checkState : GoodIn wsX4_tour (va_wsS RX4 27 yX4_checkState wsX4_checkState) := goodIn_app (goodIn_of _ (by decide +kernel)) ggX4_tour_X4_checkState
set_option maxRecDepth 20000 in
theorem ggX4_tour_X0_likeness : GoodIn wsX4_tour wsX0_likeness := goodIn_r _ [39, 40, 41, 42, 43, 44, 45, 46, 27, 47, 29, 30, 48, 49, 50, 51, 52, 53, 54, 57, 58, 59, 60, 61, 62, 63, 64, 65, 66, 67, 68, 69, 70, 71, 72, 73, 74, 75] (by decide +kernel) (by decide +kernel)
set_option maxRecDepth 20000 in
theorem gX4_tour_X0_likeness : GoodIn wsX4_tour (wsV RX4 128 RX0 yX0_likeness wsX0_likeness) := goodIn_app (goodIn_of _ (by decide +kernel)) ggX4_tour_X0_likeness
theorem dX4_tour_0 : decode cX4_tour 0 = .ok (.aload_n 0, 1) := by decide +kernel
theorem dX4_tour_1 : decode cX4_tour 1 = .ok (.getfield 10, 3) := by decide +kernel
theorem dX4_tour_4 : decode cX4_tour 4 = .ok (.iload_n 1, 1) := by decide +kernel
theorem dX4_tour_5 : decode cX4_tour 5 = .ok (.invokevirtual 94, 3) := by decide +kernel
theorem dX4_tour_8 : decode cX4_tour 8 = .ok (.astore 4, 2) := by decide +kernel
theorem dX4_tour_10 : decode cX4_tour 10 = .ok (.iload_n 2, 1) := by decide +kernel
theorem dX4_tour_11 : decode cX4_tour 11 = .ok (.iconst 1, 1) := by decide +kernel
theorem dX4_tour_12 : decode cX4_tour 12 = .ok (.iconst 2, 1) := by decide +kernel
theorem dX4_tour_13 : decode cX4_tour 13 = .ok (.invokestatic 19, 3) := by decide +kernel
theorem dX4_tour_16 : decode cX4_tour 16 = .ok (.iload_n 3, 1) := by decide +kernel
theorem dX4_tour_17 : decode cX4_tour 17 = .ok (.iconst 1, 1) := by decide +kernel
theorem dX4_tour_18 : decode cX4_tour 18 = .ok (.bipush 60, 2) := by decide +kernel
theorem dX4_tour_20 : decode cX4_tour 20 = .ok (.invokestatic 19, 3) := by decide +kernel
theorem dX4_tour_23 : decode cX4_tour 23 = .ok (.aload 4, 2) := by decide +kernel
theorem dX4_tour_25 : decode cX4_tour 25 = .ok (.invokevirtual 120, 3) := by decide +kernel
theorem dX4_tour_28 : decode cX4_tour 28 = .ok (.ifCond .eq 18, 3) := by decide +kernel
theorem dX4_tour_31 : decode cX4_tour 31 = .ok (.aload 4, 2) := by decide +kernel
theorem dX4_tour_33 : decode cX4_tour 33 = .ok (.getfield 140, 3) := by decide +kernel
theorem dX4_tour_36 : decode cX4_tour 36 = .ok (.getfield 56, 3) := by decide +kernel
theorem dX4_tour_39 : decode cX4_tour 39 = .ok (.ifCond .eq 7, 3) := by decide +kernel
theorem dX4_tour_42 : decode cX4_tour 42 = .ok (.iconst 1, 1) := by decide +kernel
theorem dX4_tour_43 : decode cX4_tour 43 = .ok (.goto 4, 3) := by decide +kernel
theorem dX4_tour_46 : decode cX4_tour 46 = .ok (.iconst 0, 1) := by decide +kernel
theorem dX4_tour_47 : decode cX4_tour 47 = .ok (.invokestatic 27, 3) := by decide +kernel
theorem dX4_tour_50 : decode cX4_tour 50 = .ok (.aload 4, 2) := by decide +kernel
theorem dX4_tour_52 : decode cX4_tour 52 = .ok (.bipush 6, 2) := by decide +kernel
theorem dX4_tour_54 : decode cX4_tour 54 = .ok (.putfield 110, 3) := by decide +kernel
theorem dX4_tour_57 : decode cX4_tour 57 = .ok (.aload 4, 2) := by decide +kernel
theorem dX4_tour_59 : decode cX4_tour 59 = .ok (.iload_n 2, 1) := by decide +kernel
theorem dX4_tour_60 : decode cX4_tour 60 = .ok (.putfield 144, 3) := by decide +kernel
theorem dX4_tour_63 : decode cX4_tour 63 = .ok (.aload 4, 2) := by decide +kernel
theorem dX4_tour_65 : decode cX4_tour 65 = .ok (.iload_n 3, 1) := by decide +kernel
theorem dX4_tour_66 : decode cX4_tour 66 = .ok (.putfield 147, 3) := by decide +kernel
theorem dX4_tour_69 : decode cX4_tour 69 = .ok (.aload 4, 2) := by decide +kernel
theorem dX4_tour_71 : decode cX4_tour 71 = .ok (.invokevirtual 128, 3) := by decide +kernel
theorem dX4_tour_74 : decode cX4_tour 74 = .ok (.ireturn, 1) := by decide +kernel
set_option maxRecDepth 20000 in
theorem ggX4_room_X4_checkArgument : GoodIn wsX4_room wsX4_checkArgument := goodIn_ca (goodIn_r _ [6, 7, 8] (by decide +kernel) (by decide +kernel)) (goodIn_sub (fun _ h => List.mem_cons_of_mem _ (List.mem_append_left _ (List.mem_append_left _ (List.mem_append_right _ h)))) (by decide +kernel))
set_option maxRecDepth 20000 in
theorem gX4_room_X4_checkArgument : GoodIn wsX4_room (va_wsS RX4 19 yX4_checkArgument wsX4_checkArgument) := goodIn_app (goodIn_of _ (by decide +kernel)) ggX4_room_X4_checkArgument
set_option maxRecDepth 20000 in
theorem ggX4_room_X4_checkState : GoodIn wsX4_room wsX4_checkState := goodIn_ca (goodIn_r _ [11, 12, 13] (by decide +kernel) (by decide +kernel)) (goodIn_sub (fun _ h => List.mem_cons_of_mem _ (List.mem_append_left _ (List.mem_append_right _ h))) (by decide +kernel))
set_option maxRecDepth 20000 in
theorem gX4_room_X4_checkState : GoodIn wsX4_room (va_wsS RX4 27 yX4_checkState wsX4_checkState) := goodIn_app (goodIn_of _ (by decide +kernel)) ggX4_room_X4_checkState
set_option maxRecDepth 20000 in
theorem ggX4_room_X1_addRoom : GoodIn wsX4_room wsX1_addRoom := goodIn_ca (goodIn_r _ [18, 19, 20, 21, 22, 23, 24, 17, 25, 26, 27, 5, 28, 29, 30, 33, 34, 35, 36, 37, 38, 39, 40, 41, 42, 43, 44, 45] (by decide +kernel) (by decide +kernel)) (goodIn_sub (fun _ h => List.mem_cons_of_mem _ (List.mem_append_right _ h)) (by decide +kernel))
set_option maxRecDepth 20000 in
theorem gX4_room_X1_addRoom : GoodIn wsX4_room (wsV RX4 153 RX1 yX1_addRoom wsX1_addRoom) := goodIn_app (goodIn_of _ (by decide +kernel)) ggX4_room_X1_addRoom
theorem dX4_room_0 : decode cX4_room 0 = .ok (.iload_n 1, 1) := by decide +kernel
theorem dX4_room_1 : decode cX4_room 1 = .ok (.iconst 0, 1) := by decide +kernel
theorem dX4_room_2 : decode cX4_room 2 = .ok (.bipush 9, 2) := by decide +kernel
theorem dX4_room_4 : decode cX4_room 4 = .ok (.invokestatic 19, 3) := by decide +kernel
theorem dX4_room_7 : decode cX4_room 7 = .ok (.iload_n 2, 1) := by decide +kernel
theorem dX4_room_8 : decode cX4_room 8 = .ok (.iconst 1, 1) := by decide +kernel
theorem dX4_room_9 : decode cX4_room 9 = .ok (.iconst 4, 1) := by decide +kernel
theorem dX4_room_10 : decode cX4_room 10 = .ok (.invokestatic 19, 3) := by decide +kernel
theorem dX4_room_13 : decode cX4_room 13 = .ok (.aload_n 0, 1) := by decide +kernel
theorem dX4_room_14 : decode cX4_room 14 = .ok (.getfield 10, 3) := by decide +kernel
theorem dX4_room_17 : decode cX4_room 17 = .ok (.getfield 150, 3) := by decide +kernel
theorem dX4_room_20 : decode cX4_room 20 = .ok (.iconst 5, 1) := by decide +kernel
theorem dX4_room_21 : decode cX4_room 21 = .ok (.if_icmp .ge 7, 3) := by decide +kernel
theorem dX4_room_24 : decode cX4_room 24 = .ok (.iconst 1, 1) := by decide +kernel
theorem dX4_room_25 : decode cX4_room 25 = .ok (.goto 4, 3) := by decide +kernel
theorem dX4_room_28 : decode cX4_room 28 = .ok (.iconst 0, 1) := by decide +kernel
theorem dX4_room_29 : decode cX4_room 29 = .ok (.invokestatic 27, 3) := by decide +kernel
theorem dX4_room_32 : decode cX4_room 32 = .ok (.aload_n 0, 1) := by decide +kernel
theorem dX4_room_33 : decode cX4_room 33 = .ok (.getfield 10, 3) := by decide +kernel
theorem dX4_room_36 : decode cX4_room 36 = .ok (.iload_n 1, 1) := by decide +kernel
theorem dX4_room_37 : decode cX4_room 37 = .ok (.iload_n 2, 1) := by decide +kernel
theorem dX4_room_38 : decode cX4_room 38 = .ok (.invokevirtual 153, 3) := by decide +kernel
theorem dX4_room_41 : decode cX4_room 41 = .ok (.ireturn, 1) := by decide +kernel
set_option maxRecDepth 20000 in
theorem ggX4_lamps_X1_roomAt : GoodIn wsX4_lamps wsX1_roomAt := goodIn_ca (goodIn_r _ [7, 8, 9, 10, 11, 12, 13, 14, 24, 25, 26, 27, 28, 29, 30, 31, 32, 33, 34] (by decide +kernel) (by decide +kernel)) (goodIn_sub (fun _ h => List.mem_cons_of_mem _ (List.mem_append_left _ (List.mem_append_right _ h))) (by decide +kernel))
set_option maxRecDepth 20000 in
theorem gX4_lamps_X1_roomAt : GoodIn wsX4_lamps (wsV RX4 156 RX1 yX1_roomAt wsX1_roomAt) := goodIn_app (goodIn_of _ (by decide +kernel)) ggX4_lamps_X1_roomAt
set_option maxRecDepth 20000 in
theorem ggX4_lamps_X4_checkArgument : GoodIn wsX4_lamps wsX4_checkArgument := goodIn_ca (goodIn_r _ [17, 18, 19] (by decide +kernel) (by decide +kernel)) (goodIn_sub (fun _ h => List.mem_cons_of_mem _ (List.mem_append_right _ h)) (by decide +kernel))
set_option maxRecDepth 20000 in
theorem gX4_lamps_X4_checkArgument : GoodIn wsX4_lamps (va_wsS RX4 19 yX4_checkArgument wsX4_checkArgument) := goodIn_app (goodIn_of _ (by decide +kernel)) ggX4_lamps_X4_checkArgument
theorem dX4_lamps_0 : decode cX4_lamps 0 = .ok (.aload_n 0, 1) := by decide +kernel
theorem dX4_lamps_1 : decode cX4_lamps 1 = .ok (.getfield 10, 3) := by decide +kernel
theorem dX4_lamps_4 : decode cX4_lamps 4 = .ok (.iload_n 1, 1) := by decide +kernel
theorem dX4_lamps_5 : decode cX4_lamps 5 = .ok (.invokevirtual 156, 3) := by decide +kernel
theorem dX4_lamps_8 : decode cX4_lamps 8 = .ok (.astore_n 3, 1) := by decide +kernel
theorem dX4_lamps_9 : decode cX4_lamps 9 = .ok (.iload_n 2, 1) := by decide +kernel
theorem dX4_lamps_10 : decode cX4_lamps 10 = .ok (.iconst 0, 1) := by decide +kernel
theorem dX4_lamps_11 : decode cX4_lamps 11 = .ok (.bipush 9, 2) := by decide +kernel
theorem dX4_lamps_13 : decode cX4_lamps 13 = .ok (.invokestatic 19, 3) := by decide +kernel
theorem dX4_lamps_16 : decode cX4_lamps 16 = .ok (.aload_n 3, 1) := by decide +kernel
theorem dX4_lamps_17 : decode cX4_lamps 17 = .ok (.getfield 160, 3) := by decide +kernel
theorem dX4_lamps_20 : decode cX4_lamps 20 = .ok (.istore 4, 2) := by decide +kernel
theorem dX4_lamps_22 : decode cX4_lamps 22 = .ok (.aload_n 3, 1) := by decide +kernel
theorem dX4_lamps_23 : decode cX4_lamps 23 = .ok (.iload_n 2, 1) := by decide +kernel
theorem dX4_lamps_24 : decode cX4_lamps 24 = .ok (.putfield 160, 3) := by decide +kernel
theorem dX4_lamps_27 : decode cX4_lamps 27 = .ok (.iload 4, 2) := by decide +kernel
theorem dX4_lamps_29 : decode cX4_lamps 29 = .ok (.ireturn, 1) := by decide +kernel
set_option maxRecDepth 20000 in
theorem ggX4_show_X1_figureAt : GoodIn wsX4_show wsX1_figureAt := goodIn_ca (goodIn_r _ [10, 11, 12, 13, 14, 15, 16, 17, 99, 100, 101, 102, 103, 104, 105, 106, 107, 108, 109] (by decide +kernel) (by decide +kernel)) (goodIn_sub (fun _ h => List.mem_cons_of_mem _ (List.mem_append_left _ (List.mem_append_right _ h))) (by decide +kernel))
set_option maxRecDepth 20000 in
theorem gX4_show_X1_figureAt : GoodIn wsX4_show (wsV RX4 94 RX1 yX1_figureAt wsX1_figureAt) := goodIn_app (goodIn_of _ (by decide +kernel)) ggX4_show_X1_figureAt
set_option maxRecDepth 20000 in
theorem ggX4_show_X1_roomAt : GoodIn wsX4_show wsX1_roomAt := goodIn_ca (goodIn_r _ [21, 22, 23, 13, 14, 15, 16, 17, 99, 100, 101, 102, 103, 104, 105, 106, 107, 108, 109] (by decide +kernel) (by decide +kernel)) (goodIn_sub (fun _ h => List.mem_cons_of_mem _ (List.mem_append_left _ (List.mem_append_right _ h))) (by decide +kernel))
set_option maxRecDepth 20000 in
theorem gX4_show_X1_roomAt : GoodIn wsX4_show (wsV RX4 156 RX1 yX1_roomAt wsX1_roomAt) := goodIn_app (goodIn_of _ (by decide +kernel)) ggX4_show_X1_roomAt
set_option maxRecDepth 20000 in
theorem ggX4_show_X0_isReadyInStore : GoodIn wsX4_show wsX0_isReadyInStore := goodIn_r _ [28, 29, 30, 78, 79, 80, 81, 82, 83, 84, 85, 86, 87, 88] (by decide +kernel) (by decide +kernel)
set_option maxRecDepth 20000 in
theorem gX4_show_X0_isReadyInStore : GoodIn wsX4_show (wsV RX4 120 RX0 yX0_isReadyInStore wsX0_isReadyInStore) := goodIn_app (goodIn_of _ (by decide +kernel)) ggX4_show_X0_isReadyInStore
set_option maxRecDepth 20000 in
theorem ggX4_show_X4_checkState : GoodIn wsX4_show wsX4_checkState := goodIn_ca (goodIn_r _ [33, 34, 35] (by decide +kernel) (by decide +kernel)) (goodIn_sub (fun _ h => List.mem_cons_of_mem _ (List.mem_append_right _ h)) (by decide +kernel))
set_option maxRecDepth 20000 in
theorem gX4_show_X4_checkState : GoodIn wsX4_show (va_wsS RX4 27 yX4_checkState wsX4_checkState) := goodIn_app (goodIn_of _ (by decide +kernel)) ggX4_show_X4_checkState
set_option maxRecDepth 20000 in
theorem ggX4_show_X0_likeness : GoodIn wsX4_show wsX0_likeness := goodIn_r _ [39, 40, 41, 42, 43, 44, 45, 46, 27, 47, 29, 30, 48, 49, 50, 51, 52, 53, 54, 78, 79, 80, 81, 82, 83, 84, 85, 86, 87, 88, 89, 90, 91, 92, 93, 94, 95, 96] (by decide +kernel) (by decide +kernel)
set_option maxRecDepth 20000 in
theorem gX4_show_X0_likeness : GoodIn wsX4_show (wsV RX4 128 RX0 yX0_likeness wsX0_likeness) := goodIn_app (goodIn_of _ (by decide +kernel)) ggX4_show_X0_likeness
set_option maxRecDepth 20000 in
theorem ggX4_show_X1_figuresIn : GoodIn wsX4_show wsX1_figuresIn := goodIn_r _ [58, 11, 12, 59, 99, 100, 101, 102, 103, 104, 105, 106, 107, 108, 109, 78, 79, 80, 81, 82, 83, 84, 85, 86, 87, 88] (by decide +kernel) (by decide +kernel)
set_option maxRecDepth 20000 in
theorem gX4_show_X1_figuresIn : GoodIn wsX4_show (wsV RX4 165 RX1 yX1_figuresIn wsX1_figuresIn) := goodIn_app (goodIn_of _ (by decide +kernel)) ggX4_show_X1_figuresIn
set_option maxRecDepth 20000 in
theorem ggX4_show_X1_shownOf : GoodIn wsX4_show wsX1_shownOf := goodIn_r _ [63, 11, 12, 64, 65, 66, 67, 27, 68, 30, 99, 100, 101, 102, 103, 104, 105, 106, 107, 108, 109, 78, 79, 80, 81, 82, 83, 84, 85, 86, 87, 88] (by decide +kernel) (by decide +kernel)
set_option maxRecDepth 20000 in
theorem gX4_show_X1_shownOf : GoodIn wsX4_show (wsV RX4 171 RX1 yX1_shownOf wsX1_shownOf) := goodIn_app (goodIn_of _ (by decide +kernel)) ggX4_show_X1_shownOf
set_option maxRecDepth 20000 in
theorem ggX4_show_X0_draw : GoodIn wsX4_show wsX0_draw := goodIn_r _ [72, 42, 73, 74, 66, 67, 27, 68, 30, 75, 37, 38, 39, 40, 41, 43, 44, 45, 46, 47, 29, 48, 49, 50, 51, 52, 53, 54, 78, 79, 80, 81, 82, 83, 84, 85, 86, 87, 88, 89, 90, 91, 92, 93, 94, 95, 96] (by decide +kernel) (by decide +kernel)
set_option maxRecDepth 20000 in
theorem gX4_show_X0_draw : GoodIn wsX4_show (wsV RX4 174 RX0 yX0_draw wsX0_draw) := goodIn_app (goodIn_of _ (by decide +kernel)) ggX4_show_X0_draw
theorem dX4_show_0 : decode cX4_show 0 = .ok (.aload_n 0, 1) := by decide +kernel
theorem dX4_show_1 : decode cX4_show 1 = .ok (.getfield 10, 3) := by decide +kernel
theorem dX4_show_4 : decode cX4_show 4 = .ok (.iload_n 1, 1) := by decide +kernel
theorem dX4_show_5 : decode cX4_show 5 = .ok (.invokevirtual 94, 3) := by decide +kernel
theorem dX4_show_8 : decode cX4_show 8 = .ok (.astore_n 3, 1) := by decide +kernel
theorem dX4_show_9 : decode cX4_show 9 = .ok (.aload_n 0, 1) := by decide +kernel
theorem dX4_show_10 : decode cX4_show 10 = .ok (.getfield 10, 3) := by decide +kernel
theorem dX4_show_13 : decode cX4_show 13 = .ok (.iload_n 2, 1) := by decide +kernel
theorem dX4_show_14 : decode cX4_show 14 = .ok (.invokevirtual 156, 3) := by decide +kernel
theorem dX4_show_17 : decode cX4_show 17 = .ok (.astore 4, 2) := by decide +kernel
theorem dX4_show_19 : decode cX4_show 19 = .ok (.aload_n 3, 1) := by decide +kernel
theorem dX4_show_20 : decode cX4_show 20 = .ok (.invokevirtual 120, 3) := by decide +kernel
theorem dX4_show_23 : decode cX4_show 23 = .ok (.ifCond .eq 17, 3) := by decide +kernel
theorem dX4_show_26 : decode cX4_show 26 = .ok (.aload_n 3, 1) := by decide +kernel
theorem dX4_show_27 : decode cX4_show 27 = .ok (.getfield 140, 3) := by decide +kernel
theorem dX4_show_30 : decode cX4_show 30 = .ok (.getfield 56, 3) := by decide +kernel
theorem dX4_show_33 : decode cX4_show 33 = .ok (.ifCond .eq 7, 3) := by decide +kernel
theorem dX4_show_36 : decode cX4_show 36 = .ok (.iconst 1, 1) := by decide +kernel
theorem dX4_show_37 : decode cX4_show 37 = .ok (.goto 4, 3) := by decide +kernel
theorem dX4_show_40 : decode cX4_show 40 = .ok (.iconst 0, 1) := by decide +kernel
theorem dX4_show_41 : decode cX4_show 41 = .ok (.invokestatic 27, 3) := by decide +kernel
theorem dX4_show_44 : decode cX4_show 44 = .ok (.aload_n 3, 1) := by decide +kernel
theorem dX4_show_45 : decode cX4_show 45 = .ok (.invokevirtual 128, 3) := by decide +kernel
theorem dX4_show_48 : decode cX4_show 48 = .ok (.bipush 30, 2) := by decide +kernel
theorem dX4_show_50 : decode cX4_show 50 = .ok (.if_icmp .lt 7, 3) := by decide +kernel
theorem dX4_show_53 : decode cX4_show 53 = .ok (.iconst 1, 1) := by decide +kernel
theorem dX4_show_54 : decode cX4_show 54 = .ok (.goto 4, 3) := by decide +kernel
theorem dX4_show_57 : decode cX4_show 57 = .ok (.iconst 0, 1) := by decide +kernel
theorem dX4_show_58 : decode cX4_show 58 = .ok (.invokestatic 27, 3) := by decide +kernel
theorem dX4_show_61 : decode cX4_show 61 = .ok (.aload_n 0, 1) := by decide +kernel
theorem dX4_show_62 : decode cX4_show 62 = .ok (.getfield 10, 3) := by decide +kernel
theorem dX4_show_65 : decode cX4_show 65 = .ok (.iload_n 2, 1) := by decide +kernel
theorem dX4_show_66 : decode cX4_show 66 = .ok (.iload_n 2, 1) := by decide +kernel
theorem dX4_show_67 : decode cX4_show 67 = .ok (.invokevirtual 165, 3) := by decide +kernel
theorem dX4_show_70 : decode cX4_show 70 = .ok (.aload 4, 2) := by decide +kernel
theorem dX4_show_72 : decode cX4_show 72 = .ok (.getfield 168, 3) := by decide +kernel
theorem dX4_show_75 : decode cX4_show 75 = .ok (.if_icmp .ge 7, 3) := by decide +kernel
theorem dX4_show_78 : decode cX4_show 78 = .ok (.iconst 1, 1) := by decide +kernel
theorem dX4_show_79 : decode cX4_show 79 = .ok (.goto 4, 3) := by decide +kernel
theorem dX4_show_82 : decode cX4_show 82 = .ok (.iconst 0, 1) := by decide +kernel
theorem dX4_show_83 : decode cX4_show 83 = .ok (.invokestatic 27, 3) := by decide +kernel
theorem dX4_show_86 : decode cX4_show 86 = .ok (.aload_n 0, 1) := by decide +kernel
theorem dX4_show_87 : decode cX4_show 87 = .ok (.getfield 10, 3) := by decide +kernel
theorem dX4_show_90 : decode cX4_show 90 = .ok (.aload_n 3, 1) := by decide +kernel
theorem dX4_show_91 : decode cX4_show 91 = .ok (.getfield 140, 3) := by decide +kernel
theorem dX4_show_94 : decode cX4_show 94 = .ok (.invokevirtual 171, 3) := by decide +kernel
theorem dX4_show_97 : decode cX4_show 97 = .ok (.iconst (-1), 1) := by decide +kernel
theorem dX4_show_98 : decode cX4_show 98 = .ok (.if_icmp .ne 7, 3) := by decide +kernel
theorem dX4_show_101 : decode cX4_show 101 = .ok (.iconst 1, 1) := by decide +kernel
theorem dX4_show_102 : decode cX4_show 102 = .ok (.goto 4, 3) := by decide +kernel
theorem dX4_show_105 : decode cX4_show 105 = .ok (.iconst 0, 1) := by decide +kernel
theorem dX4_show_106 : decode cX4_show 106 = .ok (.invokestatic 27, 3) := by decide +kernel
theorem dX4_show_109 : decode cX4_show 109 = .ok (.aload_n 3, 1) := by decide +kernel
theorem dX4_show_110 : decode cX4_show 110 = .ok (.iload_n 2, 1) := by decide +kernel
theorem dX4_show_111 : decode cX4_show 111 = .ok (.putfield 110, 3) := by decide +kernel
theorem dX4_show_114 : decode cX4_show 114 = .ok (.aload_n 3, 1) := by decide +kernel
theorem dX4_show_115 : decode cX4_show 115 = .ok (.invokevirtual 174, 3) := by decide +kernel
theorem dX4_show_118 : decode cX4_show 118 = .ok (.ireturn, 1) := by decide +kernel
set_option maxRecDepth 20000 in
theorem ggX4_take_X1_figureAt : GoodIn wsX4_take wsX1_figureAt := goodIn_ca (goodIn_r _ [7, 8, 9, 10, 11, 12, 13, 14, 39, 40, 41, 42, 43, 44, 45, 46, 47, 48, 49] (by decide +kernel) (by decide +kernel)) (goodIn_sub (fun _ h => List.mem_cons_of_mem _ (List.mem_append_left _ (List.mem_append_right _ h))) (by decide +kernel))
set_option maxRecDepth 20000 in
theorem gX4_take_X1_figureAt : GoodIn wsX4_take (wsV RX4 94 RX1 yX1_figureAt wsX1_figureAt) := goodIn_app (goodIn_of _ (by decide +kernel)) ggX4_take_X1_figureAt
set_option maxRecDepth 20000 in
theorem ggX4_take_X0_isShown : GoodIn wsX4_take wsX0_isShown := goodIn_r _ [19, 20, 28, 29, 30, 31, 32, 33, 34, 35, 36, 37, 38] (by decide +kernel) (by decide +kernel)
set_option maxRecDepth 20000 in
theorem gX4_take_X0_isShown : GoodIn wsX4_take (wsV RX4 177 RX0 yX0_isShown wsX0_isShown) := goodIn_app (goodIn_of _ (by decide +kernel)) ggX4_take_X0_isShown
set_option maxRecDepth 20000 in
theorem ggX4_take_X4_checkState : GoodIn wsX4_take wsX4_checkState := goodIn_ca (goodIn_r _ [23, 24, 25] (by decide +kernel) (by decide +kernel)) (goodIn_sub (fun _ h => List.mem_cons_of_mem _ (List.mem_append_right _ h)) (by decide +kernel))
set_option maxRecDepth 20000 in
theorem gX4_take_X4_checkState : GoodIn wsX4_take (va_wsS RX4 27 yX4_checkState wsX4_checkState) := goodIn_app (goodIn_of _ (by decide +kernel)) ggX4_take_X4_checkState
theorem dX4_take_0 : decode cX4_take 0 = .ok (.aload_n 0, 1) := by decide +kernel
theorem dX4_take_1 : decode cX4_take 1 = .ok (.getfield 10, 3) := by decide +kernel
theorem dX4_take_4 : decode cX4_take 4 = .ok (.iload_n 1, 1) := by decide +kernel
theorem dX4_take_5 : decode cX4_take 5 = .ok (.invokevirtual 94, 3) := by decide +kernel
theorem dX4_take_8 : decode cX4_take 8 = .ok (.astore_n 2, 1) := by decide +kernel
theorem dX4_take_9 : decode cX4_take 9 = .ok (.aload_n 2, 1) := by decide +kernel
theorem dX4_take_10 : decode cX4_take 10 = .ok (.invokevirtual 177, 3) := by decide +kernel
theorem dX4_take_13 : decode cX4_take 13 = .ok (.invokestatic 27, 3) := by decide +kernel
theorem dX4_take_16 : decode cX4_take 16 = .ok (.aload_n 2, 1) := by decide +kernel
theorem dX4_take_17 : decode cX4_take 17 = .ok (.getfield 110, 3) := by decide +kernel
theorem dX4_take_20 : decode cX4_take 20 = .ok (.istore_n 3, 1) := by decide +kernel
theorem dX4_take_21 : decode cX4_take 21 = .ok (.aload_n 2, 1) := by decide +kernel
theorem dX4_take_22 : decode cX4_take 22 = .ok (.iconst 5, 1) := by decide +kernel
theorem dX4_take_23 : decode cX4_take 23 = .ok (.putfield 110, 3) := by decide +kernel
theorem dX4_take_26 : decode cX4_take 26 = .ok (.iload_n 3, 1) := by decide +kernel
theorem dX4_take_27 : decode cX4_take 27 = .ok (.ireturn, 1) := by decide +kernel
set_option maxRecDepth 20000 in
theorem ggX4_clean_X4_checkIndex : GoodIn wsX4_clean wsX4_checkIndex := goodIn_ca (goodIn_r _ [7, 8, 9] (by decide +kernel) (by decide +kernel)) (goodIn_sub (fun _ h => List.mem_cons_of_mem _ (List.mem_append_right _ h)) (by decide +kernel))
set_option maxRecDepth 20000 in
theorem gX4_clean_X4_checkIndex : GoodIn wsX4_clean (va_wsS RX4 39 yX4_checkIndex wsX4_checkIndex) := goodIn_app (goodIn_of _ (by decide +kernel)) ggX4_clean_X4_checkIndex
set_option maxRecDepth 20000 in
theorem ggX4_clean_X1_cleanFiguresIn : GoodIn wsX4_clean wsX1_cleanFiguresIn := goodIn_r _ [14, 15, 16, 17, 18, 19, 20, 21, 22, 25, 26, 27, 28, 29, 30, 31, 32, 33, 34, 35, 36, 37, 38, 39, 40, 41, 42, 43, 44, 45, 46] (by decide +kernel) (by decide +kernel)
set_option maxRecDepth 20000 in
theorem gX4_clean_X1_cleanFiguresIn : GoodIn wsX4_clean (wsV RX4 180 RX1 yX1_cleanFiguresIn wsX1_cleanFiguresIn) := goodIn_app (goodIn_of _ (by decide +kernel)) ggX4_clean_X1_cleanFiguresIn
theorem dX4_clean_0 : decode cX4_clean 0 = .ok (.iload_n 1, 1) := by decide +kernel
theorem dX4_clean_1 : decode cX4_clean 1 = .ok (.aload_n 0, 1) := by decide +kernel
theorem dX4_clean_2 : decode cX4_clean 2 = .ok (.getfield 10, 3) := by decide +kernel
theorem dX4_clean_5 : decode cX4_clean 5 = .ok (.getfield 150, 3) := by decide +kernel
theorem dX4_clean_8 : decode cX4_clean 8 = .ok (.invokestatic 39, 3) := by decide +kernel
theorem dX4_clean_11 : decode cX4_clean 11 = .ok (.aload_n 0, 1) := by decide +kernel
theorem dX4_clean_12 : decode cX4_clean 12 = .ok (.getfield 10, 3) := by decide +kernel
theorem dX4_clean_15 : decode cX4_clean 15 = .ok (.dup, 1) := by decide +kernel
theorem dX4_clean_16 : decode cX4_clean 16 = .ok (.getfield 85, 3) := by decide +kernel
theorem dX4_clean_19 : decode cX4_clean 19 = .ok (.iconst 5, 1) := by decide +kernel
theorem dX4_clean_20 : decode cX4_clean 20 = .ok (.isub, 1) := by decide +kernel
theorem dX4_clean_21 : decode cX4_clean 21 = .ok (.putfield 85, 3) := by decide +kernel
theorem dX4_clean_24 : decode cX4_clean 24 = .ok (.aload_n 0, 1) := by decide +kernel
theorem dX4_clean_25 : decode cX4_clean 25 = .ok (.getfield 10, 3) := by decide +kernel
theorem dX4_clean_28 : decode cX4_clean 28 = .ok (.iload_n 1, 1) := by decide +kernel
theorem dX4_clean_29 : decode cX4_clean 29 = .ok (.invokevirtual 180, 3) := by decide +kernel
theorem dX4_clean_32 : decode cX4_clean 32 = .ok (.aload_n 0, 1) := by decide +kernel
theorem dX4_clean_33 : decode cX4_clean 33 = .ok (.getfield 10, 3) := by decide +kernel
theorem dX4_clean_36 : decode cX4_clean 36 = .ok (.getfield 85, 3) := by decide +kernel
theorem dX4_clean_39 : decode cX4_clean 39 = .ok (.ireturn, 1) := by decide +kernel
set_option maxRecDepth 20000 in
theorem ggX4_price_X4_checkArgument : GoodIn wsX4_price wsX4_checkArgument := goodIn_ca (goodIn_r _ [6, 7, 8] (by decide +kernel) (by decide +kernel)) (goodIn_sub (fun _ h => List.mem_cons_of_mem _ (List.mem_append_right _ h)) (by decide +kernel))
set_option maxRecDepth 20000 in
theorem gX4_price_X4_checkArgument : GoodIn wsX4_price (va_wsS RX4 19 yX4_checkArgument wsX4_checkArgument) := goodIn_app (goodIn_of _ (by decide +kernel)) ggX4_price_X4_checkArgument
theorem dX4_price_0 : decode cX4_price 0 = .ok (.iload_n 1, 1) := by decide +kernel
theorem dX4_price_1 : decode cX4_price 1 = .ok (.iconst 0, 1) := by decide +kernel
theorem dX4_price_2 : decode cX4_price 2 = .ok (.bipush 20, 2) := by decide +kernel
theorem dX4_price_4 : decode cX4_price 4 = .ok (.invokestatic 19, 3) := by decide +kernel
theorem dX4_price_7 : decode cX4_price 7 = .ok (.aload_n 0, 1) := by decide +kernel
theorem dX4_price_8 : decode cX4_price 8 = .ok (.getfield 10, 3) := by decide +kernel
theorem dX4_price_11 : decode cX4_price 11 = .ok (.getfield 183, 3) := by decide +kernel
theorem dX4_price_14 : decode cX4_price 14 = .ok (.istore_n 2, 1) := by decide +kernel
theorem dX4_price_15 : decode cX4_price 15 = .ok (.aload_n 0, 1) := by decide +kernel
theorem dX4_price_16 : decode cX4_price 16 = .ok (.getfield 10, 3) := by decide +kernel
theorem dX4_price_19 : decode cX4_price 19 = .ok (.iload_n 1, 1) := by decide +kernel
theorem dX4_price_20 : decode cX4_price 20 = .ok (.putfield 183, 3) := by decide +kernel
theorem dX4_price_23 : decode cX4_price 23 = .ok (.iload_n 2, 1) := by decide +kernel
theorem dX4_price_24 : decode cX4_price 24 = .ok (.ireturn, 1) := by decide +kernel
set_option maxRecDepth 20000 in
theorem ggX4_pass_X4_checkArgument : GoodIn wsX4_pass wsX4_checkArgument := goodIn_ca (goodIn_r _ [5, 6, 7] (by decide +kernel) (by decide +kernel)) (goodIn_sub (fun _ h => List.mem_cons_of_mem _ (List.mem_append_left _ (List.mem_append_right _ h))) (by decide +kernel))
set_option maxRecDepth 20000 in
theorem gX4_pass_X4_checkArgument : GoodIn wsX4_pass (va_wsS RX4 19 yX4_checkArgument wsX4_checkArgument) := goodIn_app (goodIn_of _ (by decide +kernel)) ggX4_pass_X4_checkArgument
set_option maxRecDepth 20000 in
theorem ggX4_pass_X1_passDay : GoodIn wsX4_pass wsX1_passDay := goodIn_ca (goodIn_r _ [12, 13, 14, 15, 16, 17, 18, 19, 11, 20, 21, 22, 23, 24, 25, 26, 27, 28, 29, 30, 31, 32, 33, 34, 35, 36, 37, 38, 39, 40, 41, 42, 43, 44, 45, 46, 47, 48, 49, 50, 51, 52, 53, 54, 55, 56, 57, 58, 59, 60, 61, 62, 63, 64, 65, 66, 67, 68, 69, 70, 71, 72, 73, 74, 75, 76, 77, 78, 79, 80, 81, 82, 83, 84, 85, 86, 87, 88, 89, 90, 91, 92, 93, 94, 95, 96, 97, 98, 99, 4, 100, 101, 102, 103, 104, 105, 106, 107, 108, 109, 110, 111, 112, 113, 114, 115, 116, 117, 118, 119, 120, 121, 122, 123, 124, 125, 126, 129, 130, 131, 132, 133, 134, 135, 136, 137, 138, 139, 140, 141, 142, 143, 144, 145, 146, 147, 148, 149, 150, 151, 152, 153, 154, 155, 156, 157, 158, 159, 160] (by decide +kernel) (by decide +kernel)) (goodIn_sub (fun _ h => List.mem_cons_of_mem _ (List.mem_append_right _ h)) (by decide +kernel))
set_option maxRecDepth 20000 in
theorem gX4_pass_X1_passDay : GoodIn wsX4_pass (wsV RX4 186 RX1 yX1_passDay wsX1_passDay) := goodIn_app (goodIn_of _ (by decide +kernel)) ggX4_pass_X1_passDay
theorem dX4_pass_0 : decode cX4_pass 0 = .ok (.iload_n 1, 1) := by decide +kernel
theorem dX4_pass_1 : decode cX4_pass 1 = .ok (.iconst 1, 1) := by decide +kernel
theorem dX4_pass_2 : decode cX4_pass 2 = .ok (.bipush 40, 2) := by decide +kernel
theorem dX4_pass_4 : decode cX4_pass 4 = .ok (.invokestatic 19, 3) := by decide +kernel
theorem dX4_pass_7 : decode cX4_pass 7 = .ok (.iload_n 2, 1) := by decide +kernel
theorem dX4_pass_8 : decode cX4_pass 8 = .ok (.iconst 0, 1) := by decide +kernel
theorem dX4_pass_9 : decode cX4_pass 9 = .ok (.sipush 2000, 3) := by decide +kernel
theorem dX4_pass_12 : decode cX4_pass 12 = .ok (.invokestatic 19, 3) := by decide +kernel
theorem dX4_pass_15 : decode cX4_pass 15 = .ok (.iload_n 3, 1) := by decide +kernel
theorem dX4_pass_16 : decode cX4_pass 16 = .ok (.iconst 0, 1) := by decide +kernel
theorem dX4_pass_17 : decode cX4_pass 17 = .ok (.bipush 40, 2) := by decide +kernel
theorem dX4_pass_19 : decode cX4_pass 19 = .ok (.invokestatic 19, 3) := by decide +kernel
theorem dX4_pass_22 : decode cX4_pass 22 = .ok (.iconst 0, 1) := by decide +kernel
theorem dX4_pass_23 : decode cX4_pass 23 = .ok (.istore 4, 2) := by decide +kernel
theorem dX4_pass_25 : decode cX4_pass 25 = .ok (.iconst 0, 1) := by decide +kernel
theorem dX4_pass_26 : decode cX4_pass 26 = .ok (.istore 5, 2) := by decide +kernel
theorem dX4_pass_28 : decode cX4_pass 28 = .ok (.iload 5, 2) := by decide +kernel
theorem dX4_pass_30 : decode cX4_pass 30 = .ok (.iload_n 1, 1) := by decide +kernel
theorem dX4_pass_31 : decode cX4_pass 31 = .ok (.if_icmp .ge 23, 3) := by decide +kernel
theorem dX4_pass_34 : decode cX4_pass 34 = .ok (.iload 4, 2) := by decide +kernel
theorem dX4_pass_36 : decode cX4_pass 36 = .ok (.aload_n 0, 1) := by decide +kernel
theorem dX4_pass_37 : decode cX4_pass 37 = .ok (.getfield 10, 3) := by decide +kernel
theorem dX4_pass_40 : decode cX4_pass 40 = .ok (.iload_n 2, 1) := by decide +kernel
theorem dX4_pass_41 : decode cX4_pass 41 = .ok (.iload_n 3, 1) := by decide +kernel
theorem dX4_pass_42 : decode cX4_pass 42 = .ok (.invokevirtual 186, 3) := by decide +kernel
theorem dX4_pass_45 : decode cX4_pass 45 = .ok (.iadd, 1) := by decide +kernel
theorem dX4_pass_46 : decode cX4_pass 46 = .ok (.istore 4, 2) := by decide +kernel
theorem dX4_pass_48 : decode cX4_pass 48 = .ok (.iinc 5 1, 3) := by decide +kernel
theorem dX4_pass_51 : decode cX4_pass 51 = .ok (.goto (-23), 3) := by decide +kernel
theorem dX4_pass_54 : decode cX4_pass 54 = .ok (.iload 4, 2) := by decide +kernel
theorem dX4_pass_56 : decode cX4_pass 56 = .ok (.ireturn, 1) := by decide +kernel
set_option maxRecDepth 20000 in
theorem ggX4_ofPerson_X1_personAt : GoodIn wsX4_ofPerson wsX1_personAt := goodIn_ca (goodIn_r _ [11, 12, 13, 14, 15, 16, 17, 18, 54, 55, 56, 57, 58, 59, 60, 61, 62, 63, 64] (by decide +kernel) (by decide +kernel)) (goodIn_sub (fun _ h => List.mem_cons_of_mem _ (List.mem_append_left _ (List.mem_append_right _ h))) (by decide +kernel))
set_option maxRecDepth 20000 in
theorem gX4_ofPerson_X1_personAt : GoodIn wsX4_ofPerson (wsV RX4 35 RX1 yX1_personAt wsX1_personAt) := goodIn_app (goodIn_of _ (by decide +kernel)) ggX4_ofPerson_X1_personAt
set_option maxRecDepth 20000 in
theorem ggX4_ofPerson_X4_checkArgument : GoodIn wsX4_ofPerson wsX4_checkArgument := goodIn_ca (goodIn_r _ [21, 22, 23] (by decide +kernel) (by decide +kernel)) (goodIn_sub (fun _ h => List.mem_cons_of_mem _ (List.mem_append_right _ h)) (by decide +kernel))
set_option maxRecDepth 20000 in
theorem gX4_ofPerson_X4_checkArgument : GoodIn wsX4_ofPerson (va_wsS RX4 19 yX4_checkArgument wsX4_checkArgument) := goodIn_app (goodIn_of _ (by decide +kernel)) ggX4_ofPerson_X4_checkArgument
set_option maxRecDepth 20000 in
theorem ggX4_ofPerson_X2_doubt : GoodIn wsX4_ofPerson wsX2_doubt := goodIn_r _ [28, 29, 30, 46, 47, 48, 49, 50, 51, 52, 53] (by decide +kernel) (by decide +kernel)
set_option maxRecDepth 20000 in
theorem gX4_ofPerson_X2_doubt : GoodIn wsX4_ofPerson (wsV RX4 189 RX2 yX2_doubt wsX2_doubt) := goodIn_app (goodIn_of _ (by decide +kernel)) ggX4_ofPerson_X2_doubt
set_option maxRecDepth 20000 in
theorem ggX4_ofPerson_X1_shownOf : GoodIn wsX4_ofPerson wsX1_shownOf := goodIn_r _ [34, 35, 36, 37, 38, 39, 40, 41, 42, 43, 54, 55, 56, 57, 58, 59, 60, 61, 62, 63, 64, 65, 66, 67, 68, 69, 70, 71, 72, 73, 74, 75] (by decide +kernel) (by decide +kernel)
set_option maxRecDepth 20000 in
theorem gX4_ofPerson_X1_shownOf : GoodIn wsX4_ofPerson (wsV RX4 171 RX1 yX1_shownOf wsX1_shownOf) := goodIn_app (goodIn_of _ (by decide +kernel)) ggX4_ofPerson_X1_shownOf
theorem dX4_ofPerson_0 : decode cX4_ofPerson 0 = .ok (.aload_n 0, 1) := by decide +kernel
theorem dX4_ofPerson_1 : decode cX4_ofPerson 1 = .ok (.getfield 10, 3) := by decide +kernel
theorem dX4_ofPerson_4 : decode cX4_ofPerson 4 = .ok (.iload_n 1, 1) := by decide +kernel
theorem dX4_ofPerson_5 : decode cX4_ofPerson 5 = .ok (.invokevirtual 35, 3) := by decide +kernel
theorem dX4_ofPerson_8 : decode cX4_ofPerson 8 = .ok (.astore_n 3, 1) := by decide +kernel
theorem dX4_ofPerson_9 : decode cX4_ofPerson 9 = .ok (.iload_n 2, 1) := by decide +kernel
theorem dX4_ofPerson_10 : decode cX4_ofPerson 10 = .ok (.iconst 0, 1) := by decide +kernel
theorem dX4_ofPerson_11 : decode cX4_ofPerson 11 = .ok (.bipush 10, 2) := by decide +kernel
theorem dX4_ofPerson_13 : decode cX4_ofPerson 13 = .ok (.invokestatic 19, 3) := by decide +kernel
theorem dX4_ofPerson_16 : decode cX4_ofPerson 16 = .ok (.iload_n 2, 1) := by decide +kernel
theorem dX4_ofPerson_17 : decode cX4_ofPerson 17 = .ok (.iconst 3, 1) := by decide +kernel
theorem dX4_ofPerson_18 : decode cX4_ofPerson 18 = .ok (.if_icmp .ge 10, 3) := by decide +kernel
theorem dX4_ofPerson_21 : decode cX4_ofPerson 21 = .ok (.aload_n 3, 1) := by decide +kernel
theorem dX4_ofPerson_22 : decode cX4_ofPerson 22 = .ok (.getfield 53, 3) := by decide +kernel
theorem dX4_ofPerson_25 : decode cX4_ofPerson 25 = .ok (.iload_n 2, 1) := by decide +kernel
theorem dX4_ofPerson_26 : decode cX4_ofPerson 26 = .ok (.iaload, 1) := by decide +kernel
theorem dX4_ofPerson_27 : decode cX4_ofPerson 27 = .ok (.ireturn, 1) := by decide +kernel
theorem dX4_ofPerson_28 : decode cX4_ofPerson 28 = .ok (.iload_n 2, 1) := by decide +kernel
theorem dX4_ofPerson_29 : decode cX4_ofPerson 29 = .ok (.bipush 6, 2) := by decide +kernel
theorem dX4_ofPerson_31 : decode cX4_ofPerson 31 = .ok (.if_icmp .ge 12, 3) := by decide +kernel
theorem dX4_ofPerson_34 : decode cX4_ofPerson 34 = .ok (.aload_n 3, 1) := by decide +kernel
theorem dX4_ofPerson_35 : decode cX4_ofPerson 35 = .ok (.getfield 43, 3) := by decide +kernel
theorem dX4_ofPerson_38 : decode cX4_ofPerson 38 = .ok (.iload_n 2, 1) := by decide +kernel
theorem dX4_ofPerson_39 : decode cX4_ofPerson 39 = .ok (.iconst 3, 1) := by decide +kernel
theorem dX4_ofPerson_40 : decode cX4_ofPerson 40 = .ok (.isub, 1) := by decide +kernel
theorem dX4_ofPerson_41 : decode cX4_ofPerson 41 = .ok (.iaload, 1) := by decide +kernel
theorem dX4_ofPerson_42 : decode cX4_ofPerson 42 = .ok (.ireturn, 1) := by decide +kernel
theorem dX4_ofPerson_43 : decode cX4_ofPerson 43 = .ok (.iload_n 2, 1) := by decide +kernel
theorem dX4_ofPerson_44 : decode cX4_ofPerson 44 = .ok (.tableswitch 60 6 9 #[32, 45, 50, 55], 32) := by decide +kernel
theorem dX4_ofPerson_76 : decode cX4_ofPerson 76 = .ok (.aload_n 3, 1) := by decide +kernel
theorem dX4_ofPerson_77 : decode cX4_ofPerson 77 = .ok (.getfield 56, 3) := by decide +kernel
theorem dX4_ofPerson_80 : decode cX4_ofPerson 80 = .ok (.ifCond .eq 7, 3) := by decide +kernel
theorem dX4_ofPerson_83 : decode cX4_ofPerson 83 = .ok (.iconst 1, 1) := by decide +kernel
theorem dX4_ofPerson_84 : decode cX4_ofPerson 84 = .ok (.goto 4, 3) := by decide +kernel
theorem dX4_ofPerson_87 : decode cX4_ofPerson 87 = .ok (.iconst 0, 1) := by decide +kernel
theorem dX4_ofPerson_88 : decode cX4_ofPerson 88 = .ok (.ireturn, 1) := by decide +kernel
theorem dX4_ofPerson_89 : decode cX4_ofPerson 89 = .ok (.aload_n 3, 1) := by decide +kernel
theorem dX4_ofPerson_90 : decode cX4_ofPerson 90 = .ok (.getfield 82, 3) := by decide +kernel
theorem dX4_ofPerson_93 : decode cX4_ofPerson 93 = .ok (.ireturn, 1) := by decide +kernel
theorem dX4_ofPerson_94 : decode cX4_ofPerson 94 = .ok (.aload_n 3, 1) := by decide +kernel
theorem dX4_ofPerson_95 : decode cX4_ofPerson 95 = .ok (.invokevirtual 189, 3) := by decide +kernel
theorem dX4_ofPerson_98 : decode cX4_ofPerson 98 = .ok (.ireturn, 1) := by decide +kernel
theorem dX4_ofPerson_99 : decode cX4_ofPerson 99 = .ok (.aload_n 3, 1) := by decide +kernel
theorem dX4_ofPerson_100 : decode cX4_ofPerson 100 = .ok (.getfield 192, 3) := by decide +kernel
theorem dX4_ofPerson_103 : decode cX4_ofPerson 103 = .ok (.ireturn, 1) := by decide +kernel
theorem dX4_ofPerson_104 : decode cX4_ofPerson 104 = .ok (.aload_n 0, 1) := by decide +kernel
theorem dX4_ofPerson_105 : decode cX4_ofPerson 105 = .ok (.getfield 10, 3) := by decide +kernel
theorem dX4_ofPerson_108 : decode cX4_ofPerson 108 = .ok (.aload_n 3, 1) := by decide +kernel
theorem dX4_ofPerson_109 : decode cX4_ofPerson 109 = .ok (.invokevirtual 171, 3) := by decide +kernel
theorem dX4_ofPerson_112 : decode cX4_ofPerson 112 = .ok (.ireturn, 1) := by decide +kernel
set_option maxRecDepth 20000 in
theorem ggX4_known_X1_personAt : GoodIn wsX4_known wsX1_personAt := goodIn_ca (goodIn_r _ [8, 9, 10, 11, 12, 13, 14, 15, 27, 28, 29, 30, 31, 32, 33, 34, 35, 36, 37] (by decide +kernel) (by decide +kernel)) (goodIn_sub (fun _ h => List.mem_cons_of_mem _ (List.mem_append_right _ h)) (by decide +kernel))
set_option maxRecDepth 20000 in
theorem gX4_known_X1_personAt : GoodIn wsX4_known (wsV RX4 35 RX1 yX1_personAt wsX1_personAt) := goodIn_app (goodIn_of _ (by decide +kernel)) ggX4_known_X1_personAt
set_option maxRecDepth 20000 in
theorem ggX4_known_X4_checkIndex : GoodIn wsX4_known wsX4_checkIndex := goodIn_ca (goodIn_r _ [13, 14, 15] (by decide +kernel) (by decide +kernel)) (goodIn_sub (fun _ h => List.mem_cons_of_mem _ (List.mem_append_right _ h)) (by decide +kernel))
set_option maxRecDepth 20000 in
theorem gX4_known_X4_checkIndex : GoodIn wsX4_known (va_wsS RX4 39 yX4_checkIndex wsX4_checkIndex) := goodIn_app (goodIn_of _ (by decide +kernel)) ggX4_known_X4_checkIndex
theorem dX4_known_0 : decode cX4_known 0 = .ok (.aload_n 0, 1) := by decide +kernel
theorem dX4_known_1 : decode cX4_known 1 = .ok (.getfield 10, 3) := by decide +kernel
theorem dX4_known_4 : decode cX4_known 4 = .ok (.iload_n 1, 1) := by decide +kernel
theorem dX4_known_5 : decode cX4_known 5 = .ok (.invokevirtual 35, 3) := by decide +kernel
theorem dX4_known_8 : decode cX4_known 8 = .ok (.astore 4, 2) := by decide +kernel
theorem dX4_known_10 : decode cX4_known 10 = .ok (.iload_n 2, 1) := by decide +kernel
theorem dX4_known_11 : decode cX4_known 11 = .ok (.bipush 6, 2) := by decide +kernel
theorem dX4_known_13 : decode cX4_known 13 = .ok (.invokestatic 39, 3) := by decide +kernel
theorem dX4_known_16 : decode cX4_known 16 = .ok (.iload_n 3, 1) := by decide +kernel
theorem dX4_known_17 : decode cX4_known 17 = .ok (.ifCond .eq 13, 3) := by decide +kernel
theorem dX4_known_20 : decode cX4_known 20 = .ok (.aload 4, 2) := by decide +kernel
theorem dX4_known_22 : decode cX4_known 22 = .ok (.getfield 76, 3) := by decide +kernel
theorem dX4_known_25 : decode cX4_known 25 = .ok (.iload_n 2, 1) := by decide +kernel
theorem dX4_known_26 : decode cX4_known 26 = .ok (.iaload, 1) := by decide +kernel
theorem dX4_known_27 : decode cX4_known 27 = .ok (.goto 10, 3) := by decide +kernel
theorem dX4_known_30 : decode cX4_known 30 = .ok (.aload 4, 2) := by decide +kernel
theorem dX4_known_32 : decode cX4_known 32 = .ok (.getfield 79, 3) := by decide +kernel
theorem dX4_known_35 : decode cX4_known 35 = .ok (.iload_n 2, 1) := by decide +kernel
theorem dX4_known_36 : decode cX4_known 36 = .ok (.iaload, 1) := by decide +kernel
theorem dX4_known_37 : decode cX4_known 37 = .ok (.ireturn, 1) := by decide +kernel
set_option maxRecDepth 20000 in
theorem ggX4_ofFigure_X1_figureAt : GoodIn wsX4_ofFigure wsX1_figureAt := goodIn_ca (goodIn_r _ [16, 17, 18, 19, 20, 21, 22, 23, 87, 88, 89, 90, 91, 92, 93, 94, 95, 96, 97] (by decide +kernel) (by decide +kernel)) (goodIn_sub (fun _ h => List.mem_cons_of_mem _ (List.mem_append_left _ (List.mem_append_right _ h))) (by decide +kernel))
set_option maxRecDepth 20000 in
theorem gX4_ofFigure_X1_figureAt : GoodIn wsX4_ofFigure (wsV RX4 94 RX1 yX1_figureAt wsX1_figureAt) := goodIn_app (goodIn_of _ (by decide +kernel)) ggX4_ofFigure_X1_figureAt
set_option maxRecDepth 20000 in
theorem ggX4_ofFigure_X4_checkArgument : GoodIn wsX4_ofFigure wsX4_checkArgument := goodIn_ca (goodIn_r _ [26, 27, 28] (by decide +kernel) (by decide +kernel)) (goodIn_sub (fun _ h => List.mem_cons_of_mem _ (List.mem_append_right _ h)) (by decide +kernel))
set_option maxRecDepth 20000 in
theorem gX4_ofFigure_X4_checkArgument : GoodIn wsX4_ofFigure (va_wsS RX4 19 yX4_checkArgument wsX4_checkArgument) := goodIn_app (goodIn_of _ (by decide +kernel)) ggX4_ofFigure_X4_checkArgument
set_option maxRecDepth 20000 in
theorem ggX4_ofFigure_X0_workLeftInStep : GoodIn wsX4_ofFigure wsX0_workLeftInStep := goodIn_r _ [33, 34, 35, 68, 69, 70, 71, 72, 73, 74, 75, 76, 77, 78] (by decide +kernel) (by decide +kernel)
set_option maxRecDepth 20000 in
theorem gX4_ofFigure_X0_workLeftInStep : GoodIn wsX4_ofFigure (wsV RX4 201 RX0 yX0_workLeftInStep wsX0_workLeftInStep) := goodIn_app (goodIn_of _ (by decide +kernel)) ggX4_ofFigure_X0_workLeftInStep
set_option maxRecDepth 20000 in
theorem ggX4_ofFigure_X0_likeness : GoodIn wsX4_ofFigure wsX0_likeness := goodIn_r _ [39, 40, 41, 42, 43, 44, 45, 46, 32, 47, 34, 48, 49, 50, 51, 52, 53, 54, 55, 68, 69, 70, 71, 72, 73, 74, 75, 76, 77, 78, 79, 80, 81, 82, 83, 84, 85, 86] (by decide +kernel) (by decide +kernel)
set_option maxRecDepth 20000 in
theorem gX4_ofFigure_X0_likeness : GoodIn wsX4_ofFigure (wsV RX4 128 RX0 yX0_likeness wsX0_likeness) := goodIn_app (goodIn_of _ (by decide +kernel)) ggX4_ofFigure_X0_likeness
set_option maxRecDepth 20000 in
theorem ggX4_ofFigure_X0_draw : GoodIn wsX4_ofFigure wsX0_draw := goodIn_r _ [59, 42, 60, 61, 62, 63, 32, 64, 48, 65, 37, 38, 39, 40, 41, 43, 44, 45, 46, 47, 34, 49, 50, 51, 52, 53, 54, 55, 68, 69, 70, 71, 72, 73, 74, 75, 76, 77, 78, 79, 80, 81, 82, 83, 84, 85, 86] (by decide +kernel) (by decide +kernel)
set_option maxRecDepth 20000 in
theorem gX4_ofFigure_X0_draw : GoodIn wsX4_ofFigure (wsV RX4 174 RX0 yX0_draw wsX0_draw) := goodIn_app (goodIn_of _ (by decide +kernel)) ggX4_ofFigure_X0_draw
theorem dX4_ofFigure_0 : decode cX4_ofFigure 0 = .ok (.aload_n 0, 1) := by decide +kernel
theorem dX4_ofFigure_1 : decode cX4_ofFigure 1 = .ok (.getfield 10, 3) := by decide +kernel
theorem dX4_ofFigure_4 : decode cX4_ofFigure 4 = .ok (.iload_n 1, 1) := by decide +kernel
theorem dX4_ofFigure_5 : decode cX4_ofFigure 5 = .ok (.invokevirtual 94, 3) := by decide +kernel
theorem dX4_ofFigure_8 : decode cX4_ofFigure 8 = .ok (.astore_n 3, 1) := by decide +kernel
theorem dX4_ofFigure_9 : decode cX4_ofFigure 9 = .ok (.iload_n 2, 1) := by decide +kernel
theorem dX4_ofFigure_10 : decode cX4_ofFigure 10 = .ok (.iconst 0, 1) := by decide +kernel
theorem dX4_ofFigure_11 : decode cX4_ofFigure 11 = .ok (.bipush 11, 2) := by decide +kernel
theorem dX4_ofFigure_13 : decode cX4_ofFigure 13 = .ok (.invokestatic 19, 3) := by decide +kernel
theorem dX4_ofFigure_16 : decode cX4_ofFigure 16 = .ok (.iload_n 2, 1) := by decide +kernel
theorem dX4_ofFigure_17 : decode cX4_ofFigure 17 = .ok (.tableswitch 120 0 10 #[59, 67, 75, 80, 85, 90, 95, 100, 105, 110, 115], 59) := by decide +kernel
theorem dX4_ofFigure_76 : decode cX4_ofFigure 76 = .ok (.aload_n 3, 1) := by decide +kernel
theorem dX4_ofFigure_77 : decode cX4_ofFigure 77 = .ok (.getfield 140, 3) := by decide +kernel
theorem dX4_ofFigure_80 : decode cX4_ofFigure 80 = .ok (.getfield 195, 3) := by decide +kernel
theorem dX4_ofFigure_83 : decode cX4_ofFigure 83 = .ok (.ireturn, 1) := by decide +kernel
theorem dX4_ofFigure_84 : decode cX4_ofFigure 84 = .ok (.aload_n 3, 1) := by decide +kernel
theorem dX4_ofFigure_85 : decode cX4_ofFigure 85 = .ok (.getfield 198, 3) := by decide +kernel
theorem dX4_ofFigure_88 : decode cX4_ofFigure 88 = .ok (.getfield 195, 3) := by decide +kernel
theorem dX4_ofFigure_91 : decode cX4_ofFigure 91 = .ok (.ireturn, 1) := by decide +kernel
theorem dX4_ofFigure_92 : decode cX4_ofFigure 92 = .ok (.aload_n 3, 1) := by decide +kernel
theorem dX4_ofFigure_93 : decode cX4_ofFigure 93 = .ok (.getfield 107, 3) := by decide +kernel
theorem dX4_ofFigure_96 : decode cX4_ofFigure 96 = .ok (.ireturn, 1) := by decide +kernel
theorem dX4_ofFigure_97 : decode cX4_ofFigure 97 = .ok (.aload_n 3, 1) := by decide +kernel
theorem dX4_ofFigure_98 : decode cX4_ofFigure 98 = .ok (.invokevirtual 201, 3) := by decide +kernel
theorem dX4_ofFigure_101 : decode cX4_ofFigure 101 = .ok (.ireturn, 1) := by decide +kernel
theorem dX4_ofFigure_102 : decode cX4_ofFigure 102 = .ok (.aload_n 3, 1) := by decide +kernel
theorem dX4_ofFigure_103 : decode cX4_ofFigure 103 = .ok (.getfield 102, 3) := by decide +kernel
theorem dX4_ofFigure_106 : decode cX4_ofFigure 106 = .ok (.ireturn, 1) := by decide +kernel
theorem dX4_ofFigure_107 : decode cX4_ofFigure 107 = .ok (.aload_n 3, 1) := by decide +kernel
theorem dX4_ofFigure_108 : decode cX4_ofFigure 108 = .ok (.getfield 204, 3) := by decide +kernel
theorem dX4_ofFigure_111 : decode cX4_ofFigure 111 = .ok (.ireturn, 1) := by decide +kernel
theorem dX4_ofFigure_112 : decode cX4_ofFigure 112 = .ok (.aload_n 3, 1) := by decide +kernel
theorem dX4_ofFigure_113 : decode cX4_ofFigure 113 = .ok (.getfield 131, 3) := by decide +kernel
theorem dX4_ofFigure_116 : decode cX4_ofFigure 116 = .ok (.ireturn, 1) := by decide +kernel
theorem dX4_ofFigure_117 : decode cX4_ofFigure 117 = .ok (.aload_n 3, 1) := by decide +kernel
theorem dX4_ofFigure_118 : decode cX4_ofFigure 118 = .ok (.invokevirtual 128, 3) := by decide +kernel
theorem dX4_ofFigure_121 : decode cX4_ofFigure 121 = .ok (.ireturn, 1) := by decide +kernel
theorem dX4_ofFigure_122 : decode cX4_ofFigure 122 = .ok (.aload_n 3, 1) := by decide +kernel
theorem dX4_ofFigure_123 : decode cX4_ofFigure 123 = .ok (.getfield 110, 3) := by decide +kernel
theorem dX4_ofFigure_126 : decode cX4_ofFigure 126 = .ok (.ireturn, 1) := by decide +kernel
theorem dX4_ofFigure_127 : decode cX4_ofFigure 127 = .ok (.aload_n 3, 1) := by decide +kernel
theorem dX4_ofFigure_128 : decode cX4_ofFigure 128 = .ok (.getfield 147, 3) := by decide +kernel
theorem dX4_ofFigure_131 : decode cX4_ofFigure 131 = .ok (.ireturn, 1) := by decide +kernel
theorem dX4_ofFigure_132 : decode cX4_ofFigure 132 = .ok (.aload_n 3, 1) := by decide +kernel
theorem dX4_ofFigure_133 : decode cX4_ofFigure 133 = .ok (.invokevirtual 174, 3) := by decide +kernel
theorem dX4_ofFigure_136 : decode cX4_ofFigure 136 = .ok (.ireturn, 1) := by decide +kernel
theorem dX4_ofFigure_137 : decode cX4_ofFigure 137 = .ok (.aload_n 3, 1) := by decide +kernel
theorem dX4_ofFigure_138 : decode cX4_ofFigure 138 = .ok (.getfield 207, 3) := by decide +kernel
theorem dX4_ofFigure_141 : decode cX4_ofFigure 141 = .ok (.ireturn, 1) := by decide +kernel
set_option maxRecDepth 20000 in
theorem ggX4_ofRoom_X1_roomAt : GoodIn wsX4_ofRoom wsX1_roomAt := goodIn_ca (goodIn_r _ [8, 9, 10, 11, 12, 13, 14, 15, 67, 68, 69, 70, 71, 72, 73, 74, 75, 76, 77] (by decide +kernel) (by decide +kernel)) (goodIn_sub (fun _ h => List.mem_cons_of_mem _ (List.mem_append_left _ (List.mem_append_right _ h))) (by decide +kernel))
set_option maxRecDepth 20000 in
theorem gX4_ofRoom_X1_roomAt : GoodIn wsX4_ofRoom (wsV RX4 156 RX1 yX1_roomAt wsX1_roomAt) := goodIn_app (goodIn_of _ (by decide +kernel)) ggX4_ofRoom_X1_roomAt
set_option maxRecDepth 20000 in
theorem ggX4_ofRoom_X4_checkArgument : GoodIn wsX4_ofRoom wsX4_checkArgument := goodIn_ca (goodIn_r _ [18, 19, 20] (by decide +kernel) (by decide +kernel)) (goodIn_sub (fun _ h => List.mem_cons_of_mem _ (List.mem_append_right _ h)) (by decide +kernel))
set_option maxRecDepth 20000 in
theorem gX4_ofRoom_X4_checkArgument : GoodIn wsX4_ofRoom (va_wsS RX4 19 yX4_checkArgument wsX4_checkArgument) := goodIn_app (goodIn_of _ (by decide +kernel)) ggX4_ofRoom_X4_checkArgument
set_option maxRecDepth 20000 in
theorem ggX4_ofRoom_X1_figuresIn : GoodIn wsX4_ofRoom wsX1_figuresIn := goodIn_r _ [24, 25, 26, 27, 67, 68, 69, 70, 71, 72, 73, 74, 75, 76, 77, 78, 79, 80, 81, 82, 83, 84, 85, 86, 87, 88] (by decide +kernel) (by decide +kernel)
set_option maxRecDepth 20000 in
theorem gX4_ofRoom_X1_figuresIn : GoodIn wsX4_ofRoom (wsV RX4 165 RX1 yX1_figuresIn wsX1_figuresIn) := goodIn_app (goodIn_of _ (by decide +kernel)) ggX4_ofRoom_X1_figuresIn
set_option maxRecDepth 20000 in
theorem ggX4_ofRoom_X1_drawsIn : GoodIn wsX4_ofRoom wsX1_drawsIn := goodIn_r _ [31, 25, 26, 27, 32, 33, 34, 35, 36, 37, 38, 39, 40, 41, 42, 43, 44, 45, 46, 47, 48, 49, 50, 51, 52, 53, 54, 55, 56, 57, 58, 59, 60, 61, 62, 67, 68, 69, 70, 71, 72, 73, 74, 75, 76, 77, 78, 79, 80, 81, 82, 83, 84, 85, 86, 87, 88, 89, 90, 91, 92, 93, 94, 95, 96] (by decide +kernel) (by decide +kernel)
set_option maxRecDepth 20000 in
theorem gX4_ofRoom_X1_drawsIn : GoodIn wsX4_ofRoom (wsV RX4 210 RX1 yX1_drawsIn wsX1_drawsIn) := goodIn_app (goodIn_of _ (by decide +kernel)) ggX4_ofRoom_X1_drawsIn
theorem dX4_ofRoom_0 : decode cX4_ofRoom 0 = .ok (.aload_n 0, 1) := by decide +kernel
theorem dX4_ofRoom_1 : decode cX4_ofRoom 1 = .ok (.getfield 10, 3) := by decide +kernel
theorem dX4_ofRoom_4 : decode cX4_ofRoom 4 = .ok (.iload_n 1, 1) := by decide +kernel
theorem dX4_ofRoom_5 : decode cX4_ofRoom 5 = .ok (.invokevirtual 156, 3) := by decide +kernel
theorem dX4_ofRoom_8 : decode cX4_ofRoom 8 = .ok (.astore_n 3, 1) := by decide +kernel
theorem dX4_ofRoom_9 : decode cX4_ofRoom 9 = .ok (.iload_n 2, 1) := by decide +kernel
theorem dX4_ofRoom_10 : decode cX4_ofRoom 10 = .ok (.iconst 0, 1) := by decide +kernel
theorem dX4_ofRoom_11 : decode cX4_ofRoom 11 = .ok (.iconst 3, 1) := by decide +kernel
theorem dX4_ofRoom_12 : decode cX4_ofRoom 12 = .ok (.invokestatic 19, 3) := by decide +kernel
theorem dX4_ofRoom_15 : decode cX4_ofRoom 15 = .ok (.iload_n 2, 1) := by decide +kernel
theorem dX4_ofRoom_16 : decode cX4_ofRoom 16 = .ok (.tableswitch 53 0 2 #[28, 33, 38], 28) := by decide +kernel
theorem dX4_ofRoom_44 : decode cX4_ofRoom 44 = .ok (.aload_n 3, 1) := by decide +kernel
theorem dX4_ofRoom_45 : decode cX4_ofRoom 45 = .ok (.getfield 160, 3) := by decide +kernel
theorem dX4_ofRoom_48 : decode cX4_ofRoom 48 = .ok (.ireturn, 1) := by decide +kernel
theorem dX4_ofRoom_49 : decode cX4_ofRoom 49 = .ok (.aload_n 3, 1) := by decide +kernel
theorem dX4_ofRoom_50 : decode cX4_ofRoom 50 = .ok (.getfield 168, 3) := by decide +kernel
theorem dX4_ofRoom_53 : decode cX4_ofRoom 53 = .ok (.ireturn, 1) := by decide +kernel
theorem dX4_ofRoom_54 : decode cX4_ofRoom 54 = .ok (.aload_n 3, 1) := by decide +kernel
theorem dX4_ofRoom_55 : decode cX4_ofRoom 55 = .ok (.getfield 168, 3) := by decide +kernel
theorem dX4_ofRoom_58 : decode cX4_ofRoom 58 = .ok (.aload_n 0, 1) := by decide +kernel
theorem dX4_ofRoom_59 : decode cX4_ofRoom 59 = .ok (.getfield 10, 3) := by decide +kernel
theorem dX4_ofRoom_62 : decode cX4_ofRoom 62 = .ok (.iload_n 1, 1) := by decide +kernel
theorem dX4_ofRoom_63 : decode cX4_ofRoom 63 = .ok (.iload_n 1, 1) := by decide +kernel
theorem dX4_ofRoom_64 : decode cX4_ofRoom 64 = .ok (.invokevirtual 165, 3) := by decide +kernel
theorem dX4_ofRoom_67 : decode cX4_ofRoom 67 = .ok (.isub, 1) := by decide +kernel
theorem dX4_ofRoom_68 : decode cX4_ofRoom 68 = .ok (.ireturn, 1) := by decide +kernel
theorem dX4_ofRoom_69 : decode cX4_ofRoom 69 = .ok (.aload_n 0, 1) := by decide +kernel
theorem dX4_ofRoom_70 : decode cX4_ofRoom 70 = .ok (.getfield 10, 3) := by decide +kernel
theorem dX4_ofRoom_73 : decode cX4_ofRoom 73 = .ok (.iload_n 1, 1) := by decide +kernel
theorem dX4_ofRoom_74 : decode cX4_ofRoom 74 = .ok (.iload_n 1, 1) := by decide +kernel
theorem dX4_ofRoom_75 : decode cX4_ofRoom 75 = .ok (.invokevirtual 210, 3) := by decide +kernel
theorem dX4_ofRoom_78 : decode cX4_ofRoom 78 = .ok (.ireturn, 1) := by decide +kernel
set_option maxRecDepth 20000 in
theorem ggX4_many_X4_checkArgument : GoodIn wsX4_many wsX4_checkArgument := goodIn_ca (goodIn_r _ [13, 14, 15] (by decide +kernel) (by decide +kernel)) (goodIn_sub (fun _ h => List.mem_cons_of_mem _ (List.mem_append_right _ h)) (by decide +kernel))
