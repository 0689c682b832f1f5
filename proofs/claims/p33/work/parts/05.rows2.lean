theorem dX4_digestWithPerson_39 : decode cX4_digestWithPerson 39 = .ok (.iload 6, 2) := by decide +kernel
theorem dX4_digestWithPerson_41 : decode cX4_digestWithPerson 41 = .ok (.bipush 6, 2) := by decide +kernel
theorem dX4_digestWithPerson_43 : decode cX4_digestWithPerson 43 = .ok (.if_icmp .ge 45, 3) := by decide +kernel
theorem dX4_digestWithPerson_46 : decode cX4_digestWithPerson 46 = .ok (.lload 4, 2) := by decide +kernel
theorem dX4_digestWithPerson_48 : decode cX4_digestWithPerson 48 = .ok (.ldc2_w 244, 3) := by decide +kernel
theorem dX4_digestWithPerson_51 : decode cX4_digestWithPerson 51 = .ok (.lmul, 1) := by decide +kernel
theorem dX4_digestWithPerson_52 : decode cX4_digestWithPerson 52 = .ok (.aload_n 0, 1) := by decide +kernel
theorem dX4_digestWithPerson_53 : decode cX4_digestWithPerson 53 = .ok (.iload_n 3, 1) := by decide +kernel
theorem dX4_digestWithPerson_54 : decode cX4_digestWithPerson 54 = .ok (.iload 6, 2) := by decide +kernel
theorem dX4_digestWithPerson_56 : decode cX4_digestWithPerson 56 = .ok (.iconst 0, 1) := by decide +kernel
theorem dX4_digestWithPerson_57 : decode cX4_digestWithPerson 57 = .ok (.invokevirtual 272, 3) := by decide +kernel
theorem dX4_digestWithPerson_60 : decode cX4_digestWithPerson 60 = .ok (.i2l, 1) := by decide +kernel
theorem dX4_digestWithPerson_61 : decode cX4_digestWithPerson 61 = .ok (.ladd, 1) := by decide +kernel
theorem dX4_digestWithPerson_62 : decode cX4_digestWithPerson 62 = .ok (.lstore 4, 2) := by decide +kernel
theorem dX4_digestWithPerson_64 : decode cX4_digestWithPerson 64 = .ok (.lload 4, 2) := by decide +kernel
theorem dX4_digestWithPerson_66 : decode cX4_digestWithPerson 66 = .ok (.ldc2_w 244, 3) := by decide +kernel
theorem dX4_digestWithPerson_69 : decode cX4_digestWithPerson 69 = .ok (.lmul, 1) := by decide +kernel
theorem dX4_digestWithPerson_70 : decode cX4_digestWithPerson 70 = .ok (.aload_n 0, 1) := by decide +kernel
theorem dX4_digestWithPerson_71 : decode cX4_digestWithPerson 71 = .ok (.iload_n 3, 1) := by decide +kernel
theorem dX4_digestWithPerson_72 : decode cX4_digestWithPerson 72 = .ok (.iload 6, 2) := by decide +kernel
theorem dX4_digestWithPerson_74 : decode cX4_digestWithPerson 74 = .ok (.iconst 1, 1) := by decide +kernel
theorem dX4_digestWithPerson_75 : decode cX4_digestWithPerson 75 = .ok (.invokevirtual 272, 3) := by decide +kernel
theorem dX4_digestWithPerson_78 : decode cX4_digestWithPerson 78 = .ok (.i2l, 1) := by decide +kernel
theorem dX4_digestWithPerson_79 : decode cX4_digestWithPerson 79 = .ok (.ladd, 1) := by decide +kernel
theorem dX4_digestWithPerson_80 : decode cX4_digestWithPerson 80 = .ok (.lstore 4, 2) := by decide +kernel
theorem dX4_digestWithPerson_82 : decode cX4_digestWithPerson 82 = .ok (.iinc 6 1, 3) := by decide +kernel
theorem dX4_digestWithPerson_85 : decode cX4_digestWithPerson 85 = .ok (.goto (-46), 3) := by decide +kernel
theorem dX4_digestWithPerson_88 : decode cX4_digestWithPerson 88 = .ok (.lload 4, 2) := by decide +kernel
theorem dX4_digestWithPerson_90 : decode cX4_digestWithPerson 90 = .ok (.ldc2_w 244, 3) := by decide +kernel
theorem dX4_digestWithPerson_93 : decode cX4_digestWithPerson 93 = .ok (.lmul, 1) := by decide +kernel
theorem dX4_digestWithPerson_94 : decode cX4_digestWithPerson 94 = .ok (.aload_n 0, 1) := by decide +kernel
theorem dX4_digestWithPerson_95 : decode cX4_digestWithPerson 95 = .ok (.iload_n 3, 1) := by decide +kernel
theorem dX4_digestWithPerson_96 : decode cX4_digestWithPerson 96 = .ok (.iconst 0, 1) := by decide +kernel
theorem dX4_digestWithPerson_97 : decode cX4_digestWithPerson 97 = .ok (.bipush 9, 2) := by decide +kernel
theorem dX4_digestWithPerson_99 : decode cX4_digestWithPerson 99 = .ok (.invokevirtual 276, 3) := by decide +kernel
theorem dX4_digestWithPerson_102 : decode cX4_digestWithPerson 102 = .ok (.i2l, 1) := by decide +kernel
theorem dX4_digestWithPerson_103 : decode cX4_digestWithPerson 103 = .ok (.ladd, 1) := by decide +kernel
theorem dX4_digestWithPerson_104 : decode cX4_digestWithPerson 104 = .ok (.lreturn, 1) := by decide +kernel
theorem dX4_checkIndex_0 : decode cX4_checkIndex 0 = .ok (.iload_n 0, 1) := by decide +kernel
theorem dX4_checkIndex_1 : decode cX4_checkIndex 1 = .ok (.ifCond .lt 8, 3) := by decide +kernel
theorem dX4_checkIndex_4 : decode cX4_checkIndex 4 = .ok (.iload_n 0, 1) := by decide +kernel
theorem dX4_checkIndex_5 : decode cX4_checkIndex 5 = .ok (.iload_n 1, 1) := by decide +kernel
theorem dX4_checkIndex_6 : decode cX4_checkIndex 6 = .ok (.if_icmp .lt 14, 3) := by decide +kernel
theorem dX4_checkIndex_9 : decode cX4_checkIndex 9 = .ok (.new 279, 3) := by decide +kernel
theorem dX4_checkIndex_12 : decode cX4_checkIndex 12 = .ok (.dup, 1) := by decide +kernel
theorem dX4_checkIndex_13 : decode cX4_checkIndex 13 = .ok (.ldc_w 281, 3) := by decide +kernel
theorem dX4_checkIndex_16 : decode cX4_checkIndex 16 = .ok (.invokespecial 283, 3) := by decide +kernel
theorem dX4_checkIndex_19 : decode cX4_checkIndex 19 = .ok (.athrow, 1) := by decide +kernel
theorem dX4_checkIndex_20 : decode cX4_checkIndex 20 = .ok (.return_, 1) := by decide +kernel
theorem dX4_checkArgument_0 : decode cX4_checkArgument 0 = .ok (.iload_n 0, 1) := by decide +kernel
theorem dX4_checkArgument_1 : decode cX4_checkArgument 1 = .ok (.iload_n 1, 1) := by decide +kernel
theorem dX4_checkArgument_2 : decode cX4_checkArgument 2 = .ok (.if_icmp .lt 8, 3) := by decide +kernel
theorem dX4_checkArgument_5 : decode cX4_checkArgument 5 = .ok (.iload_n 0, 1) := by decide +kernel
theorem dX4_checkArgument_6 : decode cX4_checkArgument 6 = .ok (.iload_n 2, 1) := by decide +kernel
theorem dX4_checkArgument_7 : decode cX4_checkArgument 7 = .ok (.if_icmp .le 14, 3) := by decide +kernel
theorem dX4_checkArgument_10 : decode cX4_checkArgument 10 = .ok (.new 113, 3) := by decide +kernel
theorem dX4_checkArgument_13 : decode cX4_checkArgument 13 = .ok (.dup, 1) := by decide +kernel
theorem dX4_checkArgument_14 : decode cX4_checkArgument 14 = .ok (.ldc_w 284, 3) := by decide +kernel
theorem dX4_checkArgument_17 : decode cX4_checkArgument 17 = .ok (.invokespecial 117, 3) := by decide +kernel
theorem dX4_checkArgument_20 : decode cX4_checkArgument 20 = .ok (.athrow, 1) := by decide +kernel
theorem dX4_checkArgument_21 : decode cX4_checkArgument 21 = .ok (.return_, 1) := by decide +kernel
theorem dX4_checkState_0 : decode cX4_checkState 0 = .ok (.iload_n 0, 1) := by decide +kernel
theorem dX4_checkState_1 : decode cX4_checkState 1 = .ok (.ifCond .ne 14, 3) := by decide +kernel
theorem dX4_checkState_4 : decode cX4_checkState 4 = .ok (.new 286, 3) := by decide +kernel
theorem dX4_checkState_7 : decode cX4_checkState 7 = .ok (.dup, 1) := by decide +kernel
theorem dX4_checkState_8 : decode cX4_checkState 8 = .ok (.ldc_w 288, 3) := by decide +kernel
theorem dX4_checkState_11 : decode cX4_checkState 11 = .ok (.invokespecial 290, 3) := by decide +kernel
theorem dX4_checkState_14 : decode cX4_checkState 14 = .ok (.athrow, 1) := by decide +kernel
theorem dX4_checkState_15 : decode cX4_checkState 15 = .ok (.return_, 1) := by decide +kernel
set_option maxRecDepth 20000 in
theorem ggX5_init_X4_init : GoodIn wsX5_init wsX4_init := goodIn_r _ [23, 24, 2, 3, 25, 26, 27, 28, 29, 30, 31, 32, 33, 34, 35, 36, 37, 38, 39, 40, 41, 42, 43, 44, 45, 46, 47, 48, 49, 50, 51, 52, 53, 54, 55, 56, 57, 58, 59, 60, 61, 62, 63, 64, 65, 66, 67, 68, 86, 87, 88, 89, 90, 91, 92, 93, 94, 95, 96, 69, 70, 97, 98, 99, 100, 101, 102, 103, 104, 105, 106, 107, 108, 109, 110, 111, 112, 113, 114, 115, 116, 117] (by decide +kernel) (by decide +kernel)
set_option maxRecDepth 20000 in
theorem gX5_init_X4_init : GoodIn wsX5_init (wsX4_init) := ggX5_init_X4_init
theorem dX5_init_0 : decode cX5_init 0 = .ok (.aload_n 0, 1) := by decide +kernel
theorem dX5_init_1 : decode cX5_init 1 = .ok (.invokespecial 1, 3) := by decide +kernel
theorem dX5_init_4 : decode cX5_init 4 = .ok (.aload_n 0, 1) := by decide +kernel
theorem dX5_init_5 : decode cX5_init 5 = .ok (.new 7, 3) := by decide +kernel
theorem dX5_init_8 : decode cX5_init 8 = .ok (.dup, 1) := by decide +kernel
theorem dX5_init_9 : decode cX5_init 9 = .ok (.invokespecial 9, 3) := by decide +kernel
theorem dX5_init_12 : decode cX5_init 12 = .ok (.putfield 10, 3) := by decide +kernel
theorem dX5_init_15 : decode cX5_init 15 = .ok (.aload_n 0, 1) := by decide +kernel
theorem dX5_init_16 : decode cX5_init 16 = .ok (.iconst 0, 1) := by decide +kernel
theorem dX5_init_17 : decode cX5_init 17 = .ok (.anewarray 16, 3) := by decide +kernel
theorem dX5_init_20 : decode cX5_init 20 = .ok (.putfield 18, 3) := by decide +kernel
theorem dX5_init_23 : decode cX5_init 23 = .ok (.aload_n 0, 1) := by decide +kernel
theorem dX5_init_24 : decode cX5_init 24 = .ok (.iconst 0, 1) := by decide +kernel
theorem dX5_init_25 : decode cX5_init 25 = .ok (.anewarray 16, 3) := by decide +kernel
theorem dX5_init_28 : decode cX5_init 28 = .ok (.putfield 22, 3) := by decide +kernel
theorem dX5_init_31 : decode cX5_init 31 = .ok (.aload_n 0, 1) := by decide +kernel
theorem dX5_init_32 : decode cX5_init 32 = .ok (.iconst 0, 1) := by decide +kernel
theorem dX5_init_33 : decode cX5_init 33 = .ok (.anewarray 16, 3) := by decide +kernel
theorem dX5_init_36 : decode cX5_init 36 = .ok (.putfield 25, 3) := by decide +kernel
theorem dX5_init_39 : decode cX5_init 39 = .ok (.aload_n 0, 1) := by decide +kernel
theorem dX5_init_40 : decode cX5_init 40 = .ok (.iconst 0, 1) := by decide +kernel
theorem dX5_init_41 : decode cX5_init 41 = .ok (.anewarray 16, 3) := by decide +kernel
theorem dX5_init_44 : decode cX5_init 44 = .ok (.putfield 28, 3) := by decide +kernel
theorem dX5_init_47 : decode cX5_init 47 = .ok (.aload_n 0, 1) := by decide +kernel
theorem dX5_init_48 : decode cX5_init 48 = .ok (.iconst 0, 1) := by decide +kernel
theorem dX5_init_49 : decode cX5_init 49 = .ok (.anewarray 16, 3) := by decide +kernel
theorem dX5_init_52 : decode cX5_init 52 = .ok (.putfield 31, 3) := by decide +kernel
theorem dX5_init_55 : decode cX5_init 55 = .ok (.aload_n 0, 1) := by decide +kernel
theorem dX5_init_56 : decode cX5_init 56 = .ok (.iconst 0, 1) := by decide +kernel
theorem dX5_init_57 : decode cX5_init 57 = .ok (.anewarray 16, 3) := by decide +kernel
theorem dX5_init_60 : decode cX5_init 60 = .ok (.putfield 34, 3) := by decide +kernel
theorem dX5_init_63 : decode cX5_init 63 = .ok (.aload_n 0, 1) := by decide +kernel
theorem dX5_init_64 : decode cX5_init 64 = .ok (.iconst 0, 1) := by decide +kernel
theorem dX5_init_65 : decode cX5_init 65 = .ok (.anewarray 16, 3) := by decide +kernel
theorem dX5_init_68 : decode cX5_init 68 = .ok (.putfield 37, 3) := by decide +kernel
theorem dX5_init_71 : decode cX5_init 71 = .ok (.aload_n 0, 1) := by decide +kernel
theorem dX5_init_72 : decode cX5_init 72 = .ok (.iconst 5, 1) := by decide +kernel
theorem dX5_init_73 : decode cX5_init 73 = .ok (.putfield 40, 3) := by decide +kernel
theorem dX5_init_76 : decode cX5_init 76 = .ok (.aload_n 0, 1) := by decide +kernel
theorem dX5_init_77 : decode cX5_init 77 = .ok (.sipush 200, 3) := by decide +kernel
theorem dX5_init_80 : decode cX5_init 80 = .ok (.putfield 44, 3) := by decide +kernel
theorem dX5_init_83 : decode cX5_init 83 = .ok (.aload_n 0, 1) := by decide +kernel
theorem dX5_init_84 : decode cX5_init 84 = .ok (.bipush 30, 2) := by decide +kernel
theorem dX5_init_86 : decode cX5_init 86 = .ok (.putfield 47, 3) := by decide +kernel
theorem dX5_init_89 : decode cX5_init 89 = .ok (.aload_n 0, 1) := by decide +kernel
theorem dX5_init_90 : decode cX5_init 90 = .ok (.aload_n 1, 1) := by decide +kernel
theorem dX5_init_91 : decode cX5_init 91 = .ok (.putfield 50, 3) := by decide +kernel
theorem dX5_init_94 : decode cX5_init 94 = .ok (.aload_n 0, 1) := by decide +kernel
theorem dX5_init_95 : decode cX5_init 95 = .ok (.iload_n 2, 1) := by decide +kernel
theorem dX5_init_96 : decode cX5_init 96 = .ok (.putfield 53, 3) := by decide +kernel
theorem dX5_init_99 : decode cX5_init 99 = .ok (.return_, 1) := by decide +kernel
set_option maxRecDepth 20000 in
theorem ggX5_draw_L_cell : GoodIn wsX5_draw wsL_cell := goodIn_r _ [5, 6] (by decide +kernel) (by decide +kernel)
set_option maxRecDepth 20000 in
theorem gX5_draw_L_cell_n56 : GoodIn wsX5_draw (wsL_cell) := ggX5_draw_L_cell
set_option maxRecDepth 20000 in
theorem ggX5_draw_L_below : GoodIn wsX5_draw wsL_below := goodIn_r _ [8, 9] (by decide +kernel) (by decide +kernel)
set_option maxRecDepth 20000 in
theorem gX5_draw_L_below_n62 : GoodIn wsX5_draw (wsL_below) := ggX5_draw_L_below
theorem dX5_draw_0 : decode cX5_draw 0 = .ok (.aload_n 0, 1) := by decide +kernel
theorem dX5_draw_1 : decode cX5_draw 1 = .ok (.getfield 50, 3) := by decide +kernel
theorem dX5_draw_4 : decode cX5_draw 4 = .ok (.aload_n 0, 1) := by decide +kernel
theorem dX5_draw_5 : decode cX5_draw 5 = .ok (.getfield 53, 3) := by decide +kernel
theorem dX5_draw_8 : decode cX5_draw 8 = .ok (.bipush 24, 2) := by decide +kernel
theorem dX5_draw_10 : decode cX5_draw 10 = .ok (.irem, 1) := by decide +kernel
theorem dX5_draw_11 : decode cX5_draw 11 = .ok (.invokestatic 56, 3) := by decide +kernel
theorem dX5_draw_14 : decode cX5_draw 14 = .ok (.aload_n 0, 1) := by decide +kernel
theorem dX5_draw_15 : decode cX5_draw 15 = .ok (.getfield 53, 3) := by decide +kernel
theorem dX5_draw_18 : decode cX5_draw 18 = .ok (.bipush 24, 2) := by decide +kernel
theorem dX5_draw_20 : decode cX5_draw 20 = .ok (.idiv, 1) := by decide +kernel
theorem dX5_draw_21 : decode cX5_draw 21 = .ok (.bipush 8, 2) := by decide +kernel
theorem dX5_draw_23 : decode cX5_draw 23 = .ok (.irem, 1) := by decide +kernel
theorem dX5_draw_24 : decode cX5_draw 24 = .ok (.ishr, 1) := by decide +kernel
theorem dX5_draw_25 : decode cX5_draw 25 = .ok (.sipush 373, 3) := by decide +kernel
theorem dX5_draw_28 : decode cX5_draw 28 = .ok (.aload_n 0, 1) := by decide +kernel
theorem dX5_draw_29 : decode cX5_draw 29 = .ok (.getfield 53, 3) := by decide +kernel
theorem dX5_draw_32 : decode cX5_draw 32 = .ok (.imul, 1) := by decide +kernel
theorem dX5_draw_33 : decode cX5_draw 33 = .ok (.iadd, 1) := by decide +kernel
theorem dX5_draw_34 : decode cX5_draw 34 = .ok (.iload_n 1, 1) := by decide +kernel
theorem dX5_draw_35 : decode cX5_draw 35 = .ok (.invokestatic 62, 3) := by decide +kernel
theorem dX5_draw_38 : decode cX5_draw 38 = .ok (.istore_n 2, 1) := by decide +kernel
theorem dX5_draw_39 : decode cX5_draw 39 = .ok (.aload_n 0, 1) := by decide +kernel
theorem dX5_draw_40 : decode cX5_draw 40 = .ok (.dup, 1) := by decide +kernel
theorem dX5_draw_41 : decode cX5_draw 41 = .ok (.getfield 53, 3) := by decide +kernel
theorem dX5_draw_44 : decode cX5_draw 44 = .ok (.iconst 1, 1) := by decide +kernel
theorem dX5_draw_45 : decode cX5_draw 45 = .ok (.iadd, 1) := by decide +kernel
theorem dX5_draw_46 : decode cX5_draw 46 = .ok (.putfield 53, 3) := by decide +kernel
theorem dX5_draw_49 : decode cX5_draw 49 = .ok (.iload_n 2, 1) := by decide +kernel
theorem dX5_draw_50 : decode cX5_draw 50 = .ok (.ireturn, 1) := by decide +kernel
theorem dX5_plus_0 : decode cX5_plus 0 = .ok (.aload_n 0, 1) := by decide +kernel
theorem dX5_plus_1 : decode cX5_plus 1 = .ok (.arraylength, 1) := by decide +kernel
theorem dX5_plus_2 : decode cX5_plus 2 = .ok (.iconst 1, 1) := by decide +kernel
theorem dX5_plus_3 : decode cX5_plus 3 = .ok (.iadd, 1) := by decide +kernel
theorem dX5_plus_4 : decode cX5_plus 4 = .ok (.anewarray 16, 3) := by decide +kernel
theorem dX5_plus_7 : decode cX5_plus 7 = .ok (.astore_n 2, 1) := by decide +kernel
theorem dX5_plus_8 : decode cX5_plus 8 = .ok (.aload_n 0, 1) := by decide +kernel
theorem dX5_plus_9 : decode cX5_plus 9 = .ok (.iconst 0, 1) := by decide +kernel
theorem dX5_plus_10 : decode cX5_plus 10 = .ok (.aload_n 2, 1) := by decide +kernel
theorem dX5_plus_11 : decode cX5_plus 11 = .ok (.iconst 0, 1) := by decide +kernel
theorem dX5_plus_12 : decode cX5_plus 12 = .ok (.aload_n 0, 1) := by decide +kernel
theorem dX5_plus_13 : decode cX5_plus 13 = .ok (.arraylength, 1) := by decide +kernel
theorem dX5_plus_14 : decode cX5_plus 14 = .ok (.invokestatic 66, 3) := by decide +kernel
theorem dX5_plus_17 : decode cX5_plus 17 = .ok (.aload_n 2, 1) := by decide +kernel
theorem dX5_plus_18 : decode cX5_plus 18 = .ok (.aload_n 0, 1) := by decide +kernel
theorem dX5_plus_19 : decode cX5_plus 19 = .ok (.arraylength, 1) := by decide +kernel
theorem dX5_plus_20 : decode cX5_plus 20 = .ok (.aload_n 1, 1) := by decide +kernel
theorem dX5_plus_21 : decode cX5_plus 21 = .ok (.aastore, 1) := by decide +kernel
theorem dX5_plus_22 : decode cX5_plus 22 = .ok (.aload_n 2, 1) := by decide +kernel
theorem dX5_plus_23 : decode cX5_plus 23 = .ok (.areturn, 1) := by decide +kernel
theorem dX5_held_0 : decode cX5_held 0 = .ok (.iload_n 0, 1) := by decide +kernel
theorem dX5_held_1 : decode cX5_held 1 = .ok (.ifCond .ge 7, 3) := by decide +kernel
theorem dX5_held_4 : decode cX5_held 4 = .ok (.iconst 0, 1) := by decide +kernel
theorem dX5_held_5 : decode cX5_held 5 = .ok (.goto 13, 3) := by decide +kernel
theorem dX5_held_8 : decode cX5_held 8 = .ok (.iload_n 0, 1) := by decide +kernel
theorem dX5_held_9 : decode cX5_held 9 = .ok (.iload_n 1, 1) := by decide +kernel
theorem dX5_held_10 : decode cX5_held 10 = .ok (.if_icmp .le 7, 3) := by decide +kernel
theorem dX5_held_13 : decode cX5_held 13 = .ok (.iload_n 1, 1) := by decide +kernel
theorem dX5_held_14 : decode cX5_held 14 = .ok (.goto 4, 3) := by decide +kernel
theorem dX5_held_17 : decode cX5_held 17 = .ok (.iload_n 0, 1) := by decide +kernel
theorem dX5_held_18 : decode cX5_held 18 = .ok (.ireturn, 1) := by decide +kernel
set_option maxRecDepth 20000 in
theorem ggX5_person_X5_draw : GoodIn wsX5_person wsX5_draw := goodIn_r _ [12, 13, 14, 15, 16, 17, 18, 19, 20, 21, 63, 64, 65, 66, 67, 68, 69, 70, 71, 72, 73, 74, 75, 76, 77] (by decide +kernel) (by decide +kernel)
set_option maxRecDepth 20000 in
theorem gX5_person_X5_draw : GoodIn wsX5_person (wsV RX5 72 RX5 yX5_draw wsX5_draw) := goodIn_app (goodIn_of _ (by decide +kernel)) ggX5_person_X5_draw
set_option maxRecDepth 20000 in
theorem ggX5_person_X5_plus : GoodIn wsX5_person wsX5_plus := goodIn_r _ [24, 25, 26, 27, 28, 29] (by decide +kernel) (by decide +kernel)
set_option maxRecDepth 20000 in
theorem gX5_person_X5_plus : GoodIn wsX5_person (va_wsS RX5 76 yX5_plus wsX5_plus) := goodIn_app (goodIn_of _ (by decide +kernel)) ggX5_person_X5_plus
set_option maxRecDepth 20000 in
theorem ggX5_person_X4_person : GoodIn wsX5_person wsX4_person := goodIn_ca (goodIn_ca (goodIn_ca (goodIn_r _ [34, 35, 36, 37, 38, 33, 39, 40, 41, 42, 43, 44, 45, 46, 47, 48, 49, 50, 51, 52, 53, 54, 55, 56, 57, 58, 59, 60, 61, 62, 78, 79, 80, 81, 82, 83, 84, 85, 86, 87, 88, 89, 90, 91, 92, 93, 94, 95, 96, 97, 98] (by decide +kernel) (by decide +kernel)) (goodIn_sub (fun _ h => List.mem_cons_of_mem _ (List.mem_append_left _ (List.mem_append_left _ (List.mem_append_right _ h)))) (by decide +kernel))) (goodIn_sub (fun _ h => List.mem_cons_of_mem _ (List.mem_append_left _ (List.mem_append_right _ h))) (by decide +kernel))) (goodIn_sub (fun _ h => List.mem_cons_of_mem _ (List.mem_append_right _ h)) (by decide +kernel))
set_option maxRecDepth 20000 in
theorem gX5_person_X4_person : GoodIn wsX5_person (wsV RX5 80 RX4 yX4_person wsX4_person) := goodIn_app (goodIn_of _ (by decide +kernel)) ggX5_person_X4_person
theorem dX5_person_0 : decode cX5_person 0 = .ok (.aload_n 0, 1) := by decide +kernel
theorem dX5_person_1 : decode cX5_person 1 = .ok (.aload_n 0, 1) := by decide +kernel
theorem dX5_person_2 : decode cX5_person 2 = .ok (.getfield 18, 3) := by decide +kernel
theorem dX5_person_5 : decode cX5_person 5 = .ok (.iconst 3, 1) := by decide +kernel
theorem dX5_person_6 : decode cX5_person 6 = .ok (.newarray .int, 2) := by decide +kernel
theorem dX5_person_8 : decode cX5_person 8 = .ok (.dup, 1) := by decide +kernel
theorem dX5_person_9 : decode cX5_person 9 = .ok (.iconst 0, 1) := by decide +kernel
theorem dX5_person_10 : decode cX5_person 10 = .ok (.iload_n 1, 1) := by decide +kernel
theorem dX5_person_11 : decode cX5_person 11 = .ok (.iastore, 1) := by decide +kernel
theorem dX5_person_12 : decode cX5_person 12 = .ok (.dup, 1) := by decide +kernel
theorem dX5_person_13 : decode cX5_person 13 = .ok (.iconst 1, 1) := by decide +kernel
theorem dX5_person_14 : decode cX5_person 14 = .ok (.aload_n 0, 1) := by decide +kernel
theorem dX5_person_15 : decode cX5_person 15 = .ok (.sipush 1000, 3) := by decide +kernel
theorem dX5_person_18 : decode cX5_person 18 = .ok (.invokevirtual 72, 3) := by decide +kernel
theorem dX5_person_21 : decode cX5_person 21 = .ok (.iastore, 1) := by decide +kernel
theorem dX5_person_22 : decode cX5_person 22 = .ok (.dup, 1) := by decide +kernel
theorem dX5_person_23 : decode cX5_person 23 = .ok (.iconst 2, 1) := by decide +kernel
theorem dX5_person_24 : decode cX5_person 24 = .ok (.aload_n 0, 1) := by decide +kernel
theorem dX5_person_25 : decode cX5_person 25 = .ok (.sipush 1000, 3) := by decide +kernel
theorem dX5_person_28 : decode cX5_person 28 = .ok (.invokevirtual 72, 3) := by decide +kernel
theorem dX5_person_31 : decode cX5_person 31 = .ok (.iastore, 1) := by decide +kernel
theorem dX5_person_32 : decode cX5_person 32 = .ok (.invokestatic 76, 3) := by decide +kernel
theorem dX5_person_35 : decode cX5_person 35 = .ok (.putfield 18, 3) := by decide +kernel
theorem dX5_person_38 : decode cX5_person 38 = .ok (.aload_n 0, 1) := by decide +kernel
theorem dX5_person_39 : decode cX5_person 39 = .ok (.aload_n 0, 1) := by decide +kernel
theorem dX5_person_40 : decode cX5_person 40 = .ok (.getfield 22, 3) := by decide +kernel
theorem dX5_person_43 : decode cX5_person 43 = .ok (.iconst 3, 1) := by decide +kernel
theorem dX5_person_44 : decode cX5_person 44 = .ok (.newarray .int, 2) := by decide +kernel
theorem dX5_person_46 : decode cX5_person 46 = .ok (.dup, 1) := by decide +kernel
theorem dX5_person_47 : decode cX5_person 47 = .ok (.iconst 0, 1) := by decide +kernel
theorem dX5_person_48 : decode cX5_person 48 = .ok (.iconst 0, 1) := by decide +kernel
theorem dX5_person_49 : decode cX5_person 49 = .ok (.iastore, 1) := by decide +kernel
theorem dX5_person_50 : decode cX5_person 50 = .ok (.dup, 1) := by decide +kernel
theorem dX5_person_51 : decode cX5_person 51 = .ok (.iconst 1, 1) := by decide +kernel
theorem dX5_person_52 : decode cX5_person 52 = .ok (.iconst 0, 1) := by decide +kernel
theorem dX5_person_53 : decode cX5_person 53 = .ok (.iastore, 1) := by decide +kernel
theorem dX5_person_54 : decode cX5_person 54 = .ok (.dup, 1) := by decide +kernel
theorem dX5_person_55 : decode cX5_person 55 = .ok (.iconst 2, 1) := by decide +kernel
theorem dX5_person_56 : decode cX5_person 56 = .ok (.iconst 0, 1) := by decide +kernel
theorem dX5_person_57 : decode cX5_person 57 = .ok (.iastore, 1) := by decide +kernel
theorem dX5_person_58 : decode cX5_person 58 = .ok (.invokestatic 76, 3) := by decide +kernel
theorem dX5_person_61 : decode cX5_person 61 = .ok (.putfield 22, 3) := by decide +kernel
theorem dX5_person_64 : decode cX5_person 64 = .ok (.aload_n 0, 1) := by decide +kernel
theorem dX5_person_65 : decode cX5_person 65 = .ok (.aload_n 0, 1) := by decide +kernel
theorem dX5_person_66 : decode cX5_person 66 = .ok (.getfield 25, 3) := by decide +kernel
theorem dX5_person_69 : decode cX5_person 69 = .ok (.iconst 3, 1) := by decide +kernel
theorem dX5_person_70 : decode cX5_person 70 = .ok (.newarray .int, 2) := by decide +kernel
theorem dX5_person_72 : decode cX5_person 72 = .ok (.dup, 1) := by decide +kernel
theorem dX5_person_73 : decode cX5_person 73 = .ok (.iconst 0, 1) := by decide +kernel
theorem dX5_person_74 : decode cX5_person 74 = .ok (.iconst 0, 1) := by decide +kernel
theorem dX5_person_75 : decode cX5_person 75 = .ok (.iastore, 1) := by decide +kernel
theorem dX5_person_76 : decode cX5_person 76 = .ok (.dup, 1) := by decide +kernel
theorem dX5_person_77 : decode cX5_person 77 = .ok (.iconst 1, 1) := by decide +kernel
theorem dX5_person_78 : decode cX5_person 78 = .ok (.iconst 0, 1) := by decide +kernel
theorem dX5_person_79 : decode cX5_person 79 = .ok (.iastore, 1) := by decide +kernel
theorem dX5_person_80 : decode cX5_person 80 = .ok (.dup, 1) := by decide +kernel
theorem dX5_person_81 : decode cX5_person 81 = .ok (.iconst 2, 1) := by decide +kernel
theorem dX5_person_82 : decode cX5_person 82 = .ok (.iconst 0, 1) := by decide +kernel
theorem dX5_person_83 : decode cX5_person 83 = .ok (.iastore, 1) := by decide +kernel
theorem dX5_person_84 : decode cX5_person 84 = .ok (.invokestatic 76, 3) := by decide +kernel
theorem dX5_person_87 : decode cX5_person 87 = .ok (.putfield 25, 3) := by decide +kernel
theorem dX5_person_90 : decode cX5_person 90 = .ok (.aload_n 0, 1) := by decide +kernel
theorem dX5_person_91 : decode cX5_person 91 = .ok (.aload_n 0, 1) := by decide +kernel
theorem dX5_person_92 : decode cX5_person 92 = .ok (.getfield 28, 3) := by decide +kernel
theorem dX5_person_95 : decode cX5_person 95 = .ok (.bipush 6, 2) := by decide +kernel
theorem dX5_person_97 : decode cX5_person 97 = .ok (.newarray .int, 2) := by decide +kernel
theorem dX5_person_99 : decode cX5_person 99 = .ok (.dup, 1) := by decide +kernel
theorem dX5_person_100 : decode cX5_person 100 = .ok (.iconst 0, 1) := by decide +kernel
theorem dX5_person_101 : decode cX5_person 101 = .ok (.iconst 0, 1) := by decide +kernel
theorem dX5_person_102 : decode cX5_person 102 = .ok (.iastore, 1) := by decide +kernel
theorem dX5_person_103 : decode cX5_person 103 = .ok (.dup, 1) := by decide +kernel
theorem dX5_person_104 : decode cX5_person 104 = .ok (.iconst 1, 1) := by decide +kernel
theorem dX5_person_105 : decode cX5_person 105 = .ok (.iconst 0, 1) := by decide +kernel
theorem dX5_person_106 : decode cX5_person 106 = .ok (.iastore, 1) := by decide +kernel
theorem dX5_person_107 : decode cX5_person 107 = .ok (.dup, 1) := by decide +kernel
theorem dX5_person_108 : decode cX5_person 108 = .ok (.iconst 2, 1) := by decide +kernel
theorem dX5_person_109 : decode cX5_person 109 = .ok (.iconst 0, 1) := by decide +kernel
theorem dX5_person_110 : decode cX5_person 110 = .ok (.iastore, 1) := by decide +kernel
theorem dX5_person_111 : decode cX5_person 111 = .ok (.dup, 1) := by decide +kernel
theorem dX5_person_112 : decode cX5_person 112 = .ok (.iconst 3, 1) := by decide +kernel
theorem dX5_person_113 : decode cX5_person 113 = .ok (.iconst 0, 1) := by decide +kernel
theorem dX5_person_114 : decode cX5_person 114 = .ok (.iastore, 1) := by decide +kernel
theorem dX5_person_115 : decode cX5_person 115 = .ok (.dup, 1) := by decide +kernel
theorem dX5_person_116 : decode cX5_person 116 = .ok (.iconst 4, 1) := by decide +kernel
theorem dX5_person_117 : decode cX5_person 117 = .ok (.iconst 0, 1) := by decide +kernel
theorem dX5_person_118 : decode cX5_person 118 = .ok (.iastore, 1) := by decide +kernel
theorem dX5_person_119 : decode cX5_person 119 = .ok (.dup, 1) := by decide +kernel
theorem dX5_person_120 : decode cX5_person 120 = .ok (.iconst 5, 1) := by decide +kernel
theorem dX5_person_121 : decode cX5_person 121 = .ok (.iconst 0, 1) := by decide +kernel
theorem dX5_person_122 : decode cX5_person 122 = .ok (.iastore, 1) := by decide +kernel
theorem dX5_person_123 : decode cX5_person 123 = .ok (.invokestatic 76, 3) := by decide +kernel
theorem dX5_person_126 : decode cX5_person 126 = .ok (.putfield 28, 3) := by decide +kernel
theorem dX5_person_129 : decode cX5_person 129 = .ok (.aload_n 0, 1) := by decide +kernel
theorem dX5_person_130 : decode cX5_person 130 = .ok (.aload_n 0, 1) := by decide +kernel
theorem dX5_person_131 : decode cX5_person 131 = .ok (.getfield 31, 3) := by decide +kernel
theorem dX5_person_134 : decode cX5_person 134 = .ok (.bipush 6, 2) := by decide +kernel
theorem dX5_person_136 : decode cX5_person 136 = .ok (.newarray .int, 2) := by decide +kernel
theorem dX5_person_138 : decode cX5_person 138 = .ok (.dup, 1) := by decide +kernel
theorem dX5_person_139 : decode cX5_person 139 = .ok (.iconst 0, 1) := by decide +kernel
theorem dX5_person_140 : decode cX5_person 140 = .ok (.bipush 99, 2) := by decide +kernel
theorem dX5_person_142 : decode cX5_person 142 = .ok (.iastore, 1) := by decide +kernel
theorem dX5_person_143 : decode cX5_person 143 = .ok (.dup, 1) := by decide +kernel
theorem dX5_person_144 : decode cX5_person 144 = .ok (.iconst 1, 1) := by decide +kernel
theorem dX5_person_145 : decode cX5_person 145 = .ok (.bipush 99, 2) := by decide +kernel
theorem dX5_person_147 : decode cX5_person 147 = .ok (.iastore, 1) := by decide +kernel
theorem dX5_person_148 : decode cX5_person 148 = .ok (.dup, 1) := by decide +kernel
theorem dX5_person_149 : decode cX5_person 149 = .ok (.iconst 2, 1) := by decide +kernel
theorem dX5_person_150 : decode cX5_person 150 = .ok (.bipush 99, 2) := by decide +kernel
theorem dX5_person_152 : decode cX5_person 152 = .ok (.iastore, 1) := by decide +kernel
theorem dX5_person_153 : decode cX5_person 153 = .ok (.dup, 1) := by decide +kernel
theorem dX5_person_154 : decode cX5_person 154 = .ok (.iconst 3, 1) := by decide +kernel
theorem dX5_person_155 : decode cX5_person 155 = .ok (.bipush 99, 2) := by decide +kernel
theorem dX5_person_157 : decode cX5_person 157 = .ok (.iastore, 1) := by decide +kernel
theorem dX5_person_158 : decode cX5_person 158 = .ok (.dup, 1) := by decide +kernel
theorem dX5_person_159 : decode cX5_person 159 = .ok (.iconst 4, 1) := by decide +kernel
theorem dX5_person_160 : decode cX5_person 160 = .ok (.bipush 99, 2) := by decide +kernel
theorem dX5_person_162 : decode cX5_person 162 = .ok (.iastore, 1) := by decide +kernel
theorem dX5_person_163 : decode cX5_person 163 = .ok (.dup, 1) := by decide +kernel
theorem dX5_person_164 : decode cX5_person 164 = .ok (.iconst 5, 1) := by decide +kernel
theorem dX5_person_165 : decode cX5_person 165 = .ok (.bipush 99, 2) := by decide +kernel
theorem dX5_person_167 : decode cX5_person 167 = .ok (.iastore, 1) := by decide +kernel
theorem dX5_person_168 : decode cX5_person 168 = .ok (.invokestatic 76, 3) := by decide +kernel
theorem dX5_person_171 : decode cX5_person 171 = .ok (.putfield 31, 3) := by decide +kernel
theorem dX5_person_174 : decode cX5_person 174 = .ok (.aload_n 0, 1) := by decide +kernel
theorem dX5_person_175 : decode cX5_person 175 = .ok (.getfield 18, 3) := by decide +kernel
theorem dX5_person_178 : decode cX5_person 178 = .ok (.aload_n 0, 1) := by decide +kernel
theorem dX5_person_179 : decode cX5_person 179 = .ok (.getfield 18, 3) := by decide +kernel
theorem dX5_person_182 : decode cX5_person 182 = .ok (.arraylength, 1) := by decide +kernel
theorem dX5_person_183 : decode cX5_person 183 = .ok (.iconst 1, 1) := by decide +kernel
theorem dX5_person_184 : decode cX5_person 184 = .ok (.isub, 1) := by decide +kernel
theorem dX5_person_185 : decode cX5_person 185 = .ok (.aaload, 1) := by decide +kernel
theorem dX5_person_186 : decode cX5_person 186 = .ok (.astore_n 2, 1) := by decide +kernel
theorem dX5_person_187 : decode cX5_person 187 = .ok (.aload_n 0, 1) := by decide +kernel
theorem dX5_person_188 : decode cX5_person 188 = .ok (.getfield 10, 3) := by decide +kernel
theorem dX5_person_191 : decode cX5_person 191 = .ok (.aload_n 2, 1) := by decide +kernel
theorem dX5_person_192 : decode cX5_person 192 = .ok (.iconst 0, 1) := by decide +kernel
theorem dX5_person_193 : decode cX5_person 193 = .ok (.iaload, 1) := by decide +kernel
theorem dX5_person_194 : decode cX5_person 194 = .ok (.aload_n 2, 1) := by decide +kernel
theorem dX5_person_195 : decode cX5_person 195 = .ok (.iconst 1, 1) := by decide +kernel
theorem dX5_person_196 : decode cX5_person 196 = .ok (.iaload, 1) := by decide +kernel
theorem dX5_person_197 : decode cX5_person 197 = .ok (.aload_n 2, 1) := by decide +kernel
theorem dX5_person_198 : decode cX5_person 198 = .ok (.iconst 2, 1) := by decide +kernel
theorem dX5_person_199 : decode cX5_person 199 = .ok (.iaload, 1) := by decide +kernel
theorem dX5_person_200 : decode cX5_person 200 = .ok (.invokevirtual 80, 3) := by decide +kernel
theorem dX5_person_203 : decode cX5_person 203 = .ok (.aload_n 0, 1) := by decide +kernel
theorem dX5_person_204 : decode cX5_person 204 = .ok (.getfield 18, 3) := by decide +kernel
theorem dX5_person_207 : decode cX5_person 207 = .ok (.arraylength, 1) := by decide +kernel
theorem dX5_person_208 : decode cX5_person 208 = .ok (.iconst 1, 1) := by decide +kernel
theorem dX5_person_209 : decode cX5_person 209 = .ok (.isub, 1) := by decide +kernel
theorem dX5_person_210 : decode cX5_person 210 = .ok (.if_icmp .ne 7, 3) := by decide +kernel
theorem dX5_person_213 : decode cX5_person 213 = .ok (.iconst 1, 1) := by decide +kernel
theorem dX5_person_214 : decode cX5_person 214 = .ok (.goto 4, 3) := by decide +kernel
theorem dX5_person_217 : decode cX5_person 217 = .ok (.iconst 0, 1) := by decide +kernel
theorem dX5_person_218 : decode cX5_person 218 = .ok (.ireturn, 1) := by decide +kernel
set_option maxRecDepth 20000 in
theorem ggX5_trend_X5_draw : GoodIn wsX5_trend wsX5_draw := goodIn_r _ [8, 9, 10, 11, 12, 13, 14, 15, 16, 17, 42, 43, 44, 45, 46, 47, 48, 49, 50, 51, 52, 53, 54, 55, 56] (by decide +kernel) (by decide +kernel)
set_option maxRecDepth 20000 in
theorem gX5_trend_X5_draw : GoodIn wsX5_trend (wsV RX5 72 RX5 yX5_draw wsX5_draw) := goodIn_app (goodIn_of _ (by decide +kernel)) ggX5_trend_X5_draw
set_option maxRecDepth 20000 in
theorem ggX5_trend_X4_trend : GoodIn wsX5_trend wsX4_trend := goodIn_ca (goodIn_ca (goodIn_r _ [22, 23, 24, 25, 26, 27, 28, 29, 30, 31, 32, 21, 33, 34, 35, 36, 37, 38, 39, 40, 41, 57, 58, 59, 60, 61, 62, 63, 64, 65, 66, 67, 68, 69, 70, 71, 72, 73, 74, 75, 76, 77] (by decide +kernel) (by decide +kernel)) (goodIn_sub (fun _ h => List.mem_cons_of_mem _ (List.mem_append_left _ (List.mem_append_right _ h))) (by decide +kernel))) (goodIn_sub (fun _ h => List.mem_cons_of_mem _ (List.mem_append_right _ h)) (by decide +kernel))
set_option maxRecDepth 20000 in
theorem gX5_trend_X4_trend : GoodIn wsX5_trend (wsV RX5 84 RX4 yX4_trend wsX4_trend) := goodIn_app (goodIn_of _ (by decide +kernel)) ggX5_trend_X4_trend
theorem dX5_trend_0 : decode cX5_trend 0 = .ok (.aload_n 0, 1) := by decide +kernel
theorem dX5_trend_1 : decode cX5_trend 1 = .ok (.aload_n 0, 1) := by decide +kernel
theorem dX5_trend_2 : decode cX5_trend 2 = .ok (.getfield 18, 3) := by decide +kernel
theorem dX5_trend_5 : decode cX5_trend 5 = .ok (.arraylength, 1) := by decide +kernel
theorem dX5_trend_6 : decode cX5_trend 6 = .ok (.invokevirtual 72, 3) := by decide +kernel
theorem dX5_trend_9 : decode cX5_trend 9 = .ok (.istore_n 1, 1) := by decide +kernel
theorem dX5_trend_10 : decode cX5_trend 10 = .ok (.aload_n 0, 1) := by decide +kernel
theorem dX5_trend_11 : decode cX5_trend 11 = .ok (.iconst 3, 1) := by decide +kernel
theorem dX5_trend_12 : decode cX5_trend 12 = .ok (.invokevirtual 72, 3) := by decide +kernel
theorem dX5_trend_15 : decode cX5_trend 15 = .ok (.istore_n 2, 1) := by decide +kernel
theorem dX5_trend_16 : decode cX5_trend 16 = .ok (.aload_n 0, 1) := by decide +kernel
theorem dX5_trend_17 : decode cX5_trend 17 = .ok (.getfield 22, 3) := by decide +kernel
theorem dX5_trend_20 : decode cX5_trend 20 = .ok (.iload_n 1, 1) := by decide +kernel
theorem dX5_trend_21 : decode cX5_trend 21 = .ok (.aaload, 1) := by decide +kernel
theorem dX5_trend_22 : decode cX5_trend 22 = .ok (.iload_n 2, 1) := by decide +kernel
theorem dX5_trend_23 : decode cX5_trend 23 = .ok (.iaload, 1) := by decide +kernel
theorem dX5_trend_24 : decode cX5_trend 24 = .ok (.istore_n 3, 1) := by decide +kernel
theorem dX5_trend_25 : decode cX5_trend 25 = .ok (.aload_n 0, 1) := by decide +kernel
theorem dX5_trend_26 : decode cX5_trend 26 = .ok (.getfield 22, 3) := by decide +kernel
theorem dX5_trend_29 : decode cX5_trend 29 = .ok (.iload_n 1, 1) := by decide +kernel
theorem dX5_trend_30 : decode cX5_trend 30 = .ok (.aaload, 1) := by decide +kernel
theorem dX5_trend_31 : decode cX5_trend 31 = .ok (.iload_n 2, 1) := by decide +kernel
theorem dX5_trend_32 : decode cX5_trend 32 = .ok (.aload_n 0, 1) := by decide +kernel
theorem dX5_trend_33 : decode cX5_trend 33 = .ok (.bipush 81, 2) := by decide +kernel
theorem dX5_trend_35 : decode cX5_trend 35 = .ok (.invokevirtual 72, 3) := by decide +kernel
theorem dX5_trend_38 : decode cX5_trend 38 = .ok (.bipush 40, 2) := by decide +kernel
theorem dX5_trend_40 : decode cX5_trend 40 = .ok (.isub, 1) := by decide +kernel
theorem dX5_trend_41 : decode cX5_trend 41 = .ok (.iastore, 1) := by decide +kernel
theorem dX5_trend_42 : decode cX5_trend 42 = .ok (.aload_n 0, 1) := by decide +kernel
theorem dX5_trend_43 : decode cX5_trend 43 = .ok (.getfield 10, 3) := by decide +kernel
theorem dX5_trend_46 : decode cX5_trend 46 = .ok (.iload_n 1, 1) := by decide +kernel
theorem dX5_trend_47 : decode cX5_trend 47 = .ok (.iload_n 2, 1) := by decide +kernel
theorem dX5_trend_48 : decode cX5_trend 48 = .ok (.aload_n 0, 1) := by decide +kernel
theorem dX5_trend_49 : decode cX5_trend 49 = .ok (.getfield 22, 3) := by decide +kernel
theorem dX5_trend_52 : decode cX5_trend 52 = .ok (.iload_n 1, 1) := by decide +kernel
theorem dX5_trend_53 : decode cX5_trend 53 = .ok (.aaload, 1) := by decide +kernel
theorem dX5_trend_54 : decode cX5_trend 54 = .ok (.iload_n 2, 1) := by decide +kernel
theorem dX5_trend_55 : decode cX5_trend 55 = .ok (.iaload, 1) := by decide +kernel
theorem dX5_trend_56 : decode cX5_trend 56 = .ok (.invokevirtual 84, 3) := by decide +kernel
theorem dX5_trend_59 : decode cX5_trend 59 = .ok (.iload_n 3, 1) := by decide +kernel
theorem dX5_trend_60 : decode cX5_trend 60 = .ok (.if_icmp .ne 7, 3) := by decide +kernel
theorem dX5_trend_63 : decode cX5_trend 63 = .ok (.iconst 1, 1) := by decide +kernel
theorem dX5_trend_64 : decode cX5_trend 64 = .ok (.goto 4, 3) := by decide +kernel
theorem dX5_trend_67 : decode cX5_trend 67 = .ok (.iconst 0, 1) := by decide +kernel
theorem dX5_trend_68 : decode cX5_trend 68 = .ok (.ireturn, 1) := by decide +kernel
set_option maxRecDepth 20000 in
theorem ggX5_consent_X4_consent : GoodIn wsX5_consent wsX4_consent := goodIn_ca (goodIn_r _ [8, 9, 10, 11, 12, 13, 14, 15, 16, 17, 18, 7, 19, 20, 21, 22, 23, 24, 25, 26, 27, 28, 29, 30, 31, 32, 33, 34, 35, 51, 52, 53, 54, 55, 56, 57, 58, 59, 60, 61, 62, 63, 64, 65, 66, 67, 68, 69, 70, 71, 72, 73, 74, 75, 76, 77, 78, 79, 80, 81, 82] (by decide +kernel) (by decide +kernel)) (goodIn_sub (fun _ h => List.mem_cons_of_mem _ (List.mem_append_right _ h)) (by decide +kernel))
set_option maxRecDepth 20000 in
theorem gX5_consent_X4_consent : GoodIn wsX5_consent (wsV RX5 93 RX4 yX4_consent wsX4_consent) := goodIn_app (goodIn_of _ (by decide +kernel)) ggX5_consent_X4_consent
theorem dX5_consent_0 : decode cX5_consent 0 = .ok (.aload_n 0, 1) := by decide +kernel
theorem dX5_consent_1 : decode cX5_consent 1 = .ok (.getfield 25, 3) := by decide +kernel
theorem dX5_consent_4 : decode cX5_consent 4 = .ok (.iload_n 1, 1) := by decide +kernel
theorem dX5_consent_5 : decode cX5_consent 5 = .ok (.aaload, 1) := by decide +kernel
theorem dX5_consent_6 : decode cX5_consent 6 = .ok (.iconst 0, 1) := by decide +kernel
theorem dX5_consent_7 : decode cX5_consent 7 = .ok (.iload_n 2, 1) := by decide +kernel
theorem dX5_consent_8 : decode cX5_consent 8 = .ok (.ifCond .eq 7, 3) := by decide +kernel
theorem dX5_consent_11 : decode cX5_consent 11 = .ok (.iconst 1, 1) := by decide +kernel
theorem dX5_consent_12 : decode cX5_consent 12 = .ok (.goto 4, 3) := by decide +kernel
theorem dX5_consent_15 : decode cX5_consent 15 = .ok (.iconst 0, 1) := by decide +kernel
theorem dX5_consent_16 : decode cX5_consent 16 = .ok (.iastore, 1) := by decide +kernel
theorem dX5_consent_17 : decode cX5_consent 17 = .ok (.iconst 0, 1) := by decide +kernel
theorem dX5_consent_18 : decode cX5_consent 18 = .ok (.istore_n 3, 1) := by decide +kernel
theorem dX5_consent_19 : decode cX5_consent 19 = .ok (.aload_n 0, 1) := by decide +kernel
theorem dX5_consent_20 : decode cX5_consent 20 = .ok (.getfield 34, 3) := by decide +kernel
theorem dX5_consent_23 : decode cX5_consent 23 = .ok (.astore 4, 2) := by decide +kernel
theorem dX5_consent_25 : decode cX5_consent 25 = .ok (.aload 4, 2) := by decide +kernel
theorem dX5_consent_27 : decode cX5_consent 27 = .ok (.arraylength, 1) := by decide +kernel
theorem dX5_consent_28 : decode cX5_consent 28 = .ok (.istore 5, 2) := by decide +kernel
theorem dX5_consent_30 : decode cX5_consent 30 = .ok (.iconst 0, 1) := by decide +kernel
theorem dX5_consent_31 : decode cX5_consent 31 = .ok (.istore 6, 2) := by decide +kernel
theorem dX5_consent_33 : decode cX5_consent 33 = .ok (.iload 6, 2) := by decide +kernel
theorem dX5_consent_35 : decode cX5_consent 35 = .ok (.iload 5, 2) := by decide +kernel
theorem dX5_consent_37 : decode cX5_consent 37 = .ok (.if_icmp .ge 49, 3) := by decide +kernel
theorem dX5_consent_40 : decode cX5_consent 40 = .ok (.aload 4, 2) := by decide +kernel
theorem dX5_consent_42 : decode cX5_consent 42 = .ok (.iload 6, 2) := by decide +kernel
theorem dX5_consent_44 : decode cX5_consent 44 = .ok (.aaload, 1) := by decide +kernel
theorem dX5_consent_45 : decode cX5_consent 45 = .ok (.astore 7, 2) := by decide +kernel
theorem dX5_consent_47 : decode cX5_consent 47 = .ok (.iload_n 2, 1) := by decide +kernel
theorem dX5_consent_48 : decode cX5_consent 48 = .ok (.ifCond .ne 32, 3) := by decide +kernel
theorem dX5_consent_51 : decode cX5_consent 51 = .ok (.aload 7, 2) := by decide +kernel
theorem dX5_consent_53 : decode cX5_consent 53 = .ok (.iconst 0, 1) := by decide +kernel
theorem dX5_consent_54 : decode cX5_consent 54 = .ok (.iaload, 1) := by decide +kernel
theorem dX5_consent_55 : decode cX5_consent 55 = .ok (.iload_n 1, 1) := by decide +kernel
theorem dX5_consent_56 : decode cX5_consent 56 = .ok (.if_icmp .ne 24, 3) := by decide +kernel
theorem dX5_consent_59 : decode cX5_consent 59 = .ok (.aload 7, 2) := by decide +kernel
theorem dX5_consent_61 : decode cX5_consent 61 = .ok (.bipush 6, 2) := by decide +kernel
theorem dX5_consent_63 : decode cX5_consent 63 = .ok (.iaload, 1) := by decide +kernel
theorem dX5_consent_64 : decode cX5_consent 64 = .ok (.iconst 4, 1) := by decide +kernel
theorem dX5_consent_65 : decode cX5_consent 65 = .ok (.if_icmp .le 6, 3) := by decide +kernel
theorem dX5_consent_68 : decode cX5_consent 68 = .ok (.goto 12, 3) := by decide +kernel
theorem dX5_consent_71 : decode cX5_consent 71 = .ok (.aload 7, 2) := by decide +kernel
theorem dX5_consent_73 : decode cX5_consent 73 = .ok (.bipush 6, 2) := by decide +kernel
theorem dX5_consent_75 : decode cX5_consent 75 = .ok (.iconst 5, 1) := by decide +kernel
theorem dX5_consent_76 : decode cX5_consent 76 = .ok (.iastore, 1) := by decide +kernel
theorem dX5_consent_77 : decode cX5_consent 77 = .ok (.iinc 3 1, 3) := by decide +kernel
theorem dX5_consent_80 : decode cX5_consent 80 = .ok (.iinc 6 1, 3) := by decide +kernel
theorem dX5_consent_83 : decode cX5_consent 83 = .ok (.goto (-50), 3) := by decide +kernel
theorem dX5_consent_86 : decode cX5_consent 86 = .ok (.aload_n 0, 1) := by decide +kernel
theorem dX5_consent_87 : decode cX5_consent 87 = .ok (.getfield 10, 3) := by decide +kernel
theorem dX5_consent_90 : decode cX5_consent 90 = .ok (.iload_n 1, 1) := by decide +kernel
theorem dX5_consent_91 : decode cX5_consent 91 = .ok (.iload_n 2, 1) := by decide +kernel
theorem dX5_consent_92 : decode cX5_consent 92 = .ok (.invokevirtual 93, 3) := by decide +kernel
theorem dX5_consent_95 : decode cX5_consent 95 = .ok (.iload_n 3, 1) := by decide +kernel
theorem dX5_consent_96 : decode cX5_consent 96 = .ok (.if_icmp .ne 7, 3) := by decide +kernel
theorem dX5_consent_99 : decode cX5_consent 99 = .ok (.iconst 1, 1) := by decide +kernel
theorem dX5_consent_100 : decode cX5_consent 100 = .ok (.goto 4, 3) := by decide +kernel
theorem dX5_consent_103 : decode cX5_consent 103 = .ok (.iconst 0, 1) := by decide +kernel
theorem dX5_consent_104 : decode cX5_consent 104 = .ok (.ireturn, 1) := by decide +kernel
set_option maxRecDepth 20000 in
theorem ggX5_measure_X5_held : GoodIn wsX5_measure wsX5_held := goodIn_r _ [15] (by decide +kernel) (by decide +kernel)
set_option maxRecDepth 20000 in
theorem gX5_measure_X5_held : GoodIn wsX5_measure (va_wsS RX5 87 yX5_held wsX5_held) := goodIn_app (goodIn_of _ (by decide +kernel)) ggX5_measure_X5_held
set_option maxRecDepth 20000 in
theorem ggX5_measure_X4_measure : GoodIn wsX5_measure wsX4_measure := goodIn_ca (goodIn_ca (goodIn_r _ [20, 21, 22, 3, 4, 5, 23, 8, 9, 24, 25, 26, 27, 28, 29, 30, 31, 32, 33, 19, 34, 35, 36, 37, 38, 39, 40, 41, 42, 43, 44, 45, 46, 47, 48, 49, 50, 51, 52, 68, 69, 70, 71, 72, 73, 74, 75, 76, 77, 78, 79, 80, 81, 82, 83, 84, 85, 86, 87, 88] (by decide +kernel) (by decide +kernel)) (goodIn_sub (fun _ h => List.mem_cons_of_mem _ (List.mem_append_left _ (List.mem_append_right _ h))) (by decide +kernel))) (goodIn_sub (fun _ h => List.mem_cons_of_mem _ (List.mem_append_right _ h)) (by decide +kernel))
set_option maxRecDepth 20000 in
theorem gX5_measure_X4_measure : GoodIn wsX5_measure (wsV RX5 105 RX4 yX4_measure wsX4_measure) := goodIn_app (goodIn_of _ (by decide +kernel)) ggX5_measure_X4_measure
theorem dX5_measure_0 : decode cX5_measure 0 = .ok (.aload_n 0, 1) := by decide +kernel
theorem dX5_measure_1 : decode cX5_measure 1 = .ok (.getfield 28, 3) := by decide +kernel
theorem dX5_measure_4 : decode cX5_measure 4 = .ok (.iload_n 1, 1) := by decide +kernel
theorem dX5_measure_5 : decode cX5_measure 5 = .ok (.aaload, 1) := by decide +kernel
theorem dX5_measure_6 : decode cX5_measure 6 = .ok (.iload_n 2, 1) := by decide +kernel
theorem dX5_measure_7 : decode cX5_measure 7 = .ok (.iaload, 1) := by decide +kernel
theorem dX5_measure_8 : decode cX5_measure 8 = .ok (.iload_n 3, 1) := by decide +kernel
theorem dX5_measure_9 : decode cX5_measure 9 = .ok (.iload 4, 2) := by decide +kernel
theorem dX5_measure_11 : decode cX5_measure 11 = .ok (.isub, 1) := by decide +kernel
theorem dX5_measure_12 : decode cX5_measure 12 = .ok (.invokestatic 97, 3) := by decide +kernel
theorem dX5_measure_15 : decode cX5_measure 15 = .ok (.istore 5, 2) := by decide +kernel
theorem dX5_measure_17 : decode cX5_measure 17 = .ok (.aload_n 0, 1) := by decide +kernel
theorem dX5_measure_18 : decode cX5_measure 18 = .ok (.getfield 31, 3) := by decide +kernel
theorem dX5_measure_21 : decode cX5_measure 21 = .ok (.iload_n 1, 1) := by decide +kernel
theorem dX5_measure_22 : decode cX5_measure 22 = .ok (.aaload, 1) := by decide +kernel
theorem dX5_measure_23 : decode cX5_measure 23 = .ok (.iload_n 2, 1) := by decide +kernel
theorem dX5_measure_24 : decode cX5_measure 24 = .ok (.iaload, 1) := by decide +kernel
theorem dX5_measure_25 : decode cX5_measure 25 = .ok (.iload_n 3, 1) := by decide +kernel
theorem dX5_measure_26 : decode cX5_measure 26 = .ok (.iload 4, 2) := by decide +kernel
theorem dX5_measure_28 : decode cX5_measure 28 = .ok (.iadd, 1) := by decide +kernel
theorem dX5_measure_29 : decode cX5_measure 29 = .ok (.invokestatic 102, 3) := by decide +kernel
theorem dX5_measure_32 : decode cX5_measure 32 = .ok (.istore 6, 2) := by decide +kernel
theorem dX5_measure_34 : decode cX5_measure 34 = .ok (.iload 5, 2) := by decide +kernel
theorem dX5_measure_36 : decode cX5_measure 36 = .ok (.iload 6, 2) := by decide +kernel
theorem dX5_measure_38 : decode cX5_measure 38 = .ok (.if_icmp .le 37, 3) := by decide +kernel
theorem dX5_measure_41 : decode cX5_measure 41 = .ok (.iload_n 3, 1) := by decide +kernel
theorem dX5_measure_42 : decode cX5_measure 42 = .ok (.iload 4, 2) := by decide +kernel
theorem dX5_measure_44 : decode cX5_measure 44 = .ok (.isub, 1) := by decide +kernel
theorem dX5_measure_45 : decode cX5_measure 45 = .ok (.bipush 99, 2) := by decide +kernel
theorem dX5_measure_47 : decode cX5_measure 47 = .ok (.invokestatic 87, 3) := by decide +kernel
theorem dX5_measure_50 : decode cX5_measure 50 = .ok (.istore 5, 2) := by decide +kernel
theorem dX5_measure_52 : decode cX5_measure 52 = .ok (.iload_n 3, 1) := by decide +kernel
theorem dX5_measure_53 : decode cX5_measure 53 = .ok (.iload 4, 2) := by decide +kernel
theorem dX5_measure_55 : decode cX5_measure 55 = .ok (.iadd, 1) := by decide +kernel
theorem dX5_measure_56 : decode cX5_measure 56 = .ok (.bipush 99, 2) := by decide +kernel
theorem dX5_measure_58 : decode cX5_measure 58 = .ok (.invokestatic 87, 3) := by decide +kernel
theorem dX5_measure_61 : decode cX5_measure 61 = .ok (.istore 6, 2) := by decide +kernel
theorem dX5_measure_63 : decode cX5_measure 63 = .ok (.aload_n 0, 1) := by decide +kernel
theorem dX5_measure_64 : decode cX5_measure 64 = .ok (.getfield 25, 3) := by decide +kernel
theorem dX5_measure_67 : decode cX5_measure 67 = .ok (.iload_n 1, 1) := by decide +kernel
theorem dX5_measure_68 : decode cX5_measure 68 = .ok (.aaload, 1) := by decide +kernel
theorem dX5_measure_69 : decode cX5_measure 69 = .ok (.iconst 2, 1) := by decide +kernel
theorem dX5_measure_70 : decode cX5_measure 70 = .ok (.dup2, 1) := by decide +kernel
theorem dX5_measure_71 : decode cX5_measure 71 = .ok (.iaload, 1) := by decide +kernel
theorem dX5_measure_72 : decode cX5_measure 72 = .ok (.iconst 1, 1) := by decide +kernel
theorem dX5_measure_73 : decode cX5_measure 73 = .ok (.iadd, 1) := by decide +kernel
theorem dX5_measure_74 : decode cX5_measure 74 = .ok (.iastore, 1) := by decide +kernel
theorem dX5_measure_75 : decode cX5_measure 75 = .ok (.aload_n 0, 1) := by decide +kernel
theorem dX5_measure_76 : decode cX5_measure 76 = .ok (.getfield 28, 3) := by decide +kernel
theorem dX5_measure_79 : decode cX5_measure 79 = .ok (.iload_n 1, 1) := by decide +kernel
theorem dX5_measure_80 : decode cX5_measure 80 = .ok (.aaload, 1) := by decide +kernel
theorem dX5_measure_81 : decode cX5_measure 81 = .ok (.iload_n 2, 1) := by decide +kernel
theorem dX5_measure_82 : decode cX5_measure 82 = .ok (.iload 5, 2) := by decide +kernel
theorem dX5_measure_84 : decode cX5_measure 84 = .ok (.iastore, 1) := by decide +kernel
theorem dX5_measure_85 : decode cX5_measure 85 = .ok (.aload_n 0, 1) := by decide +kernel
theorem dX5_measure_86 : decode cX5_measure 86 = .ok (.getfield 31, 3) := by decide +kernel
theorem dX5_measure_89 : decode cX5_measure 89 = .ok (.iload_n 1, 1) := by decide +kernel
theorem dX5_measure_90 : decode cX5_measure 90 = .ok (.aaload, 1) := by decide +kernel
theorem dX5_measure_91 : decode cX5_measure 91 = .ok (.iload_n 2, 1) := by decide +kernel
theorem dX5_measure_92 : decode cX5_measure 92 = .ok (.iload 6, 2) := by decide +kernel
theorem dX5_measure_94 : decode cX5_measure 94 = .ok (.iastore, 1) := by decide +kernel
theorem dX5_measure_95 : decode cX5_measure 95 = .ok (.aload_n 0, 1) := by decide +kernel
theorem dX5_measure_96 : decode cX5_measure 96 = .ok (.getfield 10, 3) := by decide +kernel
theorem dX5_measure_99 : decode cX5_measure 99 = .ok (.iload_n 1, 1) := by decide +kernel
theorem dX5_measure_100 : decode cX5_measure 100 = .ok (.iload_n 2, 1) := by decide +kernel
theorem dX5_measure_101 : decode cX5_measure 101 = .ok (.iload_n 3, 1) := by decide +kernel
theorem dX5_measure_102 : decode cX5_measure 102 = .ok (.iload 4, 2) := by decide +kernel
theorem dX5_measure_104 : decode cX5_measure 104 = .ok (.invokevirtual 105, 3) := by decide +kernel
theorem dX5_measure_107 : decode cX5_measure 107 = .ok (.iload 6, 2) := by decide +kernel
theorem dX5_measure_109 : decode cX5_measure 109 = .ok (.iload 5, 2) := by decide +kernel
theorem dX5_measure_111 : decode cX5_measure 111 = .ok (.isub, 1) := by decide +kernel
theorem dX5_measure_112 : decode cX5_measure 112 = .ok (.if_icmp .ne 7, 3) := by decide +kernel
theorem dX5_measure_115 : decode cX5_measure 115 = .ok (.iconst 1, 1) := by decide +kernel
theorem dX5_measure_116 : decode cX5_measure 116 = .ok (.goto 4, 3) := by decide +kernel
theorem dX5_measure_119 : decode cX5_measure 119 = .ok (.iconst 0, 1) := by decide +kernel
theorem dX5_measure_120 : decode cX5_measure 120 = .ok (.ireturn, 1) := by decide +kernel
theorem dX5_doubt_0 : decode cX5_doubt 0 = .ok (.iconst 0, 1) := by decide +kernel
theorem dX5_doubt_1 : decode cX5_doubt 1 = .ok (.istore_n 2, 1) := by decide +kernel
theorem dX5_doubt_2 : decode cX5_doubt 2 = .ok (.iconst 0, 1) := by decide +kernel
theorem dX5_doubt_3 : decode cX5_doubt 3 = .ok (.istore_n 3, 1) := by decide +kernel
theorem dX5_doubt_4 : decode cX5_doubt 4 = .ok (.iload_n 3, 1) := by decide +kernel
theorem dX5_doubt_5 : decode cX5_doubt 5 = .ok (.bipush 6, 2) := by decide +kernel
theorem dX5_doubt_7 : decode cX5_doubt 7 = .ok (.if_icmp .ge 29, 3) := by decide +kernel
theorem dX5_doubt_10 : decode cX5_doubt 10 = .ok (.iload_n 2, 1) := by decide +kernel
theorem dX5_doubt_11 : decode cX5_doubt 11 = .ok (.aload_n 0, 1) := by decide +kernel
theorem dX5_doubt_12 : decode cX5_doubt 12 = .ok (.getfield 31, 3) := by decide +kernel
theorem dX5_doubt_15 : decode cX5_doubt 15 = .ok (.iload_n 1, 1) := by decide +kernel
theorem dX5_doubt_16 : decode cX5_doubt 16 = .ok (.aaload, 1) := by decide +kernel
theorem dX5_doubt_17 : decode cX5_doubt 17 = .ok (.iload_n 3, 1) := by decide +kernel
theorem dX5_doubt_18 : decode cX5_doubt 18 = .ok (.iaload, 1) := by decide +kernel
theorem dX5_doubt_19 : decode cX5_doubt 19 = .ok (.aload_n 0, 1) := by decide +kernel
theorem dX5_doubt_20 : decode cX5_doubt 20 = .ok (.getfield 28, 3) := by decide +kernel
theorem dX5_doubt_23 : decode cX5_doubt 23 = .ok (.iload_n 1, 1) := by decide +kernel
theorem dX5_doubt_24 : decode cX5_doubt 24 = .ok (.aaload, 1) := by decide +kernel
theorem dX5_doubt_25 : decode cX5_doubt 25 = .ok (.iload_n 3, 1) := by decide +kernel
theorem dX5_doubt_26 : decode cX5_doubt 26 = .ok (.iaload, 1) := by decide +kernel
theorem dX5_doubt_27 : decode cX5_doubt 27 = .ok (.isub, 1) := by decide +kernel
theorem dX5_doubt_28 : decode cX5_doubt 28 = .ok (.iadd, 1) := by decide +kernel
theorem dX5_doubt_29 : decode cX5_doubt 29 = .ok (.istore_n 2, 1) := by decide +kernel
theorem dX5_doubt_30 : decode cX5_doubt 30 = .ok (.iinc 3 1, 3) := by decide +kernel
theorem dX5_doubt_33 : decode cX5_doubt 33 = .ok (.goto (-29), 3) := by decide +kernel
theorem dX5_doubt_36 : decode cX5_doubt 36 = .ok (.iload_n 2, 1) := by decide +kernel
theorem dX5_doubt_37 : decode cX5_doubt 37 = .ok (.bipush 6, 2) := by decide +kernel
theorem dX5_doubt_39 : decode cX5_doubt 39 = .ok (.idiv, 1) := by decide +kernel
theorem dX5_doubt_40 : decode cX5_doubt 40 = .ok (.ireturn, 1) := by decide +kernel
set_option maxRecDepth 20000 in
theorem ggX5_figure_X5_plus : GoodIn wsX5_figure wsX5_plus := goodIn_r _ [7, 8, 9, 10, 11, 12] (by decide +kernel) (by decide +kernel)
set_option maxRecDepth 20000 in
theorem gX5_figure_X5_plus : GoodIn wsX5_figure (va_wsS RX5 76 yX5_plus wsX5_plus) := goodIn_app (goodIn_of _ (by decide +kernel)) ggX5_figure_X5_plus
set_option maxRecDepth 20000 in
theorem ggX5_figure_X4_figure : GoodIn wsX5_figure wsX4_figure := goodIn_ca (goodIn_ca (goodIn_r _ [17, 18, 19, 20, 21, 22, 23, 24, 25, 26, 27, 16, 28, 29, 30, 31, 32, 33, 34, 35, 36, 37, 38, 39, 40, 41, 42, 43, 44, 45, 46, 47, 63, 64, 65, 66, 67, 68, 69, 70, 71, 72, 73, 74, 75, 76, 77, 78, 79, 80, 81, 82, 83, 84, 85, 86] (by decide +kernel) (by decide +kernel)) (goodIn_sub (fun _ h => List.mem_cons_of_mem _ (List.mem_append_left _ (List.mem_append_right _ h))) (by decide +kernel))) (goodIn_sub (fun _ h => List.mem_cons_of_mem _ (List.mem_append_right _ h)) (by decide +kernel))
set_option maxRecDepth 20000 in
theorem gX5_figure_X4_figure : GoodIn wsX5_figure (wsV RX5 109 RX4 yX4_figure wsX4_figure) := goodIn_app (goodIn_of _ (by decide +kernel)) ggX5_figure_X4_figure
theorem dX5_figure_0 : decode cX5_figure 0 = .ok (.aload_n 0, 1) := by decide +kernel
theorem dX5_figure_1 : decode cX5_figure 1 = .ok (.aload_n 0, 1) := by decide +kernel
theorem dX5_figure_2 : decode cX5_figure 2 = .ok (.getfield 34, 3) := by decide +kernel
theorem dX5_figure_5 : decode cX5_figure 5 = .ok (.bipush 10, 2) := by decide +kernel
theorem dX5_figure_7 : decode cX5_figure 7 = .ok (.newarray .int, 2) := by decide +kernel
theorem dX5_figure_9 : decode cX5_figure 9 = .ok (.dup, 1) := by decide +kernel
theorem dX5_figure_10 : decode cX5_figure 10 = .ok (.iconst 0, 1) := by decide +kernel
theorem dX5_figure_11 : decode cX5_figure 11 = .ok (.iload_n 1, 1) := by decide +kernel
theorem dX5_figure_12 : decode cX5_figure 12 = .ok (.iastore, 1) := by decide +kernel
theorem dX5_figure_13 : decode cX5_figure 13 = .ok (.dup, 1) := by decide +kernel
theorem dX5_figure_14 : decode cX5_figure 14 = .ok (.iconst 1, 1) := by decide +kernel
theorem dX5_figure_15 : decode cX5_figure 15 = .ok (.iload_n 1, 1) := by decide +kernel
theorem dX5_figure_16 : decode cX5_figure 16 = .ok (.iastore, 1) := by decide +kernel
theorem dX5_figure_17 : decode cX5_figure 17 = .ok (.dup, 1) := by decide +kernel
theorem dX5_figure_18 : decode cX5_figure 18 = .ok (.iconst 2, 1) := by decide +kernel
theorem dX5_figure_19 : decode cX5_figure 19 = .ok (.iconst 0, 1) := by decide +kernel
theorem dX5_figure_20 : decode cX5_figure 20 = .ok (.iastore, 1) := by decide +kernel
theorem dX5_figure_21 : decode cX5_figure 21 = .ok (.dup, 1) := by decide +kernel
theorem dX5_figure_22 : decode cX5_figure 22 = .ok (.iconst 3, 1) := by decide +kernel
theorem dX5_figure_23 : decode cX5_figure 23 = .ok (.iconst 0, 1) := by decide +kernel
theorem dX5_figure_24 : decode cX5_figure 24 = .ok (.iastore, 1) := by decide +kernel
theorem dX5_figure_25 : decode cX5_figure 25 = .ok (.dup, 1) := by decide +kernel
theorem dX5_figure_26 : decode cX5_figure 26 = .ok (.iconst 4, 1) := by decide +kernel
theorem dX5_figure_27 : decode cX5_figure 27 = .ok (.iconst 0, 1) := by decide +kernel
theorem dX5_figure_28 : decode cX5_figure 28 = .ok (.iastore, 1) := by decide +kernel
theorem dX5_figure_29 : decode cX5_figure 29 = .ok (.dup, 1) := by decide +kernel
theorem dX5_figure_30 : decode cX5_figure 30 = .ok (.iconst 5, 1) := by decide +kernel
theorem dX5_figure_31 : decode cX5_figure 31 = .ok (.iconst 0, 1) := by decide +kernel
theorem dX5_figure_32 : decode cX5_figure 32 = .ok (.iastore, 1) := by decide +kernel
theorem dX5_figure_33 : decode cX5_figure 33 = .ok (.dup, 1) := by decide +kernel
theorem dX5_figure_34 : decode cX5_figure 34 = .ok (.bipush 6, 2) := by decide +kernel
theorem dX5_figure_36 : decode cX5_figure 36 = .ok (.iconst 5, 1) := by decide +kernel
theorem dX5_figure_37 : decode cX5_figure 37 = .ok (.iastore, 1) := by decide +kernel
theorem dX5_figure_38 : decode cX5_figure 38 = .ok (.dup, 1) := by decide +kernel
theorem dX5_figure_39 : decode cX5_figure 39 = .ok (.bipush 7, 2) := by decide +kernel
theorem dX5_figure_41 : decode cX5_figure 41 = .ok (.iconst 0, 1) := by decide +kernel
theorem dX5_figure_42 : decode cX5_figure 42 = .ok (.iastore, 1) := by decide +kernel
theorem dX5_figure_43 : decode cX5_figure 43 = .ok (.dup, 1) := by decide +kernel
theorem dX5_figure_44 : decode cX5_figure 44 = .ok (.bipush 8, 2) := by decide +kernel
theorem dX5_figure_46 : decode cX5_figure 46 = .ok (.iconst 0, 1) := by decide +kernel
theorem dX5_figure_47 : decode cX5_figure 47 = .ok (.iastore, 1) := by decide +kernel
theorem dX5_figure_48 : decode cX5_figure 48 = .ok (.dup, 1) := by decide +kernel
theorem dX5_figure_49 : decode cX5_figure 49 = .ok (.bipush 9, 2) := by decide +kernel
theorem dX5_figure_51 : decode cX5_figure 51 = .ok (.iconst 0, 1) := by decide +kernel
theorem dX5_figure_52 : decode cX5_figure 52 = .ok (.iastore, 1) := by decide +kernel
theorem dX5_figure_53 : decode cX5_figure 53 = .ok (.invokestatic 76, 3) := by decide +kernel
theorem dX5_figure_56 : decode cX5_figure 56 = .ok (.putfield 34, 3) := by decide +kernel
theorem dX5_figure_59 : decode cX5_figure 59 = .ok (.aload_n 0, 1) := by decide +kernel
theorem dX5_figure_60 : decode cX5_figure 60 = .ok (.getfield 10, 3) := by decide +kernel
theorem dX5_figure_63 : decode cX5_figure 63 = .ok (.iload_n 1, 1) := by decide +kernel
theorem dX5_figure_64 : decode cX5_figure 64 = .ok (.invokevirtual 109, 3) := by decide +kernel
theorem dX5_figure_67 : decode cX5_figure 67 = .ok (.aload_n 0, 1) := by decide +kernel
theorem dX5_figure_68 : decode cX5_figure 68 = .ok (.getfield 34, 3) := by decide +kernel
theorem dX5_figure_71 : decode cX5_figure 71 = .ok (.arraylength, 1) := by decide +kernel
theorem dX5_figure_72 : decode cX5_figure 72 = .ok (.iconst 1, 1) := by decide +kernel
theorem dX5_figure_73 : decode cX5_figure 73 = .ok (.isub, 1) := by decide +kernel
theorem dX5_figure_74 : decode cX5_figure 74 = .ok (.if_icmp .ne 7, 3) := by decide +kernel
theorem dX5_figure_77 : decode cX5_figure 77 = .ok (.iconst 1, 1) := by decide +kernel
theorem dX5_figure_78 : decode cX5_figure 78 = .ok (.goto 4, 3) := by decide +kernel
theorem dX5_figure_81 : decode cX5_figure 81 = .ok (.iconst 0, 1) := by decide +kernel
theorem dX5_figure_82 : decode cX5_figure 82 = .ok (.ireturn, 1) := by decide +kernel
set_option maxRecDepth 20000 in
theorem ggX5_room_X5_plus : GoodIn wsX5_room wsX5_plus := goodIn_r _ [7, 8, 9, 10, 11, 12] (by decide +kernel) (by decide +kernel)
set_option maxRecDepth 20000 in
theorem gX5_room_X5_plus : GoodIn wsX5_room (va_wsS RX5 76 yX5_plus wsX5_plus) := goodIn_app (goodIn_of _ (by decide +kernel)) ggX5_room_X5_plus
set_option maxRecDepth 20000 in
theorem ggX5_room_X4_room : GoodIn wsX5_room wsX4_room := goodIn_ca (goodIn_ca (goodIn_ca (goodIn_r _ [17, 18, 19, 20, 21, 16, 22, 23, 24, 25, 26, 27, 28, 29, 30, 31, 32, 33, 34, 35, 36, 37, 38, 39, 40, 41, 42, 43, 44, 45, 46, 62, 63, 64, 65, 66, 67, 68, 69, 70, 71, 72, 73, 74, 75, 76] (by decide +kernel) (by decide +kernel)) (goodIn_sub (fun _ h => List.mem_cons_of_mem _ (List.mem_append_left _ (List.mem_append_left _ (List.mem_append_right _ h)))) (by decide +kernel))) (goodIn_sub (fun _ h => List.mem_cons_of_mem _ (List.mem_append_left _ (List.mem_append_right _ h))) (by decide +kernel))) (goodIn_sub (fun _ h => List.mem_cons_of_mem _ (List.mem_append_right _ h)) (by decide +kernel))
set_option maxRecDepth 20000 in
theorem gX5_room_X4_room : GoodIn wsX5_room (wsV RX5 112 RX4 yX4_room wsX4_room) := goodIn_app (goodIn_of _ (by decide +kernel)) ggX5_room_X4_room
theorem dX5_room_0 : decode cX5_room 0 = .ok (.aload_n 0, 1) := by decide +kernel
theorem dX5_room_1 : decode cX5_room 1 = .ok (.aload_n 0, 1) := by decide +kernel
theorem dX5_room_2 : decode cX5_room 2 = .ok (.getfield 37, 3) := by decide +kernel
theorem dX5_room_5 : decode cX5_room 5 = .ok (.iconst 2, 1) := by decide +kernel
theorem dX5_room_6 : decode cX5_room 6 = .ok (.newarray .int, 2) := by decide +kernel
theorem dX5_room_8 : decode cX5_room 8 = .ok (.dup, 1) := by decide +kernel
theorem dX5_room_9 : decode cX5_room 9 = .ok (.iconst 0, 1) := by decide +kernel
theorem dX5_room_10 : decode cX5_room 10 = .ok (.iload_n 1, 1) := by decide +kernel
theorem dX5_room_11 : decode cX5_room 11 = .ok (.iastore, 1) := by decide +kernel
theorem dX5_room_12 : decode cX5_room 12 = .ok (.dup, 1) := by decide +kernel
theorem dX5_room_13 : decode cX5_room 13 = .ok (.iconst 1, 1) := by decide +kernel
theorem dX5_room_14 : decode cX5_room 14 = .ok (.iload_n 2, 1) := by decide +kernel
theorem dX5_room_15 : decode cX5_room 15 = .ok (.iastore, 1) := by decide +kernel
theorem dX5_room_16 : decode cX5_room 16 = .ok (.invokestatic 76, 3) := by decide +kernel
theorem dX5_room_19 : decode cX5_room 19 = .ok (.putfield 37, 3) := by decide +kernel
theorem dX5_room_22 : decode cX5_room 22 = .ok (.aload_n 0, 1) := by decide +kernel
theorem dX5_room_23 : decode cX5_room 23 = .ok (.getfield 10, 3) := by decide +kernel
theorem dX5_room_26 : decode cX5_room 26 = .ok (.iload_n 1, 1) := by decide +kernel
theorem dX5_room_27 : decode cX5_room 27 = .ok (.iload_n 2, 1) := by decide +kernel
theorem dX5_room_28 : decode cX5_room 28 = .ok (.invokevirtual 112, 3) := by decide +kernel
theorem dX5_room_31 : decode cX5_room 31 = .ok (.aload_n 0, 1) := by decide +kernel
theorem dX5_room_32 : decode cX5_room 32 = .ok (.getfield 37, 3) := by decide +kernel
theorem dX5_room_35 : decode cX5_room 35 = .ok (.arraylength, 1) := by decide +kernel
theorem dX5_room_36 : decode cX5_room 36 = .ok (.iconst 1, 1) := by decide +kernel
theorem dX5_room_37 : decode cX5_room 37 = .ok (.isub, 1) := by decide +kernel
theorem dX5_room_38 : decode cX5_room 38 = .ok (.if_icmp .ne 7, 3) := by decide +kernel
theorem dX5_room_41 : decode cX5_room 41 = .ok (.iconst 1, 1) := by decide +kernel
theorem dX5_room_42 : decode cX5_room 42 = .ok (.goto 4, 3) := by decide +kernel
theorem dX5_room_45 : decode cX5_room 45 = .ok (.iconst 0, 1) := by decide +kernel
theorem dX5_room_46 : decode cX5_room 46 = .ok (.ireturn, 1) := by decide +kernel
theorem dX5_isDone_0 : decode cX5_isDone 0 = .ok (.aload_n 0, 1) := by decide +kernel
theorem dX5_isDone_1 : decode cX5_isDone 1 = .ok (.getfield 34, 3) := by decide +kernel
theorem dX5_isDone_4 : decode cX5_isDone 4 = .ok (.iload_n 1, 1) := by decide +kernel
theorem dX5_isDone_5 : decode cX5_isDone 5 = .ok (.aaload, 1) := by decide +kernel
theorem dX5_isDone_6 : decode cX5_isDone 6 = .ok (.iconst 2, 1) := by decide +kernel
theorem dX5_isDone_7 : decode cX5_isDone 7 = .ok (.iaload, 1) := by decide +kernel
theorem dX5_isDone_8 : decode cX5_isDone 8 = .ok (.bipush 36, 2) := by decide +kernel
theorem dX5_isDone_10 : decode cX5_isDone 10 = .ok (.if_icmp .lt 21, 3) := by decide +kernel
theorem dX5_isDone_13 : decode cX5_isDone 13 = .ok (.aload_n 0, 1) := by decide +kernel
theorem dX5_isDone_14 : decode cX5_isDone 14 = .ok (.getfield 34, 3) := by decide +kernel
theorem dX5_isDone_17 : decode cX5_isDone 17 = .ok (.iload_n 1, 1) := by decide +kernel
theorem dX5_isDone_18 : decode cX5_isDone 18 = .ok (.aaload, 1) := by decide +kernel
theorem dX5_isDone_19 : decode cX5_isDone 19 = .ok (.bipush 6, 2) := by decide +kernel
theorem dX5_isDone_21 : decode cX5_isDone 21 = .ok (.iaload, 1) := by decide +kernel
theorem dX5_isDone_22 : decode cX5_isDone 22 = .ok (.bipush 7, 2) := by decide +kernel
theorem dX5_isDone_24 : decode cX5_isDone 24 = .ok (.if_icmp .eq 7, 3) := by decide +kernel
theorem dX5_isDone_27 : decode cX5_isDone 27 = .ok (.iconst 1, 1) := by decide +kernel
theorem dX5_isDone_28 : decode cX5_isDone 28 = .ok (.goto 4, 3) := by decide +kernel
theorem dX5_isDone_31 : decode cX5_isDone 31 = .ok (.iconst 0, 1) := by decide +kernel
theorem dX5_isDone_32 : decode cX5_isDone 32 = .ok (.ireturn, 1) := by decide +kernel
theorem dX5_hands_0 : decode cX5_hands 0 = .ok (.iconst 0, 1) := by decide +kernel
theorem dX5_hands_1 : decode cX5_hands 1 = .ok (.istore_n 1, 1) := by decide +kernel
theorem dX5_hands_2 : decode cX5_hands 2 = .ok (.aload_n 0, 1) := by decide +kernel
theorem dX5_hands_3 : decode cX5_hands 3 = .ok (.getfield 34, 3) := by decide +kernel
theorem dX5_hands_6 : decode cX5_hands 6 = .ok (.astore_n 2, 1) := by decide +kernel
theorem dX5_hands_7 : decode cX5_hands 7 = .ok (.aload_n 2, 1) := by decide +kernel
theorem dX5_hands_8 : decode cX5_hands 8 = .ok (.arraylength, 1) := by decide +kernel
theorem dX5_hands_9 : decode cX5_hands 9 = .ok (.istore_n 3, 1) := by decide +kernel
theorem dX5_hands_10 : decode cX5_hands 10 = .ok (.iconst 0, 1) := by decide +kernel
theorem dX5_hands_11 : decode cX5_hands 11 = .ok (.istore 4, 2) := by decide +kernel
theorem dX5_hands_13 : decode cX5_hands 13 = .ok (.iload 4, 2) := by decide +kernel
theorem dX5_hands_15 : decode cX5_hands 15 = .ok (.iload_n 3, 1) := by decide +kernel
theorem dX5_hands_16 : decode cX5_hands 16 = .ok (.if_icmp .ge 22, 3) := by decide +kernel
theorem dX5_hands_19 : decode cX5_hands 19 = .ok (.aload_n 2, 1) := by decide +kernel
theorem dX5_hands_20 : decode cX5_hands 20 = .ok (.iload 4, 2) := by decide +kernel
theorem dX5_hands_22 : decode cX5_hands 22 = .ok (.aaload, 1) := by decide +kernel
theorem dX5_hands_23 : decode cX5_hands 23 = .ok (.astore 5, 2) := by decide +kernel
theorem dX5_hands_25 : decode cX5_hands 25 = .ok (.iload_n 1, 1) := by decide +kernel
theorem dX5_hands_26 : decode cX5_hands 26 = .ok (.aload 5, 2) := by decide +kernel
theorem dX5_hands_28 : decode cX5_hands 28 = .ok (.iconst 3, 1) := by decide +kernel
theorem dX5_hands_29 : decode cX5_hands 29 = .ok (.iaload, 1) := by decide +kernel
theorem dX5_hands_30 : decode cX5_hands 30 = .ok (.iadd, 1) := by decide +kernel
theorem dX5_hands_31 : decode cX5_hands 31 = .ok (.istore_n 1, 1) := by decide +kernel
theorem dX5_hands_32 : decode cX5_hands 32 = .ok (.iinc 4 1, 3) := by decide +kernel
theorem dX5_hands_35 : decode cX5_hands 35 = .ok (.goto (-22), 3) := by decide +kernel
theorem dX5_hands_38 : decode cX5_hands 38 = .ok (.iload_n 1, 1) := by decide +kernel
theorem dX5_hands_39 : decode cX5_hands 39 = .ok (.ireturn, 1) := by decide +kernel
set_option maxRecDepth 20000 in
theorem ggX5_work_X4_work : GoodIn wsX5_work wsX4_work := goodIn_ca (goodIn_ca (goodIn_ca (goodIn_r _ [7, 8, 9, 10, 11, 12, 13, 14, 15, 16, 17, 18, 19, 6, 20, 21, 22, 23, 24, 25, 26, 27, 28, 29, 30, 31, 32, 33, 34, 35, 36, 37, 58, 59, 60, 61, 62, 63, 64, 65, 66, 67, 68, 69, 70, 71, 72, 73, 74, 75, 76, 77, 78, 79, 80, 81] (by decide +kernel) (by decide +kernel)) (goodIn_sub (fun _ h => List.mem_cons_of_mem _ (List.mem_append_left _ (List.mem_append_left _ (List.mem_append_right _ h)))) (by decide +kernel))) (goodIn_sub (fun _ h => List.mem_cons_of_mem _ (List.mem_append_left _ (List.mem_append_right _ h))) (by decide +kernel))) (goodIn_sub (fun _ h => List.mem_cons_of_mem _ (List.mem_append_right _ h)) (by decide +kernel))
set_option maxRecDepth 20000 in
theorem gX5_work_X4_work : GoodIn wsX5_work (wsV RX5 118 RX4 yX4_work wsX4_work) := goodIn_app (goodIn_of _ (by decide +kernel)) ggX5_work_X4_work
set_option maxRecDepth 20000 in
theorem ggX5_work_X5_hands : GoodIn wsX5_work wsX5_hands := goodIn_r _ [42, 1, 43, 44, 45, 46, 47, 48, 49, 50, 51, 52, 53, 54, 55, 56, 57] (by decide +kernel) (by decide +kernel)
set_option maxRecDepth 20000 in
theorem gX5_work_X5_hands : GoodIn wsX5_work (wsV RX5 121 RX5 yX5_hands wsX5_hands) := goodIn_app (goodIn_of _ (by decide +kernel)) ggX5_work_X5_hands
theorem dX5_work_0 : decode cX5_work 0 = .ok (.aload_n 0, 1) := by decide +kernel
theorem dX5_work_1 : decode cX5_work 1 = .ok (.getfield 34, 3) := by decide +kernel
theorem dX5_work_4 : decode cX5_work 4 = .ok (.iload_n 1, 1) := by decide +kernel
theorem dX5_work_5 : decode cX5_work 5 = .ok (.aaload, 1) := by decide +kernel
theorem dX5_work_6 : decode cX5_work 6 = .ok (.iconst 3, 1) := by decide +kernel
theorem dX5_work_7 : decode cX5_work 7 = .ok (.iload_n 2, 1) := by decide +kernel
theorem dX5_work_8 : decode cX5_work 8 = .ok (.iastore, 1) := by decide +kernel
theorem dX5_work_9 : decode cX5_work 9 = .ok (.aload_n 0, 1) := by decide +kernel
theorem dX5_work_10 : decode cX5_work 10 = .ok (.getfield 10, 3) := by decide +kernel
theorem dX5_work_13 : decode cX5_work 13 = .ok (.iload_n 1, 1) := by decide +kernel
theorem dX5_work_14 : decode cX5_work 14 = .ok (.iload_n 2, 1) := by decide +kernel
theorem dX5_work_15 : decode cX5_work 15 = .ok (.invokevirtual 118, 3) := by decide +kernel
theorem dX5_work_18 : decode cX5_work 18 = .ok (.aload_n 0, 1) := by decide +kernel
theorem dX5_work_19 : decode cX5_work 19 = .ok (.invokevirtual 121, 3) := by decide +kernel
theorem dX5_work_22 : decode cX5_work 22 = .ok (.if_icmp .ne 7, 3) := by decide +kernel
theorem dX5_work_25 : decode cX5_work 25 = .ok (.iconst 1, 1) := by decide +kernel
theorem dX5_work_26 : decode cX5_work 26 = .ok (.goto 4, 3) := by decide +kernel
theorem dX5_work_29 : decode cX5_work 29 = .ok (.iconst 0, 1) := by decide +kernel
theorem dX5_work_30 : decode cX5_work 30 = .ok (.ireturn, 1) := by decide +kernel
set_option maxRecDepth 20000 in
theorem ggX5_likeness_X5_isDone : GoodIn wsX5_likeness wsX5_isDone := goodIn_r _ [15, 1, 16, 17, 18, 19, 20, 21, 22, 23, 24, 25, 26, 27, 28, 29, 30] (by decide +kernel) (by decide +kernel)
set_option maxRecDepth 20000 in
theorem gX5_likeness_X5_isDone : GoodIn wsX5_likeness (wsV RX5 125 RX5 yX5_isDone wsX5_isDone) := goodIn_app (goodIn_of _ (by decide +kernel)) ggX5_likeness_X5_isDone
theorem dX5_likeness_0 : decode cX5_likeness 0 = .ok (.aload_n 0, 1) := by decide +kernel
theorem dX5_likeness_1 : decode cX5_likeness 1 = .ok (.iload_n 1, 1) := by decide +kernel
theorem dX5_likeness_2 : decode cX5_likeness 2 = .ok (.invokevirtual 125, 3) := by decide +kernel
theorem dX5_likeness_5 : decode cX5_likeness 5 = .ok (.ifCond .ne 5, 3) := by decide +kernel
theorem dX5_likeness_8 : decode cX5_likeness 8 = .ok (.iconst 0, 1) := by decide +kernel
theorem dX5_likeness_9 : decode cX5_likeness 9 = .ok (.ireturn, 1) := by decide +kernel
theorem dX5_likeness_10 : decode cX5_likeness 10 = .ok (.aload_n 0, 1) := by decide +kernel
theorem dX5_likeness_11 : decode cX5_likeness 11 = .ok (.getfield 34, 3) := by decide +kernel
theorem dX5_likeness_14 : decode cX5_likeness 14 = .ok (.iload_n 1, 1) := by decide +kernel
theorem dX5_likeness_15 : decode cX5_likeness 15 = .ok (.aaload, 1) := by decide +kernel
theorem dX5_likeness_16 : decode cX5_likeness 16 = .ok (.astore_n 2, 1) := by decide +kernel
theorem dX5_likeness_17 : decode cX5_likeness 17 = .ok (.bipush 100, 2) := by decide +kernel
theorem dX5_likeness_19 : decode cX5_likeness 19 = .ok (.aload_n 2, 1) := by decide +kernel
theorem dX5_likeness_20 : decode cX5_likeness 20 = .ok (.iconst 4, 1) := by decide +kernel
theorem dX5_likeness_21 : decode cX5_likeness 21 = .ok (.iaload, 1) := by decide +kernel
theorem dX5_likeness_22 : decode cX5_likeness 22 = .ok (.isub, 1) := by decide +kernel
theorem dX5_likeness_23 : decode cX5_likeness 23 = .ok (.aload_n 2, 1) := by decide +kernel
theorem dX5_likeness_24 : decode cX5_likeness 24 = .ok (.iconst 5, 1) := by decide +kernel
theorem dX5_likeness_25 : decode cX5_likeness 25 = .ok (.iaload, 1) := by decide +kernel
theorem dX5_likeness_26 : decode cX5_likeness 26 = .ok (.iconst 2, 1) := by decide +kernel
theorem dX5_likeness_27 : decode cX5_likeness 27 = .ok (.idiv, 1) := by decide +kernel
theorem dX5_likeness_28 : decode cX5_likeness 28 = .ok (.isub, 1) := by decide +kernel
theorem dX5_likeness_29 : decode cX5_likeness 29 = .ok (.istore_n 3, 1) := by decide +kernel
theorem dX5_likeness_30 : decode cX5_likeness 30 = .ok (.aload_n 2, 1) := by decide +kernel
theorem dX5_likeness_31 : decode cX5_likeness 31 = .ok (.iconst 0, 1) := by decide +kernel
theorem dX5_likeness_32 : decode cX5_likeness 32 = .ok (.iaload, 1) := by decide +kernel
theorem dX5_likeness_33 : decode cX5_likeness 33 = .ok (.aload_n 2, 1) := by decide +kernel
theorem dX5_likeness_34 : decode cX5_likeness 34 = .ok (.iconst 1, 1) := by decide +kernel
theorem dX5_likeness_35 : decode cX5_likeness 35 = .ok (.iaload, 1) := by decide +kernel
theorem dX5_likeness_36 : decode cX5_likeness 36 = .ok (.if_icmp .eq 54, 3) := by decide +kernel
theorem dX5_likeness_39 : decode cX5_likeness 39 = .ok (.iload_n 3, 1) := by decide +kernel
theorem dX5_likeness_40 : decode cX5_likeness 40 = .ok (.aload_n 0, 1) := by decide +kernel
theorem dX5_likeness_41 : decode cX5_likeness 41 = .ok (.getfield 28, 3) := by decide +kernel
theorem dX5_likeness_44 : decode cX5_likeness 44 = .ok (.aload_n 2, 1) := by decide +kernel
theorem dX5_likeness_45 : decode cX5_likeness 45 = .ok (.iconst 0, 1) := by decide +kernel
theorem dX5_likeness_46 : decode cX5_likeness 46 = .ok (.iaload, 1) := by decide +kernel
theorem dX5_likeness_47 : decode cX5_likeness 47 = .ok (.aaload, 1) := by decide +kernel
theorem dX5_likeness_48 : decode cX5_likeness 48 = .ok (.iconst 5, 1) := by decide +kernel
theorem dX5_likeness_49 : decode cX5_likeness 49 = .ok (.iaload, 1) := by decide +kernel
theorem dX5_likeness_50 : decode cX5_likeness 50 = .ok (.aload_n 0, 1) := by decide +kernel
theorem dX5_likeness_51 : decode cX5_likeness 51 = .ok (.getfield 31, 3) := by decide +kernel
theorem dX5_likeness_54 : decode cX5_likeness 54 = .ok (.aload_n 2, 1) := by decide +kernel
theorem dX5_likeness_55 : decode cX5_likeness 55 = .ok (.iconst 0, 1) := by decide +kernel
theorem dX5_likeness_56 : decode cX5_likeness 56 = .ok (.iaload, 1) := by decide +kernel
theorem dX5_likeness_57 : decode cX5_likeness 57 = .ok (.aaload, 1) := by decide +kernel
theorem dX5_likeness_58 : decode cX5_likeness 58 = .ok (.iconst 5, 1) := by decide +kernel
theorem dX5_likeness_59 : decode cX5_likeness 59 = .ok (.iaload, 1) := by decide +kernel
theorem dX5_likeness_60 : decode cX5_likeness 60 = .ok (.iadd, 1) := by decide +kernel
theorem dX5_likeness_61 : decode cX5_likeness 61 = .ok (.aload_n 0, 1) := by decide +kernel
theorem dX5_likeness_62 : decode cX5_likeness 62 = .ok (.getfield 28, 3) := by decide +kernel
theorem dX5_likeness_65 : decode cX5_likeness 65 = .ok (.aload_n 2, 1) := by decide +kernel
theorem dX5_likeness_66 : decode cX5_likeness 66 = .ok (.iconst 1, 1) := by decide +kernel
theorem dX5_likeness_67 : decode cX5_likeness 67 = .ok (.iaload, 1) := by decide +kernel
theorem dX5_likeness_68 : decode cX5_likeness 68 = .ok (.aaload, 1) := by decide +kernel
theorem dX5_likeness_69 : decode cX5_likeness 69 = .ok (.iconst 5, 1) := by decide +kernel
theorem dX5_likeness_70 : decode cX5_likeness 70 = .ok (.iaload, 1) := by decide +kernel
theorem dX5_likeness_71 : decode cX5_likeness 71 = .ok (.isub, 1) := by decide +kernel
theorem dX5_likeness_72 : decode cX5_likeness 72 = .ok (.aload_n 0, 1) := by decide +kernel
theorem dX5_likeness_73 : decode cX5_likeness 73 = .ok (.getfield 31, 3) := by decide +kernel
theorem dX5_likeness_76 : decode cX5_likeness 76 = .ok (.aload_n 2, 1) := by decide +kernel
theorem dX5_likeness_77 : decode cX5_likeness 77 = .ok (.iconst 1, 1) := by decide +kernel
theorem dX5_likeness_78 : decode cX5_likeness 78 = .ok (.iaload, 1) := by decide +kernel
theorem dX5_likeness_79 : decode cX5_likeness 79 = .ok (.aaload, 1) := by decide +kernel
theorem dX5_likeness_80 : decode cX5_likeness 80 = .ok (.iconst 5, 1) := by decide +kernel
theorem dX5_likeness_81 : decode cX5_likeness 81 = .ok (.iaload, 1) := by decide +kernel
theorem dX5_likeness_82 : decode cX5_likeness 82 = .ok (.isub, 1) := by decide +kernel
theorem dX5_likeness_83 : decode cX5_likeness 83 = .ok (.invokestatic 129, 3) := by decide +kernel
theorem dX5_likeness_86 : decode cX5_likeness 86 = .ok (.iconst 4, 1) := by decide +kernel
theorem dX5_likeness_87 : decode cX5_likeness 87 = .ok (.idiv, 1) := by decide +kernel
theorem dX5_likeness_88 : decode cX5_likeness 88 = .ok (.isub, 1) := by decide +kernel
theorem dX5_likeness_89 : decode cX5_likeness 89 = .ok (.istore_n 3, 1) := by decide +kernel
theorem dX5_likeness_90 : decode cX5_likeness 90 = .ok (.iload_n 3, 1) := by decide +kernel
theorem dX5_likeness_91 : decode cX5_likeness 91 = .ok (.iconst 0, 1) := by decide +kernel
theorem dX5_likeness_92 : decode cX5_likeness 92 = .ok (.invokestatic 97, 3) := by decide +kernel
theorem dX5_likeness_95 : decode cX5_likeness 95 = .ok (.ireturn, 1) := by decide +kernel
set_option maxRecDepth 20000 in
theorem ggX5_draws_X5_likeness : GoodIn wsX5_draws wsX5_likeness := goodIn_r _ [7, 1, 8, 9, 10, 11, 12, 13, 14, 15, 16, 17, 18, 19, 6, 20, 21, 22, 23, 24, 25, 26, 27, 28, 29, 30, 31, 32, 33, 34, 35] (by decide +kernel) (by decide +kernel)
set_option maxRecDepth 20000 in
theorem gX5_draws_X5_likeness : GoodIn wsX5_draws (wsV RX5 132 RX5 yX5_likeness wsX5_likeness) := goodIn_app (goodIn_of _ (by decide +kernel)) ggX5_draws_X5_likeness
theorem dX5_draws_0 : decode cX5_draws 0 = .ok (.aload_n 0, 1) := by decide +kernel
theorem dX5_draws_1 : decode cX5_draws 1 = .ok (.getfield 34, 3) := by decide +kernel
theorem dX5_draws_4 : decode cX5_draws 4 = .ok (.iload_n 1, 1) := by decide +kernel
theorem dX5_draws_5 : decode cX5_draws 5 = .ok (.aaload, 1) := by decide +kernel
theorem dX5_draws_6 : decode cX5_draws 6 = .ok (.bipush 6, 2) := by decide +kernel
theorem dX5_draws_8 : decode cX5_draws 8 = .ok (.iaload, 1) := by decide +kernel
theorem dX5_draws_9 : decode cX5_draws 9 = .ok (.iconst 4, 1) := by decide +kernel
theorem dX5_draws_10 : decode cX5_draws 10 = .ok (.if_icmp .le 7, 3) := by decide +kernel
theorem dX5_draws_13 : decode cX5_draws 13 = .ok (.iconst 0, 1) := by decide +kernel
theorem dX5_draws_14 : decode cX5_draws 14 = .ok (.goto 27, 3) := by decide +kernel
theorem dX5_draws_17 : decode cX5_draws 17 = .ok (.aload_n 0, 1) := by decide +kernel
theorem dX5_draws_18 : decode cX5_draws 18 = .ok (.getfield 18, 3) := by decide +kernel
theorem dX5_draws_21 : decode cX5_draws 21 = .ok (.aload_n 0, 1) := by decide +kernel
theorem dX5_draws_22 : decode cX5_draws 22 = .ok (.getfield 34, 3) := by decide +kernel
theorem dX5_draws_25 : decode cX5_draws 25 = .ok (.iload_n 1, 1) := by decide +kernel
theorem dX5_draws_26 : decode cX5_draws 26 = .ok (.aaload, 1) := by decide +kernel
theorem dX5_draws_27 : decode cX5_draws 27 = .ok (.iconst 0, 1) := by decide +kernel
theorem dX5_draws_28 : decode cX5_draws 28 = .ok (.iaload, 1) := by decide +kernel
theorem dX5_draws_29 : decode cX5_draws 29 = .ok (.aaload, 1) := by decide +kernel
theorem dX5_draws_30 : decode cX5_draws 30 = .ok (.iconst 0, 1) := by decide +kernel
theorem dX5_draws_31 : decode cX5_draws 31 = .ok (.iaload, 1) := by decide +kernel
theorem dX5_draws_32 : decode cX5_draws 32 = .ok (.aload_n 0, 1) := by decide +kernel
theorem dX5_draws_33 : decode cX5_draws 33 = .ok (.iload_n 1, 1) := by decide +kernel
theorem dX5_draws_34 : decode cX5_draws 34 = .ok (.invokevirtual 132, 3) := by decide +kernel
theorem dX5_draws_37 : decode cX5_draws 37 = .ok (.imul, 1) := by decide +kernel
theorem dX5_draws_38 : decode cX5_draws 38 = .ok (.bipush 100, 2) := by decide +kernel
theorem dX5_draws_40 : decode cX5_draws 40 = .ok (.idiv, 1) := by decide +kernel
theorem dX5_draws_41 : decode cX5_draws 41 = .ok (.ireturn, 1) := by decide +kernel
set_option maxRecDepth 20000 in
theorem ggX5_allDraws_X5_draws : GoodIn wsX5_allDraws wsX5_draws := goodIn_r _ [6, 1, 7, 8, 9, 10, 5, 11, 12, 13, 14, 15, 16, 17, 18, 19, 20, 21, 22, 23, 24, 25, 26, 27, 28, 29, 30, 31, 32, 33, 34, 35, 36, 37, 38, 39] (by decide +kernel) (by decide +kernel)
set_option maxRecDepth 20000 in
theorem gX5_allDraws_X5_draws : GoodIn wsX5_allDraws (wsV RX5 135 RX5 yX5_draws wsX5_draws) := goodIn_app (goodIn_of _ (by decide +kernel)) ggX5_allDraws_X5_draws
theorem dX5_allDraws_0 : decode cX5_allDraws 0 = .ok (.iconst 0, 1) := by decide +kernel
theorem dX5_allDraws_1 : decode cX5_allDraws 1 = .ok (.istore_n 2, 1) := by decide +kernel
theorem dX5_allDraws_2 : decode cX5_allDraws 2 = .ok (.iconst 0, 1) := by decide +kernel
theorem dX5_allDraws_3 : decode cX5_allDraws 3 = .ok (.istore_n 3, 1) := by decide +kernel
theorem dX5_allDraws_4 : decode cX5_allDraws 4 = .ok (.iload_n 3, 1) := by decide +kernel
theorem dX5_allDraws_5 : decode cX5_allDraws 5 = .ok (.aload_n 0, 1) := by decide +kernel
theorem dX5_allDraws_6 : decode cX5_allDraws 6 = .ok (.getfield 34, 3) := by decide +kernel
theorem dX5_allDraws_9 : decode cX5_allDraws 9 = .ok (.arraylength, 1) := by decide +kernel
theorem dX5_allDraws_10 : decode cX5_allDraws 10 = .ok (.if_icmp .ge 38, 3) := by decide +kernel
theorem dX5_allDraws_13 : decode cX5_allDraws 13 = .ok (.iload_n 2, 1) := by decide +kernel
theorem dX5_allDraws_14 : decode cX5_allDraws 14 = .ok (.iload_n 1, 1) := by decide +kernel
theorem dX5_allDraws_15 : decode cX5_allDraws 15 = .ok (.ifCond .lt 16, 3) := by decide +kernel
theorem dX5_allDraws_18 : decode cX5_allDraws 18 = .ok (.aload_n 0, 1) := by decide +kernel
theorem dX5_allDraws_19 : decode cX5_allDraws 19 = .ok (.getfield 34, 3) := by decide +kernel
theorem dX5_allDraws_22 : decode cX5_allDraws 22 = .ok (.iload_n 3, 1) := by decide +kernel
theorem dX5_allDraws_23 : decode cX5_allDraws 23 = .ok (.aaload, 1) := by decide +kernel
theorem dX5_allDraws_24 : decode cX5_allDraws 24 = .ok (.bipush 6, 2) := by decide +kernel
theorem dX5_allDraws_26 : decode cX5_allDraws 26 = .ok (.iaload, 1) := by decide +kernel
theorem dX5_allDraws_27 : decode cX5_allDraws 27 = .ok (.iload_n 1, 1) := by decide +kernel
theorem dX5_allDraws_28 : decode cX5_allDraws 28 = .ok (.if_icmp .ne 11, 3) := by decide +kernel
theorem dX5_allDraws_31 : decode cX5_allDraws 31 = .ok (.aload_n 0, 1) := by decide +kernel
theorem dX5_allDraws_32 : decode cX5_allDraws 32 = .ok (.iload_n 3, 1) := by decide +kernel
theorem dX5_allDraws_33 : decode cX5_allDraws 33 = .ok (.invokevirtual 135, 3) := by decide +kernel
theorem dX5_allDraws_36 : decode cX5_allDraws 36 = .ok (.goto 4, 3) := by decide +kernel
theorem dX5_allDraws_39 : decode cX5_allDraws 39 = .ok (.iconst 0, 1) := by decide +kernel
theorem dX5_allDraws_40 : decode cX5_allDraws 40 = .ok (.iadd, 1) := by decide +kernel
theorem dX5_allDraws_41 : decode cX5_allDraws 41 = .ok (.istore_n 2, 1) := by decide +kernel
theorem dX5_allDraws_42 : decode cX5_allDraws 42 = .ok (.iinc 3 1, 3) := by decide +kernel
theorem dX5_allDraws_45 : decode cX5_allDraws 45 = .ok (.goto (-41), 3) := by decide +kernel
theorem dX5_allDraws_48 : decode cX5_allDraws 48 = .ok (.iload_n 2, 1) := by decide +kernel
theorem dX5_allDraws_49 : decode cX5_allDraws 49 = .ok (.ireturn, 1) := by decide +kernel
set_option maxRecDepth 20000 in
theorem ggX5_month_X5_held : GoodIn wsX5_month wsX5_held := goodIn_r _ [4] (by decide +kernel) (by decide +kernel)
set_option maxRecDepth 20000 in
theorem gX5_month_X5_held : GoodIn wsX5_month (va_wsS RX5 87 yX5_held wsX5_held) := goodIn_app (goodIn_of _ (by decide +kernel)) ggX5_month_X5_held
theorem dX5_month_0 : decode cX5_month 0 = .ok (.iload_n 0, 1) := by decide +kernel
theorem dX5_month_1 : decode cX5_month 1 = .ok (.iload_n 1, 1) := by decide +kernel
theorem dX5_month_2 : decode cX5_month 2 = .ok (.iadd, 1) := by decide +kernel
theorem dX5_month_3 : decode cX5_month 3 = .ok (.sipush 999, 3) := by decide +kernel
theorem dX5_month_6 : decode cX5_month 6 = .ok (.invokestatic 87, 3) := by decide +kernel
theorem dX5_month_9 : decode cX5_month 9 = .ok (.ireturn, 1) := by decide +kernel
theorem dX5_nearer_0 : decode cX5_nearer 0 = .ok (.iload_n 0, 1) := by decide +kernel
theorem dX5_nearer_1 : decode cX5_nearer 1 = .ok (.ifCond .le 9, 3) := by decide +kernel
theorem dX5_nearer_4 : decode cX5_nearer 4 = .ok (.iload_n 0, 1) := by decide +kernel
theorem dX5_nearer_5 : decode cX5_nearer 5 = .ok (.iconst 1, 1) := by decide +kernel
theorem dX5_nearer_6 : decode cX5_nearer 6 = .ok (.isub, 1) := by decide +kernel
theorem dX5_nearer_7 : decode cX5_nearer 7 = .ok (.goto 14, 3) := by decide +kernel
theorem dX5_nearer_10 : decode cX5_nearer 10 = .ok (.iload_n 0, 1) := by decide +kernel
theorem dX5_nearer_11 : decode cX5_nearer 11 = .ok (.ifCond .ge 9, 3) := by decide +kernel
theorem dX5_nearer_14 : decode cX5_nearer 14 = .ok (.iload_n 0, 1) := by decide +kernel
theorem dX5_nearer_15 : decode cX5_nearer 15 = .ok (.iconst 1, 1) := by decide +kernel
theorem dX5_nearer_16 : decode cX5_nearer 16 = .ok (.iadd, 1) := by decide +kernel
theorem dX5_nearer_17 : decode cX5_nearer 17 = .ok (.goto 4, 3) := by decide +kernel
theorem dX5_nearer_20 : decode cX5_nearer 20 = .ok (.iconst 0, 1) := by decide +kernel
theorem dX5_nearer_21 : decode cX5_nearer 21 = .ok (.ireturn, 1) := by decide +kernel
set_option maxRecDepth 20000 in
theorem ggX5_go_X5_month : GoodIn wsX5_go wsX5_month := goodIn_r _ [14, 15, 16, 13, 17] (by decide +kernel) (by decide +kernel)
set_option maxRecDepth 20000 in
theorem gX5_go_X5_month : GoodIn wsX5_go (va_wsS RX5 149 yX5_month wsX5_month) := goodIn_app (goodIn_of _ (by decide +kernel)) ggX5_go_X5_month
set_option maxRecDepth 20000 in
theorem ggX5_go_X5_nearer : GoodIn wsX5_go wsX5_nearer := goodIn_r _ [20] (by decide +kernel) (by decide +kernel)
set_option maxRecDepth 20000 in
theorem gX5_go_X5_nearer : GoodIn wsX5_go (va_wsS RX5 152 yX5_nearer wsX5_nearer) := goodIn_app (goodIn_of _ (by decide +kernel)) ggX5_go_X5_nearer
set_option maxRecDepth 20000 in
theorem ggX5_go_X5_doubt : GoodIn wsX5_go wsX5_doubt := goodIn_r _ [24, 25, 26, 50, 51, 52, 53, 54, 55, 56, 57, 58, 59, 60, 61, 62, 63, 64] (by decide +kernel) (by decide +kernel)
set_option maxRecDepth 20000 in
theorem gX5_go_X5_doubt : GoodIn wsX5_go (wsV RX5 155 RX5 yX5_doubt wsX5_doubt) := goodIn_app (goodIn_of _ (by decide +kernel)) ggX5_go_X5_doubt
set_option maxRecDepth 20000 in
theorem ggX5_go_X5_allDraws : GoodIn wsX5_go wsX5_allDraws := goodIn_r _ [30, 4, 31, 32, 33, 13, 34, 2, 35, 36, 37, 38, 26, 25, 39, 40, 41, 42, 43, 44, 45, 46, 47, 48, 49, 50, 51, 52, 53, 54, 55, 56, 57, 58, 59, 60, 61, 62, 63, 64] (by decide +kernel) (by decide +kernel)
set_option maxRecDepth 20000 in
theorem gX5_go_X5_allDraws : GoodIn wsX5_go (wsV RX5 161 RX5 yX5_allDraws wsX5_allDraws) := goodIn_app (goodIn_of _ (by decide +kernel)) ggX5_go_X5_allDraws
set_option maxRecDepth 20000 in
theorem ggX5_go_X5_draws : GoodIn wsX5_go wsX5_draws := goodIn_r _ [34, 4, 2, 35, 36, 37, 13, 38, 26, 25, 39, 40, 41, 42, 43, 44, 45, 46, 47, 48, 49, 50, 51, 52, 53, 54, 55, 56, 57, 58, 59, 60, 61, 62, 63, 64] (by decide +kernel) (by decide +kernel)
set_option maxRecDepth 20000 in
theorem gX5_go_X5_draws : GoodIn wsX5_go (wsV RX5 135 RX5 yX5_draws wsX5_draws) := goodIn_app (goodIn_of _ (by decide +kernel)) ggX5_go_X5_draws
set_option maxRecDepth 20000 in
theorem ggX5_go_X5_likeness : GoodIn wsX5_go wsX5_likeness := goodIn_r _ [38, 4, 26, 25, 39, 40, 41, 42, 43, 44, 45, 46, 47, 48, 13, 49, 50, 51, 52, 53, 54, 55, 56, 57, 58, 59, 60, 61, 62, 63, 64] (by decide +kernel) (by decide +kernel)
set_option maxRecDepth 20000 in
theorem gX5_go_X5_likeness : GoodIn wsX5_go (wsV RX5 132 RX5 yX5_likeness wsX5_likeness) := goodIn_app (goodIn_of _ (by decide +kernel)) ggX5_go_X5_likeness
theorem dX5_go_0 : decode cX5_go 0 = .ok (.aload_n 0, 1) := by decide +kernel
theorem dX5_go_1 : decode cX5_go 1 = .ok (.dup, 1) := by decide +kernel
theorem dX5_go_2 : decode cX5_go 2 = .ok (.getfield 146, 3) := by decide +kernel
theorem dX5_go_5 : decode cX5_go 5 = .ok (.iconst 1, 1) := by decide +kernel
theorem dX5_go_6 : decode cX5_go 6 = .ok (.iadd, 1) := by decide +kernel
theorem dX5_go_7 : decode cX5_go 7 = .ok (.putfield 146, 3) := by decide +kernel
theorem dX5_go_10 : decode cX5_go 10 = .ok (.iconst 0, 1) := by decide +kernel
theorem dX5_go_11 : decode cX5_go 11 = .ok (.istore_n 3, 1) := by decide +kernel
theorem dX5_go_12 : decode cX5_go 12 = .ok (.iconst 0, 1) := by decide +kernel
theorem dX5_go_13 : decode cX5_go 13 = .ok (.istore 4, 2) := by decide +kernel
theorem dX5_go_15 : decode cX5_go 15 = .ok (.iload 4, 2) := by decide +kernel
theorem dX5_go_17 : decode cX5_go 17 = .ok (.aload_n 0, 1) := by decide +kernel
theorem dX5_go_18 : decode cX5_go 18 = .ok (.getfield 18, 3) := by decide +kernel
theorem dX5_go_21 : decode cX5_go 21 = .ok (.arraylength, 1) := by decide +kernel
theorem dX5_go_22 : decode cX5_go 22 = .ok (.if_icmp .ge 90, 3) := by decide +kernel
theorem dX5_go_25 : decode cX5_go 25 = .ok (.aload_n 0, 1) := by decide +kernel
theorem dX5_go_26 : decode cX5_go 26 = .ok (.getfield 146, 3) := by decide +kernel
theorem dX5_go_29 : decode cX5_go 29 = .ok (.bipush 30, 2) := by decide +kernel
theorem dX5_go_31 : decode cX5_go 31 = .ok (.irem, 1) := by decide +kernel
theorem dX5_go_32 : decode cX5_go 32 = .ok (.ifCond .ne 80, 3) := by decide +kernel
theorem dX5_go_35 : decode cX5_go 35 = .ok (.iconst 0, 1) := by decide +kernel
theorem dX5_go_36 : decode cX5_go 36 = .ok (.istore 5, 2) := by decide +kernel
theorem dX5_go_38 : decode cX5_go 38 = .ok (.iload 5, 2) := by decide +kernel
theorem dX5_go_40 : decode cX5_go 40 = .ok (.iconst 3, 1) := by decide +kernel
theorem dX5_go_41 : decode cX5_go 41 = .ok (.if_icmp .ge 65, 3) := by decide +kernel
theorem dX5_go_44 : decode cX5_go 44 = .ok (.aload_n 0, 1) := by decide +kernel
theorem dX5_go_45 : decode cX5_go 45 = .ok (.getfield 18, 3) := by decide +kernel
theorem dX5_go_48 : decode cX5_go 48 = .ok (.iload 4, 2) := by decide +kernel
theorem dX5_go_50 : decode cX5_go 50 = .ok (.aaload, 1) := by decide +kernel
theorem dX5_go_51 : decode cX5_go 51 = .ok (.iload 5, 2) := by decide +kernel
theorem dX5_go_53 : decode cX5_go 53 = .ok (.aload_n 0, 1) := by decide +kernel
theorem dX5_go_54 : decode cX5_go 54 = .ok (.getfield 18, 3) := by decide +kernel
theorem dX5_go_57 : decode cX5_go 57 = .ok (.iload 4, 2) := by decide +kernel
theorem dX5_go_59 : decode cX5_go 59 = .ok (.aaload, 1) := by decide +kernel
theorem dX5_go_60 : decode cX5_go 60 = .ok (.iload 5, 2) := by decide +kernel
theorem dX5_go_62 : decode cX5_go 62 = .ok (.iaload, 1) := by decide +kernel
theorem dX5_go_63 : decode cX5_go 63 = .ok (.aload_n 0, 1) := by decide +kernel
theorem dX5_go_64 : decode cX5_go 64 = .ok (.getfield 22, 3) := by decide +kernel
theorem dX5_go_67 : decode cX5_go 67 = .ok (.iload 4, 2) := by decide +kernel
theorem dX5_go_69 : decode cX5_go 69 = .ok (.aaload, 1) := by decide +kernel
theorem dX5_go_70 : decode cX5_go 70 = .ok (.iload 5, 2) := by decide +kernel
theorem dX5_go_72 : decode cX5_go 72 = .ok (.iaload, 1) := by decide +kernel
theorem dX5_go_73 : decode cX5_go 73 = .ok (.invokestatic 149, 3) := by decide +kernel
theorem dX5_go_76 : decode cX5_go 76 = .ok (.iastore, 1) := by decide +kernel
theorem dX5_go_77 : decode cX5_go 77 = .ok (.aload_n 0, 1) := by decide +kernel
theorem dX5_go_78 : decode cX5_go 78 = .ok (.getfield 22, 3) := by decide +kernel
theorem dX5_go_81 : decode cX5_go 81 = .ok (.iload 4, 2) := by decide +kernel
theorem dX5_go_83 : decode cX5_go 83 = .ok (.aaload, 1) := by decide +kernel
theorem dX5_go_84 : decode cX5_go 84 = .ok (.iload 5, 2) := by decide +kernel
theorem dX5_go_86 : decode cX5_go 86 = .ok (.aload_n 0, 1) := by decide +kernel
theorem dX5_go_87 : decode cX5_go 87 = .ok (.getfield 22, 3) := by decide +kernel
theorem dX5_go_90 : decode cX5_go 90 = .ok (.iload 4, 2) := by decide +kernel
theorem dX5_go_92 : decode cX5_go 92 = .ok (.aaload, 1) := by decide +kernel
theorem dX5_go_93 : decode cX5_go 93 = .ok (.iload 5, 2) := by decide +kernel
theorem dX5_go_95 : decode cX5_go 95 = .ok (.iaload, 1) := by decide +kernel
theorem dX5_go_96 : decode cX5_go 96 = .ok (.invokestatic 152, 3) := by decide +kernel
theorem dX5_go_99 : decode cX5_go 99 = .ok (.iastore, 1) := by decide +kernel
theorem dX5_go_100 : decode cX5_go 100 = .ok (.iinc 5 1, 3) := by decide +kernel
theorem dX5_go_103 : decode cX5_go 103 = .ok (.goto (-65), 3) := by decide +kernel
theorem dX5_go_106 : decode cX5_go 106 = .ok (.iinc 4 1, 3) := by decide +kernel
theorem dX5_go_109 : decode cX5_go 109 = .ok (.goto (-94), 3) := by decide +kernel
theorem dX5_go_112 : decode cX5_go 112 = .ok (.aload_n 0, 1) := by decide +kernel
theorem dX5_go_113 : decode cX5_go 113 = .ok (.getfield 34, 3) := by decide +kernel
theorem dX5_go_116 : decode cX5_go 116 = .ok (.astore 4, 2) := by decide +kernel
theorem dX5_go_118 : decode cX5_go 118 = .ok (.aload 4, 2) := by decide +kernel
theorem dX5_go_120 : decode cX5_go 120 = .ok (.arraylength, 1) := by decide +kernel
theorem dX5_go_121 : decode cX5_go 121 = .ok (.istore 5, 2) := by decide +kernel
theorem dX5_go_123 : decode cX5_go 123 = .ok (.iconst 0, 1) := by decide +kernel
theorem dX5_go_124 : decode cX5_go 124 = .ok (.istore 6, 2) := by decide +kernel
theorem dX5_go_126 : decode cX5_go 126 = .ok (.iload 6, 2) := by decide +kernel
theorem dX5_go_128 : decode cX5_go 128 = .ok (.iload 5, 2) := by decide +kernel
theorem dX5_go_130 : decode cX5_go 130 = .ok (.if_icmp .ge 102, 3) := by decide +kernel
theorem dX5_go_133 : decode cX5_go 133 = .ok (.aload 4, 2) := by decide +kernel
theorem dX5_go_135 : decode cX5_go 135 = .ok (.iload 6, 2) := by decide +kernel
theorem dX5_go_137 : decode cX5_go 137 = .ok (.aaload, 1) := by decide +kernel
theorem dX5_go_138 : decode cX5_go 138 = .ok (.astore 7, 2) := by decide +kernel
theorem dX5_go_140 : decode cX5_go 140 = .ok (.aload 7, 2) := by decide +kernel
theorem dX5_go_142 : decode cX5_go 142 = .ok (.iconst 2, 1) := by decide +kernel
theorem dX5_go_143 : decode cX5_go 143 = .ok (.iaload, 1) := by decide +kernel
theorem dX5_go_144 : decode cX5_go 144 = .ok (.bipush 36, 2) := by decide +kernel
theorem dX5_go_146 : decode cX5_go 146 = .ok (.if_icmp .ge 80, 3) := by decide +kernel
theorem dX5_go_149 : decode cX5_go 149 = .ok (.aload 7, 2) := by decide +kernel
theorem dX5_go_151 : decode cX5_go 151 = .ok (.bipush 6, 2) := by decide +kernel
theorem dX5_go_153 : decode cX5_go 153 = .ok (.iaload, 1) := by decide +kernel
theorem dX5_go_154 : decode cX5_go 154 = .ok (.bipush 7, 2) := by decide +kernel
theorem dX5_go_156 : decode cX5_go 156 = .ok (.if_icmp .ne 6, 3) := by decide +kernel
theorem dX5_go_159 : decode cX5_go 159 = .ok (.goto 67, 3) := by decide +kernel
theorem dX5_go_162 : decode cX5_go 162 = .ok (.aload 7, 2) := by decide +kernel
theorem dX5_go_164 : decode cX5_go 164 = .ok (.iconst 2, 1) := by decide +kernel
theorem dX5_go_165 : decode cX5_go 165 = .ok (.iaload, 1) := by decide +kernel
theorem dX5_go_166 : decode cX5_go 166 = .ok (.iconst 4, 1) := by decide +kernel
theorem dX5_go_167 : decode cX5_go 167 = .ok (.if_icmp .ge 28, 3) := by decide +kernel
theorem dX5_go_170 : decode cX5_go 170 = .ok (.aload 7, 2) := by decide +kernel
theorem dX5_go_172 : decode cX5_go 172 = .ok (.iconst 2, 1) := by decide +kernel
theorem dX5_go_173 : decode cX5_go 173 = .ok (.iaload, 1) := by decide +kernel
theorem dX5_go_174 : decode cX5_go 174 = .ok (.aload 7, 2) := by decide +kernel
theorem dX5_go_176 : decode cX5_go 176 = .ok (.iconst 3, 1) := by decide +kernel
theorem dX5_go_177 : decode cX5_go 177 = .ok (.iaload, 1) := by decide +kernel
theorem dX5_go_178 : decode cX5_go 178 = .ok (.iadd, 1) := by decide +kernel
theorem dX5_go_179 : decode cX5_go 179 = .ok (.iconst 4, 1) := by decide +kernel
theorem dX5_go_180 : decode cX5_go 180 = .ok (.if_icmp .lt 15, 3) := by decide +kernel
theorem dX5_go_183 : decode cX5_go 183 = .ok (.aload 7, 2) := by decide +kernel
theorem dX5_go_185 : decode cX5_go 185 = .ok (.iconst 4, 1) := by decide +kernel
theorem dX5_go_186 : decode cX5_go 186 = .ok (.aload_n 0, 1) := by decide +kernel
theorem dX5_go_187 : decode cX5_go 187 = .ok (.aload 7, 2) := by decide +kernel
theorem dX5_go_189 : decode cX5_go 189 = .ok (.iconst 0, 1) := by decide +kernel
theorem dX5_go_190 : decode cX5_go 190 = .ok (.iaload, 1) := by decide +kernel
theorem dX5_go_191 : decode cX5_go 191 = .ok (.invokevirtual 155, 3) := by decide +kernel
theorem dX5_go_194 : decode cX5_go 194 = .ok (.iastore, 1) := by decide +kernel
theorem dX5_go_195 : decode cX5_go 195 = .ok (.aload 7, 2) := by decide +kernel
theorem dX5_go_197 : decode cX5_go 197 = .ok (.iconst 2, 1) := by decide +kernel
theorem dX5_go_198 : decode cX5_go 198 = .ok (.dup2, 1) := by decide +kernel
theorem dX5_go_199 : decode cX5_go 199 = .ok (.iaload, 1) := by decide +kernel
theorem dX5_go_200 : decode cX5_go 200 = .ok (.aload 7, 2) := by decide +kernel
theorem dX5_go_202 : decode cX5_go 202 = .ok (.iconst 3, 1) := by decide +kernel
theorem dX5_go_203 : decode cX5_go 203 = .ok (.iaload, 1) := by decide +kernel
theorem dX5_go_204 : decode cX5_go 204 = .ok (.iadd, 1) := by decide +kernel
theorem dX5_go_205 : decode cX5_go 205 = .ok (.iastore, 1) := by decide +kernel
theorem dX5_go_206 : decode cX5_go 206 = .ok (.aload 7, 2) := by decide +kernel
theorem dX5_go_208 : decode cX5_go 208 = .ok (.iconst 2, 1) := by decide +kernel
theorem dX5_go_209 : decode cX5_go 209 = .ok (.iaload, 1) := by decide +kernel
theorem dX5_go_210 : decode cX5_go 210 = .ok (.bipush 36, 2) := by decide +kernel
theorem dX5_go_212 : decode cX5_go 212 = .ok (.if_icmp .ge 6, 3) := by decide +kernel
theorem dX5_go_215 : decode cX5_go 215 = .ok (.goto 11, 3) := by decide +kernel
theorem dX5_go_218 : decode cX5_go 218 = .ok (.aload 7, 2) := by decide +kernel
theorem dX5_go_220 : decode cX5_go 220 = .ok (.iconst 3, 1) := by decide +kernel
theorem dX5_go_221 : decode cX5_go 221 = .ok (.iconst 0, 1) := by decide +kernel
theorem dX5_go_222 : decode cX5_go 222 = .ok (.iastore, 1) := by decide +kernel
theorem dX5_go_223 : decode cX5_go 223 = .ok (.iinc 3 1, 3) := by decide +kernel
theorem dX5_go_226 : decode cX5_go 226 = .ok (.iinc 6 1, 3) := by decide +kernel
theorem dX5_go_229 : decode cX5_go 229 = .ok (.goto (-103), 3) := by decide +kernel
theorem dX5_go_232 : decode cX5_go 232 = .ok (.iload_n 1, 1) := by decide +kernel
theorem dX5_go_233 : decode cX5_go 233 = .ok (.bipush 20, 2) := by decide +kernel
theorem dX5_go_235 : decode cX5_go 235 = .ok (.aload_n 0, 1) := by decide +kernel
theorem dX5_go_236 : decode cX5_go 236 = .ok (.getfield 40, 3) := by decide +kernel
theorem dX5_go_239 : decode cX5_go 239 = .ok (.isub, 1) := by decide +kernel
theorem dX5_go_240 : decode cX5_go 240 = .ok (.imul, 1) := by decide +kernel
theorem dX5_go_241 : decode cX5_go 241 = .ok (.bipush 20, 2) := by decide +kernel
theorem dX5_go_243 : decode cX5_go 243 = .ok (.idiv, 1) := by decide +kernel
theorem dX5_go_244 : decode cX5_go 244 = .ok (.istore 4, 2) := by decide +kernel
theorem dX5_go_246 : decode cX5_go 246 = .ok (.aload_n 0, 1) := by decide +kernel
theorem dX5_go_247 : decode cX5_go 247 = .ok (.dup, 1) := by decide +kernel
theorem dX5_go_248 : decode cX5_go 248 = .ok (.getfield 158, 3) := by decide +kernel
theorem dX5_go_251 : decode cX5_go 251 = .ok (.iload 4, 2) := by decide +kernel
theorem dX5_go_253 : decode cX5_go 253 = .ok (.iadd, 1) := by decide +kernel
theorem dX5_go_254 : decode cX5_go 254 = .ok (.putfield 158, 3) := by decide +kernel
theorem dX5_go_257 : decode cX5_go 257 = .ok (.aload_n 0, 1) := by decide +kernel
theorem dX5_go_258 : decode cX5_go 258 = .ok (.dup, 1) := by decide +kernel
theorem dX5_go_259 : decode cX5_go 259 = .ok (.getfield 44, 3) := by decide +kernel
theorem dX5_go_262 : decode cX5_go 262 = .ok (.iload 4, 2) := by decide +kernel
theorem dX5_go_264 : decode cX5_go 264 = .ok (.aload_n 0, 1) := by decide +kernel
theorem dX5_go_265 : decode cX5_go 265 = .ok (.getfield 40, 3) := by decide +kernel
theorem dX5_go_268 : decode cX5_go 268 = .ok (.imul, 1) := by decide +kernel
theorem dX5_go_269 : decode cX5_go 269 = .ok (.iadd, 1) := by decide +kernel
theorem dX5_go_270 : decode cX5_go 270 = .ok (.putfield 44, 3) := by decide +kernel
theorem dX5_go_273 : decode cX5_go 273 = .ok (.aload_n 0, 1) := by decide +kernel
theorem dX5_go_274 : decode cX5_go 274 = .ok (.iconst (-1), 1) := by decide +kernel
theorem dX5_go_275 : decode cX5_go 275 = .ok (.invokevirtual 161, 3) := by decide +kernel
theorem dX5_go_278 : decode cX5_go 278 = .ok (.istore 5, 2) := by decide +kernel
theorem dX5_go_280 : decode cX5_go 280 = .ok (.aload_n 0, 1) := by decide +kernel
theorem dX5_go_281 : decode cX5_go 281 = .ok (.getfield 34, 3) := by decide +kernel
theorem dX5_go_284 : decode cX5_go 284 = .ok (.arraylength, 1) := by decide +kernel
theorem dX5_go_285 : decode cX5_go 285 = .ok (.newarray .int, 2) := by decide +kernel
theorem dX5_go_287 : decode cX5_go 287 = .ok (.astore 6, 2) := by decide +kernel
theorem dX5_go_289 : decode cX5_go 289 = .ok (.iconst 0, 1) := by decide +kernel
theorem dX5_go_290 : decode cX5_go 290 = .ok (.istore 7, 2) := by decide +kernel
theorem dX5_go_292 : decode cX5_go 292 = .ok (.iload 7, 2) := by decide +kernel
theorem dX5_go_294 : decode cX5_go 294 = .ok (.aload 6, 2) := by decide +kernel
theorem dX5_go_296 : decode cX5_go 296 = .ok (.arraylength, 1) := by decide +kernel
theorem dX5_go_297 : decode cX5_go 297 = .ok (.if_icmp .ge 35, 3) := by decide +kernel
theorem dX5_go_300 : decode cX5_go 300 = .ok (.aload 6, 2) := by decide +kernel
theorem dX5_go_302 : decode cX5_go 302 = .ok (.iload 7, 2) := by decide +kernel
theorem dX5_go_304 : decode cX5_go 304 = .ok (.iload 5, 2) := by decide +kernel
theorem dX5_go_306 : decode cX5_go 306 = .ok (.ifCond .ne 7, 3) := by decide +kernel
theorem dX5_go_309 : decode cX5_go 309 = .ok (.iconst 0, 1) := by decide +kernel
theorem dX5_go_310 : decode cX5_go 310 = .ok (.goto 15, 3) := by decide +kernel
theorem dX5_go_313 : decode cX5_go 313 = .ok (.iload 4, 2) := by decide +kernel
theorem dX5_go_315 : decode cX5_go 315 = .ok (.aload_n 0, 1) := by decide +kernel
theorem dX5_go_316 : decode cX5_go 316 = .ok (.iload 7, 2) := by decide +kernel
theorem dX5_go_318 : decode cX5_go 318 = .ok (.invokevirtual 135, 3) := by decide +kernel
theorem dX5_go_321 : decode cX5_go 321 = .ok (.imul, 1) := by decide +kernel
theorem dX5_go_322 : decode cX5_go 322 = .ok (.iload 5, 2) := by decide +kernel
theorem dX5_go_324 : decode cX5_go 324 = .ok (.idiv, 1) := by decide +kernel
theorem dX5_go_325 : decode cX5_go 325 = .ok (.iastore, 1) := by decide +kernel
theorem dX5_go_326 : decode cX5_go 326 = .ok (.iinc 7 1, 3) := by decide +kernel
theorem dX5_go_329 : decode cX5_go 329 = .ok (.goto (-37), 3) := by decide +kernel
theorem dX5_go_332 : decode cX5_go 332 = .ok (.iconst 0, 1) := by decide +kernel
theorem dX5_go_333 : decode cX5_go 333 = .ok (.istore 7, 2) := by decide +kernel
theorem dX5_go_335 : decode cX5_go 335 = .ok (.iload 7, 2) := by decide +kernel
theorem dX5_go_337 : decode cX5_go 337 = .ok (.aload 6, 2) := by decide +kernel
theorem dX5_go_339 : decode cX5_go 339 = .ok (.arraylength, 1) := by decide +kernel
theorem dX5_go_340 : decode cX5_go 340 = .ok (.if_icmp .ge 148, 3) := by decide +kernel
theorem dX5_go_343 : decode cX5_go 343 = .ok (.aload_n 0, 1) := by decide +kernel
theorem dX5_go_344 : decode cX5_go 344 = .ok (.getfield 34, 3) := by decide +kernel
theorem dX5_go_347 : decode cX5_go 347 = .ok (.iload 7, 2) := by decide +kernel
theorem dX5_go_349 : decode cX5_go 349 = .ok (.aaload, 1) := by decide +kernel
theorem dX5_go_350 : decode cX5_go 350 = .ok (.astore 8, 2) := by decide +kernel
theorem dX5_go_352 : decode cX5_go 352 = .ok (.aload 8, 2) := by decide +kernel
theorem dX5_go_354 : decode cX5_go 354 = .ok (.bipush 6, 2) := by decide +kernel
theorem dX5_go_356 : decode cX5_go 356 = .ok (.iaload, 1) := by decide +kernel
theorem dX5_go_357 : decode cX5_go 357 = .ok (.iconst 4, 1) := by decide +kernel
theorem dX5_go_358 : decode cX5_go 358 = .ok (.if_icmp .le 6, 3) := by decide +kernel
theorem dX5_go_361 : decode cX5_go 361 = .ok (.goto 121, 3) := by decide +kernel
theorem dX5_go_364 : decode cX5_go 364 = .ok (.aload_n 0, 1) := by decide +kernel
theorem dX5_go_365 : decode cX5_go 365 = .ok (.getfield 37, 3) := by decide +kernel
theorem dX5_go_368 : decode cX5_go 368 = .ok (.aload 8, 2) := by decide +kernel
theorem dX5_go_370 : decode cX5_go 370 = .ok (.bipush 6, 2) := by decide +kernel
theorem dX5_go_372 : decode cX5_go 372 = .ok (.iaload, 1) := by decide +kernel
theorem dX5_go_373 : decode cX5_go 373 = .ok (.aaload, 1) := by decide +kernel
theorem dX5_go_374 : decode cX5_go 374 = .ok (.iconst 0, 1) := by decide +kernel
theorem dX5_go_375 : decode cX5_go 375 = .ok (.iaload, 1) := by decide +kernel
theorem dX5_go_376 : decode cX5_go 376 = .ok (.istore 9, 2) := by decide +kernel
theorem dX5_go_378 : decode cX5_go 378 = .ok (.aload 8, 2) := by decide +kernel
theorem dX5_go_380 : decode cX5_go 380 = .ok (.bipush 9, 2) := by decide +kernel
theorem dX5_go_382 : decode cX5_go 382 = .ok (.dup2, 1) := by decide +kernel
theorem dX5_go_383 : decode cX5_go 383 = .ok (.iaload, 1) := by decide +kernel
theorem dX5_go_384 : decode cX5_go 384 = .ok (.aload 6, 2) := by decide +kernel
theorem dX5_go_386 : decode cX5_go 386 = .ok (.iload 7, 2) := by decide +kernel
theorem dX5_go_388 : decode cX5_go 388 = .ok (.iaload, 1) := by decide +kernel
theorem dX5_go_389 : decode cX5_go 389 = .ok (.iadd, 1) := by decide +kernel
theorem dX5_go_390 : decode cX5_go 390 = .ok (.iastore, 1) := by decide +kernel
theorem dX5_go_391 : decode cX5_go 391 = .ok (.aload_n 0, 1) := by decide +kernel
theorem dX5_go_392 : decode cX5_go 392 = .ok (.getfield 25, 3) := by decide +kernel
theorem dX5_go_395 : decode cX5_go 395 = .ok (.aload 8, 2) := by decide +kernel
theorem dX5_go_397 : decode cX5_go 397 = .ok (.iconst 0, 1) := by decide +kernel
theorem dX5_go_398 : decode cX5_go 398 = .ok (.iaload, 1) := by decide +kernel
theorem dX5_go_399 : decode cX5_go 399 = .ok (.aaload, 1) := by decide +kernel
theorem dX5_go_400 : decode cX5_go 400 = .ok (.iconst 1, 1) := by decide +kernel
theorem dX5_go_401 : decode cX5_go 401 = .ok (.dup2, 1) := by decide +kernel
theorem dX5_go_402 : decode cX5_go 402 = .ok (.iaload, 1) := by decide +kernel
theorem dX5_go_403 : decode cX5_go 403 = .ok (.aload 6, 2) := by decide +kernel
theorem dX5_go_405 : decode cX5_go 405 = .ok (.iload 7, 2) := by decide +kernel
theorem dX5_go_407 : decode cX5_go 407 = .ok (.iaload, 1) := by decide +kernel
theorem dX5_go_408 : decode cX5_go 408 = .ok (.bipush 100, 2) := by decide +kernel
theorem dX5_go_410 : decode cX5_go 410 = .ok (.idiv, 1) := by decide +kernel
theorem dX5_go_411 : decode cX5_go 411 = .ok (.iadd, 1) := by decide +kernel
theorem dX5_go_412 : decode cX5_go 412 = .ok (.iastore, 1) := by decide +kernel
theorem dX5_go_413 : decode cX5_go 413 = .ok (.aload 8, 2) := by decide +kernel
theorem dX5_go_415 : decode cX5_go 415 = .ok (.iconst 5, 1) := by decide +kernel
theorem dX5_go_416 : decode cX5_go 416 = .ok (.dup2, 1) := by decide +kernel
theorem dX5_go_417 : decode cX5_go 417 = .ok (.iaload, 1) := by decide +kernel
theorem dX5_go_418 : decode cX5_go 418 = .ok (.aload 6, 2) := by decide +kernel
theorem dX5_go_420 : decode cX5_go 420 = .ok (.iload 7, 2) := by decide +kernel
theorem dX5_go_422 : decode cX5_go 422 = .ok (.iaload, 1) := by decide +kernel
theorem dX5_go_423 : decode cX5_go 423 = .ok (.bipush 50, 2) := by decide +kernel
theorem dX5_go_425 : decode cX5_go 425 = .ok (.idiv, 1) := by decide +kernel
theorem dX5_go_426 : decode cX5_go 426 = .ok (.iload 9, 2) := by decide +kernel
theorem dX5_go_428 : decode cX5_go 428 = .ok (.iconst 3, 1) := by decide +kernel
theorem dX5_go_429 : decode cX5_go 429 = .ok (.idiv, 1) := by decide +kernel
theorem dX5_go_430 : decode cX5_go 430 = .ok (.iadd, 1) := by decide +kernel
theorem dX5_go_431 : decode cX5_go 431 = .ok (.iload_n 2, 1) := by decide +kernel
theorem dX5_go_432 : decode cX5_go 432 = .ok (.bipush 25, 2) := by decide +kernel
theorem dX5_go_434 : decode cX5_go 434 = .ok (.if_icmp .le 16, 3) := by decide +kernel
theorem dX5_go_437 : decode cX5_go 437 = .ok (.iload_n 2, 1) := by decide +kernel
theorem dX5_go_438 : decode cX5_go 438 = .ok (.bipush 25, 2) := by decide +kernel
theorem dX5_go_440 : decode cX5_go 440 = .ok (.isub, 1) := by decide +kernel
theorem dX5_go_441 : decode cX5_go 441 = .ok (.iload 9, 2) := by decide +kernel
theorem dX5_go_443 : decode cX5_go 443 = .ok (.imul, 1) := by decide +kernel
theorem dX5_go_444 : decode cX5_go 444 = .ok (.bipush 10, 2) := by decide +kernel
theorem dX5_go_446 : decode cX5_go 446 = .ok (.idiv, 1) := by decide +kernel
theorem dX5_go_447 : decode cX5_go 447 = .ok (.goto 4, 3) := by decide +kernel
theorem dX5_go_450 : decode cX5_go 450 = .ok (.iconst 0, 1) := by decide +kernel
theorem dX5_go_451 : decode cX5_go 451 = .ok (.iadd, 1) := by decide +kernel
theorem dX5_go_452 : decode cX5_go 452 = .ok (.iadd, 1) := by decide +kernel
theorem dX5_go_453 : decode cX5_go 453 = .ok (.iastore, 1) := by decide +kernel
theorem dX5_go_454 : decode cX5_go 454 = .ok (.aload 8, 2) := by decide +kernel
theorem dX5_go_456 : decode cX5_go 456 = .ok (.iconst 5, 1) := by decide +kernel
theorem dX5_go_457 : decode cX5_go 457 = .ok (.iaload, 1) := by decide +kernel
theorem dX5_go_458 : decode cX5_go 458 = .ok (.bipush 100, 2) := by decide +kernel
theorem dX5_go_460 : decode cX5_go 460 = .ok (.if_icmp .ge 6, 3) := by decide +kernel
theorem dX5_go_463 : decode cX5_go 463 = .ok (.goto 19, 3) := by decide +kernel
theorem dX5_go_466 : decode cX5_go 466 = .ok (.aload 8, 2) := by decide +kernel
theorem dX5_go_468 : decode cX5_go 468 = .ok (.iconst 5, 1) := by decide +kernel
theorem dX5_go_469 : decode cX5_go 469 = .ok (.bipush 100, 2) := by decide +kernel
theorem dX5_go_471 : decode cX5_go 471 = .ok (.iastore, 1) := by decide +kernel
theorem dX5_go_472 : decode cX5_go 472 = .ok (.aload 8, 2) := by decide +kernel
theorem dX5_go_474 : decode cX5_go 474 = .ok (.bipush 6, 2) := by decide +kernel
theorem dX5_go_476 : decode cX5_go 476 = .ok (.bipush 7, 2) := by decide +kernel
theorem dX5_go_478 : decode cX5_go 478 = .ok (.iastore, 1) := by decide +kernel
theorem dX5_go_479 : decode cX5_go 479 = .ok (.iinc 3 1, 3) := by decide +kernel
theorem dX5_go_482 : decode cX5_go 482 = .ok (.iinc 7 1, 3) := by decide +kernel
theorem dX5_go_485 : decode cX5_go 485 = .ok (.goto (-150), 3) := by decide +kernel
theorem dX5_go_488 : decode cX5_go 488 = .ok (.iconst 0, 1) := by decide +kernel
theorem dX5_go_489 : decode cX5_go 489 = .ok (.istore 7, 2) := by decide +kernel
theorem dX5_go_491 : decode cX5_go 491 = .ok (.iload 7, 2) := by decide +kernel
theorem dX5_go_493 : decode cX5_go 493 = .ok (.aload_n 0, 1) := by decide +kernel
theorem dX5_go_494 : decode cX5_go 494 = .ok (.getfield 34, 3) := by decide +kernel
theorem dX5_go_497 : decode cX5_go 497 = .ok (.arraylength, 1) := by decide +kernel
theorem dX5_go_498 : decode cX5_go 498 = .ok (.if_icmp .ge 109, 3) := by decide +kernel
theorem dX5_go_501 : decode cX5_go 501 = .ok (.aload_n 0, 1) := by decide +kernel
theorem dX5_go_502 : decode cX5_go 502 = .ok (.getfield 34, 3) := by decide +kernel
theorem dX5_go_505 : decode cX5_go 505 = .ok (.iload 7, 2) := by decide +kernel
theorem dX5_go_507 : decode cX5_go 507 = .ok (.aaload, 1) := by decide +kernel
theorem dX5_go_508 : decode cX5_go 508 = .ok (.astore 8, 2) := by decide +kernel
theorem dX5_go_510 : decode cX5_go 510 = .ok (.aload 8, 2) := by decide +kernel
theorem dX5_go_512 : decode cX5_go 512 = .ok (.bipush 6, 2) := by decide +kernel
theorem dX5_go_514 : decode cX5_go 514 = .ok (.iaload, 1) := by decide +kernel
theorem dX5_go_515 : decode cX5_go 515 = .ok (.bipush 6, 2) := by decide +kernel
theorem dX5_go_517 : decode cX5_go 517 = .ok (.if_icmp .eq 6, 3) := by decide +kernel
theorem dX5_go_520 : decode cX5_go 520 = .ok (.goto 81, 3) := by decide +kernel
theorem dX5_go_523 : decode cX5_go 523 = .ok (.aload_n 0, 1) := by decide +kernel
theorem dX5_go_524 : decode cX5_go 524 = .ok (.dup, 1) := by decide +kernel
theorem dX5_go_525 : decode cX5_go 525 = .ok (.getfield 44, 3) := by decide +kernel
theorem dX5_go_528 : decode cX5_go 528 = .ok (.aload_n 0, 1) := by decide +kernel
theorem dX5_go_529 : decode cX5_go 529 = .ok (.getfield 18, 3) := by decide +kernel
theorem dX5_go_532 : decode cX5_go 532 = .ok (.aload 8, 2) := by decide +kernel
theorem dX5_go_534 : decode cX5_go 534 = .ok (.iconst 0, 1) := by decide +kernel
theorem dX5_go_535 : decode cX5_go 535 = .ok (.iaload, 1) := by decide +kernel
theorem dX5_go_536 : decode cX5_go 536 = .ok (.aaload, 1) := by decide +kernel
theorem dX5_go_537 : decode cX5_go 537 = .ok (.aload 8, 2) := by decide +kernel
theorem dX5_go_539 : decode cX5_go 539 = .ok (.bipush 8, 2) := by decide +kernel
theorem dX5_go_541 : decode cX5_go 541 = .ok (.iaload, 1) := by decide +kernel
theorem dX5_go_542 : decode cX5_go 542 = .ok (.iaload, 1) := by decide +kernel
theorem dX5_go_543 : decode cX5_go 543 = .ok (.aload_n 0, 1) := by decide +kernel
theorem dX5_go_544 : decode cX5_go 544 = .ok (.iload 7, 2) := by decide +kernel
theorem dX5_go_546 : decode cX5_go 546 = .ok (.invokevirtual 132, 3) := by decide +kernel
theorem dX5_go_549 : decode cX5_go 549 = .ok (.imul, 1) := by decide +kernel
theorem dX5_go_550 : decode cX5_go 550 = .ok (.sipush 1000, 3) := by decide +kernel
theorem dX5_go_553 : decode cX5_go 553 = .ok (.idiv, 1) := by decide +kernel
theorem dX5_go_554 : decode cX5_go 554 = .ok (.iadd, 1) := by decide +kernel
theorem dX5_go_555 : decode cX5_go 555 = .ok (.putfield 44, 3) := by decide +kernel
theorem dX5_go_558 : decode cX5_go 558 = .ok (.aload 8, 2) := by decide +kernel
theorem dX5_go_560 : decode cX5_go 560 = .ok (.iconst 5, 1) := by decide +kernel
theorem dX5_go_561 : decode cX5_go 561 = .ok (.aload 8, 2) := by decide +kernel
theorem dX5_go_563 : decode cX5_go 563 = .ok (.iconst 5, 1) := by decide +kernel
theorem dX5_go_564 : decode cX5_go 564 = .ok (.iaload, 1) := by decide +kernel
theorem dX5_go_565 : decode cX5_go 565 = .ok (.bipush 97, 2) := by decide +kernel
theorem dX5_go_567 : decode cX5_go 567 = .ok (.if_icmp .le 8, 3) := by decide +kernel
theorem dX5_go_570 : decode cX5_go 570 = .ok (.bipush 99, 2) := by decide +kernel
theorem dX5_go_572 : decode cX5_go 572 = .ok (.goto 9, 3) := by decide +kernel
theorem dX5_go_575 : decode cX5_go 575 = .ok (.aload 8, 2) := by decide +kernel
theorem dX5_go_577 : decode cX5_go 577 = .ok (.iconst 5, 1) := by decide +kernel
theorem dX5_go_578 : decode cX5_go 578 = .ok (.iaload, 1) := by decide +kernel
theorem dX5_go_579 : decode cX5_go 579 = .ok (.iconst 2, 1) := by decide +kernel
theorem dX5_go_580 : decode cX5_go 580 = .ok (.iadd, 1) := by decide +kernel
theorem dX5_go_581 : decode cX5_go 581 = .ok (.iastore, 1) := by decide +kernel
theorem dX5_go_582 : decode cX5_go 582 = .ok (.aload 8, 2) := by decide +kernel
theorem dX5_go_584 : decode cX5_go 584 = .ok (.bipush 7, 2) := by decide +kernel
theorem dX5_go_586 : decode cX5_go 586 = .ok (.dup2, 1) := by decide +kernel
theorem dX5_go_587 : decode cX5_go 587 = .ok (.iaload, 1) := by decide +kernel
theorem dX5_go_588 : decode cX5_go 588 = .ok (.iconst 1, 1) := by decide +kernel
theorem dX5_go_589 : decode cX5_go 589 = .ok (.isub, 1) := by decide +kernel
theorem dX5_go_590 : decode cX5_go 590 = .ok (.dup_x2, 1) := by decide +kernel
theorem dX5_go_591 : decode cX5_go 591 = .ok (.iastore, 1) := by decide +kernel
theorem dX5_go_592 : decode cX5_go 592 = .ok (.ifCond .ne 9, 3) := by decide +kernel
theorem dX5_go_595 : decode cX5_go 595 = .ok (.aload 8, 2) := by decide +kernel
theorem dX5_go_597 : decode cX5_go 597 = .ok (.bipush 6, 2) := by decide +kernel
theorem dX5_go_599 : decode cX5_go 599 = .ok (.iconst 5, 1) := by decide +kernel
theorem dX5_go_600 : decode cX5_go 600 = .ok (.iastore, 1) := by decide +kernel
theorem dX5_go_601 : decode cX5_go 601 = .ok (.iinc 7 1, 3) := by decide +kernel
theorem dX5_go_604 : decode cX5_go 604 = .ok (.goto (-113), 3) := by decide +kernel
theorem dX5_go_607 : decode cX5_go 607 = .ok (.iload_n 3, 1) := by decide +kernel
theorem dX5_go_608 : decode cX5_go 608 = .ok (.ireturn, 1) := by decide +kernel
set_option maxRecDepth 20000 in
theorem ggX5_pass_X5_go : GoodIn wsX5_pass wsX5_go := goodIn_r _ [6, 7, 8, 9, 10, 11, 12, 13, 14, 15, 16, 17, 18, 5, 19, 20, 21, 22, 23, 24, 25, 26, 27, 28, 29, 30, 31, 32, 33, 34, 35, 36, 37, 38, 39, 40, 41, 42, 43, 44, 45, 46, 47, 48, 49, 50, 51, 52, 53, 54, 184, 185, 186, 187, 188, 189, 190, 191, 192, 193, 194, 195, 196, 197, 198] (by decide +kernel) (by decide +kernel)
set_option maxRecDepth 20000 in
theorem gX5_pass_X5_go : GoodIn wsX5_pass (wsV RX5 164 RX5 yX5_go wsX5_go) := goodIn_app (goodIn_of _ (by decide +kernel)) ggX5_pass_X5_go
theorem dX5_pass_0 : decode cX5_pass 0 = .ok (.iconst 0, 1) := by decide +kernel
theorem dX5_pass_1 : decode cX5_pass 1 = .ok (.istore 4, 2) := by decide +kernel
theorem dX5_pass_3 : decode cX5_pass 3 = .ok (.iconst 0, 1) := by decide +kernel
theorem dX5_pass_4 : decode cX5_pass 4 = .ok (.istore 5, 2) := by decide +kernel
theorem dX5_pass_6 : decode cX5_pass 6 = .ok (.iload 5, 2) := by decide +kernel
theorem dX5_pass_8 : decode cX5_pass 8 = .ok (.iload_n 1, 1) := by decide +kernel
theorem dX5_pass_9 : decode cX5_pass 9 = .ok (.if_icmp .ge 20, 3) := by decide +kernel
theorem dX5_pass_12 : decode cX5_pass 12 = .ok (.iload 4, 2) := by decide +kernel
theorem dX5_pass_14 : decode cX5_pass 14 = .ok (.aload_n 0, 1) := by decide +kernel
theorem dX5_pass_15 : decode cX5_pass 15 = .ok (.iload_n 2, 1) := by decide +kernel
theorem dX5_pass_16 : decode cX5_pass 16 = .ok (.iload_n 3, 1) := by decide +kernel
theorem dX5_pass_17 : decode cX5_pass 17 = .ok (.invokevirtual 164, 3) := by decide +kernel
theorem dX5_pass_20 : decode cX5_pass 20 = .ok (.iadd, 1) := by decide +kernel
theorem dX5_pass_21 : decode cX5_pass 21 = .ok (.istore 4, 2) := by decide +kernel
theorem dX5_pass_23 : decode cX5_pass 23 = .ok (.iinc 5 1, 3) := by decide +kernel
theorem dX5_pass_26 : decode cX5_pass 26 = .ok (.goto (-20), 3) := by decide +kernel
theorem dX5_pass_29 : decode cX5_pass 29 = .ok (.aload_n 0, 1) := by decide +kernel
theorem dX5_pass_30 : decode cX5_pass 30 = .ok (.getfield 10, 3) := by decide +kernel
theorem dX5_pass_33 : decode cX5_pass 33 = .ok (.iload_n 1, 1) := by decide +kernel
theorem dX5_pass_34 : decode cX5_pass 34 = .ok (.iload_n 2, 1) := by decide +kernel
theorem dX5_pass_35 : decode cX5_pass 35 = .ok (.iload_n 3, 1) := by decide +kernel
theorem dX5_pass_36 : decode cX5_pass 36 = .ok (.invokevirtual 167, 3) := by decide +kernel
theorem dX5_pass_39 : decode cX5_pass 39 = .ok (.iload 4, 2) := by decide +kernel
theorem dX5_pass_41 : decode cX5_pass 41 = .ok (.if_icmp .ne 7, 3) := by decide +kernel
theorem dX5_pass_44 : decode cX5_pass 44 = .ok (.iconst 1, 1) := by decide +kernel
theorem dX5_pass_45 : decode cX5_pass 45 = .ok (.goto 4, 3) := by decide +kernel
theorem dX5_pass_48 : decode cX5_pass 48 = .ok (.iconst 0, 1) := by decide +kernel
theorem dX5_pass_49 : decode cX5_pass 49 = .ok (.ireturn, 1) := by decide +kernel
set_option maxRecDepth 20000 in
theorem ggX5_found_X5_draw : GoodIn wsX5_found wsX5_draw := goodIn_r _ [5, 6, 7, 8, 9, 10, 11, 12, 13, 14, 147, 148, 149, 150, 151, 152, 153, 154, 155, 156, 157, 158, 159, 160, 161] (by decide +kernel) (by decide +kernel)
set_option maxRecDepth 20000 in
theorem gX5_found_X5_draw : GoodIn wsX5_found (wsV RX5 72 RX5 yX5_draw wsX5_draw) := goodIn_app (goodIn_of _ (by decide +kernel)) ggX5_found_X5_draw
set_option maxRecDepth 20000 in
theorem ggX5_found_X5_person : GoodIn wsX5_found wsX5_person := goodIn_ca (goodIn_ca (goodIn_ca (goodIn_r _ [18, 19, 20, 21, 22, 23, 24, 25, 1, 2, 3, 4, 5, 6, 7, 8, 9, 10, 11, 12, 13, 14, 26, 27, 28, 29, 30, 31, 32, 33, 34, 35, 36, 37, 38, 39, 40, 41, 42, 43, 44, 45, 46, 47, 48, 49, 50, 51, 52, 53, 54, 55, 56, 57, 58, 59, 60, 61, 62, 63, 64, 65, 66, 147, 148, 149, 150, 151, 152, 153, 154, 155, 156, 157, 158, 159, 160, 161, 162, 163, 164, 165, 166, 167, 168, 169, 170, 171, 172, 173, 174, 175, 176, 177, 178, 179, 180, 181, 182] (by decide +kernel) (by decide +kernel)) (goodIn_sub (fun _ h => List.mem_cons_of_mem _ (List.mem_append_left _ (List.mem_append_left _ (List.mem_append_right _ h)))) (by decide +kernel))) (goodIn_sub (fun _ h => List.mem_cons_of_mem _ (List.mem_append_left _ (List.mem_append_right _ h))) (by decide +kernel))) (goodIn_sub (fun _ h => List.mem_cons_of_mem _ (List.mem_append_right _ h)) (by decide +kernel))
set_option maxRecDepth 20000 in
theorem gX5_found_X5_person : GoodIn wsX5_found (wsV RX5 170 RX5 yX5_person wsX5_person) := goodIn_app (goodIn_of _ (by decide +kernel)) ggX5_found_X5_person
set_option maxRecDepth 20000 in
theorem ggX5_found_X5_consent : GoodIn wsX5_found wsX5_consent := goodIn_ca (goodIn_r _ [70, 22, 71, 25, 72, 73, 74, 37, 75, 39, 76, 77, 59, 60, 54, 61, 56, 62, 63, 64, 65, 66, 78, 79, 80, 81, 82, 83, 84, 85, 86, 87, 88, 89, 90, 91, 147, 148, 149, 150, 151, 152, 153, 154, 155, 156, 157, 158, 159, 160, 161, 162, 163, 175, 176, 177, 178, 179, 180, 181, 182, 164, 165, 166, 167, 168, 169, 170, 171, 172, 173, 174, 183, 184, 185, 186, 187, 188, 189, 190, 191, 192, 193] (by decide +kernel) (by decide +kernel)) (goodIn_sub (fun _ h => List.mem_cons_of_mem _ (List.mem_append_right _ h)) (by decide +kernel))
set_option maxRecDepth 20000 in
theorem gX5_found_X5_consent : GoodIn wsX5_found (wsV RX5 172 RX5 yX5_consent wsX5_consent) := goodIn_app (goodIn_of _ (by decide +kernel)) ggX5_found_X5_consent
set_option maxRecDepth 20000 in
theorem ggX5_found_X5_measure : GoodIn wsX5_found wsX5_measure := goodIn_ca (goodIn_ca (goodIn_r _ [95, 23, 96, 97, 98, 99, 24, 100, 101, 102, 22, 25, 103, 104, 4, 105, 106, 107, 108, 37, 109, 39, 110, 111, 112, 113, 77, 59, 60, 54, 61, 56, 62, 63, 64, 65, 66, 114, 41, 42, 43, 44, 45, 115, 116, 117, 118, 119, 120, 121, 122, 123, 124, 147, 148, 149, 150, 151, 152, 153, 154, 155, 156, 157, 158, 159, 160, 161, 162, 163, 175, 176, 177, 178, 179, 180, 181, 182, 164, 165, 166, 167, 168, 169, 170, 171, 172, 173, 174] (by decide +kernel) (by decide +kernel)) (goodIn_sub (fun _ h => List.mem_cons_of_mem _ (List.mem_append_right _ h)) (by decide +kernel))) (goodIn_sub (fun _ h => List.mem_cons_of_mem _ (List.mem_append_left _ (List.mem_append_left _ (List.mem_append_right _ h)))) (by decide +kernel))
set_option maxRecDepth 20000 in
theorem gX5_found_X5_measure : GoodIn wsX5_found (wsV RX5 175 RX5 yX5_measure wsX5_measure) := goodIn_app (goodIn_of _ (by decide +kernel)) ggX5_found_X5_measure
set_option maxRecDepth 20000 in
theorem ggX5_found_X5_room : GoodIn wsX5_found wsX5_room := goodIn_ca (goodIn_ca (goodIn_ca (goodIn_r _ [128, 129, 20, 25, 26, 27, 4, 28, 29, 30, 31, 32, 33, 130, 131, 132, 37, 133, 39, 134, 41, 42, 43, 44, 45, 46, 47, 48, 49, 50, 135, 136, 137, 54, 138, 139, 140, 141, 142, 143, 144, 145, 146, 63, 64, 65, 66, 147, 148, 149, 150, 151, 152, 153, 154, 155, 156, 157, 158, 159, 160, 161, 162, 163, 164, 165, 166, 167, 168, 169, 170, 171, 172, 173, 174, 194, 195] (by decide +kernel) (by decide +kernel)) (goodIn_sub (fun _ h => List.mem_cons_of_mem _ (List.mem_append_left _ (List.mem_append_left _ (List.mem_append_right _ h)))) (by decide +kernel))) (goodIn_sub (fun _ h => List.mem_cons_of_mem _ (List.mem_append_left _ (List.mem_append_right _ h))) (by decide +kernel))) (goodIn_sub (fun _ h => List.mem_cons_of_mem _ (List.mem_append_right _ h)) (by decide +kernel))
set_option maxRecDepth 20000 in
theorem gX5_found_X5_room : GoodIn wsX5_found (wsV RX5 178 RX5 yX5_room wsX5_room) := goodIn_app (goodIn_of _ (by decide +kernel)) ggX5_found_X5_room
theorem dX5_found_0 : decode cX5_found 0 = .ok (.iconst 0, 1) := by decide +kernel
theorem dX5_found_1 : decode cX5_found 1 = .ok (.istore_n 2, 1) := by decide +kernel
theorem dX5_found_2 : decode cX5_found 2 = .ok (.iload_n 2, 1) := by decide +kernel
theorem dX5_found_3 : decode cX5_found 3 = .ok (.iload_n 1, 1) := by decide +kernel
theorem dX5_found_4 : decode cX5_found 4 = .ok (.if_icmp .ge 99, 3) := by decide +kernel
theorem dX5_found_7 : decode cX5_found 7 = .ok (.aload_n 0, 1) := by decide +kernel
theorem dX5_found_8 : decode cX5_found 8 = .ok (.bipush 100, 2) := by decide +kernel
theorem dX5_found_10 : decode cX5_found 10 = .ok (.aload_n 0, 1) := by decide +kernel
theorem dX5_found_11 : decode cX5_found 11 = .ok (.sipush 900, 3) := by decide +kernel
theorem dX5_found_14 : decode cX5_found 14 = .ok (.invokevirtual 72, 3) := by decide +kernel
theorem dX5_found_17 : decode cX5_found 17 = .ok (.iadd, 1) := by decide +kernel
theorem dX5_found_18 : decode cX5_found 18 = .ok (.invokevirtual 170, 3) := by decide +kernel
theorem dX5_found_21 : decode cX5_found 21 = .ok (.ifCond .eq 24, 3) := by decide +kernel
theorem dX5_found_24 : decode cX5_found 24 = .ok (.aload_n 0, 1) := by decide +kernel
theorem dX5_found_25 : decode cX5_found 25 = .ok (.iload_n 2, 1) := by decide +kernel
theorem dX5_found_26 : decode cX5_found 26 = .ok (.aload_n 0, 1) := by decide +kernel
theorem dX5_found_27 : decode cX5_found 27 = .ok (.iconst 5, 1) := by decide +kernel
theorem dX5_found_28 : decode cX5_found 28 = .ok (.invokevirtual 72, 3) := by decide +kernel
theorem dX5_found_31 : decode cX5_found 31 = .ok (.ifCond .le 7, 3) := by decide +kernel
theorem dX5_found_34 : decode cX5_found 34 = .ok (.iconst 1, 1) := by decide +kernel
theorem dX5_found_35 : decode cX5_found 35 = .ok (.goto 4, 3) := by decide +kernel
theorem dX5_found_38 : decode cX5_found 38 = .ok (.iconst 0, 1) := by decide +kernel
theorem dX5_found_39 : decode cX5_found 39 = .ok (.invokevirtual 172, 3) := by decide +kernel
theorem dX5_found_42 : decode cX5_found 42 = .ok (.ifCond .ne 5, 3) := by decide +kernel
theorem dX5_found_45 : decode cX5_found 45 = .ok (.iconst 0, 1) := by decide +kernel
theorem dX5_found_46 : decode cX5_found 46 = .ok (.ireturn, 1) := by decide +kernel
theorem dX5_found_47 : decode cX5_found 47 = .ok (.iconst 0, 1) := by decide +kernel
theorem dX5_found_48 : decode cX5_found 48 = .ok (.istore_n 3, 1) := by decide +kernel
theorem dX5_found_49 : decode cX5_found 49 = .ok (.iload_n 3, 1) := by decide +kernel
theorem dX5_found_50 : decode cX5_found 50 = .ok (.bipush 6, 2) := by decide +kernel
theorem dX5_found_52 : decode cX5_found 52 = .ok (.if_icmp .ge 45, 3) := by decide +kernel
theorem dX5_found_55 : decode cX5_found 55 = .ok (.aload_n 0, 1) := by decide +kernel
theorem dX5_found_56 : decode cX5_found 56 = .ok (.iload_n 2, 1) := by decide +kernel
theorem dX5_found_57 : decode cX5_found 57 = .ok (.iload_n 3, 1) := by decide +kernel
theorem dX5_found_58 : decode cX5_found 58 = .ok (.aload_n 0, 1) := by decide +kernel
theorem dX5_found_59 : decode cX5_found 59 = .ok (.bipush 100, 2) := by decide +kernel
theorem dX5_found_61 : decode cX5_found 61 = .ok (.invokevirtual 72, 3) := by decide +kernel
theorem dX5_found_64 : decode cX5_found 64 = .ok (.aload_n 0, 1) := by decide +kernel
theorem dX5_found_65 : decode cX5_found 65 = .ok (.aload_n 0, 1) := by decide +kernel
theorem dX5_found_66 : decode cX5_found 66 = .ok (.iconst 3, 1) := by decide +kernel
theorem dX5_found_67 : decode cX5_found 67 = .ok (.invokevirtual 72, 3) := by decide +kernel
theorem dX5_found_70 : decode cX5_found 70 = .ok (.ifCond .ne 8, 3) := by decide +kernel
theorem dX5_found_73 : decode cX5_found 73 = .ok (.bipush 21, 2) := by decide +kernel
theorem dX5_found_75 : decode cX5_found 75 = .ok (.goto 5, 3) := by decide +kernel
theorem dX5_found_78 : decode cX5_found 78 = .ok (.bipush 6, 2) := by decide +kernel
theorem dX5_found_80 : decode cX5_found 80 = .ok (.invokevirtual 72, 3) := by decide +kernel
theorem dX5_found_83 : decode cX5_found 83 = .ok (.invokevirtual 175, 3) := by decide +kernel
theorem dX5_found_86 : decode cX5_found 86 = .ok (.ifCond .ne 5, 3) := by decide +kernel
theorem dX5_found_89 : decode cX5_found 89 = .ok (.iconst 0, 1) := by decide +kernel
theorem dX5_found_90 : decode cX5_found 90 = .ok (.ireturn, 1) := by decide +kernel
theorem dX5_found_91 : decode cX5_found 91 = .ok (.iinc 3 1, 3) := by decide +kernel
theorem dX5_found_94 : decode cX5_found 94 = .ok (.goto (-45), 3) := by decide +kernel
theorem dX5_found_97 : decode cX5_found 97 = .ok (.iinc 2 1, 3) := by decide +kernel
theorem dX5_found_100 : decode cX5_found 100 = .ok (.goto (-98), 3) := by decide +kernel
theorem dX5_found_103 : decode cX5_found 103 = .ok (.iconst 0, 1) := by decide +kernel
theorem dX5_found_104 : decode cX5_found 104 = .ok (.istore_n 2, 1) := by decide +kernel
theorem dX5_found_105 : decode cX5_found 105 = .ok (.iload_n 2, 1) := by decide +kernel
theorem dX5_found_106 : decode cX5_found 106 = .ok (.iconst 3, 1) := by decide +kernel
theorem dX5_found_107 : decode cX5_found 107 = .ok (.if_icmp .ge 31, 3) := by decide +kernel
theorem dX5_found_110 : decode cX5_found 110 = .ok (.aload_n 0, 1) := by decide +kernel
theorem dX5_found_111 : decode cX5_found 111 = .ok (.aload_n 0, 1) := by decide +kernel
theorem dX5_found_112 : decode cX5_found 112 = .ok (.bipush 10, 2) := by decide +kernel
theorem dX5_found_114 : decode cX5_found 114 = .ok (.invokevirtual 72, 3) := by decide +kernel
theorem dX5_found_117 : decode cX5_found 117 = .ok (.iconst 1, 1) := by decide +kernel
theorem dX5_found_118 : decode cX5_found 118 = .ok (.aload_n 0, 1) := by decide +kernel
theorem dX5_found_119 : decode cX5_found 119 = .ok (.iconst 4, 1) := by decide +kernel
theorem dX5_found_120 : decode cX5_found 120 = .ok (.invokevirtual 72, 3) := by decide +kernel
theorem dX5_found_123 : decode cX5_found 123 = .ok (.iadd, 1) := by decide +kernel
theorem dX5_found_124 : decode cX5_found 124 = .ok (.invokevirtual 178, 3) := by decide +kernel
theorem dX5_found_127 : decode cX5_found 127 = .ok (.ifCond .ne 5, 3) := by decide +kernel
theorem dX5_found_130 : decode cX5_found 130 = .ok (.iconst 0, 1) := by decide +kernel
theorem dX5_found_131 : decode cX5_found 131 = .ok (.ireturn, 1) := by decide +kernel
theorem dX5_found_132 : decode cX5_found 132 = .ok (.iinc 2 1, 3) := by decide +kernel
theorem dX5_found_135 : decode cX5_found 135 = .ok (.goto (-30), 3) := by decide +kernel
theorem dX5_found_138 : decode cX5_found 138 = .ok (.iconst 1, 1) := by decide +kernel
theorem dX5_found_139 : decode cX5_found 139 = .ok (.ireturn, 1) := by decide +kernel
set_option maxRecDepth 20000 in
theorem ggX5_made_X5_draw : GoodIn wsX5_made wsX5_draw := goodIn_r _ [7, 8, 9, 10, 11, 12, 13, 14, 15, 16, 258, 259, 260, 261, 262, 263, 264, 265, 266, 267, 268, 269, 270, 271, 272] (by decide +kernel) (by decide +kernel)
set_option maxRecDepth 20000 in
theorem gX5_made_X5_draw : GoodIn wsX5_made (wsV RX5 72 RX5 yX5_draw wsX5_draw) := goodIn_app (goodIn_of _ (by decide +kernel)) ggX5_made_X5_draw
set_option maxRecDepth 20000 in
theorem ggX5_made_X5_figure : GoodIn wsX5_made wsX5_figure := goodIn_ca (goodIn_ca (goodIn_r _ [20, 2, 21, 22, 23, 24, 6, 25, 26, 27, 28, 29, 30, 31, 32, 33, 34, 35, 36, 37, 38, 39, 40, 41, 42, 43, 44, 45, 46, 47, 48, 49, 50, 51, 52, 53, 54, 55, 56, 57, 58, 59, 60, 61, 62, 63, 64, 65, 258, 259, 260, 261, 262, 263, 264, 265, 266, 267, 268, 269, 270, 271, 272, 273, 274, 275, 276, 277, 278, 279, 280, 281, 282, 283, 284, 285, 286, 287, 288, 289, 290, 291, 292, 293, 294, 295, 296] (by decide +kernel) (by decide +kernel)) (goodIn_sub (fun _ h => List.mem_cons_of_mem _ (List.mem_append_left _ (List.mem_append_left _ (List.mem_append_right _ h)))) (by decide +kernel))) (goodIn_sub (fun _ h => List.mem_cons_of_mem _ (List.mem_append_left _ (List.mem_append_right _ h))) (by decide +kernel))
set_option maxRecDepth 20000 in
theorem gX5_made_X5_figure : GoodIn wsX5_made (wsV RX5 181 RX5 yX5_figure wsX5_figure) := goodIn_app (goodIn_of _ (by decide +kernel)) ggX5_made_X5_figure
set_option maxRecDepth 20000 in
theorem ggX5_made_X5_work : GoodIn wsX5_made wsX5_work := goodIn_ca (goodIn_ca (goodIn_ca (goodIn_r _ [69, 2, 22, 70, 71, 72, 34, 73, 36, 74, 75, 76, 77, 62, 63, 41, 64, 58, 65, 45, 46, 47, 48, 78, 79, 80, 81, 82, 83, 84, 85, 86, 87, 49, 50, 51, 52, 53, 88, 89, 90, 6, 91, 258, 259, 260, 261, 262, 263, 264, 265, 266, 267, 268, 269, 270, 271, 272, 273, 274, 286, 287, 288, 289, 290, 291, 292, 293, 294, 295, 296, 275, 276, 277, 278, 279, 280, 281, 282, 283, 284, 285] (by decide +kernel) (by decide +kernel)) (goodIn_sub (fun _ h => List.mem_cons_of_mem _ (List.mem_append_left _ (List.mem_append_left _ (List.mem_append_right _ h)))) (by decide +kernel))) (goodIn_sub (fun _ h => List.mem_cons_of_mem _ (List.mem_append_right _ h)) (by decide +kernel))) (goodIn_sub (fun _ h => List.mem_cons_of_mem _ (List.mem_append_left _ (List.mem_append_right _ h))) (by decide +kernel))
set_option maxRecDepth 20000 in
theorem gX5_made_X5_work : GoodIn wsX5_made (wsV RX5 183 RX5 yX5_work wsX5_work) := goodIn_app (goodIn_of _ (by decide +kernel)) ggX5_made_X5_work
theorem dX5_made_0 : decode cX5_made 0 = .ok (.iconst 0, 1) := by decide +kernel
theorem dX5_made_1 : decode cX5_made 1 = .ok (.istore_n 2, 1) := by decide +kernel
theorem dX5_made_2 : decode cX5_made 2 = .ok (.iload_n 2, 1) := by decide +kernel
theorem dX5_made_3 : decode cX5_made 3 = .ok (.iload_n 1, 1) := by decide +kernel
theorem dX5_made_4 : decode cX5_made 4 = .ok (.if_icmp .ge 64, 3) := by decide +kernel
theorem dX5_made_7 : decode cX5_made 7 = .ok (.aload_n 0, 1) := by decide +kernel
theorem dX5_made_8 : decode cX5_made 8 = .ok (.aload_n 0, 1) := by decide +kernel
theorem dX5_made_9 : decode cX5_made 9 = .ok (.aload_n 0, 1) := by decide +kernel
theorem dX5_made_10 : decode cX5_made 10 = .ok (.getfield 18, 3) := by decide +kernel
theorem dX5_made_13 : decode cX5_made 13 = .ok (.arraylength, 1) := by decide +kernel
theorem dX5_made_14 : decode cX5_made 14 = .ok (.invokevirtual 72, 3) := by decide +kernel
theorem dX5_made_17 : decode cX5_made 17 = .ok (.invokevirtual 181, 3) := by decide +kernel
theorem dX5_made_20 : decode cX5_made 20 = .ok (.ifCond .eq 40, 3) := by decide +kernel
theorem dX5_made_23 : decode cX5_made 23 = .ok (.aload_n 0, 1) := by decide +kernel
theorem dX5_made_24 : decode cX5_made 24 = .ok (.aload_n 0, 1) := by decide +kernel
theorem dX5_made_25 : decode cX5_made 25 = .ok (.getfield 34, 3) := by decide +kernel
theorem dX5_made_28 : decode cX5_made 28 = .ok (.arraylength, 1) := by decide +kernel
theorem dX5_made_29 : decode cX5_made 29 = .ok (.iconst 1, 1) := by decide +kernel
theorem dX5_made_30 : decode cX5_made 30 = .ok (.isub, 1) := by decide +kernel
theorem dX5_made_31 : decode cX5_made 31 = .ok (.bipush 9, 2) := by decide +kernel
theorem dX5_made_33 : decode cX5_made 33 = .ok (.invokevirtual 183, 3) := by decide +kernel
theorem dX5_made_36 : decode cX5_made 36 = .ok (.ifCond .eq 24, 3) := by decide +kernel
theorem dX5_made_39 : decode cX5_made 39 = .ok (.aload_n 0, 1) := by decide +kernel
theorem dX5_made_40 : decode cX5_made 40 = .ok (.iconst 4, 1) := by decide +kernel
theorem dX5_made_41 : decode cX5_made 41 = .ok (.aload_n 0, 1) := by decide +kernel
theorem dX5_made_42 : decode cX5_made 42 = .ok (.sipush 300, 3) := by decide +kernel
theorem dX5_made_45 : decode cX5_made 45 = .ok (.invokevirtual 72, 3) := by decide +kernel
theorem dX5_made_48 : decode cX5_made 48 = .ok (.aload_n 0, 1) := by decide +kernel
theorem dX5_made_49 : decode cX5_made 49 = .ok (.bipush 20, 2) := by decide +kernel
theorem dX5_made_51 : decode cX5_made 51 = .ok (.invokevirtual 72, 3) := by decide +kernel
theorem dX5_made_54 : decode cX5_made 54 = .ok (.invokevirtual 185, 3) := by decide +kernel
theorem dX5_made_57 : decode cX5_made 57 = .ok (.ifCond .ne 5, 3) := by decide +kernel
theorem dX5_made_60 : decode cX5_made 60 = .ok (.iconst 0, 1) := by decide +kernel
theorem dX5_made_61 : decode cX5_made 61 = .ok (.ireturn, 1) := by decide +kernel
theorem dX5_made_62 : decode cX5_made 62 = .ok (.iinc 2 1, 3) := by decide +kernel
theorem dX5_made_65 : decode cX5_made 65 = .ok (.goto (-63), 3) := by decide +kernel
theorem dX5_made_68 : decode cX5_made 68 = .ok (.iconst 1, 1) := by decide +kernel
theorem dX5_made_69 : decode cX5_made 69 = .ok (.ireturn, 1) := by decide +kernel
theorem dJ9_abs_0f7a4_0 : decode cJ9_abs_0f7a4 0 = .ok (.iload_n 0, 1) := by decide +kernel
theorem dJ9_abs_0f7a4_1 : decode cJ9_abs_0f7a4 1 = .ok (.ifCond .ge 8, 3) := by decide +kernel
theorem dJ9_abs_0f7a4_4 : decode cJ9_abs_0f7a4 4 = .ok (.iload_n 0, 1) := by decide +kernel
theorem dJ9_abs_0f7a4_5 : decode cJ9_abs_0f7a4 5 = .ok (.ineg, 1) := by decide +kernel
theorem dJ9_abs_0f7a4_6 : decode cJ9_abs_0f7a4 6 = .ok (.goto 4, 3) := by decide +kernel
theorem dJ9_abs_0f7a4_9 : decode cJ9_abs_0f7a4 9 = .ok (.iload_n 0, 1) := by decide +kernel
theorem dJ9_abs_0f7a4_10 : decode cJ9_abs_0f7a4 10 = .ok (.ireturn, 1) := by decide +kernel
theorem dJ9_max_7cf53_0 : decode cJ9_max_7cf53 0 = .ok (.iload_n 0, 1) := by decide +kernel
theorem dJ9_max_7cf53_1 : decode cJ9_max_7cf53 1 = .ok (.iload_n 1, 1) := by decide +kernel
theorem dJ9_max_7cf53_2 : decode cJ9_max_7cf53 2 = .ok (.if_icmp .lt 7, 3) := by decide +kernel
theorem dJ9_max_7cf53_5 : decode cJ9_max_7cf53 5 = .ok (.iload_n 0, 1) := by decide +kernel
theorem dJ9_max_7cf53_6 : decode cJ9_max_7cf53 6 = .ok (.goto 4, 3) := by decide +kernel
theorem dJ9_max_7cf53_9 : decode cJ9_max_7cf53 9 = .ok (.iload_n 1, 1) := by decide +kernel
theorem dJ9_max_7cf53_10 : decode cJ9_max_7cf53 10 = .ok (.ireturn, 1) := by decide +kernel
theorem dJ9_min_7cf53_0 : decode cJ9_min_7cf53 0 = .ok (.iload_n 0, 1) := by decide +kernel
theorem dJ9_min_7cf53_1 : decode cJ9_min_7cf53 1 = .ok (.iload_n 1, 1) := by decide +kernel
theorem dJ9_min_7cf53_2 : decode cJ9_min_7cf53 2 = .ok (.if_icmp .gt 7, 3) := by decide +kernel
theorem dJ9_min_7cf53_5 : decode cJ9_min_7cf53 5 = .ok (.iload_n 0, 1) := by decide +kernel
theorem dJ9_min_7cf53_6 : decode cJ9_min_7cf53 6 = .ok (.goto 4, 3) := by decide +kernel
theorem dJ9_min_7cf53_9 : decode cJ9_min_7cf53 9 = .ok (.iload_n 1, 1) := by decide +kernel
theorem dJ9_min_7cf53_10 : decode cJ9_min_7cf53 10 = .ok (.ireturn, 1) := by decide +kernel
theorem dL_below_0 : decode cL_below 0 = .ok (.iload_n 0, 1) := by decide +kernel
theorem dL_below_1 : decode cL_below 1 = .ok (.ldc 7, 2) := by decide +kernel
theorem dL_below_3 : decode cL_below 3 = .ok (.iand, 1) := by decide +kernel
theorem dL_below_4 : decode cL_below 4 = .ok (.iload_n 1, 1) := by decide +kernel
theorem dL_below_5 : decode cL_below 5 = .ok (.irem, 1) := by decide +kernel
theorem dL_below_6 : decode cL_below 6 = .ok (.ireturn, 1) := by decide +kernel
theorem dL_cell_0 : decode cL_cell 0 = .ok (.iload_n 1, 1) := by decide +kernel
theorem dL_cell_1 : decode cL_cell 1 = .ok (.aload_n 0, 1) := by decide +kernel
theorem dL_cell_2 : decode cL_cell 2 = .ok (.arraylength, 1) := by decide +kernel
theorem dL_cell_3 : decode cL_cell 3 = .ok (.if_icmp .ge 9, 3) := by decide +kernel
theorem dL_cell_6 : decode cL_cell 6 = .ok (.aload_n 0, 1) := by decide +kernel
theorem dL_cell_7 : decode cL_cell 7 = .ok (.iload_n 1, 1) := by decide +kernel
theorem dL_cell_8 : decode cL_cell 8 = .ok (.iaload, 1) := by decide +kernel
theorem dL_cell_9 : decode cL_cell 9 = .ok (.goto 9, 3) := by decide +kernel
theorem dL_cell_12 : decode cL_cell 12 = .ok (.ldc 8, 2) := by decide +kernel
theorem dL_cell_14 : decode cL_cell 14 = .ok (.iload_n 1, 1) := by decide +kernel
theorem dL_cell_15 : decode cL_cell 15 = .ok (.iconst 3, 1) := by decide +kernel
theorem dL_cell_16 : decode cL_cell 16 = .ok (.iadd, 1) := by decide +kernel
theorem dL_cell_17 : decode cL_cell 17 = .ok (.imul, 1) := by decide +kernel
theorem dL_cell_18 : decode cL_cell 18 = .ok (.ireturn, 1) := by decide +kernel
set_option maxRecDepth 20000 in
theorem ggL_law_X5_init : GoodIn wsL_law wsX5_init := goodIn_r _ [8, 9, 10, 11, 12, 13, 14, 15, 16, 17, 18, 19, 20, 21, 22, 23, 24, 25, 26, 27, 28, 29, 30, 31, 32, 33, 34, 35, 36, 37, 38, 39, 40, 41, 42, 43, 44, 45, 46, 47, 48, 49, 50, 51, 52, 53, 54, 55, 56, 57, 58, 59, 60, 61, 62, 63, 64, 65, 66, 67, 68, 69, 70, 71, 72, 73, 74, 75, 76, 541, 542, 526, 527, 528, 529, 530, 531, 532, 533, 534, 535, 536, 537, 538, 539, 540, 543, 544, 545, 546, 547, 548, 549, 550, 551, 552, 553, 554, 555, 556, 557, 558, 559, 560, 561, 562, 563, 564, 565, 566, 567, 568, 569, 570, 571, 572, 573, 574] (by decide +kernel) (by decide +kernel)
set_option maxRecDepth 20000 in
theorem gL_law_X5_init : GoodIn wsL_law (wsX5_init) := ggL_law_X5_init
set_option maxRecDepth 20000 in
theorem ggL_law_X5_draw : GoodIn wsL_law wsX5_draw := goodIn_r _ [88, 27, 28, 89, 79, 90, 91, 92, 93, 94, 526, 527, 528, 529, 530, 531, 532, 533, 534, 535, 536, 537, 538, 539, 540] (by decide +kernel) (by decide +kernel)
set_option maxRecDepth 20000 in
theorem gL_law_X5_draw : GoodIn wsL_law (wsV RL 28 RX5 yX5_draw wsX5_draw) := goodIn_app (goodIn_of _ (by decide +kernel)) ggL_law_X5_draw
set_option maxRecDepth 20000 in
theorem ggL_law_X4_ofFigure : GoodIn wsL_law wsX4_ofFigure := goodIn_ca (goodIn_ca (goodIn_r _ [448, 36, 449, 450, 451, 246, 245, 452, 453, 247, 454, 455, 248, 234, 235, 35, 236, 149, 47, 131, 14, 132, 133, 134, 111, 112, 113, 114, 115, 456, 457, 458, 49, 459, 329, 330, 460, 348, 349, 350, 332, 351, 71, 72, 352, 353, 354, 355, 73, 356, 357, 358, 45, 359, 65, 66, 461, 342, 343, 344, 345, 346, 153, 154, 155, 347, 541, 542, 562, 563, 564, 565, 566, 567, 568, 569, 570, 571, 572, 554, 555, 556, 557, 558, 559, 560, 561, 543, 544, 545, 546, 547, 548, 549, 550, 551, 552, 553] (by decide +kernel) (by decide +kernel)) (goodIn_sub (fun _ h => List.mem_append_right _ h) (by decide +kernel))) (goodIn_sub (fun _ h => List.mem_append_left _ (List.mem_append_left _ (List.mem_append_right _ h))) (by decide +kernel))
set_option maxRecDepth 20000 in
theorem gL_law_X4_ofFigure : GoodIn wsL_law (wsV RL 38 RX4 yX4_ofFigure wsX4_ofFigure) := goodIn_app (goodIn_of _ (by decide +kernel)) ggL_law_X4_ofFigure
set_option maxRecDepth 20000 in
theorem ggL_law_X4_ofPerson : GoodIn wsL_law wsX4_ofPerson := goodIn_ca (goodIn_ca (goodIn_r _ [424, 36, 425, 214, 143, 426, 427, 144, 128, 129, 35, 130, 125, 43, 131, 14, 132, 133, 134, 111, 112, 113, 114, 115, 428, 334, 335, 45, 336, 66, 65, 429, 430, 431, 432, 149, 47, 150, 152, 153, 154, 49, 155, 73, 541, 542, 554, 555, 556, 557, 558, 559, 560, 561, 543, 544, 545, 546, 547, 548, 549, 550, 551, 552, 553, 562, 563, 564, 565, 566, 567, 568, 569, 570, 571, 572] (by decide +kernel) (by decide +kernel)) (goodIn_sub (fun _ h => List.mem_append_right _ h) (by decide +kernel))) (goodIn_sub (fun _ h => List.mem_append_left _ (List.mem_append_left _ (List.mem_append_right _ h))) (by decide +kernel))
set_option maxRecDepth 20000 in
theorem gL_law_X4_ofPerson : GoodIn wsL_law (wsV RL 42 RX4 yX4_ofPerson wsX4_ofPerson) := goodIn_app (goodIn_of _ (by decide +kernel)) ggL_law_X4_ofPerson
set_option maxRecDepth 20000 in
theorem ggL_law_X4_ofRoom : GoodIn wsL_law wsX4_ofRoom := goodIn_ca (goodIn_ca (goodIn_r _ [493, 36, 494, 495, 496, 203, 204, 35, 205, 199, 51, 131, 14, 132, 133, 134, 111, 112, 113, 114, 115, 407, 408, 409, 410, 149, 47, 151, 416, 338, 339, 340, 341, 342, 343, 49, 344, 71, 345, 346, 153, 154, 155, 73, 347, 348, 349, 350, 332, 351, 72, 352, 353, 354, 355, 329, 356, 357, 358, 45, 359, 65, 66, 541, 542, 573, 574, 543, 544, 545, 546, 547, 548, 549, 550, 551, 552, 553, 562, 563, 564, 565, 566, 567, 568, 569, 570, 571, 572, 554, 555, 556, 557, 558, 559, 560, 561] (by decide +kernel) (by decide +kernel)) (goodIn_sub (fun _ h => List.mem_append_right _ h) (by decide +kernel))) (goodIn_sub (fun _ h => List.mem_append_left _ (List.mem_append_left _ (List.mem_append_right _ h))) (by decide +kernel))
set_option maxRecDepth 20000 in
theorem gL_law_X4_ofRoom : GoodIn wsL_law (wsV RL 45 RX4 yX4_ofRoom wsX4_ofRoom) := goodIn_app (goodIn_of _ (by decide +kernel)) ggL_law_X4_ofRoom
set_option maxRecDepth 20000 in
theorem ggL_law_X4_show : GoodIn wsL_law wsX4_show := goodIn_ca (goodIn_ca (goodIn_r _ [511, 36, 449, 143, 495, 247, 248, 234, 235, 35, 236, 149, 47, 131, 14, 132, 133, 134, 496, 203, 204, 205, 199, 51, 512, 513, 514, 49, 515, 329, 73, 116, 117, 118, 119, 120, 460, 348, 349, 350, 332, 351, 71, 72, 352, 353, 354, 355, 356, 357, 358, 45, 359, 65, 66, 407, 408, 409, 410, 151, 429, 430, 431, 432, 150, 152, 153, 154, 155, 461, 342, 343, 344, 345, 346, 347, 541, 542, 562, 563, 564, 565, 566, 567, 568, 569, 570, 571, 572, 554, 555, 556, 557, 558, 559, 560, 561, 573, 574, 543, 544, 545, 546, 547, 548, 549, 550, 551, 552, 553] (by decide +kernel) (by decide +kernel)) (goodIn_sub (fun _ h => List.mem_append_right _ h) (by decide +kernel))) (goodIn_sub (fun _ h => List.mem_append_left _ (List.mem_append_right _ h)) (by decide +kernel))
set_option maxRecDepth 20000 in
theorem gL_law_X4_show : GoodIn wsL_law (wsV RL 48 RX4 yX4_show wsX4_show) := goodIn_app (goodIn_of _ (by decide +kernel)) ggL_law_X4_show
set_option maxRecDepth 20000 in
theorem ggL_law_X4_work : GoodIn wsL_law wsX4_work := goodIn_ca (goodIn_ca (goodIn_ca (goodIn_r _ [244, 36, 245, 246, 247, 248, 234, 235, 35, 236, 149, 47, 131, 14, 132, 133, 134, 111, 112, 113, 114, 115, 249, 250, 251, 252, 253, 116, 117, 118, 119, 120, 541, 542, 562, 563, 564, 565, 566, 567, 568, 569, 570, 571, 572, 543, 544, 545, 546, 547, 548, 549, 550, 551, 552, 553] (by decide +kernel) (by decide +kernel)) (goodIn_sub (fun _ h => List.mem_append_right _ h) (by decide +kernel))) (goodIn_sub (fun _ h => List.mem_append_left _ (List.mem_append_left _ (List.mem_append_right _ h))) (by decide +kernel))) (goodIn_sub (fun _ h => List.mem_append_left _ (List.mem_append_right _ h)) (by decide +kernel))
set_option maxRecDepth 20000 in
theorem gL_law_X4_work : GoodIn wsL_law (wsV RL 51 RX4 yX4_work wsX4_work) := goodIn_app (goodIn_of _ (by decide +kernel)) ggL_law_X4_work
set_option maxRecDepth 20000 in
theorem ggL_law_X4_readyIn : GoodIn wsL_law wsX4_readyIn := goodIn_ca (goodIn_r _ [465, 36, 248, 234, 235, 35, 236, 149, 47, 131, 14, 132, 133, 134, 466, 467, 468, 49, 469, 73, 331, 330, 329, 352, 353, 354, 355, 541, 542, 543, 544, 545, 546, 547, 548, 549, 550, 551, 552, 553, 562, 563, 564, 565, 566, 567, 568, 569, 570, 571, 572] (by decide +kernel) (by decide +kernel)) (goodIn_sub (fun _ h => List.mem_append_right _ h) (by decide +kernel))
set_option maxRecDepth 20000 in
theorem gL_law_X4_readyIn : GoodIn wsL_law (wsV RL 58 RX4 yX4_readyIn wsX4_readyIn) := goodIn_app (goodIn_of _ (by decide +kernel)) ggL_law_X4_readyIn
set_option maxRecDepth 20000 in
theorem ggL_law_X4_bestNext : GoodIn wsL_law wsX4_bestNext := goodIn_ca (goodIn_r _ [500, 36, 110, 143, 144, 128, 129, 35, 130, 125, 43, 131, 14, 132, 133, 134, 501, 502, 503, 504, 149, 47, 150, 151, 441, 442, 443, 45, 444, 63, 64, 315, 316, 317, 318, 319, 320, 428, 334, 335, 336, 66, 65, 541, 542, 543, 544, 545, 546, 547, 548, 549, 550, 551, 552, 553, 554, 555, 556, 557, 558, 559, 560, 561, 562, 563, 564, 565, 566, 567, 568, 569, 570, 571, 572] (by decide +kernel) (by decide +kernel)) (goodIn_sub (fun _ h => List.mem_append_right _ h) (by decide +kernel))
set_option maxRecDepth 20000 in
theorem gL_law_X4_bestNext : GoodIn wsL_law (wsV RL 61 RX4 yX4_bestNext wsX4_bestNext) := goodIn_app (goodIn_of _ (by decide +kernel)) ggL_law_X4_bestNext
set_option maxRecDepth 20000 in
theorem ggL_law_X4_many : GoodIn wsL_law wsX4_many := goodIn_ca (goodIn_r _ [396, 36, 397, 110, 227, 194, 398, 399, 400, 401, 111, 112, 14, 113, 114, 115, 402, 403, 404, 35, 405, 149, 47, 406, 353, 354, 49, 355, 329, 73, 407, 408, 409, 410, 151, 411, 412, 413, 414, 125, 43, 415, 249, 250, 251, 252, 253, 416, 338, 339, 340, 341, 342, 343, 344, 71, 345, 346, 153, 154, 155, 347, 348, 349, 350, 332, 351, 72, 352, 356, 357, 358, 45, 359, 65, 66, 541, 542, 543, 544, 545, 546, 547, 548, 549, 550, 551, 552, 553, 562, 563, 564, 565, 566, 567, 568, 569, 570, 571, 572, 554, 555, 556, 557, 558, 559, 560, 561] (by decide +kernel) (by decide +kernel)) (goodIn_sub (fun _ h => List.mem_append_left _ (List.mem_append_left _ (List.mem_append_right _ h))) (by decide +kernel))
set_option maxRecDepth 20000 in
theorem gL_law_X4_many : GoodIn wsL_law (wsV RL 65 RX4 yX4_many wsX4_many) := goodIn_app (goodIn_of _ (by decide +kernel)) ggL_law_X4_many
set_option maxRecDepth 20000 in
theorem ggL_law_X4_wouldFame : GoodIn wsL_law wsX4_wouldFame := goodIn_ca (goodIn_ca (goodIn_r _ [440, 36, 144, 128, 129, 35, 130, 125, 43, 131, 14, 132, 133, 134, 178, 111, 112, 113, 114, 115, 441, 442, 443, 45, 444, 63, 64, 315, 316, 317, 318, 319, 320, 541, 542, 543, 544, 545, 546, 547, 548, 549, 550, 551, 552, 553, 554, 555, 556, 557, 558, 559, 560, 561] (by decide +kernel) (by decide +kernel)) (goodIn_sub (fun _ h => List.mem_append_right _ h) (by decide +kernel))) (goodIn_sub (fun _ h => List.mem_append_left _ (List.mem_append_left _ (List.mem_append_right _ h))) (by decide +kernel))
set_option maxRecDepth 20000 in
theorem gL_law_X4_wouldFame : GoodIn wsL_law (wsV RL 68 RX4 yX4_wouldFame wsX4_wouldFame) := goodIn_app (goodIn_of _ (by decide +kernel)) ggL_law_X4_wouldFame
theorem dL_law_0 : decode cL_law 0 = .ok (.iconst 0, 1) := by decide +kernel
theorem dL_law_1 : decode cL_law 1 = .ok (.istore_n 1, 1) := by decide +kernel
theorem dL_law_2 : decode cL_law 2 = .ok (.iload_n 1, 1) := by decide +kernel
theorem dL_law_3 : decode cL_law 3 = .ok (.iconst 3, 1) := by decide +kernel
theorem dL_law_4 : decode cL_law 4 = .ok (.if_icmp .ge 681, 3) := by decide +kernel
theorem dL_law_7 : decode cL_law 7 = .ok (.new 9, 3) := by decide +kernel
theorem dL_law_10 : decode cL_law 10 = .ok (.dup, 1) := by decide +kernel
theorem dL_law_11 : decode cL_law 11 = .ok (.aload_n 0, 1) := by decide +kernel
theorem dL_law_12 : decode cL_law 12 = .ok (.bipush 31, 2) := by decide +kernel
theorem dL_law_14 : decode cL_law 14 = .ok (.iload_n 1, 1) := by decide +kernel
theorem dL_law_15 : decode cL_law 15 = .ok (.imul, 1) := by decide +kernel
theorem dL_law_16 : decode cL_law 16 = .ok (.bipush 7, 2) := by decide +kernel
theorem dL_law_18 : decode cL_law 18 = .ok (.iadd, 1) := by decide +kernel
theorem dL_law_19 : decode cL_law 19 = .ok (.invokespecial 11, 3) := by decide +kernel
theorem dL_law_22 : decode cL_law 22 = .ok (.astore_n 2, 1) := by decide +kernel
theorem dL_law_23 : decode cL_law 23 = .ok (.new 9, 3) := by decide +kernel
theorem dL_law_26 : decode cL_law 26 = .ok (.dup, 1) := by decide +kernel
theorem dL_law_27 : decode cL_law 27 = .ok (.aload_n 0, 1) := by decide +kernel
theorem dL_law_28 : decode cL_law 28 = .ok (.bipush 31, 2) := by decide +kernel
theorem dL_law_30 : decode cL_law 30 = .ok (.iload_n 1, 1) := by decide +kernel
theorem dL_law_31 : decode cL_law 31 = .ok (.imul, 1) := by decide +kernel
theorem dL_law_32 : decode cL_law 32 = .ok (.bipush 7, 2) := by decide +kernel
theorem dL_law_34 : decode cL_law 34 = .ok (.iadd, 1) := by decide +kernel
theorem dL_law_35 : decode cL_law 35 = .ok (.invokespecial 11, 3) := by decide +kernel
theorem dL_law_38 : decode cL_law 38 = .ok (.astore_n 3, 1) := by decide +kernel
theorem dL_law_39 : decode cL_law 39 = .ok (.aload_n 2, 1) := by decide +kernel
theorem dL_law_40 : decode cL_law 40 = .ok (.getfield 14, 3) := by decide +kernel
theorem dL_law_43 : decode cL_law 43 = .ok (.astore 4, 2) := by decide +kernel
theorem dL_law_45 : decode cL_law 45 = .ok (.aload_n 2, 1) := by decide +kernel
theorem dL_law_46 : decode cL_law 46 = .ok (.invokestatic 18, 3) := by decide +kernel
theorem dL_law_49 : decode cL_law 49 = .ok (.ifCond .eq 10, 3) := by decide +kernel
theorem dL_law_52 : decode cL_law 52 = .ok (.aload_n 3, 1) := by decide +kernel
theorem dL_law_53 : decode cL_law 53 = .ok (.invokestatic 18, 3) := by decide +kernel
theorem dL_law_56 : decode cL_law 56 = .ok (.ifCond .ne 5, 3) := by decide +kernel
theorem dL_law_59 : decode cL_law 59 = .ok (.iconst 0, 1) := by decide +kernel
theorem dL_law_60 : decode cL_law 60 = .ok (.ireturn, 1) := by decide +kernel
theorem dL_law_61 : decode cL_law 61 = .ok (.aload_n 3, 1) := by decide +kernel
theorem dL_law_62 : decode cL_law 62 = .ok (.aload_n 2, 1) := by decide +kernel
theorem dL_law_63 : decode cL_law 63 = .ok (.getfield 24, 3) := by decide +kernel
theorem dL_law_66 : decode cL_law 66 = .ok (.putfield 24, 3) := by decide +kernel
theorem dL_law_69 : decode cL_law 69 = .ok (.iconst 0, 1) := by decide +kernel
theorem dL_law_70 : decode cL_law 70 = .ok (.istore 5, 2) := by decide +kernel
theorem dL_law_72 : decode cL_law 72 = .ok (.iload 5, 2) := by decide +kernel
theorem dL_law_74 : decode cL_law 74 = .ok (.bipush 7, 2) := by decide +kernel
theorem dL_law_76 : decode cL_law 76 = .ok (.if_icmp .ge 603, 3) := by decide +kernel
theorem dL_law_79 : decode cL_law 79 = .ok (.aload_n 2, 1) := by decide +kernel
theorem dL_law_80 : decode cL_law 80 = .ok (.sipush 2001, 3) := by decide +kernel
theorem dL_law_83 : decode cL_law 83 = .ok (.invokevirtual 28, 3) := by decide +kernel
theorem dL_law_86 : decode cL_law 86 = .ok (.istore 6, 2) := by decide +kernel
theorem dL_law_88 : decode cL_law 88 = .ok (.aload_n 2, 1) := by decide +kernel
theorem dL_law_89 : decode cL_law 89 = .ok (.bipush 41, 2) := by decide +kernel
theorem dL_law_91 : decode cL_law 91 = .ok (.invokevirtual 28, 3) := by decide +kernel
theorem dL_law_94 : decode cL_law 94 = .ok (.istore 7, 2) := by decide +kernel
theorem dL_law_96 : decode cL_law 96 = .ok (.aload_n 2, 1) := by decide +kernel
theorem dL_law_97 : decode cL_law 97 = .ok (.iconst 5, 1) := by decide +kernel
theorem dL_law_98 : decode cL_law 98 = .ok (.invokevirtual 28, 3) := by decide +kernel
theorem dL_law_101 : decode cL_law 101 = .ok (.istore 8, 2) := by decide +kernel
theorem dL_law_103 : decode cL_law 103 = .ok (.aload_n 2, 1) := by decide +kernel
theorem dL_law_104 : decode cL_law 104 = .ok (.iconst 4, 1) := by decide +kernel
theorem dL_law_105 : decode cL_law 105 = .ok (.invokevirtual 28, 3) := by decide +kernel
theorem dL_law_108 : decode cL_law 108 = .ok (.istore 9, 2) := by decide +kernel
theorem dL_law_110 : decode cL_law 110 = .ok (.aload_n 2, 1) := by decide +kernel
theorem dL_law_111 : decode cL_law 111 = .ok (.iconst 3, 1) := by decide +kernel
theorem dL_law_112 : decode cL_law 112 = .ok (.invokevirtual 28, 3) := by decide +kernel
theorem dL_law_115 : decode cL_law 115 = .ok (.istore 10, 2) := by decide +kernel
theorem dL_law_117 : decode cL_law 117 = .ok (.aload_n 2, 1) := by decide +kernel
theorem dL_law_118 : decode cL_law 118 = .ok (.bipush 7, 2) := by decide +kernel
theorem dL_law_120 : decode cL_law 120 = .ok (.invokevirtual 28, 3) := by decide +kernel
theorem dL_law_123 : decode cL_law 123 = .ok (.istore 11, 2) := by decide +kernel
theorem dL_law_125 : decode cL_law 125 = .ok (.aload 4, 2) := by decide +kernel
theorem dL_law_127 : decode cL_law 127 = .ok (.invokevirtual 32, 3) := by decide +kernel
theorem dL_law_130 : decode cL_law 130 = .ok (.lstore 12, 2) := by decide +kernel
theorem dL_law_132 : decode cL_law 132 = .ok (.aload_n 3, 1) := by decide +kernel
theorem dL_law_133 : decode cL_law 133 = .ok (.getfield 14, 3) := by decide +kernel
theorem dL_law_136 : decode cL_law 136 = .ok (.invokevirtual 32, 3) := by decide +kernel
theorem dL_law_139 : decode cL_law 139 = .ok (.lload 12, 2) := by decide +kernel
theorem dL_law_141 : decode cL_law 141 = .ok (.lcmp, 1) := by decide +kernel
theorem dL_law_142 : decode cL_law 142 = .ok (.ifCond .eq 5, 3) := by decide +kernel
theorem dL_law_145 : decode cL_law 145 = .ok (.iconst 0, 1) := by decide +kernel
theorem dL_law_146 : decode cL_law 146 = .ok (.ireturn, 1) := by decide +kernel
theorem dL_law_147 : decode cL_law 147 = .ok (.iconst 2, 1) := by decide +kernel
theorem dL_law_148 : decode cL_law 148 = .ok (.anewarray 33, 3) := by decide +kernel
theorem dL_law_151 : decode cL_law 151 = .ok (.dup, 1) := by decide +kernel
theorem dL_law_152 : decode cL_law 152 = .ok (.iconst 0, 1) := by decide +kernel
theorem dL_law_153 : decode cL_law 153 = .ok (.aload 4, 2) := by decide +kernel
theorem dL_law_155 : decode cL_law 155 = .ok (.aastore, 1) := by decide +kernel
theorem dL_law_156 : decode cL_law 156 = .ok (.dup, 1) := by decide +kernel
theorem dL_law_157 : decode cL_law 157 = .ok (.iconst 1, 1) := by decide +kernel
theorem dL_law_158 : decode cL_law 158 = .ok (.aload_n 3, 1) := by decide +kernel
theorem dL_law_159 : decode cL_law 159 = .ok (.getfield 14, 3) := by decide +kernel
theorem dL_law_162 : decode cL_law 162 = .ok (.aastore, 1) := by decide +kernel
theorem dL_law_163 : decode cL_law 163 = .ok (.astore 14, 2) := by decide +kernel
theorem dL_law_165 : decode cL_law 165 = .ok (.aload 14, 2) := by decide +kernel
theorem dL_law_167 : decode cL_law 167 = .ok (.arraylength, 1) := by decide +kernel
theorem dL_law_168 : decode cL_law 168 = .ok (.istore 15, 2) := by decide +kernel
theorem dL_law_170 : decode cL_law 170 = .ok (.iconst 0, 1) := by decide +kernel
theorem dL_law_171 : decode cL_law 171 = .ok (.istore 16, 2) := by decide +kernel
theorem dL_law_173 : decode cL_law 173 = .ok (.iload 16, 2) := by decide +kernel
theorem dL_law_175 : decode cL_law 175 = .ok (.iload 15, 2) := by decide +kernel
theorem dL_law_177 : decode cL_law 177 = .ok (.if_icmp .ge 147, 3) := by decide +kernel
theorem dL_law_180 : decode cL_law 180 = .ok (.aload 14, 2) := by decide +kernel
theorem dL_law_182 : decode cL_law 182 = .ok (.iload 16, 2) := by decide +kernel
theorem dL_law_184 : decode cL_law 184 = .ok (.aaload, 1) := by decide +kernel
theorem dL_law_185 : decode cL_law 185 = .ok (.astore 17, 2) := by decide +kernel
theorem dL_law_187 : decode cL_law 187 = .ok (.aload 17, 2) := by decide +kernel
theorem dL_law_189 : decode cL_law 189 = .ok (.iload 8, 2) := by decide +kernel
theorem dL_law_191 : decode cL_law 191 = .ok (.bipush 7, 2) := by decide +kernel
theorem dL_law_193 : decode cL_law 193 = .ok (.invokevirtual 38, 3) := by decide +kernel
theorem dL_law_196 : decode cL_law 196 = .ok (.bipush 30, 2) := by decide +kernel
theorem dL_law_198 : decode cL_law 198 = .ok (.if_icmp .lt 68, 3) := by decide +kernel
theorem dL_law_201 : decode cL_law 201 = .ok (.aload 17, 2) := by decide +kernel
theorem dL_law_203 : decode cL_law 203 = .ok (.iload 8, 2) := by decide +kernel
theorem dL_law_205 : decode cL_law 205 = .ok (.bipush 8, 2) := by decide +kernel
theorem dL_law_207 : decode cL_law 207 = .ok (.invokevirtual 38, 3) := by decide +kernel
theorem dL_law_210 : decode cL_law 210 = .ok (.iconst 5, 1) := by decide +kernel
theorem dL_law_211 : decode cL_law 211 = .ok (.if_icmp .ne 55, 3) := by decide +kernel
theorem dL_law_214 : decode cL_law 214 = .ok (.aload 17, 2) := by decide +kernel
theorem dL_law_216 : decode cL_law 216 = .ok (.aload 17, 2) := by decide +kernel
theorem dL_law_218 : decode cL_law 218 = .ok (.iload 8, 2) := by decide +kernel
theorem dL_law_220 : decode cL_law 220 = .ok (.iconst 0, 1) := by decide +kernel
theorem dL_law_221 : decode cL_law 221 = .ok (.invokevirtual 38, 3) := by decide +kernel
theorem dL_law_224 : decode cL_law 224 = .ok (.bipush 6, 2) := by decide +kernel
theorem dL_law_226 : decode cL_law 226 = .ok (.invokevirtual 42, 3) := by decide +kernel
theorem dL_law_229 : decode cL_law 229 = .ok (.iconst 1, 1) := by decide +kernel
theorem dL_law_230 : decode cL_law 230 = .ok (.if_icmp .ne 36, 3) := by decide +kernel
theorem dL_law_233 : decode cL_law 233 = .ok (.aload 17, 2) := by decide +kernel
theorem dL_law_235 : decode cL_law 235 = .ok (.aload 17, 2) := by decide +kernel
theorem dL_law_237 : decode cL_law 237 = .ok (.iload 8, 2) := by decide +kernel
theorem dL_law_239 : decode cL_law 239 = .ok (.iconst 0, 1) := by decide +kernel
theorem dL_law_240 : decode cL_law 240 = .ok (.invokevirtual 38, 3) := by decide +kernel
theorem dL_law_243 : decode cL_law 243 = .ok (.bipush 10, 2) := by decide +kernel
theorem dL_law_245 : decode cL_law 245 = .ok (.invokevirtual 42, 3) := by decide +kernel
theorem dL_law_248 : decode cL_law 248 = .ok (.ifCond .ge 18, 3) := by decide +kernel
theorem dL_law_251 : decode cL_law 251 = .ok (.aload 17, 2) := by decide +kernel
theorem dL_law_253 : decode cL_law 253 = .ok (.iload 10, 2) := by decide +kernel
theorem dL_law_255 : decode cL_law 255 = .ok (.iconst 2, 1) := by decide +kernel
theorem dL_law_256 : decode cL_law 256 = .ok (.invokevirtual 45, 3) := by decide +kernel
theorem dL_law_259 : decode cL_law 259 = .ok (.ifCond .le 7, 3) := by decide +kernel
theorem dL_law_262 : decode cL_law 262 = .ok (.iconst 1, 1) := by decide +kernel
theorem dL_law_263 : decode cL_law 263 = .ok (.goto 4, 3) := by decide +kernel
theorem dL_law_266 : decode cL_law 266 = .ok (.iconst 0, 1) := by decide +kernel
theorem dL_law_267 : decode cL_law 267 = .ok (.istore 18, 2) := by decide +kernel
theorem dL_law_269 : decode cL_law 269 = .ok (.iload 18, 2) := by decide +kernel
theorem dL_law_271 : decode cL_law 271 = .ok (.ifCond .eq 13, 3) := by decide +kernel
theorem dL_law_274 : decode cL_law 274 = .ok (.aload 17, 2) := by decide +kernel
theorem dL_law_276 : decode cL_law 276 = .ok (.iload 8, 2) := by decide +kernel
theorem dL_law_278 : decode cL_law 278 = .ok (.iload 10, 2) := by decide +kernel
theorem dL_law_280 : decode cL_law 280 = .ok (.invokevirtual 48, 3) := by decide +kernel
theorem dL_law_283 : decode cL_law 283 = .ok (.pop, 1) := by decide +kernel
theorem dL_law_284 : decode cL_law 284 = .ok (.aload 17, 2) := by decide +kernel
theorem dL_law_286 : decode cL_law 286 = .ok (.iconst 4, 1) := by decide +kernel
theorem dL_law_287 : decode cL_law 287 = .ok (.iconst 2, 1) := by decide +kernel
theorem dL_law_288 : decode cL_law 288 = .ok (.invokevirtual 38, 3) := by decide +kernel
theorem dL_law_291 : decode cL_law 291 = .ok (.bipush 6, 2) := by decide +kernel
theorem dL_law_293 : decode cL_law 293 = .ok (.if_icmp .ge 25, 3) := by decide +kernel
theorem dL_law_296 : decode cL_law 296 = .ok (.aload 17, 2) := by decide +kernel
theorem dL_law_298 : decode cL_law 298 = .ok (.iconst 4, 1) := by decide +kernel
theorem dL_law_299 : decode cL_law 299 = .ok (.bipush 8, 2) := by decide +kernel
theorem dL_law_301 : decode cL_law 301 = .ok (.invokevirtual 38, 3) := by decide +kernel
theorem dL_law_304 : decode cL_law 304 = .ok (.bipush 7, 2) := by decide +kernel
theorem dL_law_306 : decode cL_law 306 = .ok (.if_icmp .eq 12, 3) := by decide +kernel
theorem dL_law_309 : decode cL_law 309 = .ok (.aload 17, 2) := by decide +kernel
theorem dL_law_311 : decode cL_law 311 = .ok (.iconst 4, 1) := by decide +kernel
theorem dL_law_312 : decode cL_law 312 = .ok (.iload 11, 2) := by decide +kernel
theorem dL_law_314 : decode cL_law 314 = .ok (.invokevirtual 51, 3) := by decide +kernel
theorem dL_law_317 : decode cL_law 317 = .ok (.pop, 1) := by decide +kernel
theorem dL_law_318 : decode cL_law 318 = .ok (.iinc 16 1, 3) := by decide +kernel
theorem dL_law_321 : decode cL_law 321 = .ok (.goto (-148), 3) := by decide +kernel
theorem dL_law_324 : decode cL_law 324 = .ok (.aload 4, 2) := by decide +kernel
theorem dL_law_326 : decode cL_law 326 = .ok (.iload 8, 2) := by decide +kernel
theorem dL_law_328 : decode cL_law 328 = .ok (.bipush 8, 2) := by decide +kernel
theorem dL_law_330 : decode cL_law 330 = .ok (.invokevirtual 38, 3) := by decide +kernel
theorem dL_law_333 : decode cL_law 333 = .ok (.bipush 7, 2) := by decide +kernel
theorem dL_law_335 : decode cL_law 335 = .ok (.if_icmp .ne 7, 3) := by decide +kernel
theorem dL_law_338 : decode cL_law 338 = .ok (.iconst 1, 1) := by decide +kernel
theorem dL_law_339 : decode cL_law 339 = .ok (.goto 4, 3) := by decide +kernel
theorem dL_law_342 : decode cL_law 342 = .ok (.iconst 0, 1) := by decide +kernel
theorem dL_law_343 : decode cL_law 343 = .ok (.istore 14, 2) := by decide +kernel
theorem dL_law_345 : decode cL_law 345 = .ok (.aload 4, 2) := by decide +kernel
theorem dL_law_347 : decode cL_law 347 = .ok (.iload 8, 2) := by decide +kernel
theorem dL_law_349 : decode cL_law 349 = .ok (.iload 6, 2) := by decide +kernel
theorem dL_law_351 : decode cL_law 351 = .ok (.iload 7, 2) := by decide +kernel
theorem dL_law_353 : decode cL_law 353 = .ok (.invokevirtual 54, 3) := by decide +kernel
theorem dL_law_356 : decode cL_law 356 = .ok (.istore 15, 2) := by decide +kernel
theorem dL_law_358 : decode cL_law 358 = .ok (.aload 4, 2) := by decide +kernel
theorem dL_law_360 : decode cL_law 360 = .ok (.iconst 4, 1) := by decide +kernel
theorem dL_law_361 : decode cL_law 361 = .ok (.invokevirtual 58, 3) := by decide +kernel
theorem dL_law_364 : decode cL_law 364 = .ok (.istore 16, 2) := by decide +kernel
theorem dL_law_366 : decode cL_law 366 = .ok (.aload 4, 2) := by decide +kernel
theorem dL_law_368 : decode cL_law 368 = .ok (.invokevirtual 61, 3) := by decide +kernel
theorem dL_law_371 : decode cL_law 371 = .ok (.istore 17, 2) := by decide +kernel
theorem dL_law_373 : decode cL_law 373 = .ok (.iload 15, 2) := by decide +kernel
theorem dL_law_375 : decode cL_law 375 = .ok (.ifCond .le 8, 3) := by decide +kernel
theorem dL_law_378 : decode cL_law 378 = .ok (.iload 15, 2) := by decide +kernel
theorem dL_law_380 : decode cL_law 380 = .ok (.goto 11, 3) := by decide +kernel
theorem dL_law_383 : decode cL_law 383 = .ok (.iconst 1, 1) := by decide +kernel
theorem dL_law_384 : decode cL_law 384 = .ok (.aload_n 2, 1) := by decide +kernel
theorem dL_law_385 : decode cL_law 385 = .ok (.bipush 9, 2) := by decide +kernel
theorem dL_law_387 : decode cL_law 387 = .ok (.invokevirtual 28, 3) := by decide +kernel
theorem dL_law_390 : decode cL_law 390 = .ok (.iadd, 1) := by decide +kernel
theorem dL_law_391 : decode cL_law 391 = .ok (.istore 18, 2) := by decide +kernel
theorem dL_law_393 : decode cL_law 393 = .ok (.iload 18, 2) := by decide +kernel
theorem dL_law_395 : decode cL_law 395 = .ok (.bipush 40, 2) := by decide +kernel
theorem dL_law_397 : decode cL_law 397 = .ok (.if_icmp .le 7, 3) := by decide +kernel
theorem dL_law_400 : decode cL_law 400 = .ok (.bipush 40, 2) := by decide +kernel
theorem dL_law_402 : decode cL_law 402 = .ok (.istore 18, 2) := by decide +kernel
theorem dL_law_404 : decode cL_law 404 = .ok (.aload 4, 2) := by decide +kernel
theorem dL_law_406 : decode cL_law 406 = .ok (.iconst 0, 1) := by decide +kernel
theorem dL_law_407 : decode cL_law 407 = .ok (.invokevirtual 65, 3) := by decide +kernel
theorem dL_law_410 : decode cL_law 410 = .ok (.iload 18, 2) := by decide +kernel
theorem dL_law_412 : decode cL_law 412 = .ok (.iadd, 1) := by decide +kernel
theorem dL_law_413 : decode cL_law 413 = .ok (.bipush 30, 2) := by decide +kernel
theorem dL_law_415 : decode cL_law 415 = .ok (.idiv, 1) := by decide +kernel
theorem dL_law_416 : decode cL_law 416 = .ok (.aload 4, 2) := by decide +kernel
theorem dL_law_418 : decode cL_law 418 = .ok (.iconst 0, 1) := by decide +kernel
theorem dL_law_419 : decode cL_law 419 = .ok (.invokevirtual 65, 3) := by decide +kernel
theorem dL_law_422 : decode cL_law 422 = .ok (.bipush 30, 2) := by decide +kernel
theorem dL_law_424 : decode cL_law 424 = .ok (.idiv, 1) := by decide +kernel
theorem dL_law_425 : decode cL_law 425 = .ok (.isub, 1) := by decide +kernel
theorem dL_law_426 : decode cL_law 426 = .ok (.istore 19, 2) := by decide +kernel
theorem dL_law_428 : decode cL_law 428 = .ok (.aload 4, 2) := by decide +kernel
theorem dL_law_430 : decode cL_law 430 = .ok (.iload 9, 2) := by decide +kernel
theorem dL_law_432 : decode cL_law 432 = .ok (.iconst 1, 1) := by decide +kernel
theorem dL_law_433 : decode cL_law 433 = .ok (.iload 19, 2) := by decide +kernel
theorem dL_law_435 : decode cL_law 435 = .ok (.invokevirtual 68, 3) := by decide +kernel
theorem dL_law_438 : decode cL_law 438 = .ok (.istore 20, 2) := by decide +kernel
theorem dL_law_440 : decode cL_law 440 = .ok (.iload 17, 2) := by decide +kernel
theorem dL_law_442 : decode cL_law 442 = .ok (.ifCond .lt 28, 3) := by decide +kernel
theorem dL_law_445 : decode cL_law 445 = .ok (.aload 4, 2) := by decide +kernel
theorem dL_law_447 : decode cL_law 447 = .ok (.iload 17, 2) := by decide +kernel
theorem dL_law_449 : decode cL_law 449 = .ok (.bipush 6, 2) := by decide +kernel
theorem dL_law_451 : decode cL_law 451 = .ok (.invokevirtual 42, 3) := by decide +kernel
theorem dL_law_454 : decode cL_law 454 = .ok (.iconst 1, 1) := by decide +kernel
theorem dL_law_455 : decode cL_law 455 = .ok (.if_icmp .ne 13, 3) := by decide +kernel
theorem dL_law_458 : decode cL_law 458 = .ok (.aload 4, 2) := by decide +kernel
theorem dL_law_460 : decode cL_law 460 = .ok (.iload 17, 2) := by decide +kernel
theorem dL_law_462 : decode cL_law 462 = .ok (.invokestatic 71, 3) := by decide +kernel
theorem dL_law_465 : decode cL_law 465 = .ok (.ifCond .eq 5, 3) := by decide +kernel
theorem dL_law_468 : decode cL_law 468 = .ok (.iconst 0, 1) := by decide +kernel
theorem dL_law_469 : decode cL_law 469 = .ok (.ireturn, 1) := by decide +kernel
theorem dL_law_470 : decode cL_law 470 = .ok (.aload 4, 2) := by decide +kernel
theorem dL_law_472 : decode cL_law 472 = .ok (.invokevirtual 32, 3) := by decide +kernel
theorem dL_law_475 : decode cL_law 475 = .ok (.aload_n 3, 1) := by decide +kernel
theorem dL_law_476 : decode cL_law 476 = .ok (.getfield 14, 3) := by decide +kernel
theorem dL_law_479 : decode cL_law 479 = .ok (.invokevirtual 32, 3) := by decide +kernel
theorem dL_law_482 : decode cL_law 482 = .ok (.lcmp, 1) := by decide +kernel
theorem dL_law_483 : decode cL_law 483 = .ok (.ifCond .eq 5, 3) := by decide +kernel
theorem dL_law_486 : decode cL_law 486 = .ok (.iconst 0, 1) := by decide +kernel
theorem dL_law_487 : decode cL_law 487 = .ok (.ireturn, 1) := by decide +kernel
theorem dL_law_488 : decode cL_law 488 = .ok (.aload 4, 2) := by decide +kernel
theorem dL_law_490 : decode cL_law 490 = .ok (.iload 18, 2) := by decide +kernel
theorem dL_law_492 : decode cL_law 492 = .ok (.iload 6, 2) := by decide +kernel
theorem dL_law_494 : decode cL_law 494 = .ok (.iload 7, 2) := by decide +kernel
theorem dL_law_496 : decode cL_law 496 = .ok (.invokevirtual 75, 3) := by decide +kernel
theorem dL_law_499 : decode cL_law 499 = .ok (.pop, 1) := by decide +kernel
theorem dL_law_500 : decode cL_law 500 = .ok (.iconst 1, 1) := by decide +kernel
theorem dL_law_501 : decode cL_law 501 = .ok (.istore 21, 2) := by decide +kernel
theorem dL_law_503 : decode cL_law 503 = .ok (.iload 21, 2) := by decide +kernel
theorem dL_law_505 : decode cL_law 505 = .ok (.iload 18, 2) := by decide +kernel
theorem dL_law_507 : decode cL_law 507 = .ok (.if_icmp .gt 135, 3) := by decide +kernel
theorem dL_law_510 : decode cL_law 510 = .ok (.aload_n 3, 1) := by decide +kernel
theorem dL_law_511 : decode cL_law 511 = .ok (.getfield 14, 3) := by decide +kernel
theorem dL_law_514 : decode cL_law 514 = .ok (.iconst 1, 1) := by decide +kernel
theorem dL_law_515 : decode cL_law 515 = .ok (.iload 6, 2) := by decide +kernel
theorem dL_law_517 : decode cL_law 517 = .ok (.iload 7, 2) := by decide +kernel
theorem dL_law_519 : decode cL_law 519 = .ok (.invokevirtual 75, 3) := by decide +kernel
theorem dL_law_522 : decode cL_law 522 = .ok (.pop, 1) := by decide +kernel
theorem dL_law_523 : decode cL_law 523 = .ok (.iload 15, 2) := by decide +kernel
theorem dL_law_525 : decode cL_law 525 = .ok (.ifCond .le 39, 3) := by decide +kernel
theorem dL_law_528 : decode cL_law 528 = .ok (.aload_n 3, 1) := by decide +kernel
theorem dL_law_529 : decode cL_law 529 = .ok (.getfield 14, 3) := by decide +kernel
theorem dL_law_532 : decode cL_law 532 = .ok (.iload 8, 2) := by decide +kernel
theorem dL_law_534 : decode cL_law 534 = .ok (.bipush 8, 2) := by decide +kernel
theorem dL_law_536 : decode cL_law 536 = .ok (.invokevirtual 38, 3) := by decide +kernel
theorem dL_law_539 : decode cL_law 539 = .ok (.bipush 7, 2) := by decide +kernel
theorem dL_law_541 : decode cL_law 541 = .ok (.if_icmp .ne 7, 3) := by decide +kernel
theorem dL_law_544 : decode cL_law 544 = .ok (.iconst 1, 1) := by decide +kernel
theorem dL_law_545 : decode cL_law 545 = .ok (.goto 4, 3) := by decide +kernel
theorem dL_law_548 : decode cL_law 548 = .ok (.iconst 0, 1) := by decide +kernel
theorem dL_law_549 : decode cL_law 549 = .ok (.iload 21, 2) := by decide +kernel
theorem dL_law_551 : decode cL_law 551 = .ok (.iload 15, 2) := by decide +kernel
theorem dL_law_553 : decode cL_law 553 = .ok (.if_icmp .lt 7, 3) := by decide +kernel
theorem dL_law_556 : decode cL_law 556 = .ok (.iconst 1, 1) := by decide +kernel
theorem dL_law_557 : decode cL_law 557 = .ok (.goto 4, 3) := by decide +kernel
theorem dL_law_560 : decode cL_law 560 = .ok (.iconst 0, 1) := by decide +kernel
theorem dL_law_561 : decode cL_law 561 = .ok (.if_icmp .ne 73, 3) := by decide +kernel
theorem dL_law_564 : decode cL_law 564 = .ok (.iload 15, 2) := by decide +kernel
theorem dL_law_566 : decode cL_law 566 = .ok (.ifCond .ge 29, 3) := by decide +kernel
theorem dL_law_569 : decode cL_law 569 = .ok (.aload_n 3, 1) := by decide +kernel
theorem dL_law_570 : decode cL_law 570 = .ok (.getfield 14, 3) := by decide +kernel
theorem dL_law_573 : decode cL_law 573 = .ok (.iload 8, 2) := by decide +kernel
theorem dL_law_575 : decode cL_law 575 = .ok (.bipush 8, 2) := by decide +kernel
theorem dL_law_577 : decode cL_law 577 = .ok (.invokevirtual 38, 3) := by decide +kernel
theorem dL_law_580 : decode cL_law 580 = .ok (.bipush 7, 2) := by decide +kernel
theorem dL_law_582 : decode cL_law 582 = .ok (.if_icmp .ne 7, 3) := by decide +kernel
theorem dL_law_585 : decode cL_law 585 = .ok (.iconst 1, 1) := by decide +kernel
theorem dL_law_586 : decode cL_law 586 = .ok (.goto 4, 3) := by decide +kernel
theorem dL_law_589 : decode cL_law 589 = .ok (.iconst 0, 1) := by decide +kernel
theorem dL_law_590 : decode cL_law 590 = .ok (.iload 14, 2) := by decide +kernel
theorem dL_law_592 : decode cL_law 592 = .ok (.if_icmp .ne 42, 3) := by decide +kernel
theorem dL_law_595 : decode cL_law 595 = .ok (.iload 16, 2) := by decide +kernel
theorem dL_law_597 : decode cL_law 597 = .ok (.ifCond .le 39, 3) := by decide +kernel
theorem dL_law_600 : decode cL_law 600 = .ok (.aload_n 3, 1) := by decide +kernel
theorem dL_law_601 : decode cL_law 601 = .ok (.getfield 14, 3) := by decide +kernel
theorem dL_law_604 : decode cL_law 604 = .ok (.iconst 4, 1) := by decide +kernel
theorem dL_law_605 : decode cL_law 605 = .ok (.iconst 2, 1) := by decide +kernel
theorem dL_law_606 : decode cL_law 606 = .ok (.invokevirtual 38, 3) := by decide +kernel
theorem dL_law_609 : decode cL_law 609 = .ok (.bipush 6, 2) := by decide +kernel
theorem dL_law_611 : decode cL_law 611 = .ok (.if_icmp .ne 7, 3) := by decide +kernel
theorem dL_law_614 : decode cL_law 614 = .ok (.iconst 1, 1) := by decide +kernel
theorem dL_law_615 : decode cL_law 615 = .ok (.goto 4, 3) := by decide +kernel
theorem dL_law_618 : decode cL_law 618 = .ok (.iconst 0, 1) := by decide +kernel
theorem dL_law_619 : decode cL_law 619 = .ok (.iload 21, 2) := by decide +kernel
theorem dL_law_621 : decode cL_law 621 = .ok (.iload 16, 2) := by decide +kernel
theorem dL_law_623 : decode cL_law 623 = .ok (.if_icmp .lt 7, 3) := by decide +kernel
theorem dL_law_626 : decode cL_law 626 = .ok (.iconst 1, 1) := by decide +kernel
theorem dL_law_627 : decode cL_law 627 = .ok (.goto 4, 3) := by decide +kernel
theorem dL_law_630 : decode cL_law 630 = .ok (.iconst 0, 1) := by decide +kernel
theorem dL_law_631 : decode cL_law 631 = .ok (.if_icmp .eq 5, 3) := by decide +kernel
theorem dL_law_634 : decode cL_law 634 = .ok (.iconst 0, 1) := by decide +kernel
theorem dL_law_635 : decode cL_law 635 = .ok (.ireturn, 1) := by decide +kernel
theorem dL_law_636 : decode cL_law 636 = .ok (.iinc 21 1, 3) := by decide +kernel
theorem dL_law_639 : decode cL_law 639 = .ok (.goto (-136), 3) := by decide +kernel
theorem dL_law_642 : decode cL_law 642 = .ok (.aload 4, 2) := by decide +kernel
theorem dL_law_644 : decode cL_law 644 = .ok (.invokevirtual 32, 3) := by decide +kernel
theorem dL_law_647 : decode cL_law 647 = .ok (.aload_n 3, 1) := by decide +kernel
theorem dL_law_648 : decode cL_law 648 = .ok (.getfield 14, 3) := by decide +kernel
theorem dL_law_651 : decode cL_law 651 = .ok (.invokevirtual 32, 3) := by decide +kernel
theorem dL_law_654 : decode cL_law 654 = .ok (.lcmp, 1) := by decide +kernel
theorem dL_law_655 : decode cL_law 655 = .ok (.ifCond .ne 16, 3) := by decide +kernel
theorem dL_law_658 : decode cL_law 658 = .ok (.aload 4, 2) := by decide +kernel
theorem dL_law_660 : decode cL_law 660 = .ok (.iload 9, 2) := by decide +kernel
theorem dL_law_662 : decode cL_law 662 = .ok (.iconst 1, 1) := by decide +kernel
theorem dL_law_663 : decode cL_law 663 = .ok (.invokevirtual 42, 3) := by decide +kernel
theorem dL_law_666 : decode cL_law 666 = .ok (.iload 20, 2) := by decide +kernel
theorem dL_law_668 : decode cL_law 668 = .ok (.if_icmp .eq 5, 3) := by decide +kernel
theorem dL_law_671 : decode cL_law 671 = .ok (.iconst 0, 1) := by decide +kernel
theorem dL_law_672 : decode cL_law 672 = .ok (.ireturn, 1) := by decide +kernel
theorem dL_law_673 : decode cL_law 673 = .ok (.iinc 5 1, 3) := by decide +kernel
theorem dL_law_676 : decode cL_law 676 = .ok (.goto (-604), 3) := by decide +kernel
theorem dL_law_679 : decode cL_law 679 = .ok (.iinc 1 1, 3) := by decide +kernel
theorem dL_law_682 : decode cL_law 682 = .ok (.goto (-680), 3) := by decide +kernel
theorem dL_law_685 : decode cL_law 685 = .ok (.iconst 1, 1) := by decide +kernel
theorem dL_law_686 : decode cL_law 686 = .ok (.ireturn, 1) := by decide +kernel
set_option maxRecDepth 20000 in
theorem ggL_isFounded_X5_trend : GoodIn wsL_isFounded wsX5_trend := goodIn_ca (goodIn_ca (goodIn_r _ [154, 23, 25, 29, 6, 7, 8, 4, 9, 10, 11, 12, 13, 14, 15, 16, 17, 18, 155, 156, 157, 41, 158, 43, 159, 81, 63, 64, 58, 65, 60, 66, 67, 68, 69, 70, 118, 45, 46, 47, 48, 49, 340, 341, 342, 343, 344, 345, 346, 347, 348, 349, 350, 351, 352, 353, 354, 355, 356, 368, 369, 370, 371, 372, 373, 374, 375, 357, 358, 359, 360, 361, 362, 363, 364, 365, 366, 367] (by decide +kernel) (by decide +kernel)) (goodIn_sub (fun _ h => List.mem_cons_of_mem _ (List.mem_append_right _ h)) (by decide +kernel))) (goodIn_sub (fun _ h => List.mem_cons_of_mem _ (List.mem_append_left _ (List.mem_append_left _ (List.mem_append_right _ h)))) (by decide +kernel))
set_option maxRecDepth 20000 in
theorem gL_isFounded_X5_trend : GoodIn wsL_isFounded (wsV RL 82 RX5 yX5_trend wsX5_trend) := goodIn_app (goodIn_of _ (by decide +kernel)) ggL_isFounded_X5_trend
set_option maxRecDepth 20000 in
theorem ggL_isFounded_X5_draw : GoodIn wsL_isFounded wsX5_draw := goodIn_r _ [9, 10, 11, 12, 13, 14, 15, 16, 17, 18, 340, 341, 342, 343, 344, 345, 346, 347, 348, 349, 350, 351, 352, 353, 354] (by decide +kernel) (by decide +kernel)
set_option maxRecDepth 20000 in
theorem gL_isFounded_X5_draw : GoodIn wsL_isFounded (wsV RL 28 RX5 yX5_draw wsX5_draw) := goodIn_app (goodIn_of _ (by decide +kernel)) ggL_isFounded_X5_draw
set_option maxRecDepth 20000 in
theorem ggL_isFounded_X5_figure : GoodIn wsL_isFounded wsX5_figure := goodIn_ca (goodIn_ca (goodIn_r _ [167, 75, 24, 29, 30, 31, 4, 32, 33, 34, 35, 36, 37, 168, 169, 170, 41, 171, 43, 172, 81, 63, 64, 58, 65, 60, 66, 67, 68, 69, 70, 50, 51, 52, 53, 54, 173, 174, 175, 176, 86, 88, 177, 178, 179, 180, 181, 87, 340, 341, 342, 343, 344, 345, 346, 347, 348, 349, 350, 351, 352, 353, 354, 355, 356, 357, 358, 359, 360, 361, 362, 363, 364, 365, 366, 367, 376, 377, 378, 379, 380, 381, 382, 383, 384, 385, 386] (by decide +kernel) (by decide +kernel)) (goodIn_sub (fun _ h => List.mem_cons_of_mem _ (List.mem_append_right _ h)) (by decide +kernel))) (goodIn_sub (fun _ h => List.mem_cons_of_mem _ (List.mem_append_left _ (List.mem_append_right _ h))) (by decide +kernel))
set_option maxRecDepth 20000 in
theorem gL_isFounded_X5_figure : GoodIn wsL_isFounded (wsV RL 89 RX5 yX5_figure wsX5_figure) := goodIn_app (goodIn_of _ (by decide +kernel)) ggL_isFounded_X5_figure
theorem dL_isFounded_0 : decode cL_isFounded 0 = .ok (.aload_n 0, 1) := by decide +kernel
theorem dL_isFounded_1 : decode cL_isFounded 1 = .ok (.iconst 4, 1) := by decide +kernel
theorem dL_isFounded_2 : decode cL_isFounded 2 = .ok (.invokevirtual 78, 3) := by decide +kernel
theorem dL_isFounded_5 : decode cL_isFounded 5 = .ok (.ifCond .ne 5, 3) := by decide +kernel
theorem dL_isFounded_8 : decode cL_isFounded 8 = .ok (.iconst 0, 1) := by decide +kernel
theorem dL_isFounded_9 : decode cL_isFounded 9 = .ok (.ireturn, 1) := by decide +kernel
theorem dL_isFounded_10 : decode cL_isFounded 10 = .ok (.iconst 0, 1) := by decide +kernel
theorem dL_isFounded_11 : decode cL_isFounded 11 = .ok (.istore_n 1, 1) := by decide +kernel
theorem dL_isFounded_12 : decode cL_isFounded 12 = .ok (.iload_n 1, 1) := by decide +kernel
theorem dL_isFounded_13 : decode cL_isFounded 13 = .ok (.iconst 5, 1) := by decide +kernel
theorem dL_isFounded_14 : decode cL_isFounded 14 = .ok (.if_icmp .ge 18, 3) := by decide +kernel
theorem dL_isFounded_17 : decode cL_isFounded 17 = .ok (.aload_n 0, 1) := by decide +kernel
theorem dL_isFounded_18 : decode cL_isFounded 18 = .ok (.invokevirtual 82, 3) := by decide +kernel
theorem dL_isFounded_21 : decode cL_isFounded 21 = .ok (.ifCond .ne 5, 3) := by decide +kernel
theorem dL_isFounded_24 : decode cL_isFounded 24 = .ok (.iconst 0, 1) := by decide +kernel
theorem dL_isFounded_25 : decode cL_isFounded 25 = .ok (.ireturn, 1) := by decide +kernel
theorem dL_isFounded_26 : decode cL_isFounded 26 = .ok (.iinc 1 1, 3) := by decide +kernel
theorem dL_isFounded_29 : decode cL_isFounded 29 = .ok (.goto (-17), 3) := by decide +kernel
theorem dL_isFounded_32 : decode cL_isFounded 32 = .ok (.aload_n 0, 1) := by decide +kernel
theorem dL_isFounded_33 : decode cL_isFounded 33 = .ok (.iconst 4, 1) := by decide +kernel
theorem dL_isFounded_34 : decode cL_isFounded 34 = .ok (.invokevirtual 86, 3) := by decide +kernel
theorem dL_isFounded_37 : decode cL_isFounded 37 = .ok (.ifCond .eq 19, 3) := by decide +kernel
theorem dL_isFounded_40 : decode cL_isFounded 40 = .ok (.aload_n 0, 1) := by decide +kernel
theorem dL_isFounded_41 : decode cL_isFounded 41 = .ok (.aload_n 0, 1) := by decide +kernel
theorem dL_isFounded_42 : decode cL_isFounded 42 = .ok (.iconst 4, 1) := by decide +kernel
theorem dL_isFounded_43 : decode cL_isFounded 43 = .ok (.invokevirtual 28, 3) := by decide +kernel
theorem dL_isFounded_46 : decode cL_isFounded 46 = .ok (.invokevirtual 89, 3) := by decide +kernel
theorem dL_isFounded_49 : decode cL_isFounded 49 = .ok (.ifCond .eq 7, 3) := by decide +kernel
theorem dL_isFounded_52 : decode cL_isFounded 52 = .ok (.iconst 1, 1) := by decide +kernel
theorem dL_isFounded_53 : decode cL_isFounded 53 = .ok (.goto 4, 3) := by decide +kernel
theorem dL_isFounded_56 : decode cL_isFounded 56 = .ok (.iconst 0, 1) := by decide +kernel
theorem dL_isFounded_57 : decode cL_isFounded 57 = .ok (.ireturn, 1) := by decide +kernel
set_option maxRecDepth 20000 in
theorem ggL_isBehind_X4_many : GoodIn wsL_isBehind wsX4_many := goodIn_ca (goodIn_r _ [5, 6, 7, 8, 9, 10, 11, 12, 13, 14, 15, 16, 4, 17, 18, 19, 20, 21, 22, 23, 24, 25, 26, 27, 28, 29, 30, 31, 32, 33, 34, 35, 36, 37, 38, 39, 40, 41, 42, 43, 44, 45, 46, 47, 48, 49, 50, 51, 52, 53, 54, 55, 56, 57, 58, 59, 60, 61, 62, 63, 64, 65, 66, 67, 68, 69, 70, 71, 72, 73, 74, 75, 76, 77, 78, 79, 149, 150, 151, 152, 153, 154, 155, 156, 157, 158, 159, 160, 161, 162, 163, 164, 165, 166, 167, 168, 169, 170, 171, 172, 173, 174, 175, 176, 177, 178, 179, 180] (by decide +kernel) (by decide +kernel)) (goodIn_sub (fun _ h => List.mem_cons_of_mem _ (List.mem_append_left _ (List.mem_append_right _ h))) (by decide +kernel))
set_option maxRecDepth 20000 in
theorem gL_isBehind_X4_many : GoodIn wsL_isBehind (wsV RL 65 RX4 yX4_many wsX4_many) := goodIn_app (goodIn_of _ (by decide +kernel)) ggL_isBehind_X4_many
set_option maxRecDepth 20000 in
theorem ggL_isBehind_X4_ofPerson : GoodIn wsL_isBehind wsX4_ofPerson := goodIn_ca (goodIn_ca (goodIn_r _ [83, 6, 84, 85, 86, 87, 88, 89, 90, 91, 23, 92, 43, 44, 93, 4, 94, 95, 96, 15, 16, 17, 18, 19, 97, 98, 99, 76, 100, 79, 78, 101, 102, 103, 104, 25, 26, 105, 106, 62, 63, 30, 64, 33, 149, 150, 173, 174, 175, 176, 177, 178, 179, 180, 151, 152, 153, 154, 155, 156, 157, 158, 159, 160, 161, 162, 163, 164, 165, 166, 167, 168, 169, 170, 171, 172] (by decide +kernel) (by decide +kernel)) (goodIn_sub (fun _ h => List.mem_cons_of_mem _ (List.mem_append_right _ h)) (by decide +kernel))) (goodIn_sub (fun _ h => List.mem_cons_of_mem _ (List.mem_append_left _ (List.mem_append_right _ h))) (by decide +kernel))
set_option maxRecDepth 20000 in
theorem gL_isBehind_X4_ofPerson : GoodIn wsL_isBehind (wsV RL 42 RX4 yX4_ofPerson wsX4_ofPerson) := goodIn_app (goodIn_of _ (by decide +kernel)) ggL_isBehind_X4_ofPerson
set_option maxRecDepth 20000 in
theorem ggL_isBehind_X4_ofFigure : GoodIn wsL_isBehind wsX4_ofFigure := goodIn_ca (goodIn_ca (goodIn_r _ [110, 6, 111, 112, 113, 114, 115, 116, 117, 118, 119, 120, 121, 122, 123, 23, 124, 25, 26, 93, 4, 94, 95, 96, 15, 16, 17, 18, 19, 125, 126, 127, 30, 128, 32, 129, 130, 66, 67, 68, 69, 70, 59, 71, 72, 28, 29, 31, 33, 73, 74, 75, 76, 77, 78, 79, 131, 56, 57, 58, 60, 61, 62, 63, 64, 65, 149, 150, 162, 163, 164, 165, 166, 167, 168, 169, 170, 171, 172, 173, 174, 175, 176, 177, 178, 179, 180, 151, 152, 153, 154, 155, 156, 157, 158, 159, 160, 161] (by decide +kernel) (by decide +kernel)) (goodIn_sub (fun _ h => List.mem_cons_of_mem _ (List.mem_append_right _ h)) (by decide +kernel))) (goodIn_sub (fun _ h => List.mem_cons_of_mem _ (List.mem_append_left _ (List.mem_append_right _ h))) (by decide +kernel))
set_option maxRecDepth 20000 in
theorem gL_isBehind_X4_ofFigure : GoodIn wsL_isBehind (wsV RL 38 RX4 yX4_ofFigure wsX4_ofFigure) := goodIn_app (goodIn_of _ (by decide +kernel)) ggL_isBehind_X4_ofFigure
set_option maxRecDepth 20000 in
theorem ggL_isBehind_X4_wouldFame : GoodIn wsL_isBehind wsX4_wouldFame := goodIn_ca (goodIn_ca (goodIn_r _ [135, 6, 89, 90, 91, 23, 92, 43, 44, 93, 4, 94, 95, 96, 136, 15, 16, 17, 18, 19, 137, 138, 139, 76, 140, 141, 142, 143, 144, 145, 146, 147, 148, 149, 150, 151, 152, 153, 154, 155, 156, 157, 158, 159, 160, 161, 173, 174, 175, 176, 177, 178, 179, 180] (by decide +kernel) (by decide +kernel)) (goodIn_sub (fun _ h => List.mem_cons_of_mem _ (List.mem_append_right _ h)) (by decide +kernel))) (goodIn_sub (fun _ h => List.mem_cons_of_mem _ (List.mem_append_left _ (List.mem_append_right _ h))) (by decide +kernel))
set_option maxRecDepth 20000 in
theorem gL_isBehind_X4_wouldFame : GoodIn wsL_isBehind (wsV RL 68 RX4 yX4_wouldFame wsX4_wouldFame) := goodIn_app (goodIn_of _ (by decide +kernel)) ggL_isBehind_X4_wouldFame
theorem dL_isBehind_0 : decode cL_isBehind 0 = .ok (.iconst 0, 1) := by decide +kernel
theorem dL_isBehind_1 : decode cL_isBehind 1 = .ok (.istore_n 2, 1) := by decide +kernel
theorem dL_isBehind_2 : decode cL_isBehind 2 = .ok (.iload_n 2, 1) := by decide +kernel
theorem dL_isBehind_3 : decode cL_isBehind 3 = .ok (.aload_n 0, 1) := by decide +kernel
theorem dL_isBehind_4 : decode cL_isBehind 4 = .ok (.iconst 1, 1) := by decide +kernel
theorem dL_isBehind_5 : decode cL_isBehind 5 = .ok (.invokevirtual 65, 3) := by decide +kernel
theorem dL_isBehind_8 : decode cL_isBehind 8 = .ok (.if_icmp .ge 151, 3) := by decide +kernel
theorem dL_isBehind_11 : decode cL_isBehind 11 = .ok (.aload_n 0, 1) := by decide +kernel
theorem dL_isBehind_12 : decode cL_isBehind 12 = .ok (.iload_n 2, 1) := by decide +kernel
theorem dL_isBehind_13 : decode cL_isBehind 13 = .ok (.bipush 6, 2) := by decide +kernel
theorem dL_isBehind_15 : decode cL_isBehind 15 = .ok (.invokevirtual 42, 3) := by decide +kernel
theorem dL_isBehind_18 : decode cL_isBehind 18 = .ok (.iconst 1, 1) := by decide +kernel
theorem dL_isBehind_19 : decode cL_isBehind 19 = .ok (.if_icmp .ne 7, 3) := by decide +kernel
theorem dL_isBehind_22 : decode cL_isBehind 22 = .ok (.iconst 1, 1) := by decide +kernel
theorem dL_isBehind_23 : decode cL_isBehind 23 = .ok (.goto 4, 3) := by decide +kernel
theorem dL_isBehind_26 : decode cL_isBehind 26 = .ok (.iconst 0, 1) := by decide +kernel
theorem dL_isBehind_27 : decode cL_isBehind 27 = .ok (.istore_n 3, 1) := by decide +kernel
theorem dL_isBehind_28 : decode cL_isBehind 28 = .ok (.iconst 0, 1) := by decide +kernel
theorem dL_isBehind_29 : decode cL_isBehind 29 = .ok (.istore 4, 2) := by decide +kernel
theorem dL_isBehind_31 : decode cL_isBehind 31 = .ok (.iload 4, 2) := by decide +kernel
theorem dL_isBehind_33 : decode cL_isBehind 33 = .ok (.aload_n 0, 1) := by decide +kernel
theorem dL_isBehind_34 : decode cL_isBehind 34 = .ok (.iconst 2, 1) := by decide +kernel
theorem dL_isBehind_35 : decode cL_isBehind 35 = .ok (.invokevirtual 65, 3) := by decide +kernel
theorem dL_isBehind_38 : decode cL_isBehind 38 = .ok (.if_icmp .ge 41, 3) := by decide +kernel
theorem dL_isBehind_41 : decode cL_isBehind 41 = .ok (.iload_n 3, 1) := by decide +kernel
theorem dL_isBehind_42 : decode cL_isBehind 42 = .ok (.aload_n 0, 1) := by decide +kernel
theorem dL_isBehind_43 : decode cL_isBehind 43 = .ok (.iload 4, 2) := by decide +kernel
theorem dL_isBehind_45 : decode cL_isBehind 45 = .ok (.bipush 8, 2) := by decide +kernel
theorem dL_isBehind_47 : decode cL_isBehind 47 = .ok (.invokevirtual 38, 3) := by decide +kernel
theorem dL_isBehind_50 : decode cL_isBehind 50 = .ok (.bipush 7, 2) := by decide +kernel
theorem dL_isBehind_52 : decode cL_isBehind 52 = .ok (.if_icmp .eq 14, 3) := by decide +kernel
theorem dL_isBehind_55 : decode cL_isBehind 55 = .ok (.aload_n 0, 1) := by decide +kernel
theorem dL_isBehind_56 : decode cL_isBehind 56 = .ok (.iload 4, 2) := by decide +kernel
theorem dL_isBehind_58 : decode cL_isBehind 58 = .ok (.iconst 0, 1) := by decide +kernel
theorem dL_isBehind_59 : decode cL_isBehind 59 = .ok (.invokevirtual 38, 3) := by decide +kernel
theorem dL_isBehind_62 : decode cL_isBehind 62 = .ok (.iload_n 2, 1) := by decide +kernel
theorem dL_isBehind_63 : decode cL_isBehind 63 = .ok (.if_icmp .eq 7, 3) := by decide +kernel
theorem dL_isBehind_66 : decode cL_isBehind 66 = .ok (.iconst 1, 1) := by decide +kernel
theorem dL_isBehind_67 : decode cL_isBehind 67 = .ok (.goto 4, 3) := by decide +kernel
theorem dL_isBehind_70 : decode cL_isBehind 70 = .ok (.iconst 0, 1) := by decide +kernel
theorem dL_isBehind_71 : decode cL_isBehind 71 = .ok (.iand, 1) := by decide +kernel
theorem dL_isBehind_72 : decode cL_isBehind 72 = .ok (.istore_n 3, 1) := by decide +kernel
theorem dL_isBehind_73 : decode cL_isBehind 73 = .ok (.iinc 4 1, 3) := by decide +kernel
theorem dL_isBehind_76 : decode cL_isBehind 76 = .ok (.goto (-45), 3) := by decide +kernel
theorem dL_isBehind_79 : decode cL_isBehind 79 = .ok (.aload_n 0, 1) := by decide +kernel
theorem dL_isBehind_80 : decode cL_isBehind 80 = .ok (.iload_n 2, 1) := by decide +kernel
theorem dL_isBehind_81 : decode cL_isBehind 81 = .ok (.iconst 0, 1) := by decide +kernel
theorem dL_isBehind_82 : decode cL_isBehind 82 = .ok (.bipush 6, 2) := by decide +kernel
theorem dL_isBehind_84 : decode cL_isBehind 84 = .ok (.invokevirtual 68, 3) := by decide +kernel
theorem dL_isBehind_87 : decode cL_isBehind 87 = .ok (.aload_n 0, 1) := by decide +kernel
theorem dL_isBehind_88 : decode cL_isBehind 88 = .ok (.iload_n 1, 1) := by decide +kernel
theorem dL_isBehind_89 : decode cL_isBehind 89 = .ok (.iconst 0, 1) := by decide +kernel
theorem dL_isBehind_90 : decode cL_isBehind 90 = .ok (.bipush 6, 2) := by decide +kernel
theorem dL_isBehind_92 : decode cL_isBehind 92 = .ok (.invokevirtual 68, 3) := by decide +kernel
theorem dL_isBehind_95 : decode cL_isBehind 95 = .ok (.isub, 1) := by decide +kernel
theorem dL_isBehind_96 : decode cL_isBehind 96 = .ok (.istore 4, 2) := by decide +kernel
theorem dL_isBehind_98 : decode cL_isBehind 98 = .ok (.iload_n 3, 1) := by decide +kernel
theorem dL_isBehind_99 : decode cL_isBehind 99 = .ok (.ifCond .eq 54, 3) := by decide +kernel
theorem dL_isBehind_102 : decode cL_isBehind 102 = .ok (.iload 4, 2) := by decide +kernel
theorem dL_isBehind_104 : decode cL_isBehind 104 = .ok (.ifCond .gt 47, 3) := by decide +kernel
theorem dL_isBehind_107 : decode cL_isBehind 107 = .ok (.iload 4, 2) := by decide +kernel
theorem dL_isBehind_109 : decode cL_isBehind 109 = .ok (.ifCond .ne 44, 3) := by decide +kernel
theorem dL_isBehind_112 : decode cL_isBehind 112 = .ok (.aload_n 0, 1) := by decide +kernel
theorem dL_isBehind_113 : decode cL_isBehind 113 = .ok (.iload_n 2, 1) := by decide +kernel
theorem dL_isBehind_114 : decode cL_isBehind 114 = .ok (.bipush 8, 2) := by decide +kernel
theorem dL_isBehind_116 : decode cL_isBehind 116 = .ok (.invokevirtual 42, 3) := by decide +kernel
theorem dL_isBehind_119 : decode cL_isBehind 119 = .ok (.aload_n 0, 1) := by decide +kernel
theorem dL_isBehind_120 : decode cL_isBehind 120 = .ok (.iload_n 1, 1) := by decide +kernel
theorem dL_isBehind_121 : decode cL_isBehind 121 = .ok (.bipush 8, 2) := by decide +kernel
theorem dL_isBehind_123 : decode cL_isBehind 123 = .ok (.invokevirtual 42, 3) := by decide +kernel
theorem dL_isBehind_126 : decode cL_isBehind 126 = .ok (.if_icmp .lt 25, 3) := by decide +kernel
theorem dL_isBehind_129 : decode cL_isBehind 129 = .ok (.aload_n 0, 1) := by decide +kernel
theorem dL_isBehind_130 : decode cL_isBehind 130 = .ok (.iload_n 2, 1) := by decide +kernel
theorem dL_isBehind_131 : decode cL_isBehind 131 = .ok (.bipush 8, 2) := by decide +kernel
theorem dL_isBehind_133 : decode cL_isBehind 133 = .ok (.invokevirtual 42, 3) := by decide +kernel
theorem dL_isBehind_136 : decode cL_isBehind 136 = .ok (.aload_n 0, 1) := by decide +kernel
theorem dL_isBehind_137 : decode cL_isBehind 137 = .ok (.iload_n 1, 1) := by decide +kernel
theorem dL_isBehind_138 : decode cL_isBehind 138 = .ok (.bipush 8, 2) := by decide +kernel
theorem dL_isBehind_140 : decode cL_isBehind 140 = .ok (.invokevirtual 42, 3) := by decide +kernel
theorem dL_isBehind_143 : decode cL_isBehind 143 = .ok (.if_icmp .ne 10, 3) := by decide +kernel
theorem dL_isBehind_146 : decode cL_isBehind 146 = .ok (.iload_n 2, 1) := by decide +kernel
theorem dL_isBehind_147 : decode cL_isBehind 147 = .ok (.iload_n 1, 1) := by decide +kernel
theorem dL_isBehind_148 : decode cL_isBehind 148 = .ok (.if_icmp .ge 5, 3) := by decide +kernel
theorem dL_isBehind_151 : decode cL_isBehind 151 = .ok (.iconst 1, 1) := by decide +kernel
theorem dL_isBehind_152 : decode cL_isBehind 152 = .ok (.ireturn, 1) := by decide +kernel
theorem dL_isBehind_153 : decode cL_isBehind 153 = .ok (.iinc 2 1, 3) := by decide +kernel
theorem dL_isBehind_156 : decode cL_isBehind 156 = .ok (.goto (-154), 3) := by decide +kernel
theorem dL_isBehind_159 : decode cL_isBehind 159 = .ok (.iconst 0, 1) := by decide +kernel
theorem dL_isBehind_160 : decode cL_isBehind 160 = .ok (.ireturn, 1) := by decide +kernel
